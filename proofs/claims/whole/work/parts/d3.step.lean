/-! THE LAW'S CASES: BOTH SIDES -/
theorem nmm1 : ∀ e, ¬ (fun _ : Nat => (1 : Int32)) e = 0 := fun _ => show ¬ (1 : Int32) = 0 by decide
theorem KEY {F : Int32 → Int64} {h H : mH} {r : Int32 ⊕ Nat} {A : Option mO} {k : Int32} {σ : MGT} (w : A = some ((.inl (some (.int k)) : mR), wG F r H)) (c3 : FC h H) (m : mG h σ) : mG (wG F r H) σ ∧ mX (wG F r H) = mX h := ⟨FW_m (FW_G c3) m, (FW_G c3).2.2.2.2.1⟩
theorem nmmI : ∀ e, ¬ mmI e = 0 := fun e => by unfold mmI; split; decide; split <;> decide
theorem nmmC : ∀ e, ¬ mmC e = 0 := fun e => by unfold mmC; split <;> decide
theorem nmmC' : ∀ e, ¬ mmC' e = 0 := fun e => by unfold mmC'; split <;> decide
def LO (i : Nat) (l5 l6 l7 l8 : Option Value) : mLo := [some (.ref 0), some (.ref 200), some (.ref 316), some (.ref 360), some (.int (Int32.ofNat i)), l5, l6, l7, l8]
/-- a case of the law done -/
def DONE (D i pc : Nat) (h : mH) (l5 l6 l7 l8 : Option Value) : Prop := ∃ H a b c d, mExec (mCall (D + 60)) 263 pc (LO i l5 l6 l7 l8) [] h = mExec (mCall (D + 60)) 263 1691 (LO i a b c d) [] H ∧ REL H ∧ CNT h H
theorem e_fR {nv nt nr : Nat} {v tour room sec x lo hi : Int32} {e : Nat} (h : fRq nv nt nr v tour room sec x lo hi = some e) : e = 2 ∨ e = 1 := by
  unfold fRq at h
  repeat' split at h
  all_goals (cases h <;> first | exact Or.inl rfl | exact Or.inr rfl)
theorem e_best {q : Option Nat} {n x : Nat} {v : Int32} (h : (match q with | some e => .inr e | none => if 6 < n then .inr 0 else .inl v : Int32 ⊕ Nat) = .inr x) (hq : ∀ e, q = some e → e = 2 ∨ e = 1) : x = 2 ∨ x = 1 ∨ x = 0 := by
  cases q with
  | none =>
    dsimp only at h
    by_cases c : 6 < n
    · rw [if_pos c] at h
      have := Sum.inr.inj h
      omega
    · rw [if_neg c] at h
      cases h
  | some e =>
    have h1 := Sum.inr.inj h
    have := hq e rfl
    omega
theorem e_fRc {nv nr : Nat} {v room sec x : Int32} {e : Nat} (h : fRc nv nr v room sec x = some e) : e = 2 ∨ e = 1 := by
  unfold fRc at h
  repeat' split at h
  all_goals (cases h <;> first | exact Or.inl rfl | exact Or.inr rfl)
theorem S_0 {D i : Nat} {h : mH} {X : Nat × (Nat → Int32)} {l5 l6 l7 l8 : Option Value} (hX : mX h = X) (hl : X.1 ≤ 100000) (hi : i + 5 < X.1) (R : REL h) : DONE D i 148 h l5 l6 l7 l8 := by
  obtain ⟨o1, o2, t, E, rn, pn, tn, B, ep, vs, hv, K, S, ea, P, g, m, ro, vo⟩ := R
  have o : OUT h := ⟨o1, o2⟩
  have mp := mG_p m
  obtain ⟨H, c1, c2, c3⟩ := f_feed (d := D + 56) (a := X.2 (i + 1)) (b := X.2 (i + 2)) (c := X.2 (i + 3)) (e := X.2 (i + 4)) (f := X.2 (i + 5)) g
  have w := w_19 (d := D + 59) (gR_kS g) (OUT_F o c3) (fun x hx => by (revert hx; repeat' split) <;> (intro hx; first | (cases hx; done) | (cases hx; first | rfl | exact Or.inl rfl | exact Or.inr rfl | exact Or.inr (Or.inl rfl) | exact Or.inr (Or.inr rfl)))) c1
  rw [wH_G] at w
  obtain ⟨m1, mx1⟩ := KEY w c3 m
  obtain ⟨H2, n1, n2, n3, n4⟩ := m_feed (d := D + 58) (a := X.2 (i + 1)) (b := X.2 (i + 2)) (c := X.2 (i + 3)) (e := X.2 (i + 4)) (f := X.2 (i + 5)) m1
  obtain ⟨b1, b2, b3, b4, b5⟩ := BOTH nmm1 o c3 c2 n2 n4 (mG_kM n3)
  exact ⟨H2, _, _, _, _, L_0 hX (mx1.trans hX) hl hi w n1 (mi_316 (mG_kM m1)) (mi_316 (mG_kM n3)) (b4 (D + 59)) b2 b5, ⟨b2.1, b2.2, t, E, rn, pn, tn, _, ep, vs, hv, K, S, ea, P, b1, n3, ro, vo⟩, b3⟩
theorem S_1 {D i : Nat} {h : mH} {X : Nat × (Nat → Int32)} {l5 l6 l7 l8 : Option Value} (hX : mX h = X) (hl : X.1 ≤ 100000) (hi : i + 5 < X.1) (R : REL h) : DONE D i 252 h l5 l6 l7 l8 := by
  obtain ⟨o1, o2, t, E, rn, pn, tn, B, ep, vs, hv, K, S, ea, P, g, m, ro, vo⟩ := R
  have o : OUT h := ⟨o1, o2⟩
  have mp := mG_p m
  obtain ⟨H, c1, c2, c3⟩ := f_trim (d := D + 56) (n := X.2 (i + 1)) g
  have w := w_26 (d := D + 59) (gR_kS g) (OUT_F o c3) (fun x hx => by (revert hx; repeat' split) <;> (intro hx; first | (cases hx; done) | (cases hx; first | rfl | exact Or.inl rfl | exact Or.inr rfl | exact Or.inr (Or.inl rfl) | exact Or.inr (Or.inr rfl)))) c1
  rw [wH_G] at w
  obtain ⟨m1, mx1⟩ := KEY w c3 m
  obtain ⟨H2, n1, n2, n3, n4⟩ := m_trim (d := D + 58) (n := X.2 (i + 1)) m1
  obtain ⟨b1, b2, b3, b4, b5⟩ := BOTH nmm1 o c3 c2 n2 n4 (mG_kM n3)
  exact ⟨H2, _, _, _, _, L_1 hX (mx1.trans hX) hl hi w n1 (mi_316 (mG_kM m1)) (mi_316 (mG_kM n3)) (b4 (D + 59)) b2 b5, ⟨b2.1, b2.2, t, E, rn, pn, tn, _, ep, vs, hv, K, S, ea, P, b1, n3, ro, vo⟩, b3⟩
theorem S_4 {D i : Nat} {h : mH} {X : Nat × (Nat → Int32)} {l5 l6 l7 l8 : Option Value} (hX : mX h = X) (hl : X.1 ≤ 100000) (hi : i + 5 < X.1) (R : REL h) : DONE D i 334 h l5 l6 l7 l8 := by
  obtain ⟨o1, o2, t, E, rn, pn, tn, B, ep, vs, hv, K, S, ea, P, g, m, ro, vo⟩ := R
  have o : OUT h := ⟨o1, o2⟩
  have mp := mG_p m
  have c1 := f_count (d := D + 55) (w := X.2 (i + 1)) g
  have c2 := xU_g (r := fCnt E rn B vs (vLog hv S) P (X.2 (i + 1))) g
  have c3 := xU_F (h := h) (r := fCnt E rn B vs (vLog hv S) P (X.2 (i + 1)))
  have w := w_133 (d := D + 59) (gR_kS g) (OUT_F o c3) (fun x hx => by (revert hx; unfold fCnt; repeat' split) <;> (intro hx; first | (cases hx; done) | (cases hx; first | rfl | exact Or.inl rfl | exact Or.inr rfl | exact Or.inr (Or.inl rfl) | exact Or.inr (Or.inr rfl)))) c1
  rw [wH_G] at w
  obtain ⟨m1, mx1⟩ := KEY w c3 m
  obtain ⟨H2, n1, n2, n3, n4⟩ := m_count (d := D + 58) (w := X.2 (i + 1)) m1
  obtain ⟨b1, b2, b3, b4, b5⟩ := BOTH nmm1 o c3 c2 n2 n4 (mG_kM n3)
  exact ⟨H2, _, _, _, _, L_4 hX (mx1.trans hX) hl hi w n1 (mi_316 (mG_kM m1)) (mi_316 (mG_kM n3)) (b4 (D + 59)) b2 b5, ⟨b2.1, b2.2, t, E, rn, pn, tn, B, ep, vs, hv, K, S, ea, P, b1, n3, ro, vo⟩, b3⟩
theorem S_5 {D i : Nat} {h : mH} {X : Nat × (Nat → Int32)} {l5 l6 l7 l8 : Option Value} (hX : mX h = X) (hl : X.1 ≤ 100000) (hi : i + 5 < X.1) (R : REL h) : DONE D i 390 h l5 l6 l7 l8 := by
  obtain ⟨o1, o2, t, E, rn, pn, tn, B, ep, vs, hv, K, S, ea, P, g, m, ro, vo⟩ := R
  have o : OUT h := ⟨o1, o2⟩
  have mp := mG_p m
  have c1 := f_partM (d := D + 55) (p := X.2 (i + 1)) (w := X.2 (i + 2)) g
  have c2 := xU_g (r := fPart E.2.2.1 (X.2 (i + 1)) (X.2 (i + 2))) g
  have c3 := xU_F (h := h) (r := fPart E.2.2.1 (X.2 (i + 1)) (X.2 (i + 2)))
  have w := w_138 (d := D + 59) (gR_kS g) (OUT_F o c3) (fun x hx => by (revert hx; unfold fPart; repeat' split) <;> (intro hx; first | (cases hx; done) | (cases hx; first | rfl | exact Or.inl rfl | exact Or.inr rfl | exact Or.inr (Or.inl rfl) | exact Or.inr (Or.inr rfl)))) c1
  rw [wH_G] at w
  obtain ⟨m1, mx1⟩ := KEY w c3 m
  obtain ⟨H2, n1, n2, n3, n4⟩ := m_part (d := D + 57) (p := X.2 (i + 1)) (w := X.2 (i + 2)) m1
  obtain ⟨b1, b2, b3, b4, b5⟩ := BOTH nmm1 o c3 c2 n2 n4 (mG_kM n3)
  exact ⟨H2, _, _, _, _, L_5 hX (mx1.trans hX) hl hi w n1 (mi_316 (mG_kM m1)) (mi_316 (mG_kM n3)) (b4 (D + 59)) b2 b5, ⟨b2.1, b2.2, t, E, rn, pn, tn, B, ep, vs, hv, K, S, ea, P, b1, n3, ro, vo⟩, b3⟩
theorem S_6 {D i : Nat} {h : mH} {X : Nat × (Nat → Int32)} {l5 l6 l7 l8 : Option Value} (hX : mX h = X) (hl : X.1 ≤ 100000) (hi : i + 5 < X.1) (R : REL h) : DONE D i 458 h l5 l6 l7 l8 := by
  obtain ⟨o1, o2, t, E, rn, pn, tn, B, ep, vs, hv, K, S, ea, P, g, m, ro, vo⟩ := R
  have o : OUT h := ⟨o1, o2⟩
  have mp := mG_p m
  obtain ⟨H, c1, c2, c3⟩ := f_close2 (d := D + 55) (r := X.2 (i + 1)) (a := X.2 (i + 2)) (b := X.2 (i + 3)) g mp.2.2.1 mp.2.2.2.1
  have w := w_145 (d := D + 59) (gR_kS g) (OUT_F o c3) (fun x hx => by (revert hx; unfold fClo; repeat' split) <;> (intro hx; first | (cases hx; done) | (cases hx; first | rfl | exact Or.inl rfl | exact Or.inr rfl | exact Or.inr (Or.inl rfl) | exact Or.inr (Or.inr rfl)))) c1
  rw [wH_G] at w
  obtain ⟨m1, mx1⟩ := KEY w c3 m
  obtain ⟨H2, n1, n2, n3, n4⟩ := m_close (d := D + 57) (r := X.2 (i + 1)) (a := X.2 (i + 2)) (b := X.2 (i + 3)) m1
  obtain ⟨b1, b2, b3, b4, b5⟩ := BOTH nmmI o c3 c2 n2 n4 (mG_kM n3)
  exact ⟨H2, _, _, _, _, L_6 hX (mx1.trans hX) hl hi w n1 (mi_316 (mG_kM m1)) (mi_316 (mG_kM n3)) (b4 (D + 59)) b2 b5, ⟨b2.1, b2.2, t, _, rn, pn, tn, B, ep, vs, hv, K, S, ea, P, b1, n3, ro, vo⟩, b3⟩
theorem S_7 {D i : Nat} {h : mH} {X : Nat × (Nat → Int32)} {l5 l6 l7 l8 : Option Value} (hX : mX h = X) (hl : X.1 ≤ 100000) (hi : i + 5 < X.1) (R : REL h) : DONE D i 538 h l5 l6 l7 l8 := by
  obtain ⟨o1, o2, t, E, rn, pn, tn, B, ep, vs, hv, K, S, ea, P, g, m, ro, vo⟩ := R
  have o : OUT h := ⟨o1, o2⟩
  have mp := mG_p m
  obtain ⟨H, c1, c2, c3⟩ := f_reopen (d := D + 55) (r := X.2 (i + 1)) g
  have w := w_150 (d := D + 59) (gR_kS g) (OUT_F o c3) (fun x hx => by (revert hx; unfold fReo; repeat' split) <;> (intro hx; first | (cases hx; done) | (cases hx; first | rfl | exact Or.inl rfl | exact Or.inr rfl | exact Or.inr (Or.inl rfl) | exact Or.inr (Or.inr rfl)))) c1
  rw [wH_G] at w
  obtain ⟨m1, mx1⟩ := KEY w c3 m
  obtain ⟨H2, n1, n2, n3, n4⟩ := m_reopen (d := D + 57) (r := X.2 (i + 1)) m1
  obtain ⟨b1, b2, b3, b4, b5⟩ := BOTH nmmI o c3 c2 n2 n4 (mG_kM n3)
  exact ⟨H2, _, _, _, _, L_7 hX (mx1.trans hX) hl hi w n1 (mi_316 (mG_kM m1)) (mi_316 (mG_kM n3)) (b4 (D + 59)) b2 b5, ⟨b2.1, b2.2, t, _, rn, pn, tn, B, ep, vs, hv, K, S, ea, P, b1, n3, ro, vo⟩, b3⟩
theorem S_8 {D i : Nat} {h : mH} {X : Nat × (Nat → Int32)} {l5 l6 l7 l8 : Option Value} (hX : mX h = X) (hl : X.1 ≤ 100000) (hi : i + 5 < X.1) (R : REL h) : DONE D i 594 h l5 l6 l7 l8 := by
  obtain ⟨o1, o2, t, E, rn, pn, tn, B, ep, vs, hv, K, S, ea, P, g, m, ro, vo⟩ := R
  have o : OUT h := ⟨o1, o2⟩
  have mp := mG_p m
  have c1 := f_isOpen (d := D + 55) (r := X.2 (i + 1)) (s := X.2 (i + 2)) g
  have c2 := xU_g (r := fOpn E.1 rn (X.2 (i + 1)) (X.2 (i + 2))) g
  have c3 := xU_F (h := h) (r := fOpn E.1 rn (X.2 (i + 1)) (X.2 (i + 2)))
  have w := w_155 (d := D + 59) (gR_kS g) (OUT_F o c3) (fun x hx => by (revert hx; unfold fOpn; repeat' split) <;> (intro hx; first | (cases hx; done) | (cases hx; first | rfl | exact Or.inl rfl | exact Or.inr rfl | exact Or.inr (Or.inl rfl) | exact Or.inr (Or.inr rfl)))) c1
  rw [wB_G] at w
  obtain ⟨m1, mx1⟩ := KEY w c3 m
  obtain ⟨H2, n1, n2, n3, n4⟩ := m_isOpen (d := D + 57) (r := X.2 (i + 1)) (s := X.2 (i + 2)) m1
  obtain ⟨b1, b2, b3, b4, b5⟩ := BOTH nmmI o c3 c2 n2 n4 (mG_kM n3)
  exact ⟨H2, _, _, _, _, L_8 hX (mx1.trans hX) hl hi w n1 (mi_316 (mG_kM m1)) (mi_316 (mG_kM n3)) (b4 (D + 59)) b2 b5, ⟨b2.1, b2.2, t, E, rn, pn, tn, B, ep, vs, hv, K, S, ea, P, b1, n3, ro, vo⟩, b3⟩
theorem S_9 {D i : Nat} {h : mH} {X : Nat × (Nat → Int32)} {l5 l6 l7 l8 : Option Value} (hX : mX h = X) (hl : X.1 ≤ 100000) (hi : i + 5 < X.1) (R : REL h) : DONE D i 669 h l5 l6 l7 l8 := by
  obtain ⟨o1, o2, t, E, rn, pn, tn, B, ep, vs, hv, K, S, ea, P, g, m, ro, vo⟩ := R
  have o : OUT h := ⟨o1, o2⟩
  have mp := mG_p m
  obtain ⟨H, c1, c2, c3⟩ := f_way (d := D + 55) (a := X.2 (i + 1)) (b := X.2 (i + 2)) (s := X.2 (i + 3)) g
  have w := w_161 (d := D + 59) (gR_kS g) (OUT_F o c3) (fun x hx => by (revert hx; unfold fWay; repeat' split) <;> (intro hx; first | (cases hx; done) | (cases hx; first | rfl | exact Or.inl rfl | exact Or.inr rfl | exact Or.inr (Or.inl rfl) | exact Or.inr (Or.inr rfl)))) c1
  rw [wH_G] at w
  obtain ⟨m1, mx1⟩ := KEY w c3 m
  obtain ⟨H2, n1, n2, n3, n4⟩ := m_way (d := D + 57) (a := X.2 (i + 1)) (b := X.2 (i + 2)) (s := X.2 (i + 3)) m1
  obtain ⟨b1, b2, b3, b4, b5⟩ := BOTH nmmI o c3 c2 n2 n4 (mG_kM n3)
  exact ⟨H2, _, _, _, _, L_9 hX (mx1.trans hX) hl hi w n1 (mi_316 (mG_kM m1)) (mi_316 (mG_kM n3)) (b4 (D + 59)) b2 b5, ⟨b2.1, b2.2, t, E, rn, pn, tn, B, ep, vs, hv, K, S, ea, P, b1, n3, ro, vo⟩, b3⟩
theorem VOK_add {a b c : Int32} {vs : List (Int32 × Int32 × Int32)} (v : VOK vs) (ha : inR a 1 9 = true) (hb : inR b 10 500 = true) : VOK (vs ++ [(a, b, c)]) := by
  obtain ⟨v1, v2, v3⟩ := v
  unfold inR at ha hb
  rw [Bool.and_eq_true, decide_eq_true_iff, decide_eq_true_iff] at ha hb
  refine ⟨fun x hx => ?_, fun x hx => ?_, fun x hx => ?_⟩ <;> (rcases List.mem_append.mp hx with q | q)
  · exact v1 x q
  · rw [List.mem_singleton] at q
    subst q
    show ¬ a ≤ 0
    have := i_le.mp ha.1
    rw [show (1 : Int32).toInt = 1 from rfl] at this
    rw [i_le, i_z]; omega
  · exact v2 x q
  · rw [List.mem_singleton] at q
    subst q
    show ¬ b < 0
    have := i_le.mp hb.1
    rw [show (10 : Int32).toInt = 10 from rfl] at this
    rw [i_lt, i_z]; omega
  · exact v3 x q
  · rw [List.mem_singleton] at q
    subst q
    have h1 := i_le.mp ha.1
    have h2 := i_le.mp ha.2
    rw [show (1 : Int32).toInt = 1 from rfl] at h1
    rw [show (9 : Int32).toInt = 9 from rfl] at h2
    refine ⟨a.toInt.toNat, by omega, by omega, ?_⟩
    show a = _
    apply Int32.toInt_inj.1
    rw [i_of_i (by omega)]
    omega
theorem S_10 {D i : Nat} {h : mH} {X : Nat × (Nat → Int32)} {l5 l6 l7 l8 : Option Value} (hX : mX h = X) (hl : X.1 ≤ 100000) (hi : i + 5 < X.1) (R : REL h) : DONE D i 749 h l5 l6 l7 l8 := by
  obtain ⟨o1, o2, t, E, rn, pn, tn, B, ep, vs, hv, K, S, ea, P, g, m, ro, vo⟩ := R
  have o : OUT h := ⟨o1, o2⟩
  have mp := mG_p m
  obtain ⟨H, c1, c2, c3⟩ := f_come (d := D + 56) (a := X.2 (i + 1)) (b := X.2 (i + 2)) (c := X.2 (i + 3)) g
  have vo2 : VOK (if ¬ (inR (X.2 (i + 1)) 1 9 = true ∧ inR (X.2 (i + 2)) 10 500 = true ∧ inR (X.2 (i + 3)) 0 2 = true) then vs else if 8 ≤ vs.length then vs else vs ++ [(X.2 (i + 1), X.2 (i + 2), X.2 (i + 3))]) := by
    by_cases c : ¬ (inR (X.2 (i + 1)) 1 9 = true ∧ inR (X.2 (i + 2)) 10 500 = true ∧ inR (X.2 (i + 3)) 0 2 = true)
    · rw [if_pos c]; exact vo
    · rw [if_neg c]
      by_cases c8 : 8 ≤ vs.length
      · rw [if_pos c8]; exact vo
      · rw [if_neg c8]
        have c := Classical.not_not.mp c
        exact VOK_add vo c.1 c.2.1
  have w := w_165 (d := D + 59) (gR_kS g) (OUT_F o c3) (fun x hx => by (revert hx; repeat' split) <;> (intro hx; first | (cases hx; done) | (cases hx; first | rfl | exact Or.inl rfl | exact Or.inr rfl | exact Or.inr (Or.inl rfl) | exact Or.inr (Or.inr rfl)))) c1
  rw [wH_G] at w
  obtain ⟨m1, mx1⟩ := KEY w c3 m
  obtain ⟨H2, n1, n2, n3, n4⟩ := m_come (d := D + 57) (a := X.2 (i + 1)) (b := X.2 (i + 2)) (c := X.2 (i + 3)) m1
  obtain ⟨b1, b2, b3, b4, b5⟩ := BOTH nmmC o c3 c2 n2 n4 (mG_kM n3)
  exact ⟨H2, _, _, _, _, L_10 hX (mx1.trans hX) hl hi w n1 (mi_316 (mG_kM m1)) (mi_316 (mG_kM n3)) (b4 (D + 59)) b2 b5, ⟨b2.1, b2.2, t, E, rn, pn, tn, B, ep, _, hv, K, S, ea, P, b1, n3, ro, vo2⟩, b3⟩
theorem S_11 {D i : Nat} {h : mH} {X : Nat × (Nat → Int32)} {l5 l6 l7 l8 : Option Value} (hX : mX h = X) (hl : X.1 ≤ 100000) (hi : i + 5 < X.1) (R : REL h) : DONE D i 829 h l5 l6 l7 l8 := by
  obtain ⟨o1, o2, t, E, rn, pn, tn, B, ep, vs, hv, K, S, ea, P, g, m, ro, vo⟩ := R
  have o : OUT h := ⟨o1, o2⟩
  have mp := mG_p m
  have c1 := f_visitor (d := D + 55) (v := X.2 (i + 1)) (w := X.2 (i + 2)) g
  have c2 := xU_g (r := fVis vs (X.2 (i + 1)) (X.2 (i + 2))) g
  have c3 := xU_F (h := h) (r := fVis vs (X.2 (i + 1)) (X.2 (i + 2)))
  have w := w_169 (d := D + 59) (gR_kS g) (OUT_F o c3) (fun x hx => by (revert hx; unfold fVis; repeat' split) <;> (intro hx; first | (cases hx; done) | (cases hx; first | rfl | exact Or.inl rfl | exact Or.inr rfl | exact Or.inr (Or.inl rfl) | exact Or.inr (Or.inr rfl)))) c1
  rw [wH_G] at w
  obtain ⟨m1, mx1⟩ := KEY w c3 m
  obtain ⟨H2, n1, n2, n3, n4⟩ := m_visitor (d := D + 57) (p := X.2 (i + 1)) (w := X.2 (i + 2)) m1
  obtain ⟨b1, b2, b3, b4, b5⟩ := BOTH nmm1 o c3 c2 n2 n4 (mG_kM n3)
  exact ⟨H2, _, _, _, _, L_11 hX (mx1.trans hX) hl hi w n1 (mi_316 (mG_kM m1)) (mi_316 (mG_kM n3)) (b4 (D + 59)) b2 b5, ⟨b2.1, b2.2, t, E, rn, pn, tn, B, ep, vs, hv, K, S, ea, P, b1, n3, ro, vo⟩, b3⟩
theorem S_12 {D i : Nat} {h : mH} {X : Nat × (Nat → Int32)} {l5 l6 l7 l8 : Option Value} (hX : mX h = X) (hl : X.1 ≤ 100000) (hi : i + 5 < X.1) (R : REL h) : DONE D i 897 h l5 l6 l7 l8 := by
  obtain ⟨o1, o2, t, E, rn, pn, tn, B, ep, vs, hv, K, S, ea, P, g, m, ro, vo⟩ := R
  have o : OUT h := ⟨o1, o2⟩
  have mp := mG_p m
  obtain ⟨H, c1, c2, c3⟩ := f_visit (d := D + 52) (v := X.2 (i + 1)) (tour := X.2 (i + 2)) (room := X.2 (i + 3)) (sec := X.2 (i + 4)) (time := X.2 (i + 5)) g vo.1 ro.1
  have mo := fun (H1 : mH) (m1 : mG H1 (E, rn, pn, tn, B, ep, vs, hv, S, ea, P)) => m_visit (D := D + 30) (v := X.2 (i + 1)) (tour := X.2 (i + 2)) (room := X.2 (i + 3)) (sec := X.2 (i + 4)) (time := X.2 (i + 5)) m1
  rcases hq : fRq vs.length E.2.2.2.2.2.length rn.length (X.2 (i + 1)) (X.2 (i + 2)) (X.2 (i + 3)) (X.2 (i + 4)) (X.2 (i + 5)) 1 20000 with _ | x
  · rw [hq] at c1 c2 mo
    dsimp only at c1 c2 mo
    have w := w_197 (d := D + 59) (gR_kS g) (OUT_F o c3) (fun x hx => by cases hx) c1
    rw [wH_G] at w
    obtain ⟨m1, mx1⟩ := KEY w c3 m
    obtain ⟨H2, n1, n2, n3, n4⟩ := mo _ m1
    obtain ⟨b1, b2, b3, b4, b5⟩ := BOTH nmmI o c3 c2 n2 n4 (mG_kM n3)
    exact ⟨H2, _, _, _, _, L_12 hX (mx1.trans hX) hl hi w n1 (mi_316 (mG_kM m1)) (mi_316 (mG_kM n3)) (b4 (D + 59)) b2 b5, ⟨b2.1, b2.2, t, E, rn, pn, tn, B, ep, vs, true, _, _, _, P, b1, n3, ro, vo⟩, b3⟩
  · rw [hq] at c1 c2 mo
    dsimp only at c1 c2 mo
    have w := w_197 (d := D + 59) (gR_kS g) (OUT_F o c3) (fun y hy => by cases hy; exact e_fR hq) c1
    rw [wH_G] at w
    obtain ⟨m1, mx1⟩ := KEY w c3 m
    obtain ⟨H2, n1, n2, n3, n4⟩ := mo _ m1
    obtain ⟨b1, b2, b3, b4, b5⟩ := BOTH nmmI o c3 c2 n2 n4 (mG_kM n3)
    exact ⟨H2, _, _, _, _, L_12 hX (mx1.trans hX) hl hi w n1 (mi_316 (mG_kM m1)) (mi_316 (mG_kM n3)) (b4 (D + 59)) b2 b5, ⟨b2.1, b2.2, t, E, rn, pn, tn, B, ep, vs, hv, K, S, ea, P, b1, n3, ro, vo⟩, b3⟩
theorem S_13 {D i : Nat} {h : mH} {X : Nat × (Nat → Int32)} {l5 l6 l7 l8 : Option Value} (hX : mX h = X) (hl : X.1 ≤ 100000) (hi : i + 5 < X.1) (R : REL h) : DONE D i 1001 h l5 l6 l7 l8 := by
  obtain ⟨o1, o2, t, E, rn, pn, tn, B, ep, vs, hv, K, S, ea, P, g, m, ro, vo⟩ := R
  have o : OUT h := ⟨o1, o2⟩
  have mp := mG_p m
  have c1 := f_latest (d := D + 55) (w := X.2 (i + 1)) g
  have c2 := xU_g (r := fLat hv S ea (X.2 (i + 1))) g
  have c3 := xU_F (h := h) (r := fLat hv S ea (X.2 (i + 1)))
  have w := w_219 (d := D + 59) (gR_kS g) (OUT_F o c3) (fun x hx => by (revert hx; unfold fLat; repeat' split) <;> (intro hx; first | (cases hx; done) | (cases hx; first | rfl | exact Or.inl rfl | exact Or.inr rfl | exact Or.inr (Or.inl rfl) | exact Or.inr (Or.inr rfl)))) c1
  rw [wH_G] at w
  obtain ⟨m1, mx1⟩ := KEY w c3 m
  obtain ⟨H2, n1, n2, n3, n4⟩ := m_latest (d := D + 57) (w := X.2 (i + 1)) m1
  obtain ⟨b1, b2, b3, b4, b5⟩ := BOTH nmmC' o c3 c2 n2 n4 (mG_kM n3)
  exact ⟨H2, _, _, _, _, L_13 hX (mx1.trans hX) hl hi w n1 (mi_316 (mG_kM m1)) (mi_316 (mG_kM n3)) (b4 (D + 59)) b2 b5, ⟨b2.1, b2.2, t, E, rn, pn, tn, B, ep, vs, hv, K, S, ea, P, b1, n3, ro, vo⟩, b3⟩
theorem S_14 {D i : Nat} {h : mH} {X : Nat × (Nat → Int32)} {l5 l6 l7 l8 : Option Value} (hX : mX h = X) (hl : X.1 ≤ 100000) (hi : i + 5 < X.1) (R : REL h) : DONE D i 1057 h l5 l6 l7 l8 := by
  obtain ⟨o1, o2, t, E, rn, pn, tn, B, ep, vs, hv, K, S, ea, P, g, m, ro, vo⟩ := R
  have o : OUT h := ⟨o1, o2⟩
  have mp := mG_p m
  have c1 := f_event (d := D + 55) (i := X.2 (i + 1)) (w := X.2 (i + 2)) g
  have c2 := xU_g (r := fEvt (vLog hv S) (X.2 (i + 1)) (X.2 (i + 2))) g
  have c3 := xU_F (h := h) (r := fEvt (vLog hv S) (X.2 (i + 1)) (X.2 (i + 2)))
  have w := w_223 (d := D + 59) (gR_kS g) (OUT_F o c3) (fun x hx => by (revert hx; unfold fEvt; repeat' split) <;> (intro hx; first | (cases hx; done) | (cases hx; first | rfl | exact Or.inl rfl | exact Or.inr rfl | exact Or.inr (Or.inl rfl) | exact Or.inr (Or.inr rfl)))) c1
  rw [wH_G] at w
  obtain ⟨m1, mx1⟩ := KEY w c3 m
  obtain ⟨H2, n1, n2, n3, n4⟩ := m_event (d := D + 58) (p := X.2 (i + 1)) (w := X.2 (i + 2)) m1
  obtain ⟨b1, b2, b3, b4, b5⟩ := BOTH nmm1 o c3 c2 n2 n4 (mG_kM n3)
  exact ⟨H2, _, _, _, _, L_14 hX (mx1.trans hX) hl hi w n1 (mi_316 (mG_kM m1)) (mi_316 (mG_kM n3)) (b4 (D + 59)) b2 b5, ⟨b2.1, b2.2, t, E, rn, pn, tn, B, ep, vs, hv, K, S, ea, P, b1, n3, ro, vo⟩, b3⟩
theorem S_15 {D i : Nat} {h : mH} {X : Nat × (Nat → Int32)} {l5 l6 l7 l8 : Option Value} (hX : mX h = X) (hl : X.1 ≤ 100000) (hi : i + 5 < X.1) (R : REL h) : DONE D i 1125 h l5 l6 l7 l8 := by
  obtain ⟨o1, o2, t, E, rn, pn, tn, B, ep, vs, hv, K, S, ea, P, g, m, ro, vo⟩ := R
  have o : OUT h := ⟨o1, o2⟩
  have mp := mG_p m
  have c1 := f_heard (d := D + 55) (p := X.2 (i + 1)) g
  have c2 := xU_g (r := fHrd E.2.2.1 (vHe hv S) (X.2 (i + 1))) g
  have c3 := xU_F (h := h) (r := fHrd E.2.2.1 (vHe hv S) (X.2 (i + 1)))
  have w := w_226 (d := D + 59) (gR_kS g) (OUT_F o c3) (fun x hx => by (revert hx; unfold fHrd; repeat' split) <;> (intro hx; first | (cases hx; done) | (cases hx; first | rfl | exact Or.inl rfl | exact Or.inr rfl | exact Or.inr (Or.inl rfl) | exact Or.inr (Or.inr rfl)))) c1
  rw [wB_G] at w
  obtain ⟨m1, mx1⟩ := KEY w c3 m
  obtain ⟨H2, n1, n2, n3, n4⟩ := m_heard (d := D + 57) (p := X.2 (i + 1)) m1
  obtain ⟨b1, b2, b3, b4, b5⟩ := BOTH nmm1 o c3 c2 n2 n4 (mG_kM n3)
  exact ⟨H2, _, _, _, _, L_15 hX (mx1.trans hX) hl hi w n1 (mi_316 (mG_kM m1)) (mi_316 (mG_kM n3)) (b4 (D + 59)) b2 b5, ⟨b2.1, b2.2, t, E, rn, pn, tn, B, ep, vs, hv, K, S, ea, P, b1, n3, ro, vo⟩, b3⟩
theorem S_16 {D i : Nat} {h : mH} {X : Nat × (Nat → Int32)} {l5 l6 l7 l8 : Option Value} (hX : mX h = X) (hl : X.1 ≤ 100000) (hi : i + 5 < X.1) (R : REL h) : DONE D i 1188 h l5 l6 l7 l8 := by
  obtain ⟨o1, o2, t, E, rn, pn, tn, B, ep, vs, hv, K, S, ea, P, g, m, ro, vo⟩ := R
  have o : OUT h := ⟨o1, o2⟩
  have mp := mG_p m
  obtain ⟨H, c1, c2, c3⟩ := f_begins (d := D + 52) (v := X.2 (i + 1)) (tour := X.2 (i + 2)) (room := X.2 (i + 3)) (sec := X.2 (i + 4)) (time := X.2 (i + 5)) g vo.1 ro.1
  have w := w_229 (d := D + 59) (gR_kS g) (OUT_F o c3) (fun x hx => by revert hx; cases hq : fRq vs.length E.2.2.2.2.2.length rn.length (X.2 (i + 1)) (X.2 (i + 2)) (X.2 (i + 3)) (X.2 (i + 4)) (X.2 (i + 5)) 1 20000 with | none => (intro hx; cases hx) | some y => (intro hx; cases hx; exact e_fR hq)) c1
  rw [wH_G] at w
  obtain ⟨m1, mx1⟩ := KEY w c3 m
  obtain ⟨H2, n1, n2, n3, n4⟩ := m_begins (D := D + 30) (v := X.2 (i + 1)) (tour := X.2 (i + 2)) (room := X.2 (i + 3)) (sec := X.2 (i + 4)) (time := X.2 (i + 5)) m1
  obtain ⟨b1, b2, b3, b4, b5⟩ := BOTH nmmI o c3 c2 n2 n4 (mG_kM n3)
  exact ⟨H2, _, _, _, _, L_16 hX (mx1.trans hX) hl hi w n1 (mi_316 (mG_kM m1)) (mi_316 (mG_kM n3)) (b4 (D + 59)) b2 b5, ⟨b2.1, b2.2, t, E, rn, pn, tn, B, ep, vs, hv, K, S, ea, P, b1, n3, ro, vo⟩, b3⟩
theorem S_17 {D i : Nat} {h : mH} {X : Nat × (Nat → Int32)} {l5 l6 l7 l8 : Option Value} (hX : mX h = X) (hl : X.1 ≤ 100000) (hi : i + 5 < X.1) (R : REL h) : DONE D i 1292 h l5 l6 l7 l8 := by
  obtain ⟨o1, o2, t, E, rn, pn, tn, B, ep, vs, hv, K, S, ea, P, g, m, ro, vo⟩ := R
  have o : OUT h := ⟨o1, o2⟩
  have mp := mG_p m
  obtain ⟨H, c1, c2, c3⟩ := f_needs (d := D + 52) (v := X.2 (i + 1)) (tour := X.2 (i + 2)) (room := X.2 (i + 3)) (sec := X.2 (i + 4)) (wo := X.2 (i + 5)) g vo.1 ro.1
  have w := w_232 (d := D + 59) (gR_kS g) (OUT_F o c3) (fun x hx => by revert hx; cases hq : fRq vs.length E.2.2.2.2.2.length rn.length (X.2 (i + 1)) (X.2 (i + 2)) (X.2 (i + 3)) (X.2 (i + 4)) (X.2 (i + 5)) 0 2000 with | none => (intro hx; cases hx) | some y => (intro hx; cases hx; exact e_fR hq)) c1
  rw [wH_G] at w
  obtain ⟨m1, mx1⟩ := KEY w c3 m
  obtain ⟨H2, n1, n2, n3, n4⟩ := m_needs (D := D + 30) (v := X.2 (i + 1)) (tour := X.2 (i + 2)) (room := X.2 (i + 3)) (sec := X.2 (i + 4)) (wo := X.2 (i + 5)) m1
  obtain ⟨b1, b2, b3, b4, b5⟩ := BOTH nmmI o c3 c2 n2 n4 (mG_kM n3)
  exact ⟨H2, _, _, _, _, L_17 hX (mx1.trans hX) hl hi w n1 (mi_316 (mG_kM m1)) (mi_316 (mG_kM n3)) (b4 (D + 59)) b2 b5, ⟨b2.1, b2.2, t, E, rn, pn, tn, B, ep, vs, hv, K, S, ea, P, b1, n3, ro, vo⟩, b3⟩
theorem S_18 {D i : Nat} {h : mH} {X : Nat × (Nat → Int32)} {l5 l6 l7 l8 : Option Value} (hX : mX h = X) (hl : X.1 ≤ 100000) (hi : i + 5 < X.1) (R : REL h) : DONE D i 1396 h l5 l6 l7 l8 := by
  obtain ⟨o1, o2, t, E, rn, pn, tn, B, ep, vs, hv, K, S, ea, P, g, m, ro, vo⟩ := R
  have o : OUT h := ⟨o1, o2⟩
  have mp := mG_p m
  obtain ⟨H, c1, c2, c3⟩ := f_compose (d := D + 51) (v := X.2 (i + 1)) (room := X.2 (i + 2)) (sec := X.2 (i + 3)) (time := X.2 (i + 4)) g vo.1 ro.2.1
  have mo := fun (H1 : mH) (m1 : mG H1 (E, rn, pn, tn, B, ep, vs, hv, S, ea, P)) => m_compose (D := D + 54) (wN := Classical.choose ro.2.2.1) (v := X.2 (i + 1)) (room := X.2 (i + 2)) (sec := X.2 (i + 3)) (time := X.2 (i + 4)) m1 (Classical.choose_spec ro.2.2.1) vo.2.1 vo.2.2 ro.2.2.2.2.1 ro.2.2.2.2.2.1 ro.2.2.2.1
  rcases hq : fRc vs.length rn.length (X.2 (i + 1)) (X.2 (i + 2)) (X.2 (i + 3)) (X.2 (i + 4)) with _ | x
  · rw [hq] at c1 c2 mo
    dsimp only at c1 c2 mo
    have w := w_241 (d := D + 59) (gR_kS g) (OUT_F o c3) (fun x hx => by cases hx) c1
    rw [wH_G] at w
    obtain ⟨m1, mx1⟩ := KEY w c3 m
    obtain ⟨H2, n1, n2, n3, n4⟩ := mo _ m1
    obtain ⟨b1, b2, b3, b4, b5⟩ := BOTH nmmI o c3 c2 n2 n4 (mG_kM n3)
    exact ⟨H2, _, _, _, _, L_18 hX (mx1.trans hX) hl hi w n1 (mi_316 (mG_kM m1)) (mi_316 (mG_kM n3)) (b4 (D + 59)) b2 b5, ⟨b2.1, b2.2, t, E, rn, pn, tn, B, ep, vs, hv, K, S, ea, _, b1, n3, ro, vo⟩, b3⟩
  · rw [hq] at c1 c2 mo
    dsimp only at c1 c2 mo
    have w := w_241 (d := D + 59) (gR_kS g) (OUT_F o c3) (fun y hy => by cases hy; exact e_fRc hq) c1
    rw [wH_G] at w
    obtain ⟨m1, mx1⟩ := KEY w c3 m
    obtain ⟨H2, n1, n2, n3, n4⟩ := mo _ m1
    obtain ⟨b1, b2, b3, b4, b5⟩ := BOTH nmmI o c3 c2 n2 n4 (mG_kM n3)
    exact ⟨H2, _, _, _, _, L_18 hX (mx1.trans hX) hl hi w n1 (mi_316 (mG_kM m1)) (mi_316 (mG_kM n3)) (b4 (D + 59)) b2 b5, ⟨b2.1, b2.2, t, E, rn, pn, tn, B, ep, vs, hv, K, S, ea, P, b1, n3, ro, vo⟩, b3⟩
theorem S_19 {D i : Nat} {h : mH} {X : Nat × (Nat → Int32)} {l5 l6 l7 l8 : Option Value} (hX : mX h = X) (hl : X.1 ≤ 100000) (hi : i + 5 < X.1) (R : REL h) : DONE D i 1488 h l5 l6 l7 l8 := by
  obtain ⟨o1, o2, t, E, rn, pn, tn, B, ep, vs, hv, K, S, ea, P, g, m, ro, vo⟩ := R
  have o : OUT h := ⟨o1, o2⟩
  have mp := mG_p m
  have c1 := f_byteAt (d := D + 55) (i := X.2 (i + 1)) g
  have c2 := xU_g (r := fByt P (X.2 (i + 1))) g
  have c3 := xU_F (h := h) (r := fByt P (X.2 (i + 1)))
  have w := w_249 (d := D + 59) (gR_kS g) (OUT_F o c3) (fun x hx => by (revert hx; unfold fByt; repeat' split) <;> (intro hx; first | (cases hx; done) | (cases hx; first | rfl | exact Or.inl rfl | exact Or.inr rfl | exact Or.inr (Or.inl rfl) | exact Or.inr (Or.inr rfl)))) c1
  rw [wH_G] at w
  obtain ⟨m1, mx1⟩ := KEY w c3 m
  obtain ⟨H2, n1, n2, n3, n4⟩ := m_byteAt (d := D + 58) (p := X.2 (i + 1)) m1
  obtain ⟨b1, b2, b3, b4, b5⟩ := BOTH nmm1 o c3 c2 n2 n4 (mG_kM n3)
  exact ⟨H2, _, _, _, _, L_19 hX (mx1.trans hX) hl hi w n1 (mi_316 (mG_kM m1)) (mi_316 (mG_kM n3)) (b4 (D + 59)) b2 b5, ⟨b2.1, b2.2, t, E, rn, pn, tn, B, ep, vs, hv, K, S, ea, P, b1, n3, ro, vo⟩, b3⟩
theorem S_20 {D i : Nat} {h : mH} {X : Nat × (Nat → Int32)} {l5 l6 l7 l8 : Option Value} (hX : mX h = X) (hl : X.1 ≤ 100000) (hi : i + 5 < X.1) (R : REL h) : DONE D i 1544 h l5 l6 l7 l8 := by
  obtain ⟨o1, o2, t, E, rn, pn, tn, B, ep, vs, hv, K, S, ea, P, g, m, ro, vo⟩ := R
  have o : OUT h := ⟨o1, o2⟩
  have mp := mG_p m
  obtain ⟨H, c1, c2, c3⟩ := f_best (d := D + 46) (v := X.2 (i + 1)) (room := X.2 (i + 2)) (sec := X.2 (i + 3)) (time := X.2 (i + 4)) g vo.1 ro.2.1
  have w0 := fun hr => w_254 (d := D + 59) (gR_kS g) (OUT_F o c3) hr c1
  have w := w0 (fun x hx => e_best hx (fun e he => e_fRc he))
  rw [wH_G] at w
  obtain ⟨m1, mx1⟩ := KEY w c3 m
  obtain ⟨H2, n1, n2, n3, n4⟩ := m_best (D := D + 49) (wN := Classical.choose ro.2.2.1) (v := X.2 (i + 1)) (room := X.2 (i + 2)) (sec := X.2 (i + 3)) (time := X.2 (i + 4)) m1 (Classical.choose_spec ro.2.2.1) vo.2.1
  obtain ⟨b1, b2, b3, b4, b5⟩ := BOTH nmmI o c3 c2 n2 n4 (mG_kM n3)
  exact ⟨H2, _, _, _, _, L_20 hX (mx1.trans hX) hl hi w n1 (mi_316 (mG_kM m1)) (mi_316 (mG_kM n3)) (b4 (D + 59)) b2 b5, ⟨b2.1, b2.2, t, E, rn, pn, tn, B, ep, vs, hv, K, S, ea, P, b1, n3, ro, vo⟩, b3⟩
