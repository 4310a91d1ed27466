/-! A TEXT TOLD: THE REFERENCE'S STATE -/
theorem sMn_p {X : PX} {s : RS} {i : Nat} {b : Bool} {n : Int32} (hn : ¬ n = 0) (h : (sMn X s i b n).1 = 0) : (sMn X s i b n).2.1 = s.2.1 := by rw [sMn_ok (sMn_1 hn h).2]
theorem sNm_p {X : PX} {s : RS} {i : Nat} {x : Int32} (h : (sNm X s i x).1 = 0) : (sNm X s i x).2.1 = s.2.1 := sMn_p (s := sV s i x) (by decide) h
theorem sNw_p {X : PX} {s : RS} {i : Nat} {x : Int32} {f : Bool} (h : (sNw X s i x f).1 = 0) : (sNw X s i x f).2.1 = s.2.1 := by
  unfold sNw at h ⊢
  exact (sMn_p (by decide) h).trans (sMn_p (by decide) (sMn_1 (by decide) h).1)
theorem sMm_p {X : PX} {s : RS} {i : Nat} {x : Int32} {b : Bool} {n : Int32} (hn : ¬ n = 0) (h : (sMn X (sNm X s i x) i b n).1 = 0) : (sMn X (sNm X s i x) i b n).2.1 = s.2.1 := (sMn_p hn h).trans (sNm_p (sMn_1 hn h).1)
theorem evR_p {X : PX} {s : RS} {r i j : Nat} (h : (evR X s (r, i, j)).1 = 0) : (evR X s (r, i, j)).2.1 = s.2.1 := by
  by_cases c0 : r = 0
  · subst c0; rfl
  by_cases c1 : r = 67
  · subst c1; exact sNm_p h
  by_cases c2 : r = 68
  · subst c2; exact sNm_p h
  by_cases c3 : r = 69
  · subst c3; exact sNm_p h
  by_cases c4 : r = 73
  · subst c4; exact sMn_p (by decide) h
  by_cases c5 : r = 74
  · subst c5; exact sMn_p (by decide) h
  have : evR X s (r, i, j) = s := by
    unfold evR
    dsimp only
    rw [if_neg c0, if_neg c1, if_neg c2, if_neg c3, if_neg c4, if_neg c5]
  rw [this]
theorem evT_p {Q : TS} {ev : EVt} (h : (evT Q ev).2.1.1 = 0) : (evT Q ev).2.1.2.1 = Q.2.1.2.1 := by
  obtain ⟨X, s, td, tp, tt, wo, ki, ne⟩ := Q
  obtain ⟨r, i, j⟩ := ev
  show _ = s.2.1
  by_cases c60 : r = 60
  · subst c60
    exact sNw_p h
  by_cases c61 : r = 61
  · subst c61
    exact sMm_p (by decide) h
  by_cases c62 : r = 62
  · subst c62
    exact sMm_p (by decide) h
  by_cases c70 : r = 70
  · subst c70
    exact sMn_p (by decide) h
  by_cases c63 : r = 63
  · subst c63
    exact sNw_p h
  by_cases c64 : r = 64
  · subst c64
    exact sNm_p h
  by_cases c71 : r = 71
  · subst c71
    exact sMn_p (by decide) h
  by_cases c65 : r = 65
  · subst c65
    exact sNm_p h
  by_cases c76 : r = 76
  · subst c76
    exact rfl
  by_cases c72 : r = 72
  · subst c72
    exact sMn_p (by decide) h
  by_cases c66 : r = 66
  · subst c66
    exact sNw_p h
  by_cases c1 : r = 1
  · subst c1
    rw [show evT (X, s, td, tp, tt, wo, ki, ne) (1, i, j) = (if s.1 = 0 then (adR (X.2.2.2.1 i) X, s, td, tp, tt, wo, ki, ne) else (X, s, td, tp, tt, wo, ki, ne)) from rfl]
    by_cases cs : s.1 = 0
    · rw [if_pos cs]
    · rw [if_neg cs]
  by_cases c2 : r = 2
  · subst c2
    rw [show evT (X, s, td, tp, tt, wo, ki, ne) (2, i, j) = (if s.1 = 0 then (adD X, s, cpF td (3 * X.2.2.2.2.2.2.2.2.2.2) 3 (fun q => s.2.2.1 (i + q)), tp, tt, wo, ki, ne) else (X, s, td, tp, tt, wo, ki, ne)) from rfl]
    by_cases cs : s.1 = 0
    · rw [if_pos cs]
    · rw [if_neg cs]
  by_cases c3 : r = 3
  · subst c3
    rw [show evT (X, s, td, tp, tt, wo, ki, ne) (3, i, j) = (if s.1 = 0 then (adP (X.2.2.2.1 i) X, s, td, cpF tp (5 * X.2.2.2.2.2.2.2.2.1) 5 (fun q => [s.2.2.1 (i + 2), s.2.2.1 (i + 3), wo, ki, ne].getD q 0), tt, wo, ki, ne) else (X, s, td, tp, tt, wo, ki, ne)) from rfl]
    by_cases cs : s.1 = 0
    · rw [if_pos cs]
    · rw [if_neg cs]
  by_cases c4 : r = 4
  · subst c4
    rw [show evT (X, s, td, tp, tt, wo, ki, ne) (4, i, j) = (if s.1 = 0 then (adT (X.2.2.2.1 i) X, s, td, tp, fun q => if q = X.2.2.2.2.2.2.2.2.2.1 then Int32.ofNat (i + 1) else tt q, wo, ki, ne) else (X, s, td, tp, tt, wo, ki, ne)) from rfl]
    by_cases cs : s.1 = 0
    · rw [if_pos cs]
    · rw [if_neg cs]
  rw [show evT (X, s, td, tp, tt, wo, ki, ne) (r, i, j) = (X, evR X s (r, i, j), td, tp, tt, wo, ki, ne) by unfold evT; dsimp only; rw [if_neg c60, if_neg c61, if_neg c62, if_neg c70, if_neg c63, if_neg c64, if_neg c71, if_neg c65, if_neg c76, if_neg c72, if_neg c66, if_neg c1, if_neg c2, if_neg c3, if_neg c4]] at h ⊢
  exact evR_p h
theorem evTs_p : ∀ {e : List EVt} {Q : TS}, (evTs Q e).2.1.1 = 0 → (evTs Q e).2.1.2.1 = Q.2.1.2.1
  | [], Q, h => rfl
  | ev :: e, Q, h => (evTs_p (e := e) (Q := evT Q ev) h).trans (evT_p (evTs_1 (e := e) (Q := evT Q ev) h))
/-- alike but for the program that was read, and what the tape holds -/
def EQP (p : Nat) (h H : mH) : Prop := (∀ a, 316 ≤ a → a < 360 → ¬ (p ≤ a ∧ a ≤ p + 11) → (∀ j, (a = 316 ∧ (j = 0 ∨ j = 2 ∨ j = 3)) ∨ mI H a j = mI h a j) ∧ mL H a = mL h a) ∧ (∀ a, a < 360 → mV H a = mV h a ∧ mK H a = mK h a) ∧ mN h ≤ mN H
theorem told_e {p : Nat} {H : mH} {x : Int32} {h : mH} {E : EV} {rn pn tn : List (List Int32)} {B : List Int32} {ep : Int32} {vs : List (Int32 × Int32 × Int32)} {hv : Bool} {S : VS} {ea : Bool} {P : List Int32} (m : mG h (E, rn, pn, tn, B, ep, vs, hv, S, ea, P)) (hp : p = 658 - pt h) (e : EQP p h H) (e2 : mI H 316 2 = 0) (e3 : mI H 316 3 = x) : mG H (E, rn, pn, tn, [], x, vs, hv, S, ea, P) := by
  obtain ⟨g1, ⟨hk, d, mc, h12, pa, vi, vo⟩, ⟨r1, r2, r3, r4⟩, ⟨n1, n2, n3⟩, ⟨⟨t1, t2, t3⟩, hb⟩, hep, ⟨q1, q2, q3⟩, ⟨k, n, V, L, T, ⟨a1, a2, a3, a4⟩, b1, c1⟩, v1, v2⟩ := m
  obtain ⟨E1, E2, E3⟩ := e
  have v : mV H 316 = mV h 316 := (E2 316 (by omega)).1
  have ept : pt H = pt h := by unfold pt; rw [v]
  have hkH : kM H := by
    obtain ⟨k1, k2, k3, k4⟩ := hk
    refine ⟨fun n hn => by rw [(E2 (316 + n) (by omega)).2]; exact k1 n hn, Nat.le_trans k2 E3, fun q hq => ?_, by rw [v]; exact k4⟩
    have b : ∀ q, q ∈ mmRt → q.1 < 360 := by decide +kernel
    rw [(E2 q.1 (b q hq)).1]
    exact k3 q hq
  have hP := pt_P hk
  have out : ∀ a, a ≤ 322 ∨ 347 ≤ a → ¬ (p ≤ a ∧ a ≤ p + 11) := fun a ha => by rcases hP with e | e <;> rw [e] at hp <;> omega
  have hpb : ∀ i, i ≤ 11 → 317 ≤ pt h + i ∧ pt h + i < 360 ∧ ¬ (p ≤ pt h + i ∧ pt h + i ≤ p + 11) := fun i hi => by rcases hP with e | e <;> rw [e] at hp ⊢ <;> omega
  have I : ∀ a j, 317 ≤ a → a < 360 → ¬ (p ≤ a ∧ a ≤ p + 11) → mI H a j = mI h a j := fun a j h0 h1 h2 => ((E1 a (by omega) h1 h2).1 j).resolve_left (by omega)
  have Ip : ∀ i j, i ≤ 11 → mI H (pt h + i) j = mI h (pt h + i) j := fun i j hi => I _ _ (hpb i hi).1 (hpb i hi).2.1 (hpb i hi).2.2
  have Ip0 : ∀ j, mI H (pt h) j = mI h (pt h) j := fun j => Ip 0 j (by omega)
  have M : ∀ j, ¬ (j = 0 ∨ j = 2 ∨ j = 3) → mI H 316 j = mI h 316 j := fun j hj => ((E1 316 (by omega) (by omega) (out _ (by omega))).1 j).resolve_left (by omega)
  have Lp : ∀ i, i ≤ 11 → mL H (pt h + i) = mL h (pt h + i) := fun i hi => (E1 _ (by have := (hpb i hi).1; omega) (hpb i hi).2.1 (hpb i hi).2.2).2
  refine ⟨Nat.le_trans g1 E3, ⟨hkH, ?_, ?_, h12, ?_, ?_, vo⟩, ?_, ?_, ⟨⟨e2, Nat.zero_le _, fun k hk => absurd hk (Nat.not_lt_zero _)⟩, fun x hx => absurd hx List.not_mem_nil⟩, e3, ⟨(M 5 (by decide)).trans q1, q2, fun k hk => (I 318 k (by omega) (by omega) (out _ (by omega))).trans (q3 k hk)⟩, ⟨k, n, V, L, T, ⟨a1, ?_, a3, a4⟩, ?_, c1⟩, (I 347 0 (by omega) (by omega) (out _ (by omega))).trans v1, ?_⟩
  · obtain ⟨d1, d2, d3, d4⟩ := d
    rw [ept]
    exact ⟨(Ip0 7).trans d1, d2, d3, fun k hk => ⟨(Ip 9 _ (by omega)).trans (d4 k hk).1, (Ip 9 _ (by omega)).trans (d4 k hk).2.1, (Ip 9 _ (by omega)).trans (d4 k hk).2.2⟩⟩
  · intro r hr
    obtain ⟨x, y, z⟩ := mc r hr
    exact ⟨x, (I 320 r (by omega) (by omega) (out _ (by omega))).trans y, fun k hk => ⟨(I 321 _ (by omega) (by omega) (out _ (by omega))).trans (z k hk).1, (I 321 _ (by omega) (by omega) (out _ (by omega))).trans (z k hk).2⟩⟩
  · obtain ⟨d1, d2, d3⟩ := pa
    rw [ept]
    refine ⟨(Ip0 8).trans d1, d2, fun p hp => ?_⟩
    obtain ⟨x0, x1, x2, x3, x4⟩ := d3 p hp
    exact ⟨(Ip 10 _ (by omega)).trans x0, (Ip 10 _ (by omega)).trans x1, (Ip 10 _ (by omega)).trans x2, (Ip 10 _ (by omega)).trans x3, (Ip 10 _ (by omega)).trans x4⟩
  · obtain ⟨d1, d2, d3⟩ := vi
    refine ⟨(M 6 (by decide)).trans d1, d2, fun p hp => ?_⟩
    obtain ⟨x0, x1, x2⟩ := d3 p hp
    have o := out 319 (by omega)
    exact ⟨(I 319 _ (by omega) (by omega) o).trans x0, (I 319 _ (by omega) (by omega) o).trans x1, (I 319 _ (by omega) (by omega) o).trans x2⟩
  · rw [ept]; exact ⟨(Ip0 6).trans r1, r2, (Ip0 9).trans r3, r4⟩
  · rw [ept, Lp 6 (by omega), Lp 7 (by omega)]; exact ⟨n1, n2, n3⟩
  · rw [ept]; exact fun i hi => ⟨(Ip 1 _ (by omega)).trans (a2 i hi).1, (Ip 2 _ (by omega)).trans (a2 i hi).2.1, (Ip 4 _ (by omega)).trans (a2 i hi).2.2⟩
  · rw [ept]; exact fun q hq => (Ip 11 _ (by omega)).trans (b1 q hq)
  · have o := out 347 (by omega)
    have o8 := out 348 (by omega)
    by_cases c : hv = true
    · rw [if_pos c] at v2 ⊢
      obtain ⟨⟨who, lim, w1⟩, w2, w3⟩ := v2
      refine ⟨⟨who, lim, wS_KG (fun j _ => I 347 j (by omega) (by omega) o) ?_ w1⟩, (I 347 11 (by omega) (by omega) o).trans w2, w3⟩
      funext j
      exact I 348 j (by omega) (by omega) o8
    · rw [if_neg c] at v2 ⊢
      exact ⟨(I 347 13 (by omega) (by omega) o).trans v2.1, (I 347 6 (by omega) (by omega) o).trans v2.2⟩
/-- the reference's state after a text was told -/
theorem told_n {p j j2 : Nat} {h H X : mH} {c : List CI} {M : NM} {Q : TS} {E : EV} {rn pn tn : List (List Int32)} {B : List Int32} {ep : Int32} {vs : List (Int32 × Int32 × Int32)} {hv : Bool} {S : VS} {ea : Bool} {P : List Int32} (m : mG h (E, rn, pn, tn, B, ep, vs, hv, S, ea, P)) (hl : B.length ≤ 2000) (hp : p = 658 - pt h) (t : tS H p j Q) (nr : NR B c j2 c.length M Q)
    (e1 : ∀ a, 318 ≤ a → a ≤ 319 → mI H a = mI h a) (e2 : ∀ i, i = 5 ∨ i = 6 → mI H 316 i = mI h 316 i) (hN : mN h ≤ mN H)
    (x1 : ∀ a, p ≤ a → a ≤ p + 11 → mI X a = mI H a ∧ mL X a = mL H a) (x2 : ∀ a, 318 ≤ a → a ≤ 319 → mI X a = mI H a) (x3 : ∀ i, i = 5 ∨ i = 6 → mI X 316 i = mI H 316 i) (x4 : mI X 316 2 = 0) (x5 : mI X 316 3 = -1) (x6 : ∀ i, i < 12 → mI X 320 i = 0) (x7 : mI X 347 0 = 0 ∧ mI X 347 13 = 0 ∧ mI X 347 6 = 0) (xk : kM X) (xp : pt X = p) (xN : mN H ≤ mN X) :
    mG X (eOf (c.map (·.1)) M, M.1, M.2.2.2.2.1, M.2.2.2.2.2.2.2.2.2.2.1, [], -1, vs, false, S, ea, P) := by
  obtain ⟨g1, ⟨hk, d, mc, h12, pa, vi, vo⟩, _, _, _, _, ⟨q1, q2, q3⟩, _, _, _⟩ := m
  obtain ⟨rn', df, dt, ds, pn', pr, pl', pw, pk, pd, tn', ts, od⟩ := M
  obtain ⟨⟨k, n, f, wd, rs, ps, tw, nr', np, nt, nd⟩, s, td, tp, tt, wo, ki, ne⟩ := Q
  obtain ⟨⟨⟨z1, z2, z3⟩, ⟨z4, z5, z6⟩, ⟨z7, z8, z9⟩, ⟨w1, w2, w3⟩⟩, _, _, ⟨dn, d1, d2, d3, d4, d5, d6, d7⟩, ⟨p1, p2, p3, p4, p5, p6⟩, ⟨l1, l2⟩, ⟨o1, o2, o3, o4⟩, _⟩ := nr
  obtain ⟨⟨_, hP, _, hj, s1, s2, s3, s4, s5, s6, s7, s8, s9, sa, sb, sc, sd, se, sf, sg⟩, u1, u2, u3⟩ := t
  dsimp only at d4 d5 d7 p1 p2 p3 p4 p5 p6 l1 l2 o3 s1 s2 s3 s4 s5 s6 s7 s8 s9 sa sb sc sd se sf sg u1 u2 u3 hj
  obtain ⟨f0, f1, f2, f3, f4, f5⟩ := psOf_m p1 p2 p3 p4 p5
  obtain ⟨T1, T2, T3, T4⟩ := tT_ok hl
  subst d1 d2 d3
  have ed : dnOf (dn.map (fun d => Int32.ofNat d.1)) (dn.map (fun d => Int32.ofNat d.2.1)) (dn.map (fun d => Int32.ofNat d.2.2)) = dn := dnOf_m d6
  have Xi : ∀ i, i ≤ 11 → mI X (p + i) = mI H (p + i) := fun i hi => (x1 _ (by omega) (by omega)).1
  have X0 : mI X p = mI H p := Xi 0 (by omega)
  have Xl : ∀ i, i ≤ 11 → mL X (p + i) = mL H (p + i) := fun i hi => (x1 _ (by omega) (by omega)).2
  have lm : ∀ (l : List Int32) q, q < np → lg l (Int32.ofNat q) = l.getD q 0 := fun l q hq => lg_of (by omega)
  have eE : eOf (c.map (fun x : CI => x.1)) (rn', dn.map (fun d => Int32.ofNat d.1), dn.map (fun d => Int32.ofNat d.2.1), dn.map (fun d => Int32.ofNat d.2.2), pn', pr, pl', pw, pk, pd, tn', ts, od) = ([], dn, psOf pr pl' pw pk pd, c.map (fun x : CI => x.1), od, ts) := by
    unfold eOf
    dsimp only
    rw [ed]
  rw [eE]
  have TO : TOU (kdF B) n s.2.2.1 s.2.2.2 np ([], dn, psOf pr pl' pw pk pd, c.map (fun x : CI => x.1), od, ts) tn'.length (fun q => (tt q).toNatClampNeg) := by
    refine ⟨by omega, fun q hq => ?_⟩
    obtain ⟨T, j', c', e', p', t1, t2, t3, t4, t5, t6, t7, t8⟩ := l2 q (by omega)
    have et : (tt q).toNatClampNeg = T := by rw [t1, i_of_n (by omega)]
    dsimp only
    rw [et]
    refine ⟨t2, j', c', e', p', t4, ?_, ⟨?_, fun m hm => ?_⟩, ?_⟩
    · intro ev hev
      obtain ⟨y1, y2, y3, y4, y5⟩ := t5 ev hev
      exact ⟨y1, y2, y3, y4, y5⟩
    · rw [List.length_append, List.length_singleton]; omega
    · rw [List.length_append, List.length_singleton] at hm
      have hm' : p' + m < c.length := by omega
      have ec := t7 m hm
      dsimp only
      refine ⟨?_, ?_⟩
      · rw [lg_of (by omega), getD_lt (by rw [List.length_map]; exact hm'), List.getElem_map, ← ec, getD_lt hm']
      · rw [lg_of (by omega), (o3 _ hm').2.1, ec]
    · rw [lg_of (by omega)]
      exact t8
  refine ⟨Nat.le_trans g1 (Nat.le_trans hN xN), ⟨xk, ?_, ?_, fun q hq => absurd hq List.not_mem_nil, ?_, ?_, vo⟩, ?_, ?_, ⟨⟨x4, Nat.zero_le _, fun k hk => absurd hk (Nat.not_lt_zero _)⟩, fun x hx => absurd hx List.not_mem_nil⟩, x5, ⟨((x3 5 (Or.inl rfl)).trans (e2 5 (Or.inl rfl))).trans q1, q2, fun k hk => by rw [x2 318 (by omega) (by omega), e1 318 (by omega) (by omega)]; exact q3 k hk⟩, ⟨kdF B, n, s.2.2.1, s.2.2.2, fun q => (tt q).toNatClampNeg, ⟨by omega, ?_, T3, ?_⟩, ?_, ?_⟩, x7.1, x7.2⟩
  · rw [xp]
    show mDo X p dn
    refine ⟨by rw [X0, d4]; exact sg, by omega, d6, fun q hq => ?_⟩
    rw [Xi 9 (by omega), u1]
    exact d7 q (by omega)
  · intro r hr
    refine ⟨Nat.zero_le _, ?_, fun k hk => absurd hk (Nat.not_lt_zero _)⟩
    exact x6 r hr
  · rw [xp]
    show mPa X p (psOf pr pl' pw pk pd)
    refine ⟨by rw [X0, f0]; exact s8, by omega, fun q hq => ?_⟩
    have hq : q < np := by omega
    rw [f1, f2, f3, f4, f5, lm _ _ hq, lm _ _ hq, lm _ _ hq, lm _ _ hq, lm _ _ hq, Xi 10 (by omega), u2]
    exact (p6 q hq).1
  · obtain ⟨d1, d2, d3⟩ := vi
    refine ⟨((x3 6 (Or.inr rfl)).trans (e2 6 (Or.inr rfl))).trans d1, d2, fun v hv => ?_⟩
    rw [x2 319 (by omega) (by omega), e1 319 (by omega) (by omega)]
    exact d3 v hv
  · rw [xp, X0]
    refine ⟨?_, ?_, ?_, ?_⟩
    · show mI H p 6 = Int32.ofNat rn'.length
      rw [z2]; exact s7
    · show rn'.length ≤ 12
      omega
    · show mI H p 9 = Int32.ofNat tn'.length
      rw [z8]; exact s9
    · show ts.length = tn'.length
      omega
  · rw [xp, Xl 6 (by omega), Xl 7 (by omega)]
    refine ⟨?_, ?_, ?_⟩
    · rw [s4]; exact z1
    · rw [s5]; exact z4
    · show pn'.length = (psOf pr pl' pw pk pd).length
      omega
  · rw [xp, Xi 1 (by omega), Xi 2 (by omega), Xi 4 (by omega), se, sf]
    intro i hi
    refine ⟨?_, rfl, rfl⟩
    rw [s1 i hi, w1]
  · intro i h1 h2
    by_cases hi : i < (tT B).length
    · rw [w2]
      exact (T4 i hi).mp h2
    · exfalso
      refine h1 ?_
      unfold kdF
      rw [getD_ge (by omega)]
  · rw [xp, Xi 11 (by omega), u3]
    intro q hq
    have hq : q < nt := by
      have : q < tn'.length := hq
      omega
    obtain ⟨T, _, _, _, _, t1, t2, _⟩ := l2 q hq
    show tt q = Int32.ofNat (tt q).toNatClampNeg
    rw [t1, i_of_n (by omega)]
  · have ep : (psOf pr pl' pw pk pd).length = np := f0
    dsimp only
    rw [ep]
    exact TO
