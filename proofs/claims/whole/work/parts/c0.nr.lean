/-! THE CLASS'S NAMING AND THE REFERENCE'S: WHAT STANDS BETWEEN THINGS -/
def DRS (df dt ds : List Int32) (td : Nat → Int32) (nd : Nat) : Prop := ∃ dn : List NS, df = dn.map (fun d => Int32.ofNat d.1) ∧ dt = dn.map (fun d => Int32.ofNat d.2.1) ∧ ds = dn.map (fun d => Int32.ofNat d.2.2) ∧ dn.length = nd ∧ nd ≤ 24 ∧ dnOK dn ∧ ∀ q, q < nd → td (3 * q) = Int32.ofNat (dn.getD q (0, 0, 0)).1 ∧ td (3 * q + 1) = Int32.ofNat (dn.getD q (0, 0, 0)).2.1 ∧ td (3 * q + 2) = Int32.ofNat (dn.getD q (0, 0, 0)).2.2
def PTS (pr pl' pw pk pd : List Int32) (tp : Nat → Int32) (nr np : Nat) : Prop := pr.length = np ∧ pl'.length = np ∧ pw.length = np ∧ pk.length = np ∧ pd.length = np ∧ ∀ q, q < np → (tp (5 * q) = pr.getD q 0 ∧ tp (5 * q + 1) = pl'.getD q 0 ∧ tp (5 * q + 2) = pw.getD q 0 ∧ tp (5 * q + 3) = pk.getD q 0 ∧ tp (5 * q + 4) = pd.getD q 0) ∧ (∃ x, x < nr ∧ pr.getD q 0 = Int32.ofNat x) ∧ (∃ x, 1 ≤ x ∧ x ≤ 900 ∧ pl'.getD q 0 = Int32.ofNat x) ∧ ∃ x, x ≤ 99 ∧ pw.getD q 0 = Int32.ofNat x
def TRS (B : List Int32) (C : List CI) (V L : Nat → Int32) (ts : List Int32) (tt : Nat → Int32) (nt np n i b : Nat) : Prop := ts.length = nt ∧ ∀ q, q < nt → ∃ T j c e p, tt q = Int32.ofNat T ∧ T < n ∧ j ≤ i ∧ pBlock (kdF B) 8 T p = (j, some (c, e)) ∧ EVQ V L np q e ∧ p + c.length + 1 ≤ b ∧ (∀ m, m < c.length + 1 → C.getD (p + m) (0, 0, 0) = (c ++ [(0, 0, 0)]).getD m (0, 0, 0)) ∧ ts.getD q 0 = Int32.ofNat p
def ODS (C : List CI) (V : Nat → Int32) (od : List Int32) (i b : Nat) : Prop := od.length = C.length ∧ C.length ≤ 401 ∧ (∀ m, m < b → (C.getD m (0, 0, 0)).2.2 ≤ i ∧ od.getD m 0 = eo V (C.getD m (0, 0, 0)) ∧ ((C.getD m (0, 0, 0)).1 = 2 → ∃ r, r < 12 ∧ od.getD m 0 = Int32.ofNat r)) ∧ ∀ m, b ≤ m → od.getD m 0 = (C.getD m (0, 0, 0)).2.1
def NR (B : List Int32) (C : List CI) (i b : Nat) : NM → TS → Prop
  | (rn, df, dt, ds, pn, pr, pl', pw, pk, pd, tn, ts, od), (X, s, td, tp, tt, _, _, _) =>
    NMX B rn pn tn X ∧ (w10 rn ∧ w10 pn ∧ w10 tn) ∧ s.1 = 0 ∧ DRS df dt ds td X.2.2.2.2.2.2.2.2.2.2 ∧ PTS pr pl' pw pk pd tp rn.length X.2.2.2.2.2.2.2.2.1 ∧ TRS B C s.2.2.1 s.2.2.2 ts tt X.2.2.2.2.2.2.2.2.2.1 X.2.2.2.2.2.2.2.2.1 X.2.1 i b ∧ ODS C s.2.2.1 od i b ∧ ∀ j, i ≤ j → j < X.2.1 → s.2.2.1 j = nuT B j
/-- a thing: both sides -/
def SIM (B : List Int32) (C : List CI) (i1 b1 : Nat) (M : NM) (Q : TS) (e : List EVt) (l : List EP) : Prop := gC B l M ∧ ((fC B l M).1 = 0 → NR B C i1 b1 (fC B l M).2.2 (evTs Q e)) ∧ (¬ (fC B l M).1 = 0 → ERR (evTs Q e) (fC B l M).1 (Q.1.2.2.1 (fC B l M).2.1) ∧ (fC B l M).2.1 < Q.1.2.1)
theorem pn_pl {B : List Int32} {C : List CI} {i b : Nat} {M : NM} {Q : TS} (h : NR B C i b M Q) : plL M = pnL M := by
  obtain ⟨rn, df, dt, ds, pn, pr, pl', pw, pk, pd, tn, ts, od⟩ := M
  obtain ⟨⟨k, n, f, wd, rs, ps, tw, nr, np, nt, nd⟩, s, td, tp, tt, wo, ki, ne⟩ := Q
  obtain ⟨⟨_, ⟨_, p2, _⟩, _⟩, _, _, _, ⟨_, p5, _⟩, _⟩ := h
  show pl'.length = pn.length
  rw [p2]; exact p5
theorem EVQ_np {V L V' L' : Nat → Int32} {np np' q : Nat} {e : List EVt} (h : EVQ V L np q e) (hn : np ≤ np') (hv : ∀ ev, ev ∈ e → V' ev.2.1 = V ev.2.1 ∧ L' ev.2.1 = L ev.2.1) : EVQ V' L' np' q e := by
  intro ev hev
  obtain ⟨a1, a2, a3, a4, a5⟩ := h ev hev
  obtain ⟨v1, v2⟩ := hv ev hev
  rw [v1, v2]
  refine ⟨a1, fun z => ?_, a3, a4, a5⟩
  obtain ⟨x, x1, x2⟩ := a2 z
  exact ⟨x, by omega, x2⟩
theorem TRS_mono {B : List Int32} {C : List CI} {V L V' L' : Nat → Int32} {ts : List Int32} {tt : Nat → Int32} {nt np np' n i b i1 b1 : Nat} (h : TRS B C V L ts tt nt np n i b) (hn : np ≤ np') (hi : i ≤ i1) (hb : b ≤ b1) (hv : ∀ q, q < i → V' q = V q ∧ L' q = L q) : TRS B C V' L' ts tt nt np' n i1 b1 := by
  refine ⟨h.1, fun q hq => ?_⟩
  obtain ⟨T, j, c, e, p, h1, h2, h3, h4, h5, h6, h7, h8⟩ := h.2 q hq
  have z := zo_block (k := kdF B) 8 _ _ _ _ _ h4
  exact ⟨T, j, c, e, p, h1, h2, by omega, h4, EVQ_np h5 hn (fun ev hev => hv _ (by have := (z.2.1 ev hev).2; omega)), by omega, h7, h8⟩
theorem ODS_mono {C : List CI} {V V' : Nat → Int32} {od : List Int32} {i b i1 : Nat} (h : ODS C V od i b) (hi : i ≤ i1) (hv : ∀ q, q < i → V' q = V q) : ODS C V' od i1 b := by
  obtain ⟨h1, h2, h3, h4⟩ := h
  refine ⟨h1, h2, fun m hm => ?_, h4⟩
  obtain ⟨a, b, c2⟩ := h3 m hm
  refine ⟨by omega, ?_, c2⟩
  rw [b]
  unfold eo
  by_cases c : (C.getD m (0, 0, 0)).2.2 = 0
  · rw [if_pos c, if_pos c]
  · rw [if_neg c, if_neg c]; exact (hv _ (by omega)).symm
theorem PTS_nr {pr pl' pw pk pd : List Int32} {tp : Nat → Int32} {nr nr' np : Nat} (h : PTS pr pl' pw pk pd tp nr np) (hn : nr ≤ nr') : PTS pr pl' pw pk pd tp nr' np := by
  obtain ⟨h1, h2, h3, h4, h5, h6⟩ := h
  refine ⟨h1, h2, h3, h4, h5, fun q hq => ?_⟩
  obtain ⟨a, ⟨x, x1, x2⟩, c, d⟩ := h6 q hq
  exact ⟨a, ⟨x, by omega, x2⟩, c, d⟩
theorem nmsOK_add {N : List (List Int32)} {W : Nat → Int64} {sg : List Int32} {w : Int64} (hN : nmsOK N W) (h : nmOK sg w) : nmsOK (N ++ [sg]) (fun q => if q = N.length then w else W q) := by
  intro r hr
  rw [List.length_append, List.length_singleton] at hr
  by_cases c : r = N.length
  · subst c
    rw [getD_e]
    dsimp only
    rw [if_pos rfl]
    exact h
  · rw [getD_l (by omega)]
    dsimp only
    rw [if_neg c]
    exact hN r (by omega)
/-- a new name: both sides -/
theorem new_nm {X : PX} {s : RS} {i most : Nat} {N : List (List Int32)} {W : Nat → Int64} {sg : List Int32} {w : Int64} (h : nmOK sg w) (hN : nmsOK N W) (hm : N.length ≤ most) (hm2 : most ≤ 100) (hs : s.1 = 0) :
    ((nTl sg N most).1 = 0 → (nTl sg N most).2 = N ++ [sg] ∧ sNw X s i (fnL W w N.length 0) (decide (N.length = most)) = s ∧ N.length < most ∧ nmsOK (N ++ [sg]) (fun q => if q = N.length then w else W q)) ∧
    (¬ (nTl sg N most).1 = 0 → (sNw X s i (fnL W w N.length 0) (decide (N.length = most))).1 = (nTl sg N most).1 ∧ (sNw X s i (fnL W w N.length 0) (decide (N.length = most))).2.1 = X.2.2.1 i) := by
  obtain ⟨l1, l2⟩ := look h hN (by omega)
  rw [← l1]
  unfold nTl sNw
  dsimp only
  rcases l2 with ⟨e1, e2⟩ | ⟨y, y1, y2, y3, y4⟩
  · rw [if_pos e2, if_pos e2, e1, show (!decide ((-1 : Int32) = -1)) = false from rfl, sMn_ok (X := X) (s := s) (i := i) (n := 2) rfl]
    by_cases c : most ≤ N.length
    · rw [if_pos c, if_pos c]
      refine ⟨fun h => absurd h (by decide), fun _ => sMn_no (decide_eq_true (by omega)) hs⟩
    · rw [if_neg c, if_neg c]
      exact ⟨fun _ => ⟨rfl, sMn_ok (decide_eq_false (by omega)), by omega, nmsOK_add hN h⟩, fun h => absurd rfl h⟩
  · rw [if_neg y3, if_neg y3, decide_eq_false y4]
    obtain ⟨a1, a2⟩ := sMn_no (X := X) (s := s) (i := i) (b := !false) (n := 2) rfl hs
    refine ⟨fun h => absurd h (by decide), fun _ => ?_⟩
    rw [sMn_e (by rw [a1]; decide)]
    exact ⟨a1, a2⟩
theorem room_inv {k : Nat → Nat} {i b j : Nat} {c : List CI} {e : List EVt} (h : pRoom k i b = (j, some (c, e))) : j = i + 3 ∧ c = [] ∧ e = [(60, i + 1, 0), (1, i + 1, 0)] ∧ k (i + 1) = 29 := by
  obtain ⟨e1, h1, he⟩ := evE_inv h
  obtain ⟨l1, c1, f1, c2, f2, a1, a2, hc1, he1⟩ := sq_inv h1
  obtain ⟨_, x1, y1, z1⟩ := tk_inv a1
  subst x1 y1 z1
  obtain ⟨l2, c3, f3, c4, f4, a3, a4, hc2, he2⟩ := sq_inv a2
  obtain ⟨k2, x2, y2, z2⟩ := nmk_inv a3
  subst x2 y2 z2
  obtain ⟨_, x3, y3, z3⟩ := tk_inv a4
  subst y3 z3
  subst hc2 he2
  subst hc1 he1
  subst he
  exact ⟨x3, rfl, rfl, k2⟩
theorem map1 {l : List EP} {r t : Nat} (h : l.map (fun x => ((x.1, x.2.1, 0) : EVt)) = [(r, t, 0)]) : ∃ p, l = [(r, t, p)] := by
  cases l with
  | nil => cases h
  | cons x l =>
    obtain ⟨a, b, p⟩ := x
    rw [List.map_cons] at h
    injection h with h1 h2
    injection h1 with e1 e2
    injection e2 with e2 e3
    dsimp only at e1 e2
    subst e1 e2
    exact ⟨p, by rw [List.map_eq_nil_iff.mp h2]⟩
theorem mapC {l : List EP} {r t : Nat} {e : List EVt} (h : l.map (fun x => ((x.1, x.2.1, 0) : EVt)) = (r, t, 0) :: e) : ∃ p l', l = (r, t, p) :: l' ∧ l'.map (fun x => ((x.1, x.2.1, 0) : EVt)) = e := by
  cases l with
  | nil => cases h
  | cons x l =>
    obtain ⟨a, b, p⟩ := x
    rw [List.map_cons] at h
    injection h with h1 h2
    injection h1 with e1 e2
    injection e2 with e2 e3
    dsimp only at e1 e2
    subst e1 e2
    exact ⟨p, l, rfl, h2⟩
theorem w10_add {N : List (List Int32)} {sg : List Int32} (h : w10 N) (hs : sg.length = 10) : w10 (N ++ [sg]) := by
  intro x hx
  rcases List.mem_append.mp hx with q | q
  · exact h x q
  · rw [List.mem_singleton] at q; rw [q]; exact hs
theorem SIM_ok {B : List Int32} {C : List CI} {i1 b1 : Nat} {M M' : NM} {Q Q' : TS} {ev : EVt} {e : List EVt} {x : EP} {l : List EP} (gl : plL M - 1 ≤ pnL M) (hc : cs B x M = (0, M')) (he : evT Q ev = Q') (h : SIM B C i1 b1 M' Q' e l) : SIM B C i1 b1 M Q (ev :: e) (x :: l) := by
  have k := evT_k (Q := Q) (ev := ev)
  rw [he] at k
  obtain ⟨h1, h2, h3⟩ := h
  rw [k.2.2.1, k.2.1] at h3
  have ee : evTs Q (ev :: e) = evTs Q' e := by rw [← he]; rfl
  unfold SIM
  rw [gC, fC, hc, ee, if_pos rfl]
  exact ⟨⟨gl, fun _ => h1⟩, h2, h3⟩
theorem SIM_er {B : List Int32} {C : List CI} {i1 b1 : Nat} {M : NM} {Q : TS} {ev : EVt} {e : List EVt} {x : EP} {l : List EP} (gl : plL M - 1 ≤ pnL M) (hc : ¬ (cs B x M).1 = 0) (h1 : (evT Q ev).2.1.1 = (cs B x M).1) (h2 : (evT Q ev).2.1.2.1 = Q.1.2.2.1 x.2.1) (h3 : x.2.1 < Q.1.2.1) : SIM B C i1 b1 M Q (ev :: e) (x :: l) := by
  have ee : evTs Q (ev :: e) = evTs (evT Q ev) e := rfl
  unfold SIM
  rw [gC, fC, ee, if_neg hc]
  exact ⟨⟨gl, fun z => absurd z hc⟩, fun z => absurd z hc, fun _ => ⟨evTs_e ⟨h1, h2, hc⟩, h3⟩⟩
theorem NR_s {B : List Int32} {C : List CI} {j j' b : Nat} {M : NM} {X : PX} {s s' : RS} {td tp tt : Nat → Int32} {wo ki ne wo' ki' ne' : Int32} (m : NR B C j b M (X, s, td, tp, tt, wo, ki, ne)) (hj : j ≤ j') (hs : s'.1 = 0) (hv : ∀ q, ¬ (j ≤ q ∧ q < j') → s'.2.2.1 q = s.2.2.1 q) (hL : s'.2.2.2 = s.2.2.2) : NR B C j' b M (X, s', td, tp, tt, wo', ki', ne') := by
  obtain ⟨rn, df, dt, ds, pn, pr, pl', pw, pk, pd, tn, ts, od⟩ := M
  obtain ⟨m1, m2, m3, m4, m5, m6, m7, m8⟩ := m
  exact ⟨m1, m2, hs, m4, m5, TRS_mono m6 (Nat.le_refl _) hj (Nat.le_refl _) (fun q hq => ⟨hv q (by omega), by rw [hL]⟩), ODS_mono m7 hj (fun q hq => hv q (by omega)), fun t h1 h2 => by rw [hv t (by omega)]; exact m8 t (by omega) h2⟩
theorem nz3 : ¬ (3 : Int32) = 0 := by decide
theorem nz4 : ¬ (4 : Int32) = 0 := by decide
theorem nz5 : ¬ (5 : Int32) = 0 := by decide
theorem nz6 : ¬ (6 : Int32) = 0 := by decide
theorem kk29 {k r : Nat} (h : kOK k r) (h0 : ¬ r = 0) (h1 : r < 70) : k = 29 := h.2.2.1 h0 h1
theorem kk30 {k r : Nat} (h : kOK k r) (h0 : 70 ≤ r) (h1 : r < 76) : k = 30 := h.2.2.2.1 h0 h1
theorem sim_room {B : List Int32} {C : List CI} {i b j : Nat} {c : List CI} {e : List EVt} {M : NM} {Q : TS} {l : List EP} (hl : B.length ≤ 2000) (hi : j < (tT B).length) (m : NR B C i b M Q) (h : pRoom (kdF B) i b = (j, some (c, e))) (hm : l.map (fun x => ((x.1, x.2.1, 0) : EVt)) = e.filter isR) : SIM B C j (b + c.length) M Q e l := by
  obtain ⟨rfl, rfl, rfl, k29⟩ := room_inv h
  obtain ⟨p, rfl⟩ := map1 (show l.map (fun x => ((x.1, x.2.1, 0) : EVt)) = [(60, i + 1, 0)] from hm)
  have gp := pn_pl m
  obtain ⟨rn, df, dt, ds, pn, pr, pl', pw, pk, pd, tn, ts, od⟩ := M
  obtain ⟨⟨k, n, f, wd, rs, ps, tw, nr, np, nt, nd⟩, s, td, tp, tt, wo, ki, ne⟩ := Q
  have m0 := m
  obtain ⟨⟨⟨r1, rfl, r3⟩, hp, ht, ⟨x1, x2, x3⟩⟩, ⟨w1, w2, w3⟩, hs, hd, hP, hT, hO, hv⟩ := m
  dsimp only at hd hP hT hO hv
  have hn : i + 1 < n := by omega
  obtain ⟨N1, N2⟩ := new_nm (X := (k, n, f, wd, rs, ps, tw, rn.length, np, nt, nd)) (i := i + 1) (most := 12) (nm_t hl k29) r1 (by omega) (by decide) hs
  have ec : cs B (60, i + 1, p) (rn, df, dt, ds, pn, pr, pl', pw, pk, pd, tn, ts, od) = ((nTl (sgT B (i + 1)) rn 12).1, (nTl (sgT B (i + 1)) rn 12).2, df, dt, ds, pn, pr, pl', pw, pk, pd, tn, ts, od) := cs_nm k29
  have e1 : evTs ((k, n, f, wd, rs, ps, tw, rn.length, np, nt, nd), s, td, tp, tt, wo, ki, ne) [(60, i + 1, 0), (1, i + 1, 0)] = evT ((k, n, f, wd, rs, ps, tw, rn.length, np, nt, nd), sNw (k, n, f, wd, rs, ps, tw, rn.length, np, nt, nd) s (i + 1) (fnL rs (wd (i + 1)) rn.length 0) (decide (rn.length = 12)), td, tp, tt, wo, ki, ne) (1, i + 1, 0) := rfl
  rw [(x3 (i + 1) hn).2] at e1
  have gl : plL (rn, df, dt, ds, pn, pr, pl', pw, pk, pd, tn, ts, od) - 1 ≤ pnL (rn, df, dt, ds, pn, pr, pl', pw, pk, pd, tn, ts, od) := by omega
  unfold SIM
  rw [gC, fC, ec]
  by_cases z : (nTl (sgT B (i + 1)) rn 12).1 = 0
  · rw [if_pos z]
    obtain ⟨a1, a2, a3, a4⟩ := N1 z
    refine ⟨⟨gl, fun _ => gl⟩, fun _ => ?_, fun h => absurd rfl h⟩
    rw [fC, e1, a2, a1]
    show NR B C (i + 3) (b + 0) _ (if s.1 = 0 then (adR (wd (i + 1)) (k, n, f, wd, rs, ps, tw, rn.length, np, nt, nd), s, td, tp, tt, wo, ki, ne) else _)
    rw [if_pos hs]
    refine ⟨⟨⟨?_, ?_, ?_⟩, hp, ht, ⟨x1, x2, x3⟩⟩, ⟨w10_add w1 sgn_len, w2, w3⟩, hs, hd, PTS_nr hP (by rw [List.length_append]; omega), TRS_mono hT (Nat.le_refl _) (by omega) (by omega) (fun q _ => ⟨rfl, rfl⟩), ODS_mono hO (by omega) (fun q _ => rfl), fun j h1 h2 => hv j (by omega) h2⟩
    · rw [(x3 (i + 1) hn).2]; exact a4
    · rw [List.length_append]; rfl
    · show rn.length + 1 ≤ 12
      omega
  · rw [if_neg z]
    refine ⟨⟨gl, fun q => absurd q z⟩, fun q => absurd q z, fun _ => ⟨?_, hn⟩⟩
    rw [e1]
    obtain ⟨b1, b2⟩ := N2 z
    exact evT_e ⟨b1, b2, z⟩
