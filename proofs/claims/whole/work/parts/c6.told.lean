/-! A TEXT TOLD: BOTH SIDES' STATES -/
def psOf (pr pl' pw pk pd : List Int32) : List PT := (List.range pr.length).map (fun q => (pr.getD q 0, pl'.getD q 0, pw.getD q 0, pk.getD q 0, pd.getD q 0))
def dnOf (df dt ds : List Int32) : List NS := (List.range df.length).map (fun q => ((df.getD q 0).toNatClampNeg, (dt.getD q 0).toNatClampNeg, (ds.getD q 0).toNatClampNeg))
def eOf (os : List Int32) : NM → EV
  | (_, df, dt, ds, _, pr, pl', pw, pk, pd, _, ts, od) => ([], dnOf df dt ds, psOf pr pl' pw pk pd, os, od, ts)
theorem rg_map {α : Type} {l : List Int32} {n : Nat} {f : Nat → α} {g : α → Int32} (hn : l.length = n) (h : ∀ q, q < n → g (f q) = l.getD q 0) : ((List.range n).map f).map g = l := by
  refine ext_getD (x := 0) (by rw [List.length_map, List.length_map, List.length_range, hn]) (fun i hi => ?_)
  rw [List.length_map, List.length_map, List.length_range] at hi
  rw [getD_lt (by rw [List.length_map, List.length_map, List.length_range]; exact hi), List.getElem_map, List.getElem_map, List.getElem_range]
  exact h i hi
theorem psOf_m {pr pl' pw pk pd : List Int32} {n : Nat} (h1 : pr.length = n) (h2 : pl'.length = n) (h3 : pw.length = n) (h4 : pk.length = n) (h5 : pd.length = n) : (psOf pr pl' pw pk pd).length = n ∧ (psOf pr pl' pw pk pd).map (·.1) = pr ∧ (psOf pr pl' pw pk pd).map (·.2.1) = pl' ∧ (psOf pr pl' pw pk pd).map (·.2.2.1) = pw ∧ (psOf pr pl' pw pk pd).map (·.2.2.2.1) = pk ∧ (psOf pr pl' pw pk pd).map (·.2.2.2.2) = pd := by
  unfold psOf
  rw [h1]
  exact ⟨by rw [List.length_map, List.length_range], rg_map h1 (fun q _ => rfl), rg_map h2 (fun q _ => rfl), rg_map h3 (fun q _ => rfl), rg_map h4 (fun q _ => rfl), rg_map h5 (fun q _ => rfl)⟩
theorem dnOf_m {dn : List NS} (h : dnOK dn) : dnOf (dn.map (fun d => Int32.ofNat d.1)) (dn.map (fun d => Int32.ofNat d.2.1)) (dn.map (fun d => Int32.ofNat d.2.2)) = dn := by
  unfold dnOf
  rw [List.length_map]
  apply List.ext_getElem
  · rw [List.length_map, List.length_range]
  · intro i h1 h2
    obtain ⟨a, b, c, d⟩ := h _ (List.getElem_mem h2)
    rw [List.getElem_map, List.getElem_range, getD_lt (by rw [List.length_map]; exact h2), getD_lt (by rw [List.length_map]; exact h2), getD_lt (by rw [List.length_map]; exact h2), List.getElem_map, List.getElem_map, List.getElem_map, i_of_n (by omega), i_of_n (by omega), i_of_n (by omega)]
theorem qOK_0 {dn : List NS} {a : Int32} {l : List Int32} (hl : l.length = 144) : qOK dn (a, 0, l) := ⟨hl, fun f hf h => by rw [bt_zero (by omega)] at h; cases h⟩
/-- the class's state after a text was told -/
theorem told_g {H : mH} {u : Nat} {os : List Int32} {M : NM} {vs : List (Int32 × Int32 × Int32)} {P : List Int32} {B : List Int32} {C : List CI} {i b : Nat} {Q : TS} {K : VK} {S : VS} {ea : Bool} (hu : u = 233 ∨ u = 287) (t : tR H u os M vs P) (h144 : (rL H 231).length = 144) (m : NR B C i b M Q) : gR H (u, eOf os M, M.1, M.2.2.2.2.1, M.2.2.2.2.2.2.2.2.2.2.1, [], -1, vs, false, K, S, ea, P) := by
  obtain ⟨rn, df, dt, ds, pn, pr, pl', pw, pk, pd, tn, ts, od⟩ := M
  obtain ⟨X, s, td, tp, tt, wo, ki, ne⟩ := Q
  obtain ⟨_, _, _, ⟨dn, d1, d2, d3, d4, d5, d6, d7⟩, ⟨p1, p2, p3, p4, p5, _⟩, _⟩ := m
  obtain ⟨⟨hk, w1, w2, w3, k1, k2, k3, k4, k5, k6, k7, k8, k9, ka, kb, kc, ke⟩, t1, t2, t3, t4, t5, t6, t7, t8, t9, ta, tb, tc, td'⟩ := t
  obtain ⟨_, e1, e2, e3, e4, e5⟩ := psOf_m p1 p2 p3 p4 p5
  subst d1 d2 d3
  refine ⟨hk, ⟨⟨hu, ?_, t3, t2, ⟨?_, ?_, ?_⟩, ?_, ?_, ?_, ?_, ?_⟩, ?_, t1, ke, kc⟩, ?_, ⟨w1, w2, w3, k1, k5, kb⟩, t5, t6, t7, t8, t9, ta, ⟨tb, tc, td'⟩⟩
  · show ((dnOf _ _ _).map cvS).length ≤ 24
    rw [dnOf_m d6, List.length_map]
    omega
  · show rL H (u + 3) = ((dnOf _ _ _).map cvS).map (·.1)
    rw [dnOf_m d6, List.map_map]; exact k2
  · show rL H (u + 5) = ((dnOf _ _ _).map cvS).map (·.2.1)
    rw [dnOf_m d6, List.map_map]; exact k3
  · show rL H (u + 7) = ((dnOf _ _ _).map cvS).map (·.2.2)
    rw [dnOf_m d6, List.map_map]; exact k4
  · exact k6.trans e1.symm
  · exact k7.trans e2.symm
  · exact k8.trans e3.symm
  · exact k9.trans e4.symm
  · exact ka.trans e5.symm
  · show dnOK (dnOf _ _ _)
    rw [dnOf_m d6]; exact d6
  · show qOK _ (mI H 224 4, mI H 224 5, rL H 231)
    rw [t4]
    exact qOK_0 h144
/-- what every text that was told keeps -/
def ROK (E : EV) (rn pn tn : List (List Int32)) : Prop := gOK E ∧ pOK E ∧ (∃ wN, psB E.2.2.1 wN) ∧ (∀ p, p < E.2.2.1.length → ∃ q, q < rn.length ∧ lg (E.2.2.1.map (·.1)) (Int32.ofNat p) = Int32.ofNat q) ∧ w10 rn ∧ w10 pn ∧ w10 tn
theorem told_ok {B : List Int32} {c : List CI} {j : Nat} {M : NM} {Q : TS} (m : NR B c j c.length M Q) : ROK (eOf (c.map (·.1)) M) M.1 M.2.2.2.2.1 M.2.2.2.2.2.2.2.2.2.2.1 := by
  obtain ⟨rn, df, dt, ds, pn, pr, pl', pw, pk, pd, tn, ts, od⟩ := M
  obtain ⟨⟨k, n, f, wd, rs, ps, tw, nr, np, nt, nd⟩, s, td, tp, tt, wo, ki, ne⟩ := Q
  obtain ⟨⟨⟨_, r2, r3⟩, ⟨_, _, q3⟩, _⟩, ⟨w1, w2, w3⟩, _, _, ⟨p1, p2, p3, p4, p5, p6⟩, _, ⟨o1, o2, o3, o4⟩, _⟩ := m
  dsimp only at p1 p2 p3 p4 p5 p6
  obtain ⟨e0, e1, e2, e3, e4, e5⟩ := psOf_m p1 p2 p3 p4 p5
  have lm : ∀ (l : List Int32) p, p < np → lg l (Int32.ofNat p) = l.getD p 0 := fun l p hp => lg_of (by omega)
  refine ⟨?_, ?_, ⟨fun p => (pw.getD p 0).toNatClampNeg, ?_, ?_⟩, ?_, w1, w2, w3⟩
  · intro pc h2
    show ∃ r, r < 12 ∧ lg od pc = Int32.ofNat r
    have h2 : lg (c.map (·.1)) pc = 2 := h2
    unfold lg at h2 ⊢
    by_cases z : pc < 0
    · rw [if_pos z] at h2; exact absurd h2 (by decide)
    · rw [if_neg z] at h2 ⊢
      generalize pc.toNatClampNeg = q at h2 ⊢
      by_cases hq : q < c.length
      · rw [getD_lt (by rw [List.length_map]; exact hq), List.getElem_map] at h2
        refine (o3 q hq).2.2 ?_
        rw [getD_lt hq]
        exact h2
      · rw [getD_ge (by rw [List.length_map]; omega)] at h2
        exact absurd h2 (by decide)
  · intro p
    show rOK12 (lg ((psOf pr pl' pw pk pd).map (·.1)) p)
    rw [e1]
    unfold lg
    by_cases z : p < 0
    · rw [if_pos z]; exact ⟨0, by decide, rfl⟩
    · rw [if_neg z]
      generalize p.toNatClampNeg = q
      by_cases hq : q < np
      · obtain ⟨x, x1, x2⟩ := (p6 q hq).2.1
        exact ⟨x, by omega, x2⟩
      · rw [getD_ge (by omega)]; exact ⟨0, by decide, rfl⟩
  · show (psOf pr pl' pw pk pd).length ≤ 16
    omega
  · intro p hp
    have hp : p < np := by rw [← e0]; exact hp
    obtain ⟨_, ⟨x, x1, x2⟩, ⟨y, y1, y2, y3⟩, ⟨w, w1, w2⟩⟩ := p6 p hp
    show rOK12 (lg ((psOf pr pl' pw pk pd).map (·.1)) (Int32.ofNat p)) ∧ lg ((psOf pr pl' pw pk pd).map (·.2.2.1)) (Int32.ofNat p) = Int32.ofNat (pw.getD p 0).toNatClampNeg ∧ (pw.getD p 0).toNatClampNeg ≤ 99 ∧ ∃ x, 1 ≤ x ∧ x ≤ 900 ∧ lg ((psOf pr pl' pw pk pd).map (·.2.1)) (Int32.ofNat p) = Int32.ofNat x
    rw [e1, e2, e3, lm _ _ hp, lm _ _ hp, lm _ _ hp, w2, i_of_n (by omega)]
    exact ⟨⟨x, by omega, x2⟩, rfl, w1, y, y1, y2, y3⟩
  · intro p hp
    have hp : p < np := by rw [← e0]; exact hp
    obtain ⟨_, ⟨x, x1, x2⟩, _⟩ := p6 p hp
    refine ⟨x, x1, ?_⟩
    show lg ((psOf pr pl' pw pk pd).map (·.1)) (Int32.ofNat p) = _
    rw [e1, lm _ _ hp]
    exact x2
