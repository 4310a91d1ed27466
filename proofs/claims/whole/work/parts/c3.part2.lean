/-! THE CLASS'S NAMING AND THE REFERENCE'S: A PART'S KIND, NEEDS, HEAD -/
theorem cs_kd {B : List Int32} {t : Nat} {p : Int32} {M : NM} (h : 7 ≤ kdF B t ∧ kdF B t ≤ 9) : cs B (76, t, p) M = (0, nKD (Int32.ofNat (kdF B t)) M) := by
  obtain ⟨rn, df, dt, ds, pn, pr, pl', pw, pk, pd, tn, ts, od⟩ := M
  unfold cs nStep
  dsimp only
  rw [if_neg (show ¬ ((tT B).getD t (0, 0, 0, 0)).1 = 30 by have := h.2; unfold kdF at this; omega)]
  rfl
theorem PM_f {B : List Int32} {C : List CI} {i0 b j : Nat} {kd : Int32} {M : NM} {X : PX} {s : RS} {td tp tt : Nat → Int32} {wo ki ne : Int32} (m : PM B C i0 b j kd M (X, s, td, tp, tt, wo, ki, ne)) : X.2.1 = (tT B).length ∧ X.1 = kdF B ∧ s.1 = 0 ∧ ∀ t, j ≤ t → t < X.2.1 → s.2.2.1 t = nuT B t := by
  obtain ⟨rn, df, dt, ds, pn, pr, pl', pw, pk, pd, tn, ts, od⟩ := M
  obtain ⟨k, n, f, wd, rs, ps, tw, nr, np, nt, nd⟩ := X
  obtain ⟨pn0, pr0, pl0, pw0, pk0, pd0, sg, x, y, w, e1, e2, e3, e4, e5, e6, m, _⟩ := m
  exact ⟨m.1.2.2.2.2.1, m.1.2.2.2.1, m.2.2.1, m.2.2.2.2.2.2.2⟩
theorem sim_p1 {B : List Int32} {C : List CI} {i0 b i j b' : Nat} {c : List CI} {e : List EVt} {M : NM} {Q : TS} {l : List EP} (hl : B.length ≤ 2000) (hj : j < (tT B).length) (m : PM B C i0 b i 0 M Q) (h : pP1 (kdF B) i0 i b' = (j, some (c, e))) (hm : l.map (fun x => ((x.1, x.2.1, 0) : EVt)) = e.filter isR) (hk : ∀ x, x ∈ l → kOK (kdF B x.2.1) x.1) : SIM B C j b M Q e l := by
  rcases p1_inv h with h2 | ⟨b'', e', rfl, h2⟩
  · exact sim_p2 hl hj m h2 hm hk
  · obtain ⟨p, l', rfl, hm'⟩ := mapC (show l.map (fun x => ((x.1, x.2.1, 0) : EVt)) = (76, i + 1, 0) :: e'.filter isR from hm)
    have k3 := (hk (76, i + 1, p) (by simp)).2.2.2.2 rfl
    dsimp only at k3
    have gl := PM_gl m
    obtain ⟨X, s, td, tp, tt, wo, ki, ne⟩ := Q
    obtain ⟨hn, hX, hs, hv⟩ := PM_f m
    refine SIM_ok (Q' := (X, s, td, tp, tt, wo, Int32.ofNat (X.1 (i + 1)) - 7, ne)) gl (cs_kd k3) rfl (sim_p2 (kd := Int32.ofNat (X.1 (i + 1)) - 7) hl hj ?_ h2 hm' (fun x hx => hk x (List.mem_cons_of_mem _ hx)))
    obtain ⟨rn, df, dt, ds, pn, pr, pl', pw, pk, pd, tn, ts, od⟩ := M
    obtain ⟨pn0, pr0, pl0, pw0, pk0, pd0, sg, x, y, w, e1, e2, e3, e4, e5, e6, m, n1, n2, n3, n4, n5, n6, n7, n8, n9, na, nb, nc⟩ := m
    have lp : pk0.length = pl0.length := m.2.2.2.2.1.2.2.2.1.trans m.2.2.2.2.1.2.1.symm
    have np16 : pl0.length < 16 := by have : pl0.length = pn0.length := pn_pl m; omega
    have ll : pl'.length = pl0.length + 1 := by rw [e3, List.length_append, List.length_singleton]
    have ek : (if Int32.ofNat (kdF B (i + 1)) = 8 then ls pk (Int32.ofNat pl'.length - 1) 1 else if Int32.ofNat (kdF B (i + 1)) = 9 then ls pk (Int32.ofNat pl'.length - 1) 2 else pk) = pk0 ++ [Int32.ofNat (X.1 (i + 1)) - 7] := by
      rw [ll, subl, ls_of (by omega), ls_of (by omega), e5, set_e lp.symm, set_e lp.symm, hX]
      rcases (show kdF B (i + 1) = 7 ∨ kdF B (i + 1) = 8 ∨ kdF B (i + 1) = 9 by omega) with e | e | e <;> rw [e] <;> rfl
    refine ⟨pn0, pr0, pl0, pw0, pk0, pd0, sg, x, y, w, e1, e2, e3, e4, ek, e6, NR_s m (by omega) hs (fun q _ => rfl) rfl, n1, n2, n3, n4, n5, n6, n7, n8, rfl, na, nb, by omega⟩
theorem p1_j {k : Nat → Nat} {i0 i b j : Nat} {c : List CI} {e : List EVt} (h : pP1 k i0 i b = (j, some (c, e))) : i + 1 ≤ j ∧ c = [] := by
  rcases p1_inv h with h | ⟨_, _, _, h⟩
  · obtain ⟨h1, h2⟩ := p2_inv h
    exact ⟨by omega, h1⟩
  · obtain ⟨h1, h2⟩ := p2_inv h
    exact ⟨by omega, h1⟩
theorem nd_j {k : Nat → Nat} {i0 : Nat} : ∀ {n i b j : Nat} {c : List CI} {e : List EVt}, pNd k i0 n i b = (j, some (c, e)) → i + 3 ≤ j ∧ c = []
  | 0, _, _, _, _, _, h => by cases h
  | n + 1, i, b, j, c, e, h => by
    obtain ⟨_, _, _, h | h⟩ := nd_inv h
    · obtain ⟨h1, h2⟩ := nd_j h
      exact ⟨by omega, h2⟩
    · obtain ⟨h1, h2⟩ := p1_j h
      exact ⟨by omega, h2⟩
theorem take_e {N : List (List Int32)} {sg : List Int32} {n : Nat} (h : n = N.length) : (N ++ [sg]).take n = N := by
  subst h
  exact List.take_left
theorem sim_nd {B : List Int32} {C : List CI} {i0 b j : Nat} (hl : B.length ≤ 2000) (hj : j < (tT B).length) : ∀ (n i b' : Nat) (c : List CI) (e : List EVt) (M : NM) (Q : TS) (l : List EP), PM B C i0 b i 0 M Q → pNd (kdF B) i0 n i b' = (j, some (c, e)) → l.map (fun x => ((x.1, x.2.1, 0) : EVt)) = e.filter isR → (∀ x, x ∈ l → kOK (kdF B x.2.1) x.1) → SIM B C j b M Q e l := by
  intro n
  induction n with
  | zero => intro i b' c e M Q l _ h; cases h
  | succ n ih =>
    intro i b' c e M Q l m h hm hk
    have hij := (nd_j h).1
    obtain ⟨b'', e', rfl, h2⟩ := nd_inv h
    clear h
    obtain ⟨p, l', rfl, hm'⟩ := mapC (show l.map (fun x => ((x.1, x.2.1, 0) : EVt)) = (65, i + 1, 0) :: e'.filter isR from hm)
    have k3 : kdF B (i + 1) = 29 := kk29 (r := 65) (hk (65, i + 1, p) (by simp)) (by decide) (by decide)
    have gl := PM_gl m
    have go : ∀ M' Q', PM B C i0 b (i + 2) 0 M' Q' → SIM B C j b M' Q' e' l' := by
      intro M' Q' m'
      have hk' : ∀ x, x ∈ l' → kOK (kdF B x.2.1) x.1 := fun x hx => hk x (List.mem_cons_of_mem _ hx)
      rcases h2 with h | h
      · exact ih _ _ _ _ _ _ _ m' h hm' hk'
      · exact sim_p1 hl hj m' h hm' hk'
    obtain ⟨⟨k, n', f, wd, rs, ps, tw, nr, np, nt, nd⟩, s, td, tp, tt, wo, ki, ne⟩ := Q
    obtain ⟨hn, hX, hs, hv⟩ := PM_f m
    have hn : n' = (tT B).length := hn
    obtain ⟨rn, df, dt, ds, pn, pr, pl', pw, pk, pd, tn, ts, od⟩ := M
    obtain ⟨pn0, pr0, pl0, pw0, pk0, pd0, sg, x, y, w, e1, e2, e3, e4, e5, e6, m, n1, n2, n3, n4, n5, n6, n7, n8, n9, na, nb, nc⟩ := m
    obtain ⟨p1, p2, p3⟩ := m.1.2.1
    have hw := (m.1.2.2.2.2.2 (i + 1) (by omega)).2
    obtain ⟨a1, a2⟩ := look (nm_t hl k3) p1 (by omega)
    have lp : pd0.length = pl0.length := m.2.2.2.2.1.2.2.2.2.1.trans m.2.2.2.2.1.2.1.symm
    have lq : pl0.length = pn0.length := pn_pl m
    have ll : pl'.length = pl0.length + 1 := by rw [e3, List.length_append, List.length_singleton]
    have hc : cs B (65, i + 1, p) (rn, df, dt, ds, pn, pr, pl', pw, pk, pd, tn, ts, od) = if fnd (sgT B (i + 1)) (pn.take (pl'.length - 1)) 0 < 0 then ((3 : Int32), rn, df, dt, ds, pn, pr, pl', pw, pk, pd, tn, ts, od) else ((0 : Int32), rn, df, dt, ds, pn, pr, pl', pw, pk, ls pd (Int32.ofNat pl'.length - 1) (lg pd (Int32.ofNat pl'.length - 1) ||| (1 : Int32) <<< (fnd (sgT B (i + 1)) (pn.take (pl'.length - 1)) 0 &&& 31)), tn, ts, od) := cs_nm k3
    have et : pn.take (pl'.length - 1) = pn0 := by rw [e1]; exact take_e (by omega)
    have eg : lg pd (Int32.ofNat pl0.length) = ne := by rw [lg_of (by omega), e6, ← lp, getD_e]
    rw [et, ll, subl, eg, ls_of (by omega), e6, set_e lp.symm] at hc
    have hE : evT ((k, n', f, wd, rs, ps, tw, nr, np, nt, nd), s, td, tp, tt, wo, ki, ne) (65, i + 1, 0) = ((k, n', f, wd, rs, ps, tw, nr, np, nt, nd), sNm (k, n', f, wd, rs, ps, tw, nr, np, nt, nd) s (i + 1) (fnL ps (wd (i + 1)) np 0), td, tp, tt, wo, ki, ne ||| (if (sNm (k, n', f, wd, rs, ps, tw, nr, np, nt, nd) s (i + 1) (fnL ps (wd (i + 1)) np 0)).1 = 0 then (1 : Int32) <<< ((sNm (k, n', f, wd, rs, ps, tw, nr, np, nt, nd) s (i + 1) (fnL ps (wd (i + 1)) np 0)).2.2.1 (i + 1) &&& 31) else 0)) := rfl
    rw [hw, ← p2, ← a1, p2] at hE
    rw [e6] at gl
    rw [e6]
    rcases a2 with ⟨g1, g2⟩ | ⟨u1, u2, u3, u4, u5⟩
    · rw [if_pos g2] at hc
      obtain ⟨z1, z2⟩ := sNm_no (X := (k, n', f, wd, rs, ps, tw, nr, np, nt, nd)) (s := s) (i := i + 1) g1 hs
      exact SIM_er gl (by rw [hc]; first | exact nz3 | exact nz4 | exact nz5 | exact nz6) (by rw [hc, hE]; exact z1) (by rw [hE]; exact z2) (by show i + 1 < n'; omega)
    · rw [if_neg u4] at hc
      rw [sNm_ok u5, if_pos (show (sV s (i + 1) (fnd (sgT B (i + 1)) pn0 0)).1 = 0 from hs), show (sV s (i + 1) (fnd (sgT B (i + 1)) pn0 0)).2.2.1 (i + 1) = fnd (sgT B (i + 1)) pn0 0 from if_pos rfl] at hE
      refine SIM_ok gl hc hE (go _ _ ?_)
      have V0 : ∀ q, ¬ q = i + 1 → (sV s (i + 1) (fnd (sgT B (i + 1)) pn0 0)).2.2.1 q = s.2.2.1 q := fun q hq => if_neg hq
      exact ⟨pn0, pr0, pl0, pw0, pk0, pd0, sg, x, y, w, e1, e2, e3, e4, e5, rfl, NR_s m (by omega) hs (fun q hq => V0 q (by omega)) rfl, n1, n2, n3, n4, n5, n6, n7, n8, n9, (V0 _ (by omega)).trans na, (V0 _ (by omega)).trans nb, by omega⟩
theorem part_inv {k : Nat → Nat} {i b j : Nat} {c : List CI} {e : List EVt} (h : pPart k i b = (j, some (c, e))) : ∃ b' e', e = (63, i + 1, 0) :: (64, i + 3, 0) :: (71, i + 4, 0) :: e' ∧ ((∃ n, pNd k (i + 1) n (i + 5) b' = (j, some (c, e'))) ∨ pP1 k (i + 1) (i + 5) b' = (j, some (c, e'))) := by
  obtain ⟨l1, c1, f1, c2, f2, a1, a2, rfl, rfl⟩ := sq_inv h
  obtain ⟨_, rfl, rfl, rfl⟩ := tk_inv a1
  obtain ⟨l2, c3, f3, c4, f4, a3, a4, rfl, rfl⟩ := sq_inv a2
  obtain ⟨_, rfl, rfl, rfl⟩ := nmk_inv a3
  obtain ⟨l3, c5, f5, c6, f6, a5, a6, rfl, rfl⟩ := sq_inv a4
  obtain ⟨_, rfl, rfl, rfl⟩ := tk_inv a5
  obtain ⟨l4, c7, f7, c8, f8, a7, a8, rfl, rfl⟩ := sq_inv a6
  obtain ⟨_, rfl, rfl, rfl⟩ := nmk_inv a7
  obtain ⟨l5, c9, f9, ca, fa, a9, aa, rfl, rfl⟩ := sq_inv a8
  obtain ⟨_, rfl, rfl, rfl⟩ := nmk_inv a9
  refine ⟨b + ([] : List CI).length + ([] : List CI).length + ([] : List CI).length + ([] : List CI).length + ([] : List CI).length, fa, rfl, ?_⟩
  unfold pPX at aa
  by_cases c4 : k (i + 1 + 1 + 1 + 1 + 1) = 4
  · rw [if_pos c4] at aa; exact Or.inl ⟨_, aa⟩
  · rw [if_neg c4] at aa; exact Or.inr aa
theorem sim_part {B : List Int32} {C : List CI} {i b j : Nat} {c : List CI} {e : List EVt} {M : NM} {Q : TS} {l : List EP} (hl : B.length ≤ 2000) (hj : j < (tT B).length) (m : NR B C i b M Q) (h : pPart (kdF B) i b = (j, some (c, e))) (hm : l.map (fun x => ((x.1, x.2.1, 0) : EVt)) = e.filter isR) (hk : ∀ x, x ∈ l → kOK (kdF B x.2.1) x.1) : SIM B C j (b + c.length) M Q e l := by
  obtain ⟨b', e', rfl, h2⟩ := part_inv h
  clear h
  have hij : i + 6 ≤ j ∧ c = [] := by
    rcases h2 with ⟨n, h⟩ | h
    · have := nd_j h; exact ⟨by omega, this.2⟩
    · have := p1_j h; exact ⟨by omega, this.2⟩
  obtain ⟨hij, rfl⟩ := hij
  obtain ⟨p1, l1, rfl, hm1⟩ := mapC (show l.map (fun x => ((x.1, x.2.1, 0) : EVt)) = (63, i + 1, 0) :: (64, i + 3, 0) :: (71, i + 4, 0) :: e'.filter isR from hm)
  obtain ⟨p2, l2, rfl, hm2⟩ := mapC hm1
  obtain ⟨p3, l3, rfl, hm3⟩ := mapC hm2
  have k1 : kdF B (i + 1) = 29 := kk29 (r := 63) (hk (63, i + 1, p1) (by simp)) (by decide) (by decide)
  have k2 : kdF B (i + 3) = 29 := kk29 (r := 64) (hk (64, i + 3, p2) (by simp)) (by decide) (by decide)
  have k3 : kdF B (i + 4) = 30 := kk30 (r := 71) (hk (71, i + 4, p3) (by simp)) (by decide) (by decide)
  have go : ∀ M' Q', PM B C (i + 1) b (i + 5) 0 M' Q' → SIM B C j b M' Q' e' l3 := by
    intro M' Q' m'
    have hk' : ∀ x, x ∈ l3 → kOK (kdF B x.2.1) x.1 := fun x hx => hk x (by simp [hx])
    rcases h2 with ⟨n, h⟩ | h
    · exact sim_nd hl hj _ _ _ _ _ _ _ _ m' h hm3 hk'
    · exact sim_p1 hl hj m' h hm3 hk'
  have gp := pn_pl m
  obtain ⟨rn, df, dt, ds, pn, pr, pl', pw, pk, pd, tn, ts, od⟩ := M
  obtain ⟨⟨k, n, f, wd, rs, ps, tw, nr, np, nt, nd⟩, s, td, tp, tt, wo, ki, ne⟩ := Q
  have m0 := m
  obtain ⟨⟨⟨r1, r2, r3⟩, ⟨q1, rfl, q3⟩, ht, ⟨x1, x2, x3⟩⟩, ⟨w1, w2, w3⟩, hs, hd, hP, hT, hO, hv⟩ := m
  dsimp only at hd hP hT hO hv
  have hs : s.1 = 0 := hs
  have gp : pl'.length = pn.length := gp
  have hn1 : i + 1 < n := by omega
  have hn3 : i + 3 < n := by omega
  have hn4 : i + 4 < n := by omega
  have hP0 := hP
  obtain ⟨l1', l2', l3', l4', l5', _⟩ := hP
  have gl : plL (rn, df, dt, ds, pn, pr, pl', pw, pk, pd, tn, ts, od) - 1 ≤ pnL (rn, df, dt, ds, pn, pr, pl', pw, pk, pd, tn, ts, od) := by
    show pl'.length - 1 ≤ pn.length
    omega
  show SIM B C j b _ _ _ _
  -- the name
  obtain ⟨N1, N2⟩ := new_nm (X := (k, n, f, wd, rs, ps, tw, nr, pn.length, nt, nd)) (i := i + 1) (most := 16) (nm_t hl k1) q1 (by omega) (by decide) hs
  have c1 : cs B (63, i + 1, p1) (rn, df, dt, ds, pn, pr, pl', pw, pk, pd, tn, ts, od) = ((nTl (sgT B (i + 1)) pn 16).1, rn, df, dt, ds, (nTl (sgT B (i + 1)) pn 16).2, pr, pl', pw, pk, pd, tn, ts, od) := cs_nm k1
  have E1 : evT ((k, n, f, wd, rs, ps, tw, nr, pn.length, nt, nd), s, td, tp, tt, wo, ki, ne) (63, i + 1, 0) = ((k, n, f, wd, rs, ps, tw, nr, pn.length, nt, nd), sNw (k, n, f, wd, rs, ps, tw, nr, pn.length, nt, nd) s (i + 1) (fnL ps (wd (i + 1)) pn.length 0) (decide (pn.length = 16)), td, tp, tt, 1, 0, 0) := rfl
  rw [(x3 _ hn1).2] at E1
  by_cases z : (nTl (sgT B (i + 1)) pn 16).1 = 0
  · obtain ⟨a1, a2, a3, a4⟩ := N1 z
    rw [z, a1] at c1
    rw [a2] at E1
    refine SIM_ok gl c1 E1 ?_
    have gl1 : plL (rn, df, dt, ds, pn ++ [sgT B (i + 1)], pr, pl', pw, pk, pd, tn, ts, od) - 1 ≤ pnL (rn, df, dt, ds, pn ++ [sgT B (i + 1)], pr, pl', pw, pk, pd, tn, ts, od) := by
      show pl'.length - 1 ≤ (pn ++ [sgT B (i + 1)]).length
      rw [List.length_append]
      omega
    -- its room
    obtain ⟨b1, b2⟩ := look (nm_t hl k2) r1 (by omega)
    have c2 : cs B (64, i + 3, p2) (rn, df, dt, ds, pn ++ [sgT B (i + 1)], pr, pl', pw, pk, pd, tn, ts, od) = if fnd (sgT B (i + 3)) rn 0 < 0 then (3, rn, df, dt, ds, pn ++ [sgT B (i + 1)], pr, pl', pw, pk, pd, tn, ts, od) else (0, rn, df, dt, ds, pn ++ [sgT B (i + 1)], la 16 pr (fnd (sgT B (i + 3)) rn 0), pl', la 16 pw 1, la 16 pk 0, la 16 pd 0, tn, ts, od) := cs_nm k2
    rw [la_ok (by omega), la_ok (by omega), la_ok (by omega), la_ok (by omega)] at c2
    have E2 : evT ((k, n, f, wd, rs, ps, tw, nr, pn.length, nt, nd), s, td, tp, tt, 1, 0, 0) (64, i + 3, 0) = ((k, n, f, wd, rs, ps, tw, nr, pn.length, nt, nd), sNm (k, n, f, wd, rs, ps, tw, nr, pn.length, nt, nd) s (i + 3) (fnL rs (wd (i + 3)) nr 0), td, tp, tt, 1, 0, 0) := rfl
    rw [(x3 _ hn3).2, ← r2, ← b1, r2] at E2
    rcases b2 with ⟨g1, g2⟩ | ⟨u1, u2, u3, u4, u5⟩
    · rw [if_pos g2] at c2
      obtain ⟨z1, z2⟩ := sNm_no (X := (k, n, f, wd, rs, ps, tw, nr, pn.length, nt, nd)) (s := s) (i := i + 3) g1 hs
      exact SIM_er gl1 (by rw [c2]; first | exact nz3 | exact nz4 | exact nz5 | exact nz6) (by rw [c2, E2]; exact z1) (by rw [E2]; exact z2) hn3
    rw [if_neg u4, u3] at c2
    rw [sNm_ok u5, u3] at E2
    refine SIM_ok gl1 c2 E2 ?_
    have gl2 : plL (rn, df, dt, ds, pn ++ [sgT B (i + 1)], pr ++ [Int32.ofNat u1], pl', pw ++ [1], pk ++ [0], pd ++ [0], tn, ts, od) - 1 ≤ pnL (rn, df, dt, ds, pn ++ [sgT B (i + 1)], pr ++ [Int32.ofNat u1], pl', pw ++ [1], pk ++ [0], pd ++ [0], tn, ts, od) := gl1
    -- its length
    obtain ⟨v, v1, v2⟩ := nu_n hl k3
    have c3 : cs B (71, i + 4, p3) (rn, df, dt, ds, pn ++ [sgT B (i + 1)], pr ++ [Int32.ofNat u1], pl', pw ++ [1], pk ++ [0], pd ++ [0], tn, ts, od) = (if inR (nuT B (i + 4)) 1 900 = true then 0 else 5, rn, df, dt, ds, pn ++ [sgT B (i + 1)], pr ++ [Int32.ofNat u1], la 16 pl' (nuT B (i + 4)), pw ++ [1], pk ++ [0], pd ++ [0], tn, ts, od) := cs_nu k3
    rw [la_ok (by omega)] at c3
    have E3 : evT ((k, n, f, wd, rs, ps, tw, nr, pn.length, nt, nd), sV s (i + 3) (Int32.ofNat u1), td, tp, tt, 1, 0, 0) (71, i + 4, 0) = ((k, n, f, wd, rs, ps, tw, nr, pn.length, nt, nd), sMn (k, n, f, wd, rs, ps, tw, nr, pn.length, nt, nd) (sV s (i + 3) (Int32.ofNat u1)) (i + 4) (!inR ((sV s (i + 3) (Int32.ofNat u1)).2.2.1 (i + 4)) 1 900) 5, td, tp, tt, 1, 0, 0) := rfl
    have V0 : ∀ q, ¬ q = i + 3 → (sV s (i + 3) (Int32.ofNat u1)).2.2.1 q = s.2.2.1 q := fun q hq => if_neg hq
    have V4 : (sV s (i + 3) (Int32.ofNat u1)).2.2.1 (i + 4) = nuT B (i + 4) := (V0 _ (by omega)).trans (hv _ (by omega) hn4)
    rw [V4] at E3
    by_cases c : inR (nuT B (i + 4)) 1 900 = true
    · rw [if_pos c, v2] at c3
      rw [c, sMn_ok (b := !true) rfl] at E3
      refine SIM_ok gl2 c3 E3 (go _ _ ?_)
      obtain ⟨h1, h2⟩ := inR_of (v := v) (a := 1) (c := 900) (by omega) (by decide) (by decide) v2 c
      refine ⟨pn, pr, pl', pw, pk, pd, sgT B (i + 1), u1, v, 1, rfl, rfl, rfl, rfl, rfl, rfl, NR_s m0 (by omega) hs (fun q hq => V0 q (by omega)) rfl, ?_, sgn_len, a3, u2, h1, h2, by decide, rfl, rfl, if_pos rfl, V4.trans v2, by omega⟩
      show nmOK (sgT B (i + 1)) (wd (i + 1))
      rw [(x3 _ hn1).2]
      exact nm_t hl k1
    · rw [if_neg c] at c3
      obtain ⟨z1, z2⟩ := sMn_no (X := (k, n, f, wd, rs, ps, tw, nr, pn.length, nt, nd)) (s := sV s (i + 3) (Int32.ofNat u1)) (i := i + 4) (b := !inR (nuT B (i + 4)) 1 900) (n := 5) (by rw [not_b c]; rfl) hs
      exact SIM_er gl2 (by rw [c3]; first | exact nz3 | exact nz4 | exact nz5 | exact nz6) (by rw [c3, E3]; exact z1) (by rw [E3]; exact z2) hn4
  · obtain ⟨b1, b2⟩ := N2 z
    exact SIM_er gl (by rw [c1]; exact z) (by rw [c1, E1]; exact b1) (by rw [E1]; exact b2) hn1
