/-! THE CLASS'S NAMING AND THE REFERENCE'S: A DOOR -/
theorem evTs_4 {Q : TS} {a b c d : EVt} : evTs Q [a, b, c, d] = evT (evT (evT (evT Q a) b) c) d := rfl
theorem not_b {b : Bool} (h : ¬ b = true) : b = false := by cases b <;> first | rfl | exact absurd rfl h
theorem inR_of {x : Int32} {v a c : Nat} (hv : v ≤ 1000000) (ha : a ≤ 1000) (hc : c ≤ 1000) (e : x = Int32.ofNat v) (h : inR x (Int32.ofNat a) (Int32.ofNat c) = true) : a ≤ v ∧ v ≤ c := by
  subst e
  unfold inR at h
  rw [Bool.and_eq_true, decide_eq_true_iff, decide_eq_true_iff, i_ofle (by omega) (by omega), i_ofle (by omega) (by omega)] at h
  exact h
theorem DRS_add {df dt ds : List Int32} {td : Nat → Int32} {nd y1 y2 v : Nat} {g : Nat → Int32} (h : DRS df dt ds td nd) (hn : nd < 24) (h1 : y1 < 12) (h2 : y2 < 12) (h3 : 1 ≤ v) (h4 : v ≤ 200) (g0 : g 0 = Int32.ofNat y1) (g1 : g 1 = Int32.ofNat y2) (g2 : g 2 = Int32.ofNat v) : DRS (df ++ [Int32.ofNat y1]) (dt ++ [Int32.ofNat y2]) (ds ++ [Int32.ofNat v]) (cpF td (3 * nd) 3 g) (nd + 1) := by
  obtain ⟨dn, a1, a2, a3, a4, a5, a6, a7⟩ := h
  subst a1 a2 a3
  refine ⟨dn ++ [(y1, y2, v)], by rw [List.map_append]; rfl, by rw [List.map_append]; rfl, by rw [List.map_append]; rfl, by rw [List.length_append, List.length_singleton, a4], by omega, ?_, fun q hq => ?_⟩
  · intro d hd
    rcases List.mem_append.mp hd with z | z
    · exact a6 d z
    · rw [List.mem_singleton] at z; subst z; exact ⟨h1, h2, h3, h4⟩
  · unfold cpF
    by_cases c : q = nd
    · subst c
      rw [if_pos (by omega), if_pos (by omega), if_pos (by omega), Nat.sub_self, Nat.add_sub_cancel_left, Nat.add_sub_cancel_left, ← a4, getD_e]
      exact ⟨g0, g1, g2⟩
    · rw [if_neg (by omega), if_neg (by omega), if_neg (by omega), getD_l (by omega)]
      exact a7 q (by omega)
theorem sim_door {B : List Int32} {C : List CI} {i b j : Nat} {c : List CI} {e : List EVt} {M : NM} {Q : TS} {l : List EP} (hl : B.length ≤ 2000) (hi : j < (tT B).length) (m : NR B C i b M Q) (h : pDoor (kdF B) i b = (j, some (c, e))) (hm : l.map (fun x => ((x.1, x.2.1, 0) : EVt)) = e.filter isR) (hk : ∀ x, x ∈ l → kOK (kdF B x.2.1) x.1) : SIM B C j (b + c.length) M Q e l := by
  obtain ⟨rfl, rfl, rfl⟩ := door_inv h
  obtain ⟨p1, l1, rfl, hm1⟩ := mapC (show l.map (fun x => ((x.1, x.2.1, 0) : EVt)) = [(61, i + 1, 0), (62, i + 2, 0), (70, i + 3, 0)] from hm)
  obtain ⟨p2, l2, rfl, hm2⟩ := mapC hm1
  obtain ⟨p3, rfl⟩ := map1 hm2
  have k1 : kdF B (i + 1) = 29 := kk29 (r := 61) (hk (61, i + 1, p1) (by simp)) (by decide) (by decide)
  have k2 : kdF B (i + 2) = 29 := kk29 (r := 62) (hk (62, i + 2, p2) (by simp)) (by decide) (by decide)
  have k3 : kdF B (i + 3) = 30 := kk30 (r := 70) (hk (70, i + 3, p3) (by simp)) (by decide) (by decide)
  have gp := pn_pl m
  obtain ⟨rn, df, dt, ds, pn, pr, pl', pw, pk, pd, tn, ts, od⟩ := M
  obtain ⟨⟨k, n, f, wd, rs, ps, tw, nr, np, nt, nd⟩, s, td, tp, tt, wo, ki, ne⟩ := Q
  obtain ⟨⟨⟨r1, r2, r3⟩, hp, ht, ⟨x1, x2, x3⟩⟩, ⟨w1, w2, w3⟩, hs, hd, hP, hT, hO, hv⟩ := m
  have hX : NMX B rn pn tn (k, n, f, wd, rs, ps, tw, nr, np, nt, nd) := ⟨⟨r1, r2, r3⟩, hp, ht, ⟨x1, x2, x3⟩⟩
  dsimp only at hd hP hT hO hv
  have hn1 : i + 1 < n := by omega
  have hn2 : i + 2 < n := by omega
  have hn3 : i + 3 < n := by omega
  obtain ⟨a1, a2⟩ := look (nm_t hl k1) r1 (by omega)
  obtain ⟨b1, b2⟩ := look (nm_t hl k2) r1 (by omega)
  obtain ⟨v, v1, v2⟩ := nu_n hl k3
  have ld : df.length = nd ∧ dt.length = nd ∧ ds.length = nd := by
    obtain ⟨dn, c1, c2, c3, c4, _⟩ := hd
    subst c1 c2 c3
    rw [List.length_map, List.length_map, List.length_map]
    exact ⟨c4, c4, c4⟩
  have hd24 : nd ≤ 24 := by obtain ⟨dn, _, _, _, _, c5, _⟩ := hd; exact c5
  have gl : ∀ df dt ds, plL (rn, df, dt, ds, pn, pr, pl', pw, pk, pd, tn, ts, od) - 1 ≤ pnL (rn, df, dt, ds, pn, pr, pl', pw, pk, pd, tn, ts, od) := by
    intro df dt ds
    have gp : pl'.length = pn.length := gp
    show pl'.length - 1 ≤ pn.length
    omega
  have E1 : evT ((k, n, f, wd, rs, ps, tw, nr, np, nt, nd), s, td, tp, tt, wo, ki, ne) (61, i + 1, 0) = ((k, n, f, wd, rs, ps, tw, nr, np, nt, nd), sMn (k, n, f, wd, rs, ps, tw, nr, np, nt, nd) (sNm (k, n, f, wd, rs, ps, tw, nr, np, nt, nd) s (i + 1) (fnL rs (wd (i + 1)) nr 0)) (i + 1) (decide (nd = 24)) 4, td, tp, tt, wo, ki, ne) := rfl
  rw [(x3 _ hn1).2, ← r2, ← a1, r2] at E1
  have c1 : cs B (61, i + 1, p1) (rn, df, dt, ds, pn, pr, pl', pw, pk, pd, tn, ts, od) = if fnd (sgT B (i + 1)) rn 0 < 0 then (3, rn, df, dt, ds, pn, pr, pl', pw, pk, pd, tn, ts, od) else if 24 ≤ ds.length then (4, rn, df, dt, ds, pn, pr, pl', pw, pk, pd, tn, ts, od) else (0, rn, la 24 df (fnd (sgT B (i + 1)) rn 0), dt, ds, pn, pr, pl', pw, pk, pd, tn, ts, od) := cs_nm k1
  show SIM B C (i + 5) (b + 0) _ _ _ _
  rcases a2 with ⟨e1, e2⟩ | ⟨y1, y2, y3, y4, y5⟩
  · rw [if_pos e2] at c1
    obtain ⟨z1, z2⟩ := sNm_no (X := (k, n, f, wd, rs, ps, tw, nr, np, nt, nd)) (s := s) (i := i + 1) e1 hs
    rw [sMn_e (by rw [z1]; decide)] at E1
    exact SIM_er (gl _ _ _) (by rw [c1]; first | exact nz3 | exact nz4 | exact nz5 | exact nz6) (by rw [c1, E1]; exact z1) (by rw [E1]; exact z2) hn1
  rw [if_neg y4] at c1
  rw [sNm_ok y5] at E1
  by_cases f24 : 24 ≤ ds.length
  · rw [if_pos f24] at c1
    obtain ⟨z1, z2⟩ := sMn_no (X := (k, n, f, wd, rs, ps, tw, nr, np, nt, nd)) (s := sV s (i + 1) (fnd (sgT B (i + 1)) rn 0)) (i := i + 1) (b := decide (nd = 24)) (n := 4) (decide_eq_true (by omega)) hs
    exact SIM_er (gl _ _ _) (by rw [c1]; first | exact nz3 | exact nz4 | exact nz5 | exact nz6) (by rw [c1, E1]; exact z1) (by rw [E1]; exact z2) hn1
  rw [if_neg f24, la_ok (by omega), y3] at c1
  rw [sMn_ok (decide_eq_false (by omega)), y3] at E1
  refine SIM_ok (gl _ _ _) c1 E1 ?_
  have c2 : cs B (62, i + 2, p2) (rn, df ++ [Int32.ofNat y1], dt, ds, pn, pr, pl', pw, pk, pd, tn, ts, od) = if fnd (sgT B (i + 2)) rn 0 < 0 then (3, rn, df ++ [Int32.ofNat y1], dt, ds, pn, pr, pl', pw, pk, pd, tn, ts, od) else (if fnd (sgT B (i + 2)) rn 0 = lg (df ++ [Int32.ofNat y1]) (Int32.ofNat ds.length) then 6 else 0, rn, df ++ [Int32.ofNat y1], la 24 dt (fnd (sgT B (i + 2)) rn 0), ds, pn, pr, pl', pw, pk, pd, tn, ts, od) := cs_nm k2
  rw [lg_of (by omega), ld.2.2, ← ld.1, getD_e] at c2
  have E2 : evT ((k, n, f, wd, rs, ps, tw, nr, np, nt, nd), sV s (i + 1) (Int32.ofNat y1), td, tp, tt, wo, ki, ne) (62, i + 2, 0) = ((k, n, f, wd, rs, ps, tw, nr, np, nt, nd), sMn (k, n, f, wd, rs, ps, tw, nr, np, nt, nd) (sNm (k, n, f, wd, rs, ps, tw, nr, np, nt, nd) (sV s (i + 1) (Int32.ofNat y1)) (i + 2) (fnL rs (wd (i + 2)) nr 0)) (i + 2) (decide ((sNm (k, n, f, wd, rs, ps, tw, nr, np, nt, nd) (sV s (i + 1) (Int32.ofNat y1)) (i + 2) (fnL rs (wd (i + 2)) nr 0)).2.2.1 (i + 2) = (sNm (k, n, f, wd, rs, ps, tw, nr, np, nt, nd) (sV s (i + 1) (Int32.ofNat y1)) (i + 2) (fnL rs (wd (i + 2)) nr 0)).2.2.1 (i + 1))) 6, td, tp, tt, wo, ki, ne) := rfl
  rw [(x3 _ hn2).2, ← r2, ← b1, r2] at E2
  rcases b2 with ⟨e1, e2⟩ | ⟨u1, u2, u3, u4, u5⟩
  · rw [if_pos e2] at c2
    obtain ⟨z1, z2⟩ := sNm_no (X := (k, n, f, wd, rs, ps, tw, nr, np, nt, nd)) (s := sV s (i + 1) (Int32.ofNat y1)) (i := i + 2) e1 hs
    rw [sMn_e (by rw [z1]; decide)] at E2
    exact SIM_er (gl _ _ _) (by rw [c2]; first | exact nz3 | exact nz4 | exact nz5 | exact nz6) (by rw [c2, E2]; exact z1) (by rw [E2]; exact z2) hn2
  rw [if_neg u4] at c2
  rw [sNm_ok u5, u3] at E2
  rw [u3] at c2
  have V2 : (sV (sV s (i + 1) (Int32.ofNat y1)) (i + 2) (Int32.ofNat u1)).2.2.1 (i + 2) = Int32.ofNat u1 := if_pos rfl
  have V1 : (sV (sV s (i + 1) (Int32.ofNat y1)) (i + 2) (Int32.ofNat u1)).2.2.1 (i + 1) = Int32.ofNat y1 := by
    show (if i + 1 = i + 2 then _ else (if i + 1 = i + 1 then _ else _)) = _
    rw [if_neg (by omega), if_pos rfl]
  have V3 : (sV (sV s (i + 1) (Int32.ofNat y1)) (i + 2) (Int32.ofNat u1)).2.2.1 (i + 3) = nuT B (i + 3) := by
    show (if i + 3 = i + 2 then _ else (if i + 3 = i + 1 then _ else _)) = _
    rw [if_neg (by omega), if_neg (by omega)]
    exact hv (i + 3) (by omega) hn3
  have V0 : ∀ q, ¬ q = i + 1 → ¬ q = i + 2 → (sV (sV s (i + 1) (Int32.ofNat y1)) (i + 2) (Int32.ofNat u1)).2.2.1 q = s.2.2.1 q := by
    intro q q1 q2
    show (if q = i + 2 then _ else (if q = i + 1 then _ else _)) = _
    rw [if_neg q2, if_neg q1]
  have hs2 : (sV (sV s (i + 1) (Int32.ofNat y1)) (i + 2) (Int32.ofNat u1)).1 = 0 := hs
  have L2 : (sV (sV s (i + 1) (Int32.ofNat y1)) (i + 2) (Int32.ofNat u1)).2.2.2 = s.2.2.2 := rfl
  generalize sV (sV s (i + 1) (Int32.ofNat y1)) (i + 2) (Int32.ofNat u1) = s2 at E2 V0 V1 V2 V3 hs2 L2
  rw [V1, V2] at E2
  by_cases eq : Int32.ofNat u1 = Int32.ofNat y1
  · rw [if_pos eq] at c2
    obtain ⟨z1, z2⟩ := sMn_no (X := (k, n, f, wd, rs, ps, tw, nr, np, nt, nd)) (s := s2) (i := i + 2) (b := decide (Int32.ofNat u1 = Int32.ofNat y1)) (n := 6) (decide_eq_true eq) hs2
    exact SIM_er (gl _ _ _) (by rw [c2]; first | exact nz3 | exact nz4 | exact nz5 | exact nz6) (by rw [c2, E2]; exact z1) (by rw [E2]; exact z2) hn2
  rw [if_neg eq, la_ok (by omega)] at c2
  rw [sMn_ok (decide_eq_false eq)] at E2
  refine SIM_ok (gl _ _ _) c2 E2 ?_
  have c3 : cs B (70, i + 3, p3) (rn, df ++ [Int32.ofNat y1], dt ++ [Int32.ofNat u1], ds, pn, pr, pl', pw, pk, pd, tn, ts, od) = (if inR (nuT B (i + 3)) 1 200 = true then 0 else 5, rn, df ++ [Int32.ofNat y1], dt ++ [Int32.ofNat u1], la 24 ds (nuT B (i + 3)), pn, pr, pl', pw, pk, pd, tn, ts, od) := cs_nu k3
  have E3 : evT ((k, n, f, wd, rs, ps, tw, nr, np, nt, nd), s2, td, tp, tt, wo, ki, ne) (70, i + 3, 0) = ((k, n, f, wd, rs, ps, tw, nr, np, nt, nd), sMn (k, n, f, wd, rs, ps, tw, nr, np, nt, nd) s2 (i + 3) (!inR (s2.2.2.1 (i + 3)) 1 200) 5, td, tp, tt, wo, ki, ne) := rfl
  rw [V3] at E3
  rw [la_ok (by omega)] at c3
  by_cases z : inR (nuT B (i + 3)) 1 200 = true
  · rw [if_pos z, v2] at c3
    rw [z, sMn_ok (b := !true) rfl] at E3
    refine SIM_ok (gl _ _ _) c3 E3 ?_
    obtain ⟨g1, g2⟩ := inR_of (v := v) (a := 1) (c := 200) (by omega) (by decide) (by decide) v2 z
    refine ⟨gl _ _ _, fun _ => ?_, fun q => absurd rfl q⟩
    show NR B C (i + 5) (b + 0) _ (if s2.1 = 0 then (adD (k, n, f, wd, rs, ps, tw, nr, np, nt, nd), s2, cpF td (3 * nd) 3 (fun q => s2.2.2.1 (i + 1 + q)), tp, tt, wo, ki, ne) else _)
    rw [if_pos hs2]
    exact ⟨hX, ⟨w1, w2, w3⟩, hs2, DRS_add hd (by omega) (by omega) (by omega) g1 g2 V1 V2 (V3.trans v2), hP, TRS_mono hT (Nat.le_refl _) (by omega) (by omega) (fun q hq => ⟨V0 q (by omega) (by omega), by rw [L2]⟩), ODS_mono hO (by omega) (fun q hq => V0 q (by omega) (by omega)), fun j h1 h2 => by rw [V0 j (by omega) (by omega)]; exact hv j (by omega) h2⟩
  · rw [if_neg z] at c3
    obtain ⟨z1, z2⟩ := sMn_no (X := (k, n, f, wd, rs, ps, tw, nr, np, nt, nd)) (s := s2) (i := i + 3) (b := !inR (nuT B (i + 3)) 1 200) (n := 5) (by rw [not_b z]; rfl) hs2
    exact SIM_er (gl _ _ _) (by rw [c3]; exact nz5) (by rw [c3, E3]; exact z1) (by rw [E3]; exact z2) hn3
