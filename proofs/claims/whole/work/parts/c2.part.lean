/-! THE CLASS'S NAMING AND THE REFERENCE'S: A PART -/
def PM (B : List Int32) (C : List CI) (i0 b j : Nat) (kd : Int32) : NM → TS → Prop
  | (rn, df, dt, ds, pn, pr, pl', pw, pk, pd, tn, ts, od), (X, s, td, tp, tt, wo, ki, ne) => ∃ pn0 pr0 pl0 pw0 pk0 pd0 sg x y w, pn = pn0 ++ [sg] ∧ pr = pr0 ++ [Int32.ofNat x] ∧ pl' = pl0 ++ [Int32.ofNat y] ∧ pw = pw0 ++ [Int32.ofNat w] ∧ pk = pk0 ++ [kd] ∧ pd = pd0 ++ [ne] ∧ NR B C j b (rn, df, dt, ds, pn0, pr0, pl0, pw0, pk0, pd0, tn, ts, od) (X, s, td, tp, tt, wo, ki, ne) ∧ nmOK sg (X.2.2.2.1 i0) ∧ sg.length = 10 ∧ pn0.length < 16 ∧ x < rn.length ∧ 1 ≤ y ∧ y ≤ 900 ∧ w ≤ 99 ∧ wo = Int32.ofNat w ∧ ki = kd ∧ s.2.2.1 (i0 + 2) = Int32.ofNat x ∧ s.2.2.1 (i0 + 3) = Int32.ofNat y ∧ i0 + 3 < j
theorem PTS_add {pr pl' pw pk pd : List Int32} {tp : Nat → Int32} {nr np x y w : Nat} {k n : Int32} {g : Nat → Int32} (h : PTS pr pl' pw pk pd tp nr np) (h1 : x < nr) (h2 : 1 ≤ y) (h3 : y ≤ 900) (h4 : w ≤ 99) (g0 : g 0 = Int32.ofNat x) (g1 : g 1 = Int32.ofNat y) (g2 : g 2 = Int32.ofNat w) (g3 : g 3 = k) (g4 : g 4 = n) : PTS (pr ++ [Int32.ofNat x]) (pl' ++ [Int32.ofNat y]) (pw ++ [Int32.ofNat w]) (pk ++ [k]) (pd ++ [n]) (cpF tp (5 * np) 5 g) nr (np + 1) := by
  obtain ⟨a1, a2, a3, a4, a5, a6⟩ := h
  have ll : ∀ (l : List Int32) (x : Int32), l.length = np → (l ++ [x]).length = np + 1 := fun l x h => by rw [List.length_append, List.length_singleton, h]
  refine ⟨ll _ _ a1, ll _ _ a2, ll _ _ a3, ll _ _ a4, ll _ _ a5, fun q hq => ?_⟩
  unfold cpF
  by_cases c : q = np
  · subst c
    have ge : ∀ (l : List Int32) (x : Int32), l.length = q → (l ++ [x]).getD q 0 = x := fun l x h => by rw [← h, getD_e]
    rw [if_pos (by omega), if_pos (by omega), if_pos (by omega), if_pos (by omega), if_pos (by omega), Nat.sub_self, Nat.add_sub_cancel_left, Nat.add_sub_cancel_left, Nat.add_sub_cancel_left, Nat.add_sub_cancel_left, ge _ _ a1, ge _ _ a2, ge _ _ a3, ge _ _ a4, ge _ _ a5]
    exact ⟨⟨g0, g1, g2, g3, g4⟩, ⟨x, h1, rfl⟩, ⟨y, h2, h3, rfl⟩, ⟨w, h4, rfl⟩⟩
  · have ge : ∀ (l : List Int32) (x : Int32), l.length = np → (l ++ [x]).getD q 0 = l.getD q 0 := fun l x h => getD_l (by omega)
    rw [if_neg (by omega), if_neg (by omega), if_neg (by omega), if_neg (by omega), if_neg (by omega), ge _ _ a1, ge _ _ a2, ge _ _ a3, ge _ _ a4, ge _ _ a5]
    exact a6 q (by omega)
theorem PM_gl {B : List Int32} {C : List CI} {i0 b j : Nat} {kd : Int32} {M : NM} {Q : TS} (m : PM B C i0 b j kd M Q) : plL M - 1 ≤ pnL M := by
  obtain ⟨rn, df, dt, ds, pn, pr, pl', pw, pk, pd, tn, ts, od⟩ := M
  obtain ⟨X, s, td, tp, tt, wo, ki, ne⟩ := Q
  obtain ⟨pn0, pr0, pl0, pw0, pk0, pd0, sg, x, y, w, e1, e2, e3, e4, e5, e6, m, _⟩ := m
  have g : pl0.length = pn0.length := pn_pl m
  show pl'.length - 1 ≤ pn.length
  rw [e1, e3, List.length_append, List.length_append, List.length_singleton, List.length_singleton]
  omega
theorem sim_p3 {B : List Int32} {C : List CI} {i0 b j j1 : Nat} {kd : Int32} {M : NM} {Q : TS} (m : PM B C i0 b j kd M Q) (hj : j ≤ j1) : SIM B C j1 b M Q [(3, i0, 0)] [] := by
  have gl := PM_gl m
  obtain ⟨rn, df, dt, ds, pn, pr, pl', pw, pk, pd, tn, ts, od⟩ := M
  obtain ⟨⟨k, n, f, wd, rs, ps, tw, nr, np, nt, nd⟩, s, td, tp, tt, wo, ki, ne⟩ := Q
  obtain ⟨pn0, pr0, pl0, pw0, pk0, pd0, sg, x, y, w, e1, e2, e3, e4, e5, e6, m, n1, n2, n3, n4, n5, n6, n7, n8, n9, na, nb, nc⟩ := m
  obtain ⟨⟨hr, ⟨q1, q2, q3⟩, ht, ⟨x1, x2, x3⟩⟩, ⟨w1, w2, w3⟩, hs, hd, hP, hT, hO, hv⟩ := m
  dsimp only at hd hP hT hO hv n1 na nb
  have hs : s.1 = 0 := hs
  subst e1 e2 e3 e4 e5 e6 n8 n9
  refine ⟨gl, fun _ => ?_, fun h => absurd rfl h⟩
  show NR B C j1 b _ (if s.1 = 0 then (adP (wd i0) (k, n, f, wd, rs, ps, tw, nr, np, nt, nd), s, td, cpF tp (5 * np) 5 (fun q => [s.2.2.1 (i0 + 2), s.2.2.1 (i0 + 3), Int32.ofNat w, ki, ne].getD q 0), tt, Int32.ofNat w, ki, ne) else _)
  rw [if_pos hs]
  refine ⟨⟨hr, ⟨?_, ?_, ?_⟩, ht, ⟨x1, x2, x3⟩⟩, ⟨w1, w10_add w2 n2, w3⟩, hs, hd, PTS_add hP n4 n5 n6 n7 na nb rfl rfl rfl, TRS_mono hT (Nat.le_succ _) hj (Nat.le_refl _) (fun q _ => ⟨rfl, rfl⟩), ODS_mono hO hj (fun q _ => rfl), fun t h1 h2 => hv t (by omega) h2⟩
  · have := nmsOK_add q1 n1
    rw [q2] at this
    exact this
  · show (pn0 ++ [sg]).length = np + 1
    rw [List.length_append, List.length_singleton, q2]
  · show np + 1 ≤ 16
    omega
theorem p3_inv {k : Nat → Nat} {i0 i b j : Nat} {c : List CI} {e : List EVt} (h : pP3 k i0 i b = (j, some (c, e))) : j = i + 1 ∧ c = [] ∧ e = [(3, i0, 0)] := by
  unfold pP3 at h
  rcases h1 : tk k 37 i b with ⟨l, _ | ⟨c1, e1⟩⟩
  · rw [h1] at h; cases h
  · rw [h1] at h
    cases h
    obtain ⟨_, rfl, rfl, rfl⟩ := tk_inv h1
    exact ⟨rfl, rfl, rfl⟩
theorem p2_inv {k : Nat → Nat} {i0 i b j : Nat} {c : List CI} {e : List EVt} (h : pP2 k i0 i b = (j, some (c, e))) : c = [] ∧ ((j = i + 1 ∧ e = [(3, i0, 0)]) ∨ (j = i + 3 ∧ e = [(72, i + 1, 0), (3, i0, 0)])) := by
  unfold pP2 at h
  by_cases c6 : k i = 6
  · rw [if_pos c6] at h
    obtain ⟨l1, c1, f1, c2, f2, a1, a2, rfl, rfl⟩ := sq_inv h
    obtain ⟨_, rfl, rfl, rfl⟩ := tk_inv a1
    obtain ⟨l2, c3, f3, c4, f4, a3, a4, rfl, rfl⟩ := sq_inv a2
    obtain ⟨_, rfl, rfl, rfl⟩ := nmk_inv a3
    obtain ⟨rfl, rfl, rfl⟩ := p3_inv a4
    exact ⟨rfl, Or.inr ⟨rfl, rfl⟩⟩
  · rw [if_neg c6] at h
    obtain ⟨rfl, rfl, rfl⟩ := p3_inv h
    exact ⟨rfl, Or.inl ⟨rfl, rfl⟩⟩
theorem kk_inv {k : Nat → Nat} {i b j : Nat} {c : List CI} {e : List EVt} (h : kk k i b = (j, some (c, e))) : j = i + 1 ∧ c = [] ∧ e = [(76, i, 0)] := by
  unfold kk at h
  split at h
  · cases h; exact ⟨rfl, rfl, rfl⟩
  · cases h
theorem p1_inv {k : Nat → Nat} {i0 i b j : Nat} {c : List CI} {e : List EVt} (h : pP1 k i0 i b = (j, some (c, e))) : (pP2 k i0 i b = (j, some (c, e))) ∨ ∃ b' e', e = (76, i + 1, 0) :: e' ∧ pP2 k i0 (i + 2) b' = (j, some (c, e')) := by
  unfold pP1 at h
  by_cases c6 : k i = 5
  · rw [if_pos c6] at h
    obtain ⟨l1, c1, f1, c2, f2, a1, a2, rfl, rfl⟩ := sq_inv h
    obtain ⟨_, rfl, rfl, rfl⟩ := tk_inv a1
    obtain ⟨l2, c3, f3, c4, f4, a3, a4, rfl, rfl⟩ := sq_inv a2
    obtain ⟨rfl, rfl, rfl⟩ := kk_inv a3
    exact Or.inr ⟨_, f4, rfl, a4⟩
  · rw [if_neg c6] at h
    exact Or.inl h
theorem nd_inv {k : Nat → Nat} {i0 n i b j : Nat} {c : List CI} {e : List EVt} (h : pNd k i0 (n + 1) i b = (j, some (c, e))) : ∃ b' e', e = (65, i + 1, 0) :: e' ∧ (pNd k i0 n (i + 2) b' = (j, some (c, e')) ∨ pP1 k i0 (i + 2) b' = (j, some (c, e'))) := by
  rw [pNd_sq (k := k) rfl] at h
  obtain ⟨l1, c1, f1, c2, f2, a1, a2, rfl, rfl⟩ := sq_inv h
  obtain ⟨_, rfl, rfl, rfl⟩ := tk_inv a1
  obtain ⟨l2, c3, f3, c4, f4, a3, a4, rfl, rfl⟩ := sq_inv a2
  obtain ⟨_, rfl, rfl, rfl⟩ := nmk_inv a3
  refine ⟨b + ([] : List CI).length + ([] : List CI).length, f4, rfl, ?_⟩
  by_cases c : k (i + 1 + 1) = 38
  · rw [if_pos c] at a4; exact Or.inl a4
  · rw [if_neg c] at a4; exact Or.inr a4
theorem subl {m : Nat} : Int32.ofNat (m + 1) - 1 = Int32.ofNat m := by
  have h := i_subof (m := m + 1) (n := 1) (by omega)
  rw [Nat.add_sub_cancel] at h
  exact h
theorem set_e {l : List Int32} {x y : Int32} {n : Nat} (h : n = l.length) : (l ++ [x]).set n y = l ++ [y] := by
  subst h
  rw [List.set_append_right _ _ (Nat.le_refl _), Nat.sub_self]
  rfl
theorem sim_p2 {B : List Int32} {C : List CI} {i0 b i j b' : Nat} {c : List CI} {e : List EVt} {kd : Int32} {M : NM} {Q : TS} {l : List EP} (hl : B.length ≤ 2000) (hj : j < (tT B).length) (m : PM B C i0 b i kd M Q) (h : pP2 (kdF B) i0 i b' = (j, some (c, e))) (hm : l.map (fun x => ((x.1, x.2.1, 0) : EVt)) = e.filter isR) (hk : ∀ x, x ∈ l → kOK (kdF B x.2.1) x.1) : SIM B C j b M Q e l := by
  obtain ⟨_, ⟨rfl, rfl⟩ | ⟨rfl, rfl⟩⟩ := p2_inv h
  · have : l = [] := List.map_eq_nil_iff.mp (hm.trans (show [((3, i0, 0) : EVt)].filter isR = [] from rfl))
    subst this
    exact sim_p3 m (by omega)
  · obtain ⟨p, rfl⟩ := map1 (show l.map (fun x => ((x.1, x.2.1, 0) : EVt)) = [(72, i + 1, 0)] from hm)
    have k3 : kdF B (i + 1) = 30 := kk30 (r := 72) (hk (72, i + 1, p) (by simp)) (by decide) (by decide)
    have gl := PM_gl m
    obtain ⟨v, v1, v2⟩ := nu_n hl k3
    obtain ⟨rn, df, dt, ds, pn, pr, pl', pw, pk, pd, tn, ts, od⟩ := M
    obtain ⟨X, s, td, tp, tt, wo, ki, ne⟩ := Q
    obtain ⟨pn0, pr0, pl0, pw0, pk0, pd0, sg, x, y, w, e1, e2, e3, e4, e5, e6, m, n1, n2, n3, n4, n5, n6, n7, n8, n9, na, nb, nc⟩ := m
    have hn : X.2.1 = (tT B).length := by
      obtain ⟨k, n, f, wd, rs, ps, tw, nr, np, nt, nd⟩ := X
      exact m.1.2.2.2.2.1
    have hs : s.1 = 0 := m.2.2.1
    have hvi : s.2.2.1 (i + 1) = nuT B (i + 1) := m.2.2.2.2.2.2.2 (i + 1) (by omega) (by omega)
    have lp : pl0.length = X.2.2.2.2.2.2.2.2.1 ∧ pw0.length = X.2.2.2.2.2.2.2.2.1 := ⟨m.2.2.2.2.1.2.1, m.2.2.2.2.1.2.2.1⟩
    have np16 : pl0.length < 16 := by have : pl0.length = pn0.length := pn_pl m; omega
    have ll : pl'.length = pl0.length + 1 := by rw [e3, List.length_append, List.length_singleton]
    have hc : cs B (72, i + 1, p) (rn, df, dt, ds, pn, pr, pl', pw, pk, pd, tn, ts, od) = (if nuT B (i + 1) ≤ 99 then 0 else 5, rn, df, dt, ds, pn, pr, pl', ls pw (Int32.ofNat pl'.length - 1) (nuT B (i + 1)), pk, pd, tn, ts, od) := cs_nu k3
    rw [ll, subl, ls_of (by omega), e4, set_e (by omega), v2] at hc
    have hE : evT (X, s, td, tp, tt, wo, ki, ne) (72, i + 1, 0) = (X, sMn X s (i + 1) (!inR (s.2.2.1 (i + 1)) 0 99) 5, td, tp, tt, s.2.2.1 (i + 1), ki, ne) := rfl
    have er : inR (s.2.2.1 (i + 1)) 0 99 = decide (Int32.ofNat v ≤ 99) := by
      rw [hvi, v2]
      unfold inR
      rw [decide_eq_true (show (0 : Int32) ≤ Int32.ofNat v by rw [i_le, i_of_i (by omega), i_z]; omega), Bool.true_and]
    rw [er, hvi, v2] at hE
    by_cases z : Int32.ofNat v ≤ 99
    · rw [if_pos z] at hc
      rw [decide_eq_true z, sMn_ok (b := !true) rfl] at hE
      rw [e4] at gl
      rw [e4]
      refine SIM_ok gl hc hE (sim_p3 (j := i + 2) (kd := kd) ?_ (by omega))
      exact ⟨pn0, pr0, pl0, pw0, pk0, pd0, sg, x, y, v, e1, e2, e3, rfl, e5, e6, NR_s m (by omega) hs (fun q _ => rfl) rfl, n1, n2, n3, n4, n5, n6, (by rw [show (99 : Int32) = Int32.ofNat 99 from rfl, i_ofle (by omega) (by omega)] at z; exact z), rfl, n9, na, nb, by omega⟩
    · rw [if_neg z] at hc
      rw [decide_eq_false z] at hE
      obtain ⟨z1, z2⟩ := sMn_no (X := X) (s := s) (i := i + 1) (b := !false) (n := 5) rfl hs
      rw [e4] at gl
      rw [e4]
      refine SIM_er gl (by rw [hc]; first | exact nz3 | exact nz4 | exact nz5 | exact nz6) (by rw [hc, hE]; exact z1) (by rw [hE]; exact z2) ?_
      show i + 1 < X.2.1
      omega
