/-! THE CLASS'S NAMING AND THE REFERENCE'S: A TOUR -/
theorem fold_get {V : Nat → Int32} {m : Nat} (hm : m ≤ 1000) : ∀ (l : List EP) (od : List Int32), (∀ x, x ∈ l → ∃ p, p ≤ 1000 ∧ x.2.2 = Int32.ofNat p) →
    ((∀ x, x ∈ l → ¬ x.2.2 = Int32.ofNat m) → (l.foldl (fun od x => ls od x.2.2 (V x.2.1)) od).getD m 0 = od.getD m 0) ∧
    (∀ t, m < od.length → (∀ x, x ∈ l → x.2.2 = Int32.ofNat m → x.2.1 = t) → (∃ x, x ∈ l ∧ x.2.2 = Int32.ofNat m) → (l.foldl (fun od x => ls od x.2.2 (V x.2.1)) od).getD m 0 = V t) ∧
    (l.foldl (fun od x => ls od x.2.2 (V x.2.1)) od).length = od.length
  | [], od, _ => by
    refine ⟨fun _ => rfl, fun t _ _ h => ?_, rfl⟩
    obtain ⟨x, h, _⟩ := h
    cases h
  | x :: l, od, h => by
    obtain ⟨p, p1, p2⟩ := h x (List.mem_cons_self ..)
    obtain ⟨i1, i2, i3⟩ := fold_get (V := V) hm l (od.set p (V x.2.1)) (fun y hy => h y (List.mem_cons_of_mem _ hy))
    rw [List.foldl_cons, p2, ls_of (by omega)]
    rw [List.length_set] at i2 i3
    refine ⟨fun hn => ?_, fun t ht hu he => ?_, i3⟩
    · rw [i1 (fun y hy => hn y (List.mem_cons_of_mem _ hy))]
      have : ¬ p = m := fun e => hn x (List.mem_cons_self ..) (by rw [p2, e])
      rw [List.getD_eq_getElem?_getD, List.getElem?_set_ne this, ← List.getD_eq_getElem?_getD]
    · by_cases hl : ∃ y, y ∈ l ∧ y.2.2 = Int32.ofNat m
      · exact i2 t ht (fun y hy => hu y (List.mem_cons_of_mem _ hy)) hl
      · rw [i1 (fun y hy e => hl ⟨y, hy, e⟩)]
        obtain ⟨y, hy, ey⟩ := he
        rcases List.mem_cons.mp hy with q | q
        · subst q
          have e : p = m := by
            rw [p2, i_ofeq (by omega) (by omega)] at ey
            exact ey
          subst e
          rw [← hu y (List.mem_cons_self ..) p2, List.getD_eq_getElem?_getD, List.getElem?_set_self ht]
          rfl
        · exact absurd ⟨y, q, ey⟩ hl
theorem tour_inv {k : Nat → Nat} {i b j : Nat} {c : List CI} {e : List EVt} (h : pTour2 k i b = (j, some (c, e))) : ∃ c2 e2, pBlock k 8 (i + 2) b = (j, some (c2, e2)) ∧ c = c2 ++ [(0, 0, 0)] ∧ e = (66, i + 1, 0) :: (e2 ++ [(4, i + 1, 0)]) := by
  obtain ⟨e1, h1, he⟩ := evE_inv h
  obtain ⟨l1, c1, f1, c2, f2, a1, a2, hc1, he1⟩ := sq_inv h1
  obtain ⟨_, x1, y1, z1⟩ := tk_inv a1
  subst x1 y1 z1
  obtain ⟨l2, c3, f3, c4, f4, a3, a4, hc2, he2⟩ := sq_inv a2
  obtain ⟨k2, x2, y2, z2⟩ := nmk_inv a3
  subst x2 y2 z2
  obtain ⟨l3, c5, f5, c6, f6, a5, a6, hc3, he3⟩ := sq_inv a4
  unfold em at a6
  injection a6 with q1 q2
  injection q2 with q2
  injection q2 with q2 q3
  subst q1 q2 q3
  refine ⟨c5, f5, a5, ?_, ?_⟩
  · rw [hc1, hc2, hc3]; rfl
  · rw [he, he1, he2, he3, List.append_nil]; rfl
theorem blk_0 {k : Nat → Nat} {a : Nat} : True := trivial
theorem TRS_add {B : List Int32} {C : List CI} {V L : Nat → Int32} {ts : List Int32} {tt : Nat → Int32} {nt np n i b T b1 j : Nat} {c : List CI} {e : List EVt} (h : TRS B C V L ts tt nt np n i b) (hi : i ≤ j) (hb : b ≤ b1) (hT : T < n) (hp : pBlock (kdF B) 8 T b = (j, some (c, e))) (hE : EVQ V L np nt e) (hl : b + c.length + 1 ≤ b1) (hC : ∀ m, m < c.length + 1 → C.getD (b + m) (0, 0, 0) = (c ++ [(0, 0, 0)]).getD m (0, 0, 0)) : TRS B C V L (ts ++ [Int32.ofNat b]) (fun q => if q = nt then Int32.ofNat T else tt q) (nt + 1) np n j b1 := by
  obtain ⟨h1, h2⟩ := h
  refine ⟨by rw [List.length_append, List.length_singleton, h1], fun q hq => ?_⟩
  by_cases z : q = nt
  · subst z
    exact ⟨T, j, c, e, b, if_pos rfl, hT, Nat.le_refl _, hp, hE, hl, hC, by rw [← h1, getD_e]⟩
  · obtain ⟨T', j', c', e', p', g1, g2, g3, g4, g5, g6, g7, g8⟩ := h2 q (by omega)
    exact ⟨T', j', c', e', p', (if_neg z).trans g1, g2, by omega, g4, g5, by omega, g7, by rw [getD_l (by omega)]; exact g8⟩
theorem sim_tour {B : List Int32} {C : List CI} {i b j : Nat} {c : List CI} {e : List EVt} {M : NM} {Q : TS} {me : ME} (hl : B.length ≤ 2000) (hj : j < (tT B).length) (m : NR B C i b M Q) (h : pTour2 (kdF B) i b = (j, some (c, e))) (hg : MEK (kdF B) i j b c e me) (hp1 : (me.getD 1 (0, 0)).2 = Int32.ofNat b) (hC : b + c.length ≤ C.length ∧ ∀ m, m < c.length → C.getD (b + m) (0, 0, 0) = c.getD m (0, 0, 0)) : SIM B C j (b + c.length) M Q e (evP i me) := by
  obtain ⟨c2, e2, hb, hc, he⟩ := tour_inv h
  obtain ⟨g1, g2, g3, g4, g5⟩ := hg
  obtain ⟨z1, z2, z3⟩ := zo_block (k := kdF B) 8 _ _ _ _ _ hb
  have bE := be_block (k := kdF B) 8 _ _ _ _ _ hb
  have f4 : [((4, i + 1, 0) : EVt)].filter isR = [] := rfl
  have fl : e.filter isR = (66, i + 1, 0) :: e2.filter isR := by
    rw [he, List.filter_cons_of_pos (by show isR (66, i + 1, 0) = true; rfl), List.filter_append, f4, List.append_nil]
  have mE : (evP i me).map (fun x => ((x.1, x.2.1, 0) : EVt)) = (66, i + 1, 0) :: e2.filter isR := by rw [evP_O, ← g2, fl]
  obtain ⟨p, l, el, hm⟩ := mapC mE
  have inL : ∀ x, x ∈ (66, i + 1, p) :: l → ∃ t, t < me.length ∧ x.2.1 = i + t ∧ x.1 = (me.getD t (0, 0)).1 ∧ x.2.2 = (me.getD t (0, 0)).2 ∧ ¬ x.1 = 0 := fun x hx => evP_mem (i := i) (me := me) (by rw [el]; exact hx)
  have ep : p = Int32.ofNat b := by
    obtain ⟨t, t1, t2, t3, t4, t5⟩ := inL _ (List.mem_cons_self ..)
    have : t = 1 := by
      have t2 : i + 1 = i + t := t2
      omega
    subst this
    exact t4.trans hp1
  subst ep
  rw [el, he]
  have kk : ∀ x, x ∈ (66, i + 1, Int32.ofNat b) :: l → kOK (kdF B x.2.1) x.1 := by
    intro x hx
    obtain ⟨t, t1, t2, t3, t4, t5⟩ := inL x hx
    rw [t2, t3]
    exact g3 t t1
  have k1 : kdF B (i + 1) = 29 := kk29 (r := 66) (kk _ (List.mem_cons_self ..)) (by decide) (by decide)
  have gp := pn_pl m
  obtain ⟨rn, df, dt, ds, pn, pr, pl', pw, pk, pd, tn, ts, od⟩ := M
  obtain ⟨⟨k, n, f, wd, rs, ps, tw, nr, np, nt, nd⟩, s, td, tp, tt, wo, ki, ne⟩ := Q
  obtain ⟨⟨hr, hp, ⟨q1, rfl, q3⟩, ⟨x1, x2, x3⟩⟩, ⟨w1, w2, w3⟩, hs, hd, hP, hT, hO, hv⟩ := m
  have hX : NMX B rn pn tn (k, n, f, wd, rs, ps, tw, nr, np, tn.length, nd) := ⟨hr, hp, ⟨q1, rfl, q3⟩, ⟨x1, x2, x3⟩⟩
  dsimp only at hd hP hT hO hv
  have hs : s.1 = 0 := hs
  have gp : pl'.length = pn.length := gp
  have hn1 : i + 1 < n := by omega
  have gl : plL (rn, df, dt, ds, pn, pr, pl', pw, pk, pd, tn, ts, od) - 1 ≤ pnL (rn, df, dt, ds, pn, pr, pl', pw, pk, pd, tn, ts, od) := by
    show pl'.length - 1 ≤ pn.length
    omega
  obtain ⟨N1, N2⟩ := new_nm (X := (k, n, f, wd, rs, ps, tw, nr, np, tn.length, nd)) (i := i + 1) (most := 6) (nm_t hl k1) q1 (by omega) (by decide) hs
  have c1 : cs B (66, i + 1, Int32.ofNat b) (rn, df, dt, ds, pn, pr, pl', pw, pk, pd, tn, ts, od) = ((nTl (sgT B (i + 1)) tn 6).1, rn, df, dt, ds, pn, pr, pl', pw, pk, pd, (nTl (sgT B (i + 1)) tn 6).2, la 6 ts (Int32.ofNat b), od) := cs_nm k1
  have E1 : evT ((k, n, f, wd, rs, ps, tw, nr, np, tn.length, nd), s, td, tp, tt, wo, ki, ne) (66, i + 1, 0) = ((k, n, f, wd, rs, ps, tw, nr, np, tn.length, nd), sNw (k, n, f, wd, rs, ps, tw, nr, np, tn.length, nd) s (i + 1) (fnL tw (wd (i + 1)) tn.length 0) (decide (tn.length = 6)), td, tp, tt, wo, ki, ne) := rfl
  rw [(x3 _ hn1).2] at E1
  by_cases z : (nTl (sgT B (i + 1)) tn 6).1 = 0
  · obtain ⟨a1, a2, a3, a4⟩ := N1 z
    have lts : ts.length = tn.length := hT.1
    rw [z, a1, la_ok (by omega)] at c1
    rw [a2] at E1
    refine SIM_ok gl c1 E1 ?_
    have h0 : ∀ ev, ev ∈ e2 → ¬ ev.1 = 0 → ev.2.2 = 0 := by
      intro ev hev h0
      have hf : ev ∈ e2.filter isR := by
        rw [List.mem_filter]
        refine ⟨hev, ?_⟩
        have := bE ev hev
        show (decide (60 ≤ ev.1) && decide (ev.1 ≤ 76)) = true
        rw [decide_eq_true (by omega), decide_eq_true (by omega)]
        rfl
      rw [← hm] at hf
      obtain ⟨x, _, hx⟩ := List.mem_map.mp hf
      rw [← hx]
    have ht : ∀ ev, ev ∈ e2 → ev.2.1 < n ∧ s.2.2.1 ev.2.1 = nuT B ev.2.1 ∧ (ev.1 = 0 ∨ kOK (kdF B ev.2.1) ev.1) := by
      intro ev hev
      have := z2 ev hev
      refine ⟨by omega, hv _ (by omega) (by omega), ?_⟩
      by_cases y : ev.1 = 0
      · exact Or.inl y
      · have hf : ev ∈ e2.filter isR := by
          rw [List.mem_filter]
          refine ⟨hev, ?_⟩
          have := bE ev hev
          show (decide (60 ≤ ev.1) && decide (ev.1 ≤ 76)) = true
          rw [decide_eq_true (by omega), decide_eq_true (by omega)]
          rfl
        rw [← hm] at hf
        obtain ⟨x, hx1, hx⟩ := List.mem_map.mp hf
        have := kk x (List.mem_cons_of_mem _ hx1)
        rw [← hx]
        exact Or.inr this
    obtain ⟨S1, S2, S3⟩ := blk_sim (sg := sgT B (i + 1)) (df := df) (dt := dt) (ds := ds) (pr := pr) (pl' := pl') (pw := pw) (pk := pk) (pd := pd) (ts := ts ++ [Int32.ofNat b]) hl hX e2 s l od bE z3 hs ht hm h0
    refine ⟨S3 (by omega), fun y => ?_, fun y => ?_⟩
    · obtain ⟨s1, s2, s3, s4⟩ := S1 y
      rw [s2, evTs_app, evTs_blk bE]
      have s3i : ∀ q, ¬ (i + 2 ≤ q ∧ q < j) → (evs (k, n, f, wd, rs, ps, tw, nr, np, tn.length, nd) s e2).2.2.1 q = s.2.2.1 q ∧ (evs (k, n, f, wd, rs, ps, tw, nr, np, tn.length, nd) s e2).2.2.2 q = s.2.2.2 q := fun q hq => s3 q (fun ev hev e => hq (by have := z2 ev hev; omega))
      have s4 : EVQ (evs (k, n, f, wd, rs, ps, tw, nr, np, tn.length, nd) s e2).2.2.1 (evs (k, n, f, wd, rs, ps, tw, nr, np, tn.length, nd) s e2).2.2.2 np tn.length e2 := s4
      generalize evs (k, n, f, wd, rs, ps, tw, nr, np, tn.length, nd) s e2 = s' at s1 s2 s3 s3i s4 ⊢
      show NR B C j (b + c.length) _ (if s'.1 = 0 then (adT (wd (i + 1)) (k, n, f, wd, rs, ps, tw, nr, np, tn.length, nd), s', td, tp, (fun q => if q = tn.length then Int32.ofNat (i + 2) else tt q), wo, ki, ne) else _)
      rw [if_pos s1]
      have lc : c.length = c2.length + 1 := by rw [hc, List.length_append, List.length_singleton]
      have hC2 : ∀ m, m < c2.length + 1 → C.getD (b + m) (0, 0, 0) = (c2 ++ [(0, 0, 0)]).getD m (0, 0, 0) := fun m hm => by rw [← hc]; exact hC.2 m (by omega)
      have hPl : ∀ x, x ∈ l → ∃ m, m < c.length ∧ (c.getD m (0, 0, 0)).2.2 = x.2.1 + 1 ∧ x.2.2 = Int32.ofNat (b + m) := by
        intro x hx
        obtain ⟨t, t1, t2, t3, t4, t5⟩ := inL x (List.mem_cons_of_mem _ hx)
        have hU : isU (me.getD t (0, 0)).1 = true := by
          have hf : ((x.1, x.2.1, 0) : EVt) ∈ e2.filter isR := by rw [← hm]; exact List.mem_map.mpr ⟨x, hx, rfl⟩
          have hb := bE _ (List.mem_filter.mp hf).1
          rw [← t3]
          dsimp only at hb
          rcases hb with e | e | e | e | e | e | e
          · exact absurd e t5
          all_goals rw [e]; rfl
        obtain ⟨m, m1, m2, m3⟩ := g5 t t1 hU
        exact ⟨m, m1, by omega, t4.trans m3⟩
      have hO0 := hO
      obtain ⟨o1, o2, o3, o4⟩ := hO
      have FG := fun m hm => fold_get (V := s'.2.2.1) (m := m) hm l od (fun x hx => by
        obtain ⟨m, m1, _, m3⟩ := hPl x hx
        exact ⟨b + m, by have := hC.1; omega, m3⟩)
      refine ⟨⟨hr, hp, ⟨?_, ?_, ?_⟩, ⟨x1, x2, x3⟩⟩, ⟨w1, w2, w10_add w3 sgn_len⟩, s1, hd, hP, ?_, ?_, fun t h1 h2 => by rw [(s3i t (by omega)).1]; exact hv t (by omega) h2⟩
      · rw [(x3 _ hn1).2]; exact a4
      · rw [List.length_append, List.length_singleton]
      · show tn.length + 1 ≤ 6
        omega
      · have h9 := TRS_mono (V' := s'.2.2.1) (L' := s'.2.2.2) hT (Nat.le_refl np) (Nat.le_refl i) (Nat.le_refl b) (fun q hq => s3i q (by omega))
        exact TRS_add (T := i + 2) h9 (by omega) (by omega) (by show i + 2 < n; omega) hb s4 (by omega) hC2
      · have bb := hC.1
        refine ⟨(FG 0 (by omega)).2.2.trans o1, o2, fun m hm => ?_, fun m hm => ?_⟩
        · by_cases mb : m < b
          · obtain ⟨y1, y2, y3⟩ := o3 m mb
            have eod := (FG m (by omega)).1 (fun x hx e => by
              obtain ⟨m', m1, _, m3⟩ := hPl x hx
              rw [m3, i_ofeq (by omega) (by omega)] at e
              omega)
            refine ⟨by omega, ?_, fun h2 => by rw [eod]; exact y3 h2⟩
            rw [eod, y2]
            unfold eo
            by_cases y0 : (C.getD m (0, 0, 0)).2.2 = 0
            · rw [if_pos y0, if_pos y0]
            · rw [if_neg y0, if_neg y0]; exact (s3i _ (by omega)).1.symm
          · obtain ⟨q, rfl⟩ : ∃ q, m = b + q := ⟨m - b, by omega⟩
            have hq : q < c.length := by omega
            have fin : (c.getD q (0, 0, 0)).2.2 ≤ j ∧ (l.foldl (fun od x => ls od x.2.2 (s'.2.2.1 x.2.1)) od).getD (b + q) 0 = eo s'.2.2.1 (c.getD q (0, 0, 0)) := by
              rcases g4 q hq with y0 | ⟨t, t1, t2, t3, t4, t5⟩
              · refine ⟨by omega, ?_⟩
                rw [(FG (b + q) (by omega)).1 (fun x hx e => ?_), o4 (b + q) (by omega), hC.2 q hq]
                · unfold eo; rw [if_pos y0]
                · obtain ⟨m', m1, m2, m3⟩ := hPl x hx
                  rw [m3, i_ofeq (by omega) (by omega)] at e
                  have : m' = q := by omega
                  subst this
                  omega
              · refine ⟨by omega, ?_⟩
                rw [(FG (b + q) (by omega)).2.1 (i + t) (by omega) (fun x hx e => ?_) ?_]
                · unfold eo
                  rw [if_neg (by omega), t2]
                  rfl
                · have nz : ¬ (me.getD t (0, 0)).1 = 0 := by intro e; rw [e] at t4; cases t4
                  have := evP_in (i := i) t1 nz
                  rw [el] at this
                  rcases List.mem_cons.mp this with e | e
                  · injection e with e _
                    rw [e] at t4
                    cases t4
                  · exact ⟨_, e, t5⟩
                · obtain ⟨m', m1, m2, m3⟩ := hPl x hx
                  rw [m3, i_ofeq (by omega) (by omega)] at e
                  have : m' = q := by omega
                  subst this
                  omega
            rw [hC.2 q hq]
            refine ⟨fin.1, fin.2, fun h2 => ?_⟩
            rw [fin.2]
            have hb2 := gb_block (tT_ok hl).2.2.1 8 _ _ _ _ _ hb
            have hin : c.getD q (0, 0, 0) ∈ c2 := by
              rw [hc]
              by_cases ql : q < c2.length
              · rw [getD_l ql, getD_lt ql]; exact List.getElem_mem ql
              · have : q = c2.length := by omega
                subst this
                rw [hc, getD_e] at h2
                exact absurd h2 (by decide)
            obtain ⟨t, t1, t2⟩ := hb2 _ hin h2
            obtain ⟨x, hx, ex⟩ := (s4 _ t2).1 rfl
            refine ⟨x, hx, ?_⟩
            unfold eo
            rw [if_neg (by omega), t1]
            exact ex
        · by_cases mC : m < C.length
          · rw [(FG m (by omega)).1 (fun x hx e => ?_), o4 m (by omega)]
            obtain ⟨m', m1, _, m3⟩ := hPl x hx
            rw [m3, i_ofeq (by omega) (by omega)] at e
            omega
          · have L1 := (FG 0 (by omega)).2.2
            rw [getD_ge (by omega), getD_ge (by omega)]
    · obtain ⟨s1, s2, s3⟩ := S2 y
      refine ⟨?_, s3⟩
      rw [evTs_app, evTs_blk bE]
      show ERR (evT ((k, n, f, wd, rs, ps, tw, nr, np, tn.length, nd), evs (k, n, f, wd, rs, ps, tw, nr, np, tn.length, nd) s e2, td, tp, tt, wo, ki, ne) (4, i + 1, 0)) _ _
      exact evT_e ⟨s1, s2, y⟩
  · obtain ⟨b1, b2⟩ := N2 z
    exact SIM_er gl (by rw [c1]; exact z) (by rw [c1, E1]; exact b1) (by rw [E1]; exact b2) hn1
