/-! THE CLASS'S NAMING AND THE REFERENCE'S: A BLOCK -/
/-- the names, the tokens -/
def NMX (B : List Int32) (rn pn tn : List (List Int32)) : PX → Prop
  | (k, n, f, wd, rs, ps, tw, nr, np, nt, _) => (nmsOK rn rs ∧ rn.length = nr ∧ nr ≤ 12) ∧ (nmsOK pn ps ∧ pn.length = np ∧ np ≤ 16) ∧ (nmsOK tn tw ∧ tn.length = nt ∧ nt ≤ 6) ∧ (k = kdF B ∧ n = (tT B).length ∧ ∀ j, j < n → f j = Int32.ofNat ((tT B).getD j (0, 0, 0, 0)).2.1 ∧ wd j = wdT B ((tT B).getD j (0, 0, 0, 0)))
abbrev nuT (B : List Int32) (t : Nat) : Int32 := ((tT B).getD t (0, 0, 0, 0)).2.2.2
abbrev sgT (B : List Int32) (t : Nat) : List Int32 := sgn B ((tT B).getD t (0, 0, 0, 0)).2.1 ((tT B).getD t (0, 0, 0, 0)).2.2.1
theorem cs_nm {B : List Int32} {r t : Nat} {pl : Int32} {M : NM} (h : kdF B t = 29) : cs B (r, t, pl) M = nName (Int32.ofNat (kdF B t)) pl (rlW r) (sgT B t) M := by
  unfold cs nStep
  dsimp only
  exact if_neg (by show ¬ kdF B t = 30; omega)
theorem cs_nu {B : List Int32} {r t : Nat} {pl : Int32} {M : NM} (h : kdF B t = 30) : cs B (r, t, pl) M = nNum (nuT B t) pl (rlW r) M := by
  unfold cs nStep
  dsimp only
  exact if_pos h
theorem nu_n {B : List Int32} {t : Nat} (hl : B.length ≤ 2000) (h : kdF B t = 30) : ∃ x, x < 10 ^ 6 ∧ nuT B t = Int32.ofNat x := (tT_tk hl t).2.1 h
theorem nm_t {B : List Int32} {t : Nat} (hl : B.length ≤ 2000) (h : kdF B t = 29) : nmOK (sgT B t) (wdT B ((tT B).getD t (0, 0, 0, 0))) := (tT_tk hl t).1 h
theorem sNm_ok {X : PX} {s : RS} {i : Nat} {x : Int32} (hx : ¬ x = -1) : sNm X s i x = sV s i x := if_neg (fun z => hx (of_decide_eq_true z.1))
theorem sNm_no {X : PX} {s : RS} {i : Nat} {x : Int32} (hx : x = -1) (hs : s.1 = 0) : (sNm X s i x).1 = 3 ∧ (sNm X s i x).2.1 = X.2.2.1 i := by
  unfold sNm sMn
  rw [if_pos ⟨decide_eq_true hx, hs⟩]
  exact ⟨rfl, rfl⟩
theorem sMn_ok {X : PX} {s : RS} {i : Nat} {b : Bool} {n : Int32} (hb : b = false) : sMn X s i b n = s := if_neg (fun z => by rw [hb] at z; cases z.1)
theorem sMn_no {X : PX} {s : RS} {i : Nat} {b : Bool} {n : Int32} (hb : b = true) (hs : s.1 = 0) : (sMn X s i b n).1 = n ∧ (sMn X s i b n).2.1 = X.2.2.1 i := by
  unfold sMn
  rw [if_pos ⟨hb, hs⟩]
  exact ⟨rfl, rfl⟩
/-- what an event of a block asks of its value -/
def bOK (np nt r : Nat) (x : Int32) : Prop := (r = 67 → ∃ y, y < 12 ∧ x = Int32.ofNat y) ∧ (r = 68 → ∃ y, y < np ∧ x = Int32.ofNat y) ∧ (r = 69 → ∃ y, y < nt ∧ x = Int32.ofNat y) ∧ (r = 74 → ∃ y, y ≤ 9 ∧ x = Int32.ofNat y)
/-- a step of a block: the class's, the reference's -/
def SB (B : List Int32) (X : PX) (s : RS) (r t z : Nat) (M : Int32 × NM) (Mo : Int32 → NM) : Prop :=
  ∃ x, (M.1 = 0 → M.2 = Mo x ∧ (evR X s (r, t, z)).1 = 0 ∧ (∀ q, (evR X s (r, t, z)).2.2.1 q = if q = t then x else s.2.2.1 q) ∧ (evR X s (r, t, z)).2.2.2 = s.2.2.2 ∧ bOK X.2.2.2.2.2.2.2.2.1 X.2.2.2.2.2.2.2.2.2.1 r x) ∧ (¬ M.1 = 0 → (evR X s (r, t, z)).1 = M.1 ∧ (evR X s (r, t, z)).2.1 = X.2.2.1 t)
theorem SB_nm {B : List Int32} {X : PX} {s : RS} {r t z : Nat} {x : Int32} {Mo : Int32 → NM} {N : List (List Int32)} {m : Nat} (hs : s.1 = 0) (he : evR X s (r, t, z) = sNm X s t x) (hx : (x = -1 ∧ x < 0) ∨ ∃ y, y < m ∧ x = Int32.ofNat y ∧ ¬ x < 0 ∧ ¬ x = -1) (hb : ∀ y, y < m → bOK X.2.2.2.2.2.2.2.2.1 X.2.2.2.2.2.2.2.2.2.1 r (Int32.ofNat y)) : SB B X s r t z (if x < 0 then 3 else 0, Mo x) Mo := by
  refine ⟨x, fun h => ?_, fun h => ?_⟩
  · rcases hx with ⟨h1, h2⟩ | ⟨y, h1, h2, h3, h4⟩
    · dsimp only at h
      rw [if_pos h2] at h
      exact absurd h (by decide)
    · rw [he, sNm_ok h4]
      refine ⟨rfl, hs, fun q => rfl, rfl, ?_⟩
      rw [h2]
      exact hb y h1
  · rcases hx with ⟨h1, h2⟩ | ⟨y, h1, h2, h3, h4⟩
    · rw [he]
      dsimp only
      rw [if_pos h2]
      exact sNm_no h1 hs
    · dsimp only at h
      rw [if_neg h3] at h
      exact absurd rfl h
theorem of_neg {n : Nat} (h : n ≤ 1000000) : ¬ Int32.ofNat n < 0 := by rw [i_lt, i_of_i h, i_z]; omega
theorem st_blk {B : List Int32} {X : PX} {s : RS} {r t z : Nat} {pl : Int32} {rn pn tn pnames : List (List Int32)} {sg : List Int32} {df dt ds pr pl' pw pk pd ts od : List Int32} (hl : B.length ≤ 2000) (hX : NMX B rn pn tn X) (ht : t < X.2.1) (hr : r = 67 ∨ r = 68 ∨ r = 69 ∨ r = 73 ∨ r = 74 ∨ r = 75) (hk : kOK (kdF B t) r) (hs : s.1 = 0) (hv : 73 ≤ r → s.2.2.1 t = nuT B t) :
    SB B X s r t z (cs B (r, t, pl) (rn, df, dt, ds, pn, pr, pl', pw, pk, pd, tn ++ [sg], ts, od)) (fun x => (rn, df, dt, ds, pn, pr, pl', pw, pk, pd, tn ++ [sg], ts, ls od pl x)) := by
  obtain ⟨k, n, f, wd, rs, ps, tw, nr, np, nt, nd⟩ := X
  obtain ⟨⟨r1, r2, r3⟩, ⟨p1, p2, p3⟩, ⟨t1, t2, t3⟩, ⟨x1, x2, x3⟩⟩ := hX
  have ht : t < n := ht
  have hw := (x3 t ht).2
  have num : kdF B t = 30 → 73 ≤ r → ∀ c : Int32, (c = 0 ∨ c = 5) → ∀ M : NM, (c = 0 → M = (rn, df, dt, ds, pn, pr, pl', pw, pk, pd, tn ++ [sg], ts, ls od pl (nuT B t))) → ((c = 0 → evR (k, n, f, wd, rs, ps, tw, nr, np, nt, nd) s (r, t, z) = s) ∧ (¬ c = 0 → (evR (k, n, f, wd, rs, ps, tw, nr, np, nt, nd) s (r, t, z)).1 = c ∧ (evR (k, n, f, wd, rs, ps, tw, nr, np, nt, nd) s (r, t, z)).2.1 = f t)) → (c = 0 → bOK np nt r (nuT B t)) → SB B (k, n, f, wd, rs, ps, tw, nr, np, nt, nd) s r t z (c, M) (fun x => (rn, df, dt, ds, pn, pr, pl', pw, pk, pd, tn ++ [sg], ts, ls od pl x)) := by
    intro _ h73 c _ M hM hE hb
    refine ⟨nuT B t, fun h => ?_, fun h => hE.2 h⟩
    have h : c = 0 := h
    rw [hE.1 h]
    refine ⟨hM h, hs, fun q => ?_, rfl, hb h⟩
    by_cases e : q = t
    · rw [if_pos e, e, hv h73]
    · rw [if_neg e]
  rcases hr with rfl | rfl | rfl | rfl | rfl | rfl
  · have k29 : kdF B t = 29 := hk.2.2.1 (by decide) (by decide)
    obtain ⟨l1, l2⟩ := look (nm_t hl k29) r1 (by omega)
    rw [cs_nm k29]
    show SB B (k, n, f, wd, rs, ps, tw, nr, np, nt, nd) s 67 t z (if fnd (sgT B t) rn 0 < 0 then (3 : Int32) else 0, (fun x => (rn, df, dt, ds, pn, pr, pl', pw, pk, pd, tn ++ [sg], ts, ls od pl x)) (fnd (sgT B t) rn 0)) (fun x => (rn, df, dt, ds, pn, pr, pl', pw, pk, pd, tn ++ [sg], ts, ls od pl x))
    refine SB_nm (Mo := (fun x => (rn, df, dt, ds, pn, pr, pl', pw, pk, pd, tn ++ [sg], ts, ls od pl x))) (X := (k, n, f, wd, rs, ps, tw, nr, np, nt, nd)) (N := rn) (m := rn.length) hs ?_ l2 (fun y hy => show bOK np nt 67 (Int32.ofNat y) from ⟨fun _ => ⟨y, by omega, rfl⟩, fun h => absurd h (by decide), fun h => absurd h (by decide), fun h => absurd h (by decide)⟩)
    show sNm _ s t (fnL rs (wd t) nr 0) = _
    rw [l1, hw, r2]
  · have k29 : kdF B t = 29 := hk.2.2.1 (by decide) (by decide)
    obtain ⟨l1, l2⟩ := look (nm_t hl k29) p1 (by omega)
    rw [cs_nm k29]
    show SB B (k, n, f, wd, rs, ps, tw, nr, np, nt, nd) s 68 t z (if fnd (sgT B t) pn 0 < 0 then (3 : Int32) else 0, (fun x => (rn, df, dt, ds, pn, pr, pl', pw, pk, pd, tn ++ [sg], ts, ls od pl x)) (fnd (sgT B t) pn 0)) (fun x => (rn, df, dt, ds, pn, pr, pl', pw, pk, pd, tn ++ [sg], ts, ls od pl x))
    refine SB_nm (Mo := (fun x => (rn, df, dt, ds, pn, pr, pl', pw, pk, pd, tn ++ [sg], ts, ls od pl x))) (X := (k, n, f, wd, rs, ps, tw, nr, np, nt, nd)) (N := pn) (m := pn.length) hs ?_ l2 (fun y hy => show bOK np nt 68 (Int32.ofNat y) from ⟨fun h => absurd h (by decide), fun _ => ⟨y, by omega, rfl⟩, fun h => absurd h (by decide), fun h => absurd h (by decide)⟩)
    show sNm _ s t (fnL ps (wd t) np 0) = _
    rw [l1, hw, p2]
  · have k29 : kdF B t = 29 := hk.2.2.1 (by decide) (by decide)
    obtain ⟨l1, l2⟩ := look (nm_t hl k29) t1 (by omega)
    have et : (tn ++ [sg]).take ((tn ++ [sg]).length - 1) = tn := by rw [List.length_append, List.length_singleton, Nat.add_sub_cancel, List.take_left]
    rw [cs_nm k29]
    show SB B _ s 69 t z (nUs pl (fnd (sgT B t) ((tn ++ [sg]).take ((tn ++ [sg]).length - 1)) 0) (rn, df, dt, ds, pn, pr, pl', pw, pk, pd, tn ++ [sg], ts, od)) _
    rw [et]
    show SB B (k, n, f, wd, rs, ps, tw, nr, np, nt, nd) s 69 t z (if fnd (sgT B t) tn 0 < 0 then (3 : Int32) else 0, (fun x => (rn, df, dt, ds, pn, pr, pl', pw, pk, pd, tn ++ [sg], ts, ls od pl x)) (fnd (sgT B t) tn 0)) (fun x => (rn, df, dt, ds, pn, pr, pl', pw, pk, pd, tn ++ [sg], ts, ls od pl x))
    refine SB_nm (Mo := (fun x => (rn, df, dt, ds, pn, pr, pl', pw, pk, pd, tn ++ [sg], ts, ls od pl x))) (X := (k, n, f, wd, rs, ps, tw, nr, np, nt, nd)) (N := tn) (m := tn.length) hs ?_ l2 (fun y hy => show bOK np nt 69 (Int32.ofNat y) from ⟨fun h => absurd h (by decide), fun h => absurd h (by decide), fun _ => ⟨y, by omega, rfl⟩, fun h => absurd h (by decide)⟩)
    show sNm _ s t (fnL tw (wd t) nt 0) = _
    rw [l1, hw, t2]
  · have k30 : kdF B t = 30 := hk.2.2.2.1 (by decide) (by decide)
    obtain ⟨v, hv1, hv2⟩ := nu_n hl k30
    have hvt := hv (by decide)
    rw [cs_nu k30]
    show SB B _ s 73 t z (if inR (nuT B t) 1 900 = true then (if nuT B t < 0 then (3 : Int32) else 0, (rn, df, dt, ds, pn, pr, pl', pw, pk, pd, tn ++ [sg], ts, ls od pl (nuT B t))) else (5, rn, df, dt, ds, pn, pr, pl', pw, pk, pd, tn ++ [sg], ts, od)) _
    have ev : evR (k, n, f, wd, rs, ps, tw, nr, np, nt, nd) s (73, t, z) = sMn (k, n, f, wd, rs, ps, tw, nr, np, nt, nd) s t (!inR (s.2.2.1 t) 1 900) 5 := rfl
    by_cases c : inR (nuT B t) 1 900 = true
    · rw [if_pos c, if_neg (by rw [hv2]; exact of_neg (by omega))]
      exact num k30 (by decide) 0 (Or.inl rfl) _ (fun _ => rfl) ⟨fun _ => by rw [ev]; exact sMn_ok (by rw [hvt, c]; rfl), fun h => absurd rfl h⟩ (fun _ => ⟨fun h => by omega, fun h => by omega, fun h => by omega, fun h => by omega⟩)
    · rw [if_neg c]
      exact num k30 (by decide) 5 (Or.inr rfl) _ (fun h => absurd h (by decide)) ⟨fun h => absurd h (by decide), fun _ => by rw [ev]; exact sMn_no (by rw [hvt]; revert c; cases inR (nuT B t) 1 900 <;> decide) hs⟩ (fun h => absurd h (by decide))
  · have k30 : kdF B t = 30 := hk.2.2.2.1 (by decide) (by decide)
    obtain ⟨v, hv1, hv2⟩ := nu_n hl k30
    have hvt := hv (by decide)
    rw [cs_nu k30]
    show SB B _ s 74 t z (if nuT B t ≤ 9 then (if nuT B t < 0 then (3 : Int32) else 0, (rn, df, dt, ds, pn, pr, pl', pw, pk, pd, tn ++ [sg], ts, ls od pl (nuT B t))) else (5, rn, df, dt, ds, pn, pr, pl', pw, pk, pd, tn ++ [sg], ts, od)) _
    have ev : evR (k, n, f, wd, rs, ps, tw, nr, np, nt, nd) s (74, t, z) = sMn (k, n, f, wd, rs, ps, tw, nr, np, nt, nd) s t (!inR (s.2.2.1 t) 0 9) 5 := rfl
    have e0 : (0 : Int32) ≤ nuT B t := by rw [hv2, i_le, i_of_i (by omega), i_z]; omega
    have er : inR (nuT B t) 0 9 = decide (nuT B t ≤ 9) := by unfold inR; rw [decide_eq_true e0, Bool.true_and]
    by_cases c : nuT B t ≤ 9
    · rw [if_pos c, if_neg (by rw [hv2]; exact of_neg (by omega))]
      refine num k30 (by decide) 0 (Or.inl rfl) _ (fun _ => rfl) ⟨fun _ => by rw [ev]; exact sMn_ok (by rw [hvt, er, decide_eq_true c]; rfl), fun h => absurd rfl h⟩ (fun _ => ⟨fun h => by omega, fun h => by omega, fun h => by omega, fun _ => ⟨v, ?_, hv2⟩⟩)
      rw [hv2, show (9 : Int32) = Int32.ofNat 9 from rfl, i_ofle (by omega) (by omega)] at c
      exact c
    · rw [if_neg c]
      exact num k30 (by decide) 5 (Or.inr rfl) _ (fun h => absurd h (by decide)) ⟨fun h => absurd h (by decide), fun _ => by rw [ev]; exact sMn_no (by rw [hvt, er, decide_eq_false c]; rfl) hs⟩ (fun h => absurd h (by decide))
  · have k30 : kdF B t = 30 := hk.2.2.2.1 (by decide) (by decide)
    obtain ⟨v, hv1, hv2⟩ := nu_n hl k30
    rw [cs_nu k30]
    show SB B _ s 75 t z (if nuT B t < 0 then (3 : Int32) else 0, (rn, df, dt, ds, pn, pr, pl', pw, pk, pd, tn ++ [sg], ts, ls od pl (nuT B t))) _
    rw [if_neg (by rw [hv2]; exact of_neg (by omega))]
    exact num k30 (by decide) 0 (Or.inl rfl) _ (fun _ => rfl) ⟨fun _ => rfl, fun h => absurd rfl h⟩ (fun _ => ⟨fun h => by omega, fun h => by omega, fun h => by omega, fun h => by omega⟩)
theorem evs_e {X : PX} : ∀ {e : List EVt} {s : RS}, ¬ s.1 = 0 → (evs X s e).1 = s.1 ∧ (evs X s e).2.1 = s.2.1
  | [], s, _ => ⟨rfl, rfl⟩
  | ev :: e, s, h => by
    have a := evR_e (X := X) (ev := ev) h
    have b := evs_e (X := X) (e := e) (s := evR X s ev) (by rw [a.1]; exact h)
    exact ⟨b.1.trans a.1, b.2.trans a.2⟩
theorem blk_sim {B : List Int32} {X : PX} {rn pn tn : List (List Int32)} {sg : List Int32} {df dt ds pr pl' pw pk pd ts : List Int32} (hl : B.length ≤ 2000) (hX : NMX B rn pn tn X) : ∀ (e : List EVt) (s : RS) (l : List EP) (od : List Int32), blkE e → e.Pairwise (fun x y => ¬ x.2.1 = y.2.1) → s.1 = 0 → (∀ ev, ev ∈ e → ev.2.1 < X.2.1 ∧ s.2.2.1 ev.2.1 = nuT B ev.2.1 ∧ (ev.1 = 0 ∨ kOK (kdF B ev.2.1) ev.1)) → l.map (fun x => ((x.1, x.2.1, 0) : EVt)) = e.filter isR → (∀ ev, ev ∈ e → ¬ ev.1 = 0 → ev.2.2 = 0) →
    ((fC B l (rn, df, dt, ds, pn, pr, pl', pw, pk, pd, tn ++ [sg], ts, od)).1 = 0 → (evs X s e).1 = 0 ∧ (fC B l (rn, df, dt, ds, pn, pr, pl', pw, pk, pd, tn ++ [sg], ts, od)).2.2 = (rn, df, dt, ds, pn, pr, pl', pw, pk, pd, tn ++ [sg], ts, l.foldl (fun od x => ls od x.2.2 ((evs X s e).2.2.1 x.2.1)) od) ∧ (∀ q, (∀ ev, ev ∈ e → ¬ ev.2.1 = q) → (evs X s e).2.2.1 q = s.2.2.1 q ∧ (evs X s e).2.2.2 q = s.2.2.2 q) ∧ EVQ (evs X s e).2.2.1 (evs X s e).2.2.2 X.2.2.2.2.2.2.2.2.1 X.2.2.2.2.2.2.2.2.2.1 e) ∧
    (¬ (fC B l (rn, df, dt, ds, pn, pr, pl', pw, pk, pd, tn ++ [sg], ts, od)).1 = 0 → (evs X s e).1 = (fC B l (rn, df, dt, ds, pn, pr, pl', pw, pk, pd, tn ++ [sg], ts, od)).1 ∧ (evs X s e).2.1 = X.2.2.1 (fC B l (rn, df, dt, ds, pn, pr, pl', pw, pk, pd, tn ++ [sg], ts, od)).2.1 ∧ (fC B l (rn, df, dt, ds, pn, pr, pl', pw, pk, pd, tn ++ [sg], ts, od)).2.1 < X.2.1) ∧
    (pl'.length - 1 ≤ pn.length → gC B l (rn, df, dt, ds, pn, pr, pl', pw, pk, pd, tn ++ [sg], ts, od)) := by
  intro e
  induction e with
  | nil =>
    intro s l od _ _ hs _ hm _
    have : l = [] := by
      rw [List.filter_nil] at hm
      exact List.map_eq_nil_iff.mp hm
    subst this
    exact ⟨fun _ => ⟨hs, rfl, fun _ _ => ⟨rfl, rfl⟩, fun _ h => absurd h List.not_mem_nil⟩, fun h => absurd rfl h, fun h => h⟩
  | cons ev e ih =>
    intro s l od hb hp hs ht hm h0
    obtain ⟨r, t, z⟩ := ev
    obtain ⟨hp1, hp2⟩ := List.pairwise_cons.mp hp
    obtain ⟨ht1, ht2, ht3⟩ := ht _ (List.mem_cons_self ..)
    dsimp only at ht1 ht2 ht3 hp1
    have hb' : blkE e := fun ev h => hb ev (List.mem_cons_of_mem _ h)
    have h0' : ∀ ev, ev ∈ e → ¬ ev.1 = 0 → ev.2.2 = 0 := fun ev h => h0 ev (List.mem_cons_of_mem _ h)
    have nq : ∀ q, (∀ ev, ev ∈ (r, t, z) :: e → ¬ ev.2.1 = q) → ¬ q = t ∧ ∀ ev, ev ∈ e → ¬ ev.2.1 = q := fun q hq => ⟨fun h => hq _ (List.mem_cons_self ..) h.symm, fun ev h => hq ev (List.mem_cons_of_mem _ h)⟩
    have nt : ∀ ev, ev ∈ e → ¬ ev.2.1 = t := fun ev h c => hp1 ev h c.symm
    rcases hb _ (List.mem_cons_self ..) with hr | hr
    · have hr : r = 0 := hr
      subst hr
      have fl : ((0, t, z) :: e).filter isR = e.filter isR := List.filter_cons_of_neg (fun h => absurd (show (false : Bool) = true from h) (by decide))
      rw [fl] at hm
      have es : evs X s ((0, t, z) :: e) = evs X (sL s t (Int32.ofNat z)) e := rfl
      obtain ⟨i1, i2, i3⟩ := ih (sL s t (Int32.ofNat z)) l od hb' hp2 hs (fun ev h => ht ev (List.mem_cons_of_mem _ h)) hm h0'
      rw [es]
      refine ⟨fun h => ?_, i2, i3⟩
      obtain ⟨j1, j2, j3, j4⟩ := i1 h
      refine ⟨j1, j2, fun q hq => ?_, fun ev hev => ?_⟩
      · obtain ⟨q1, q2⟩ := nq q hq
        obtain ⟨a, b⟩ := j3 q q2
        exact ⟨a, b.trans (if_neg q1)⟩
      · rcases List.mem_cons.mp hev with q | q
        · subst q
          refine ⟨fun h => absurd (show (0 : Nat) = 67 from h) (by decide), fun h => absurd (show (0 : Nat) = 68 from h) (by decide), fun h => absurd (show (0 : Nat) = 69 from h) (by decide), fun h => absurd (show (0 : Nat) = 74 from h) (by decide), fun _ => ?_⟩
          exact (j3 t nt).2.trans (if_pos rfl)
        · exact j4 ev q
    · have hr : r = 67 ∨ r = 68 ∨ r = 69 ∨ r = 73 ∨ r = 74 ∨ r = 75 := hr
      have r0 : ¬ r = 0 := by omega
      have z0 : z = 0 := h0 _ (List.mem_cons_self ..) r0
      have fl : ((r, t, z) :: e).filter isR = (r, t, z) :: e.filter isR := List.filter_cons_of_pos (by show (decide (60 ≤ r) && decide (r ≤ 76)) = true; rw [decide_eq_true (by omega), decide_eq_true (by omega)]; rfl)
      rw [fl] at hm
      cases l with
      | nil => cases hm
      | cons x l =>
        obtain ⟨xr, xt, xp⟩ := x
        rw [List.map_cons] at hm
        injection hm with hm1 hm2
        injection hm1 with e1 e2
        injection e2 with e2 e3
        dsimp only at e1 e2
        subst e1 e2
        have hk : kOK (kdF B xt) xr := ht3.resolve_left r0
        obtain ⟨x, s1, s2⟩ := st_blk (pnames := []) (z := z) (pl := xp) (sg := sg) (df := df) (dt := dt) (ds := ds) (pr := pr) (pl' := pl') (pw := pw) (pk := pk) (pd := pd) (ts := ts) (od := od) hl hX ht1 hr hk hs (fun _ => ht2)
        have es : evs X s ((xr, xt, z) :: e) = evs X (evR X s (xr, xt, z)) e := rfl
        rw [es, fC, gC]
        by_cases c : (cs B (xr, xt, xp) (rn, df, dt, ds, pn, pr, pl', pw, pk, pd, tn ++ [sg], ts, od)).1 = 0
        · rw [if_pos c]
          obtain ⟨y1, y2, y3, y4, y5⟩ := s1 c
          rw [y1]
          obtain ⟨i1, i2, i3⟩ := ih (evR X s (xr, xt, z)) l (ls od xp x) hb' hp2 y2 (fun ev h => by
            obtain ⟨g1, g2, g3⟩ := ht ev (List.mem_cons_of_mem _ h)
            exact ⟨g1, by rw [y3, if_neg (nt ev h)]; exact g2, g3⟩) hm2 h0'
          refine ⟨fun h => ?_, i2, fun h => ⟨h, fun _ => i3 h⟩⟩
          obtain ⟨j1, j2, j3, j4⟩ := i1 h
          have vt : (evs X (evR X s (xr, xt, z)) e).2.2.1 xt = x := (j3 xt nt).1.trans (by rw [y3, if_pos rfl])
          refine ⟨j1, ?_, fun q hq => ?_, fun ev hev => ?_⟩
          · rw [j2, List.foldl_cons]
            dsimp only
            rw [vt]
          · obtain ⟨q1, q2⟩ := nq q hq
            obtain ⟨a, b⟩ := j3 q q2
            exact ⟨a.trans (by rw [y3, if_neg q1]), b.trans (by rw [y4])⟩
          · rcases List.mem_cons.mp hev with q | q
            · subst q
              dsimp only
              rw [vt]
              exact ⟨y5.1, y5.2.1, y5.2.2.1, y5.2.2.2, fun h => absurd h r0⟩
            · exact j4 ev q
        · rw [if_neg c]
          obtain ⟨y1, y2⟩ := s2 c
          obtain ⟨z1, z2⟩ := evs_e (X := X) (e := e) (s := evR X s (xr, xt, z)) (by rw [y1]; exact c)
          exact ⟨fun h => absurd h c, fun _ => ⟨z1.trans y1, z2.trans y2, ht1⟩, fun h => ⟨h, fun q => absurd q c⟩⟩
