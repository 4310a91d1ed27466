/-! THE CLASS'S NAMING AND THE REFERENCE'S: A TEXT -/
theorem SIM_app {B : List Int32} {C : List CI} {i1 b1 i2 b2 : Nat} {M : NM} {Q : TS} {e1 e2 : List EVt} {l1 l2 : List EP} (h : SIM B C i1 b1 M Q e1 l1) (h2 : ∀ M', NR B C i1 b1 M' (evTs Q e1) → SIM B C i2 b2 M' (evTs Q e1) e2 l2) : SIM B C i2 b2 M Q (e1 ++ e2) (l1 ++ l2) := by
  obtain ⟨a1, a2, a3⟩ := h
  have k := evTs_k (e := e1) (Q := Q)
  by_cases z : (fC B l1 M).1 = 0
  · obtain ⟨c1, c2, c3⟩ := h2 _ (a2 z)
    have e : fC B (l1 ++ l2) M = fC B l2 (fC B l1 M).2.2 := by rw [fC_app, if_pos z]
    unfold SIM
    rw [e, evTs_app]
    rw [k.2.2.1, k.2.1] at c3
    exact ⟨gC_app l1 l2 M a1 (fun _ => c1), c2, c3⟩
  · have e : fC B (l1 ++ l2) M = fC B l1 M := by rw [fC_app, if_neg z]
    unfold SIM
    rw [e, evTs_app]
    refine ⟨gC_app l1 l2 M a1 (fun y => absurd y z), fun y => absurd y z, fun _ => ?_⟩
    obtain ⟨c1, c2⟩ := a3 z
    exact ⟨evTs_e c1, c2⟩
theorem evP_app : ∀ (i : Nat) (m m' : ME), evP i (m ++ m') = evP i m ++ evP (i + m.length) m'
  | _, [], _ => rfl
  | i, x :: m, m' => by
    rw [List.cons_append, evP, evP, evP_app (i + 1) m m', List.length_cons, show i + 1 + m.length = i + (m.length + 1) by omega]
    by_cases c : x.1 = 0
    · rw [if_pos c, if_pos c]
    · rw [if_neg c, if_neg c]; rfl
theorem sim_thing {B : List Int32} {C : List CI} {i b j : Nat} {c : List CI} {e : List EVt} {M : NM} {Q : TS} {me : ME} (hl : B.length ≤ 2000) (hj : j < (tT B).length) (m : NR B C i b M Q) (h : pThing2 (kdF B) i b = (j, some (c, e))) (hg : THG (kdF B) i j b c e me) (hC : b + c.length ≤ C.length ∧ ∀ m, m < c.length → C.getD (b + m) (0, 0, 0) = c.getD m (0, 0, 0)) : SIM B C j (b + c.length) M Q e (evP i me) := by
  obtain ⟨g, gt⟩ := hg
  have hm : (evP i me).map (fun x => ((x.1, x.2.1, 0) : EVt)) = e.filter isR := by rw [evP_O, ← g.2.1]
  have hk : ∀ x, x ∈ evP i me → kOK (kdF B x.2.1) x.1 := by
    intro x hx
    obtain ⟨t, t1, t2, t3, t4, t5⟩ := evP_mem hx
    rw [t2, t3]
    exact g.2.2.1 t t1
  unfold pThing2 at h
  by_cases c0 : kdF B i = 0
  · rw [if_pos c0] at h
    exact sim_room hl hj m h hm
  rw [if_neg c0] at h
  by_cases c1 : kdF B i = 1
  · rw [if_pos c1] at h
    exact sim_door hl hj m h hm hk
  rw [if_neg c1] at h
  by_cases c2 : kdF B i = 2
  · rw [if_pos c2] at h
    exact sim_part hl hj m h hm hk
  rw [if_neg c2] at h
  by_cases c3 : kdF B i = 10
  · rw [if_pos c3] at h
    exact sim_tour hl hj m h g (gt c3) hC
  · rw [if_neg c3] at h
    cases h
theorem sim_all {B : List Int32} {C : List CI} (hl : B.length ≤ 2000) : ∀ (n i b j : Nat) (c : List CI) (e : List EVt) (me : ME) (M : NM) (Q : TS), TCH (kdF B) n i b j c e me → NR B C i b M Q → j < (tT B).length → (b + c.length ≤ C.length ∧ ∀ m, m < c.length → C.getD (b + m) (0, 0, 0) = c.getD m (0, 0, 0)) → SIM B C j (b + c.length) M Q e (evP i me) := by
  intro n
  induction n with
  | zero => intro i b j c e me M Q h; exact h.elim
  | succ n ih =>
    intro i b j c e me M Q h m hj hC
    rcases h with ⟨h1, h2, h3, h4, h5⟩ | ⟨_, i1, c1, e1, m1, c2, e2, m2, h1, h2, h3, h4, h5, h6, h7⟩
    · subst h2 h3 h4 h5
      have gp := pn_pl m
      exact ⟨by show plL M - 1 ≤ pnL M; omega, fun _ => m, fun z => absurd rfl z⟩
    · subst h5 h6 h7
      have l1 := h3.1.1
      have l2 := (tch_len h4).1
      rw [List.length_append] at hC
      have hC1 : b + c1.length ≤ C.length ∧ ∀ m, m < c1.length → C.getD (b + m) (0, 0, 0) = c1.getD m (0, 0, 0) := ⟨by omega, fun m hm => by rw [hC.2 m (by omega), getD_l hm]⟩
      have hC2 : b + c1.length + c2.length ≤ C.length ∧ ∀ m, m < c2.length → C.getD (b + c1.length + m) (0, 0, 0) = c2.getD m (0, 0, 0) := ⟨by omega, fun m hm => by rw [Nat.add_assoc, hC.2 (c1.length + m) (by omega), getD_r (by omega), Nat.add_sub_cancel_left]⟩
      rw [evP_app, List.length_append, ← Nat.add_assoc, l1]
      exact SIM_app (sim_thing hl (by omega) m h1 h3 hC1) (fun M' m' => ih i1 (b + c1.length) j c2 e2 m2 M' _ h4 m' hj hC2)
theorem tch_ok {k : Nat → Nat} : ∀ {n i b j : Nat} {c : List CI} {e : List EVt} {me : ME}, TCH k n i b j c e me → ∀ t, t < me.length → kOK (k (i + t)) (me.getD t (0, 0)).1
  | 0, _, _, _, _, _, _, h => h.elim
  | n + 1, i, b, j, c, e, me, h => by
    rcases h with ⟨h1, h2, _, _, h5⟩ | ⟨_, i1, c1, e1, m1, c2, e2, m2, _, _, h3, h4, _, _, h7⟩
    · subst h5
      intro t ht
      cases ht
    · subst h7
      have l := h3.1.1
      intro t ht
      rw [List.length_append] at ht
      by_cases z : t < m1.length
      · rw [getD_l z]
        exact h3.1.2.2.1 t z
      · rw [getD_r (by omega), show i + t = i1 + (t - m1.length) by omega]
        exact tch_ok h4 _ (by omega)
/-- the naming of a text that the grammar takes -/
theorem nam_res {B : List Int32} {Q0 : TS} {j : Nat} {c : List CI} {e : List EVt} {me : ME} (hl : B.length ≤ 2000) (hj : j + 1 = (tT B).length) (ht : TCH (kdF B) 402 0 0 j c e me) (g1 : (tG B).2.2.2.2.2.1 = meR (me ++ [(0, 0)])) (g2 : (tG B).2.2.2.2.2.2.1 = meP (me ++ [(0, 0)])) (hn : NR B c 0 0 (tM0 B) Q0) :
    nGd B (tD B) (tM0 B) ∧ ((tM B).1 = 0 → NR B c j c.length (tM B).2.2 (evTs Q0 e)) ∧ (¬ (tM B).1 = 0 → ERR (evTs Q0 e) (tM B).1 (Q0.1.2.2.1 (tM B).2.1) ∧ (tM B).2.1 < Q0.1.2.1) := by
  obtain ⟨t1, t2⟩ := tch_len ht
  have tk := tch_ok ht
  obtain ⟨_, _, k50, _⟩ := tT_ok hl
  have eD : tD B = sgm B 0 (me ++ [(0, 0)]) ++ [] := by
    rw [List.append_nil, ← sgm_zip 0 (me ++ [(0, 0)]) (by rw [List.length_append, List.length_singleton]; omega), List.drop_zero]
    unfold tD
    rw [g1, g2]
  have kk : ∀ t, t < (me ++ [((0, 0) : Nat × Int32)]).length → kOK (kdF B (0 + t)) ((me ++ [((0, 0) : Nat × Int32)]).getD t (0, 0)).1 := by
    intro t h
    rw [List.length_append, List.length_singleton] at h
    by_cases z : t < me.length
    · rw [getD_l z]; exact tk t z
    · have : t = me.length := by omega
      subst this
      rw [getD_e, t1, t2]
      refine ⟨fun _ => by decide, fun h => absurd rfl h, fun h => absurd rfl h, fun h => absurd h (by decide), fun h => absurd h (by decide)⟩
  obtain ⟨r1, r2⟩ := nChk_sgm (D := []) k50 (me ++ [(0, 0)]) 0 (tM0 B) kk
  have eP : evP 0 (me ++ [((0, 0) : Nat × Int32)]) = evP 0 me := by
    rw [evP_app]
    show evP 0 me ++ [] = _
    exact List.append_nil _
  rw [← eD, eP] at r1 r2
  obtain ⟨s1, s2, s3⟩ := sim_all (C := c) hl 402 0 0 j c e me (tM0 B) Q0 ht hn (by omega) ⟨by omega, fun m _ => by rw [Nat.zero_add]⟩
  rw [Nat.zero_add] at s2
  have eM : tM B = (if (fC B (evP 0 me) (tM0 B)).1 = 0 then (0, 0 + (me ++ [((0, 0) : Nat × Int32)]).length, (fC B (evP 0 me) (tM0 B)).2.2) else fC B (evP 0 me) (tM0 B)) := r1
  rw [eM]
  refine ⟨r2 s1 (fun _ => trivial), ?_, ?_⟩
  · by_cases z : (fC B (evP 0 me) (tM0 B)).1 = 0
    · rw [if_pos z]; exact fun _ => s2 z
    · rw [if_neg z]; exact fun h => absurd h z
  · by_cases z : (fC B (evP 0 me) (tM0 B)).1 = 0
    · rw [if_pos z]; exact fun h => absurd rfl h
    · rw [if_neg z]; exact s3
theorem NR_0 {B : List Int32} {G : mH} {p : Nat} {c : List CI} (hc : c.length ≤ 401) (ho : (tG B).2.2.2.2.2.2.2.2 = c.map (·.2.1)) (sk : skR G p B (tT B)) : NR B c 0 0 (tM0 B) (rdQ B G p) := by
  obtain ⟨k1, k2, k3⟩ := sk
  refine ⟨⟨⟨fun r h => absurd h (Nat.not_lt_zero _), rfl, Nat.zero_le _⟩, ⟨fun r h => absurd h (Nat.not_lt_zero _), rfl, Nat.zero_le _⟩, ⟨fun r h => absurd h (Nat.not_lt_zero _), rfl, Nat.zero_le _⟩, rfl, rfl, fun j hj => ⟨(k3 j hj).2.2.1, (k3 j hj).2.2.2⟩⟩, ⟨fun x h => absurd h List.not_mem_nil, fun x h => absurd h List.not_mem_nil, fun x h => absurd h List.not_mem_nil⟩, rfl, ⟨[], rfl, rfl, rfl, rfl, Nat.zero_le _, fun x h => absurd h List.not_mem_nil, fun q h => absurd h (Nat.not_lt_zero _)⟩, ⟨rfl, rfl, rfl, rfl, rfl, fun q h => absurd h (Nat.not_lt_zero _)⟩, ⟨rfl, fun q h => absurd h (Nat.not_lt_zero _)⟩, ?_, fun j _ hj => (k3 j hj).2.1⟩
  rw [ho]
  refine ⟨List.length_map .., hc, fun m h => absurd h (Nat.not_lt_zero _), fun m _ => ?_⟩
  by_cases h : m < c.length
  · rw [getD_lt (by rw [List.length_map]; exact h), getD_lt h, List.getElem_map]
  · rw [getD_ge (by rw [List.length_map]; omega), getD_ge (by omega)]
theorem tSt_at {B : List Int32} {t : Nat} (hl : B.length ≤ 2000) (ht : t < (tT B).length) : lg (tSt B) (Int32.ofNat t) = Int32.ofNat ((tT B).getD t (0, 0, 0, 0)).2.1 := by
  have := (tT_ok hl).1
  rw [lg_of (by omega), getD_lt ht]
  unfold tSt
  rw [getD_lt (by rw [List.length_map]; exact ht), List.getElem_map]
/-- what both sides say of a text -/
theorem tch_res {B : List Int32} {G : mH} {p : Nat} (hl : B.length ≤ 2000) (sk : skR G p B (tT B)) :
    match pTxt (kdF B) 402 0 0 with
    | (j, none) => (tG B).2.2.2.2.1 = true ∧ tRes B = (1, mI G (p + 3) j)
    | (_, some (_, e)) => (tG B).2.2.2.2.1 = false ∧ nGd B (tD B) (tM0 B) ∧ (evTs (rdQ B G p) e).2.1.1 = (tRes B).1 ∧ (¬ (tRes B).1 = 0 → (evTs (rdQ B G p) e).2.1.2.1 = (tRes B).2) ∧ ((tRes B).1 = 0 → (tM B).1 = 0 ∧ ∃ c j, j + 1 = (tT B).length ∧ (tG B).2.2.2.2.2.2.2.1 = c.map (·.1) ∧ c.length ≤ 401 ∧ NR B c j c.length (tM B).2.2 (evTs (rdQ B G p) e)) := by
  have q := ev_txt (k := kdF B) 402 0 0 0
  have run := tG_run hl
  have hn := (tT_ok hl).1
  obtain ⟨k1, k2, k3⟩ := sk
  have sk : skR G p B (tT B) := ⟨k1, k2, k3⟩
  rcases h2 : pTxt2 (kdF B) 402 0 0 with ⟨j, _ | ⟨c, e⟩⟩ <;> rcases h1 : pTxt (kdF B) 402 0 0 with ⟨j', _ | ⟨c', e'⟩⟩ <;> rw [h2] at run <;> rw [h2, h1] at q <;> obtain ⟨q1, q2⟩ := q
  · obtain ⟨r1, r2, r3⟩ := run
    have q1 : j = j' := q1
    subst q1
    refine ⟨r2, ?_⟩
    unfold tRes
    rw [if_pos r2, r3, tSt_at hl r1, (k3 j r1).2.2.1]
  · cases q2
  · cases q2
  · have q1 : j = j' := q1
    have q3 : e = e' := Option.some.inj q2
    subst q1 q3
    obtain ⟨r1, r2, me, r3, r4, r5, r6, r7, r8⟩ := run
    obtain ⟨n1, n2, n3⟩ := nam_res hl r1 r3 r5 r6 (NR_0 (G := G) (p := p) (by omega) r8 sk)
    refine ⟨r4, n1, ?_⟩
    have nf : ¬ (tG B).2.2.2.2.1 = true := by rw [r4]; decide
    unfold tRes
    rw [if_neg nf]
    by_cases z : (tM B).1 = 0
    · rw [if_pos z]
      have m := n2 z
      have s0 : (evTs (rdQ B G p) e).2.1.1 = 0 := by
        generalize evTs (rdQ B G p) e = Q at m
        generalize (tM B).2.2 = M at m
        obtain ⟨rn, df, dt, ds, pn, pr, pl', pw, pk, pd, tn, ts, od⟩ := M
        obtain ⟨X, s, td, tp, tt, wo, ki, ne⟩ := Q
        exact m.2.2.1
      exact ⟨s0, fun h => absurd rfl h, fun _ => ⟨z, c, j, r1, r7, by omega, m⟩⟩
    · rw [if_neg z]
      obtain ⟨⟨e1, e2, e3⟩, e4⟩ := n3 z
      refine ⟨e1, fun _ => ?_, fun h => absurd h z⟩
      rw [e2, tSt_at hl e4]
      exact (k3 _ e4).2.2.1
