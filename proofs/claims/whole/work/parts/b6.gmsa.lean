/-! THE GRAMMAR'S MACHINE: A TEXT'S RESULT; A PARSER'S EVENTS DON'T HANG ON THE CODE'S PLACE -/
theorem getD_lt {α : Type} {l : List α} {d : α} {i : Nat} (h : i < l.length) : l.getD i d = l[i] := by rw [List.getD_eq_getElem?_getD, List.getElem?_eq_getElem h]; rfl
theorem getD_ge {α : Type} {l : List α} {d : α} {i : Nat} (h : l.length ≤ i) : l.getD i d = d := by rw [List.getD_eq_getElem?_getD, List.getElem?_eq_none h]; rfl
theorem getD_l {α : Type} {l m : List α} {d : α} {i : Nat} (h : i < l.length) : (l ++ m).getD i d = l.getD i d := by rw [List.getD_eq_getElem?_getD, List.getElem?_append_left h, ← List.getD_eq_getElem?_getD]
theorem getD_r {α : Type} {l m : List α} {d : α} {i : Nat} (h : l.length ≤ i) : (l ++ m).getD i d = m.getD (i - l.length) d := by rw [List.getD_eq_getElem?_getD, List.getElem?_append_right h, ← List.getD_eq_getElem?_getD]
theorem getD_e {α : Type} {l : List α} {x d : α} : (l ++ [x]).getD l.length d = x := by rw [getD_r (Nat.le_refl _), Nat.sub_self]; rfl
theorem kF_T {B : List Int32} : kF ((tT B).map (·.1)) = kdF B := by
  funext i
  show ((tT B).map (·.1)).getD i 0 = ((tT B).getD i (0, 0, 0, 0)).1
  by_cases h : i < (tT B).length
  · rw [getD_lt (by rw [List.length_map]; exact h), getD_lt h, List.getElem_map]
  · rw [getD_ge (by rw [List.length_map]; omega), getD_ge (by omega)]
theorem kdX_T {B : List Int32} (hl : B.length ≤ 2000) : kdX ((tT B).map (·.1)) ∧ kdL ((tT B).map (·.1)) := by
  obtain ⟨h1, h2, h3, h4⟩ := tT_ok hl
  have e : ∀ i, ((tT B).map (·.1)).getD i 0 = kdF B i := fun i => congrFun (kF_T (B := B)) i
  refine ⟨⟨by rw [List.length_map]; exact h1, fun i hi => ?_⟩, fun i => by rw [e]; exact h3 i⟩
  rw [List.length_map] at hi ⊢
  rw [e]
  exact h4 i hi
theorem tch_len {k : Nat → Nat} : ∀ {n i b j : Nat} {c : List CI} {e : List EVt} {me : ME}, TCH k n i b j c e me → i + me.length = j ∧ k j = 48
  | 0, _, _, _, _, _, _, h => h.elim
  | n + 1, i, b, j, c, e, me, h => by
    rcases h with ⟨h1, h2, _, _, h5⟩ | ⟨_, i1, c1, e1, m1, c2, e2, m2, _, _, h3, h4, _, _, h7⟩
    · subst h2 h5
      exact ⟨rfl, h1⟩
    · subst h7
      have := tch_len h4
      have l := h3.1.1
      refine ⟨?_, this.2⟩
      rw [List.length_append]
      omega
theorem tG_run {B : List Int32} (hl : B.length ≤ 2000) :
    match pTxt2 (kdF B) 402 0 0 with
    | (j, none) => j < (tT B).length ∧ (tG B).2.2.2.2.1 = true ∧ (tG B).2.2.1 = j
    | (j, some (c, e)) => j + 1 = (tT B).length ∧ c.length ≤ j ∧ ∃ me, TCH (kdF B) 402 0 0 j c e me ∧ (tG B).2.2.2.2.1 = false ∧ (tG B).2.2.2.2.2.1 = meR (me ++ [(0, 0)]) ∧ (tG B).2.2.2.2.2.2.1 = meP (me ++ [(0, 0)]) ∧ (tG B).2.2.2.2.2.2.2.1 = c.map (·.1) ∧ (tG B).2.2.2.2.2.2.2.2 = c.map (·.2.1) := by
  obtain ⟨hx, hL⟩ := kdX_T hl
  obtain ⟨h1, h2, h3, h4⟩ := tT_ok hl
  have ln : ((tT B).map (·.1)).length = (tT B).length := List.length_map ..
  have e0 : tG B = gN ((tT B).map (·.1)) 100000 (ST ((tT B).map (·.1)) [80] [] 0 8 [] [] [] []) := by
    unfold tG ST rp
    rw [ln, List.map_const', List.nil_append, List.length_nil, Nat.sub_zero]
    rfl
  have y := MT hx hL 402 0 0 [] [] [] [] (by omega) (by rw [ln]; omega) (Nat.le_refl 0) rfl rfl rfl rfl
  rw [kF_T] at y
  rcases h : pTxt2 (kdF B) 402 0 0 with ⟨j, _ | ⟨c, e⟩⟩
  · rw [h] at y
    obtain ⟨_, y2, m, y3, y4, y5⟩ := y
    rw [ln] at y2
    have y3' : m ≤ 100000 := by omega
    have z : tG B = gN ((tT B).map (·.1)) m (ST ((tT B).map (·.1)) [80] [] 0 8 [] [] [] []) := by
      rw [e0, show 100000 = m + (100000 - m) by omega, gN_add, gN_t (Or.inr y4)]
    rw [← z] at y4 y5
    exact ⟨y2, y4, y5⟩
  · rw [h] at y
    obtain ⟨_, y2, yc, m, me, y3, y4, y5⟩ := y
    rw [ln] at y2
    have y3' : m ≤ 100000 := by omega
    have z : tG B = gN ((tT B).map (·.1)) m (ST ((tT B).map (·.1)) [80] [] 0 8 [] [] [] []) := by
      rw [e0, show 100000 = m + (100000 - m) by omega, gN_add]
      exact gN_t (Or.inl (by rw [y4]; rfl)) _
    rw [y4] at z
    obtain ⟨t1, t2⟩ := tch_len y5
    have t3 := h4 j y2
    have jn : j + 1 = (tT B).length := by rw [t2] at t3; omega
    have r : ∀ R : List Int32, R.length = j + 1 → rp (tT B).length R = R := by
      intro R hR
      unfold rp
      rw [hR, jn, Nat.sub_self]
      exact List.append_nil R
    refine ⟨jn, by omega, me, y5, ?_⟩
    rw [z]
    unfold ST
    dsimp only
    rw [ln, List.nil_append, List.nil_append, r _ (by rw [List.length_append, meR, List.length_map]; show me.length + 1 = _; omega), r _ (by rw [List.length_append, meP, List.length_map]; show me.length + 1 = _; omega)]
    refine ⟨rfl, ?_, ?_, rfl, rfl⟩
    · unfold meR
      rw [List.map_append]
      rfl
    · unfold meP
      rw [List.map_append]
      rfl
/-- events and places don't hang on the code's place -/
def bi (P : PA) : Prop := ∀ i b b', evq (P i b) (P i b')
theorem evq_t {r s t : PR} (a : evq r s) (b : evq s t) : evq r t := ⟨a.1.trans b.1, a.2.trans b.2⟩
theorem evq_s {r s : PR} (a : evq r s) : evq s r := ⟨a.1.symm, a.2.symm⟩
theorem bi_sq {P Q : PA} (hp : bi P) (hq : bi Q) : bi (sq P Q) := by
  intro i b b'
  have p := hp i b b'
  rcases h1 : P i b with ⟨l, _ | ⟨c1, e1⟩⟩ <;> rcases h2 : P i b' with ⟨l', _ | ⟨c2, e2⟩⟩ <;> rw [h1, h2] at p <;> obtain ⟨p1, p2⟩ := p
  · rw [sq_n h1, sq_n h2]; exact ⟨p1, rfl⟩
  · cases p2
  · cases p2
  · have p1 : l = l' := p1
    have p3 : e1 = e2 := Option.some.inj p2
    subst p1 p3
    have q := hq l (b + c1.length) (b' + c2.length)
    rcases g1 : Q l (b + c1.length) with ⟨u, _ | ⟨d1, f1⟩⟩ <;> rcases g2 : Q l (b' + c2.length) with ⟨u', _ | ⟨d2, f2⟩⟩ <;> rw [g1, g2] at q <;> obtain ⟨q1, q2⟩ := q
    · rw [sq_sn h1 g1, sq_sn h2 g2]; exact ⟨q1, rfl⟩
    · cases q2
    · cases q2
    · have q1 : u = u' := q1
      have q3 : f1 = f2 := Option.some.inj q2
      subst q1 q3
      rw [sq_ss h1 g1, sq_ss h2 g2]
      exact ⟨rfl, rfl⟩
theorem bi_tk {k : Nat → Nat} {c : Nat} : bi (tk k c) := fun _ _ _ => ⟨rfl, rfl⟩
theorem bi_em {op : Int32} : bi (em op) := fun _ _ _ => ⟨rfl, rfl⟩
theorem bi_flp : bi flp := fun _ _ _ => ⟨rfl, rfl⟩
theorem bi_skp : bi skp := fun _ _ _ => ⟨rfl, rfl⟩
theorem bi_ho {k : Nat → Nat} {op : Int32} {nm r : Nat} : bi (ho k op nm r) := fun _ _ _ => ⟨rfl, rfl⟩
theorem bi_ite {P Q : PA} {c : Nat → Prop} [∀ i, Decidable (c i)] (hp : bi P) (hq : bi Q) : bi (fun i b => if c i then P i b else Q i b) := by
  intro i b b'
  by_cases z : c i
  · simpa [z] using hp i b b'
  · simpa [z] using hq i b b'
theorem bi_lpp {k : Nat → Nat} {c1 c2 : Nat} {o1 o2 : Int32} {x : PA} (hx : bi x) : ∀ n, bi (lpp k c1 o1 c2 o2 x n)
  | 0 => bi_skp
  | n + 1 => bi_ite (c := fun i => k i = c1) (bi_sq bi_tk (bi_sq hx (bi_sq bi_em (bi_lpp hx n)))) (bi_ite (c := fun i => k i = c2) (bi_sq bi_tk (bi_sq hx (bi_sq bi_em (bi_lpp hx n)))) bi_skp)
theorem bi_lpF {f : Nat → PA} (h : ∀ n, bi (f n)) : bi (lpF f) := fun i b => h _ i b
theorem bi_prod {k : Nat → Nat} {one : PA} (h : bi one) : bi (pProd k one) := bi_sq h (bi_lpF (bi_lpp h))
theorem bi_sum {k : Nat → Nat} {one : PA} (h : bi one) : bi (pSum k one) := bi_sq (bi_prod h) (bi_lpF (bi_lpp (bi_prod h)))
theorem bi_pr {k : Nat → Nat} {c : Nat} {op : Int32} {one : PA} (h : bi one) : bi (pPr k c op one) := bi_sq bi_tk (bi_sq bi_tk (bi_sq (bi_sum h) (bi_sq bi_tk (bi_sq (bi_sum h) (bi_sq bi_tk bi_em)))))
theorem bi_oneF {k : Nat → Nat} {rc : Option PA} (h : ∀ x, rc = some x → bi x) : bi (pOneF k rc) := by
  have t : ∀ c op, bi (sq (tk k c) (em op)) := fun c op => bi_sq bi_tk bi_em
  unfold pOneF
  rcases rc with _ | one
  · exact bi_ite bi_ho (bi_ite (t 20 11) (bi_ite (t 21 12) (bi_ite (t 22 13) (bi_ite (t 23 14) (bi_ite (t 6 15) (bi_ite bi_flp (bi_ite bi_flp (bi_ite (bi_sq bi_tk bi_flp) (bi_ite (bi_sq bi_tk bi_flp) bi_flp)))))))))
  · have ho := h one rfl
    exact bi_ite bi_ho (bi_ite (t 20 11) (bi_ite (t 21 12) (bi_ite (t 22 13) (bi_ite (t 23 14) (bi_ite (t 6 15) (bi_ite (bi_sq bi_tk (bi_sq ho bi_em)) (bi_ite (bi_sq bi_tk (bi_sq (bi_sum ho) bi_tk)) (bi_ite (bi_pr ho) (bi_ite (bi_pr ho) bi_flp)))))))))
theorem bi_one {k : Nat → Nat} : ∀ a, bi (pOne k a)
  | 0 => bi_oneF (fun x h => by cases h)
  | a + 1 => bi_oneF (fun x h => by cases h; exact bi_one a)
theorem bi_cmp {k : Nat → Nat} {sum : PA} (h : bi sum) : bi (pCmp k sum) := by
  have t : ∀ c op, bi (sq (tk k c) (sq sum (em op))) := fun c op => bi_sq bi_tk (bi_sq h bi_em)
  exact bi_ite (t 43 26) (bi_ite (t 44 27) (bi_ite (t 45 28) (bi_ite (t 46 29) (bi_ite (t 47 30) bi_flp))))
theorem bi_bth {k : Nat → Nat} {s : PA} (h : bi s) : bi (pBth k s) := bi_sq h (bi_lpF (bi_lpp h))
theorem bi_tst {k : Nat → Nat} {s : PA} (h : bi s) : bi (pTst k s) := bi_sq (bi_bth h) (bi_lpF (bi_lpp (bi_bth h)))
theorem bi_sin {k : Nat → Nat} {sum : PA} {rc : Option PA} (hs : bi sum) (h : ∀ x, rc = some x → bi x) : bi (pSin k sum rc) := by
  unfold pSin
  have l : bi (sq sum (pCmp k sum)) := bi_sq hs (bi_cmp hs)
  rcases rc with _ | s
  · exact bi_ite bi_flp (bi_ite bi_flp (bi_ite (bi_sq bi_tk bi_ho) (bi_ite (bi_sq bi_tk bi_ho) l)))
  · have ho := h s rfl
    exact bi_ite (bi_sq bi_tk (bi_sq ho bi_em)) (bi_ite (bi_sq bi_tk (bi_sq (bi_tst ho) bi_tk)) (bi_ite (bi_sq bi_tk bi_ho) (bi_ite (bi_sq bi_tk bi_ho) l)))
theorem bi_single {k : Nat → Nat} : ∀ a, bi (pSingle k a)
  | 0 => bi_sin (bi_sum (bi_one 0)) (fun x h => by cases h)
  | a + 1 => bi_sin (bi_sum (bi_one (a + 1))) (fun x h => by cases h; exact bi_single a)
theorem bi_evq {P Q : PA} (h : ∀ i b, evq (P i b) (Q i b)) (hp : bi P) : bi Q := fun i b b' => evq_t (evq_s (h i b)) (evq_t (hp i b b') (h i b'))
theorem bi_if {k : Nat → Nat} {tst blk : PA} (ht : bi tst) (hb : bi blk) : bi (pIf k tst blk) :=
  bi_evq (fun _ _ => ev_if) (bi_sq bi_em (bi_sq bi_tk (bi_sq ht (bi_sq bi_em (bi_sq hb (bi_ite (c := fun i => k i = 15) (bi_sq bi_tk (bi_sq bi_em hb)) bi_skp))))))
theorem bi_rep {k : Nat → Nat} {blk : PA} (hb : bi blk) : bi (pRep k blk) := bi_evq (fun _ _ => ev_rep) (bi_sq bi_em (bi_sq bi_tk (bi_sq bi_ho (bi_sq bi_em (bi_sq hb bi_em)))))
theorem bi_leaf {k : Nat → Nat} {c : Nat} {op : Int32} {nm r : Nat} : bi (pLeaf k c op nm r) := bi_sq bi_em (bi_sq bi_tk (bi_sq bi_ho bi_tk))
theorem bi_sen {k : Nat → Nat} {tst blk : PA} (ht : bi tst) (hb : bi blk) : bi (pSen k tst blk) :=
  bi_ite (c := fun i => k i = 11) bi_leaf (bi_ite (c := fun i => k i = 12) bi_leaf (bi_ite (c := fun i => k i = 13) bi_leaf (bi_ite (c := fun i => k i = 17) bi_leaf (bi_ite (c := fun i => k i = 14) (bi_if ht hb) (bi_ite (c := fun i => k i = 16) (bi_rep hb) bi_flp)))))
theorem bi_sns {k : Nat → Nat} {tst blk : PA} (ht : bi tst) (hb : bi blk) : ∀ n, bi (pSns k tst blk n)
  | 0 => bi_skp
  | n + 1 => bi_ite (c := fun i => isSe (k i) = true) (bi_sq (bi_sen ht hb) (bi_sns ht hb n)) bi_skp
theorem bi_blkF {k : Nat → Nat} {tst blk : PA} (ht : bi tst) (hb : bi blk) : bi (pBlkF k tst blk) := by
  intro i b b'
  have g := bi_sq (bi_tk (k := k) (c := 31)) (bi_sq (bi_lpF (bi_sns (k := k) ht hb)) (bi_tk (k := k) (c := 32))) i b b'
  unfold pBlkF
  rcases h1 : sq (tk k 31) (sq (lpF (pSns k tst blk)) (tk k 32)) i b with ⟨l, _ | ⟨c1, e1⟩⟩ <;> rcases h2 : sq (tk k 31) (sq (lpF (pSns k tst blk)) (tk k 32)) i b' with ⟨l', _ | ⟨c2, e2⟩⟩ <;> rw [h1, h2] at g <;> obtain ⟨p1, p2⟩ := g
  · exact ⟨p1, rfl⟩
  · cases p2
  · cases p2
  · have p1 : l = l' := p1
    have p3 : e1 = e2 := Option.some.inj p2
    subst p1 p3
    exact ⟨rfl, rfl⟩
theorem bi_block {k : Nat → Nat} : ∀ a, bi (pBlock k a)
  | 0 => bi_flp
  | a + 1 => bi_blkF (bi_tst (bi_single a)) (bi_block a)
theorem bi_evE {P : PA} {ev : Nat → EVt} (hp : bi P) : bi (evE P ev) := by
  intro i b b'
  have p := hp i b b'
  unfold evE
  rcases h1 : P i b with ⟨l, _ | ⟨c1, e1⟩⟩ <;> rcases h2 : P i b' with ⟨l', _ | ⟨c2, e2⟩⟩ <;> rw [h1, h2] at p <;> obtain ⟨p1, p2⟩ := p
  · exact ⟨p1, rfl⟩
  · cases p2
  · cases p2
  · have p1 : l = l' := p1
    have p3 : e1 = e2 := Option.some.inj p2
    subst p1 p3
    exact ⟨rfl, rfl⟩
theorem bi_nmk {k : Nat → Nat} {c r : Nat} : bi (nmk k c r) := fun _ _ _ => ⟨rfl, rfl⟩
theorem bi_kk {k : Nat → Nat} : bi (kk k) := fun _ _ _ => ⟨rfl, rfl⟩
theorem bi_p3 {k : Nat → Nat} {i0 : Nat} : bi (pP3 k i0) := fun _ _ _ => ⟨rfl, rfl⟩
theorem bi_p2 {k : Nat → Nat} {i0 : Nat} : bi (pP2 k i0) := bi_ite (c := fun i => k i = 6) (bi_sq bi_tk (bi_sq bi_nmk bi_p3)) bi_p3
theorem bi_p1 {k : Nat → Nat} {i0 : Nat} : bi (pP1 k i0) := bi_ite (c := fun i => k i = 5) (bi_sq bi_tk (bi_sq bi_kk bi_p2)) bi_p2
theorem bi_nd {k : Nat → Nat} {i0 : Nat} : ∀ n, bi (pNd k i0 n)
  | 0 => bi_flp
  | n + 1 => fun i b b' => by
    rw [pNd_sq (k := k) (b := b) rfl, pNd_sq (k := k) (b := b') rfl]
    exact bi_sq bi_tk (bi_sq bi_nmk (bi_ite (c := fun i => k i = 38) (bi_nd n) bi_p1)) i b b'
theorem bi_part {k : Nat → Nat} : bi (pPart k) := by
  refine bi_sq bi_tk (bi_sq bi_nmk (bi_sq bi_tk (bi_sq bi_nmk (bi_sq bi_nmk ?_))))
  intro j b b'
  unfold pPX
  by_cases z : k j = 4
  · rw [if_pos z, if_pos z]; exact bi_nd _ j b b'
  · rw [if_neg z, if_neg z]; exact bi_p1 j b b'
theorem bi_door {k : Nat → Nat} : bi (pDoor k) := bi_evE (bi_sq bi_tk (bi_sq bi_nmk (bi_sq bi_nmk (bi_sq bi_nmk bi_tk))))
theorem bi_room {k : Nat → Nat} : bi (pRoom k) := bi_evE (bi_sq bi_tk (bi_sq bi_nmk bi_tk))
theorem bi_tour2 {k : Nat → Nat} : bi (pTour2 k) := bi_evE (bi_sq bi_tk (bi_sq bi_nmk (bi_sq (bi_block 8) bi_em)))
theorem bi_thing2 {k : Nat → Nat} : bi (pThing2 k) := bi_ite (c := fun i => k i = 0) bi_room (bi_ite (c := fun i => k i = 1) bi_door (bi_ite (c := fun i => k i = 2) bi_part (bi_ite (c := fun i => k i = 10) bi_tour2 bi_flp)))
theorem evq_sq {P P' Q Q' : PA} {i b b' : Nat} (hp : evq (P i b) (P' i b')) (hq : ∀ j b b', evq (Q j b) (Q' j b')) : evq (sq P Q i b) (sq P' Q' i b') := by
  rcases h1 : P i b with ⟨l, _ | ⟨c1, e1⟩⟩ <;> rcases h2 : P' i b' with ⟨l', _ | ⟨c2, e2⟩⟩ <;> rw [h1, h2] at hp <;> obtain ⟨p1, p2⟩ := hp
  · rw [sq_n h1, sq_n h2]; exact ⟨p1, rfl⟩
  · cases p2
  · cases p2
  · have p1 : l = l' := p1
    have p3 : e1 = e2 := Option.some.inj p2
    subst p1 p3
    have q := hq l (b + c1.length) (b' + c2.length)
    rcases g1 : Q l (b + c1.length) with ⟨u, _ | ⟨d1, f1⟩⟩ <;> rcases g2 : Q' l (b' + c2.length) with ⟨u', _ | ⟨d2, f2⟩⟩ <;> rw [g1, g2] at q <;> obtain ⟨q1, q2⟩ := q
    · rw [sq_sn h1 g1, sq_sn h2 g2]; exact ⟨q1, rfl⟩
    · cases q2
    · cases q2
    · have q1 : u = u' := q1
      have q3 : f1 = f2 := Option.some.inj q2
      subst q1 q3
      rw [sq_ss h1 g1, sq_ss h2 g2]
      exact ⟨rfl, rfl⟩
theorem evq_evE {P P' : PA} {ev : Nat → EVt} {i b b' : Nat} (hp : evq (P i b) (P' i b')) : evq (evE P ev i b) (evE P' ev i b') := by
  unfold evE
  rcases h1 : P i b with ⟨l, _ | ⟨c1, e1⟩⟩ <;> rcases h2 : P' i b' with ⟨l', _ | ⟨c2, e2⟩⟩ <;> rw [h1, h2] at hp <;> obtain ⟨p1, p2⟩ := hp
  · exact ⟨p1, rfl⟩
  · cases p2
  · cases p2
  · have p1 : l = l' := p1
    have p3 : e1 = e2 := Option.some.inj p2
    subst p1 p3
    exact ⟨rfl, rfl⟩
theorem evq_em {P : PA} {op : Int32} {i b : Nat} : evq (sq P (em op) i b) (P i b) := by
  rcases h1 : P i b with ⟨l, _ | ⟨c1, e1⟩⟩
  · rw [sq_n h1]; exact ⟨rfl, rfl⟩
  · have e : em op l (b + c1.length) = (l, some ([(op, 0, 0)], [])) := rfl
    rw [sq_ss h1 e, List.append_nil]; exact ⟨rfl, rfl⟩
theorem ev_tour {k : Nat → Nat} {i b b' : Nat} : evq (pTour2 k i b) (pTour k i b') := by
  unfold pTour2 pTour
  refine evq_evE (evq_sq (bi_tk i b b') (fun j b b' => evq_sq (bi_nmk j b b') (fun j b b' => ?_)))
  exact evq_t evq_em (bi_block 8 j b b')
theorem ev_thing {k : Nat → Nat} {i b b' : Nat} : evq (pThing2 k i b) (pThing k i b') := by
  unfold pThing2 pThing
  by_cases c0 : k i = 0
  · rw [if_pos c0, if_pos c0]; exact bi_room i b b'
  rw [if_neg c0, if_neg c0]
  by_cases c1 : k i = 1
  · rw [if_pos c1, if_pos c1]; exact bi_door i b b'
  rw [if_neg c1, if_neg c1]
  by_cases c2 : k i = 2
  · rw [if_pos c2, if_pos c2]; exact bi_part i b b'
  rw [if_neg c2, if_neg c2]
  by_cases c3 : k i = 10
  · rw [if_pos c3, if_pos c3]; exact ev_tour
  rw [if_neg c3, if_neg c3]
  exact ⟨rfl, rfl⟩
theorem ev_txt {k : Nat → Nat} : ∀ n i b b', evq (pTxt2 k n i b) (pTxt k n i b')
  | 0, _, _, _ => ⟨rfl, rfl⟩
  | n + 1, i, b, b' => by
    rw [pTxt2, pTxt]
    dsimp only
    by_cases c : k i = 48
    · rw [if_pos c, if_pos c]; exact ⟨rfl, rfl⟩
    · rw [if_neg c, if_neg c]
      exact evq_sq ev_thing (fun j b b' => ev_txt n j b b')
/-- tokens of events: each once -/
def zo (P : PA) : Prop := ∀ i b j c e, P i b = (j, some (c, e)) → i ≤ j ∧ (∀ ev, ev ∈ e → i ≤ ev.2.1 ∧ ev.2.1 < j) ∧ e.Pairwise (fun x y => ¬ x.2.1 = y.2.1)
theorem zo_sq {P Q : PA} (hp : zo P) (hq : zo Q) : zo (sq P Q) := by
  intro i b j c e h
  obtain ⟨l, c1, e1, c2, e2, h1, h2, _, rfl⟩ := sq_inv h
  obtain ⟨p1, p2, p3⟩ := hp _ _ _ _ _ h1
  obtain ⟨q1, q2, q3⟩ := hq _ _ _ _ _ h2
  refine ⟨by omega, fun ev hv => ?_, List.pairwise_append.mpr ⟨p3, q3, fun x hx y hy => ?_⟩⟩
  · rcases List.mem_append.mp hv with z | z
    · have := p2 ev z; omega
    · have := q2 ev z; omega
  · have := p2 x hx
    have := q2 y hy
    omega
theorem zo_tk {k : Nat → Nat} {c : Nat} : zo (tk k c) := by
  intro i b j c' e h
  obtain ⟨_, rfl, rfl, rfl⟩ := tk_inv h
  exact ⟨by omega, fun _ h => absurd h List.not_mem_nil, List.Pairwise.nil⟩
theorem zo_em {op : Int32} : zo (em op) := by intro i b j c e h; cases h; exact ⟨Nat.le_refl _, fun _ h => absurd h List.not_mem_nil, List.Pairwise.nil⟩
theorem zo_flp : zo flp := by intro i b j c e h; cases h
theorem zo_skp : zo skp := by intro i b j c e h; cases h; exact ⟨Nat.le_refl _, fun _ h => absurd h List.not_mem_nil, List.Pairwise.nil⟩
theorem zo_ho {k : Nat → Nat} {op : Int32} {nm r : Nat} : zo (ho k op nm r) := by
  intro i b j c e h; unfold ho at h; split at h
  · cases h
    refine ⟨by omega, fun ev hv => ?_, List.pairwise_singleton _ _⟩
    rw [List.mem_singleton] at hv
    subst hv
    exact ⟨Nat.le_refl _, Nat.lt_succ_self _⟩
  · cases h
theorem zo_ite {P Q : PA} {c : Nat → Prop} [∀ i, Decidable (c i)] (hp : zo P) (hq : zo Q) : zo (fun i b => if c i then P i b else Q i b) := by
  intro i b j c' e h
  by_cases z : c i
  · exact hp i b j c' e (by simpa [z] using h)
  · exact hq i b j c' e (by simpa [z] using h)
theorem zo_lpp {k : Nat → Nat} {c1 c2 : Nat} {o1 o2 : Int32} {x : PA} (hx : zo x) : ∀ n, zo (lpp k c1 o1 c2 o2 x n)
  | 0 => zo_skp
  | n + 1 => zo_ite (c := fun i => k i = c1) (zo_sq zo_tk (zo_sq hx (zo_sq zo_em (zo_lpp hx n)))) (zo_ite (c := fun i => k i = c2) (zo_sq zo_tk (zo_sq hx (zo_sq zo_em (zo_lpp hx n)))) zo_skp)
theorem zo_lpF {f : Nat → PA} (h : ∀ n, zo (f n)) : zo (lpF f) := fun i b => h _ i b
theorem zo_prod {k : Nat → Nat} {one : PA} (h : zo one) : zo (pProd k one) := zo_sq h (zo_lpF (zo_lpp h))
theorem zo_sum {k : Nat → Nat} {one : PA} (h : zo one) : zo (pSum k one) := zo_sq (zo_prod h) (zo_lpF (zo_lpp (zo_prod h)))
theorem zo_pr {k : Nat → Nat} {c : Nat} {op : Int32} {one : PA} (h : zo one) : zo (pPr k c op one) := zo_sq zo_tk (zo_sq zo_tk (zo_sq (zo_sum h) (zo_sq zo_tk (zo_sq (zo_sum h) (zo_sq zo_tk zo_em)))))
theorem zo_oneF {k : Nat → Nat} {rc : Option PA} (h : ∀ x, rc = some x → zo x) : zo (pOneF k rc) := by
  have t : ∀ c op, zo (sq (tk k c) (em op)) := fun c op => zo_sq zo_tk zo_em
  unfold pOneF
  rcases rc with _ | one
  · exact zo_ite zo_ho (zo_ite (t 20 11) (zo_ite (t 21 12) (zo_ite (t 22 13) (zo_ite (t 23 14) (zo_ite (t 6 15) (zo_ite zo_flp (zo_ite zo_flp (zo_ite (zo_sq zo_tk zo_flp) (zo_ite (zo_sq zo_tk zo_flp) zo_flp)))))))))
  · have ho := h one rfl
    exact zo_ite zo_ho (zo_ite (t 20 11) (zo_ite (t 21 12) (zo_ite (t 22 13) (zo_ite (t 23 14) (zo_ite (t 6 15) (zo_ite (zo_sq zo_tk (zo_sq ho zo_em)) (zo_ite (zo_sq zo_tk (zo_sq (zo_sum ho) zo_tk)) (zo_ite (zo_pr ho) (zo_ite (zo_pr ho) zo_flp)))))))))
theorem zo_one {k : Nat → Nat} : ∀ a, zo (pOne k a)
  | 0 => zo_oneF (fun x h => by cases h)
  | a + 1 => zo_oneF (fun x h => by cases h; exact zo_one a)
theorem zo_cmp {k : Nat → Nat} {sum : PA} (h : zo sum) : zo (pCmp k sum) := by
  have t : ∀ c op, zo (sq (tk k c) (sq sum (em op))) := fun c op => zo_sq zo_tk (zo_sq h zo_em)
  exact zo_ite (t 43 26) (zo_ite (t 44 27) (zo_ite (t 45 28) (zo_ite (t 46 29) (zo_ite (t 47 30) zo_flp))))
theorem zo_bth {k : Nat → Nat} {s : PA} (h : zo s) : zo (pBth k s) := zo_sq h (zo_lpF (zo_lpp h))
theorem zo_tst {k : Nat → Nat} {s : PA} (h : zo s) : zo (pTst k s) := zo_sq (zo_bth h) (zo_lpF (zo_lpp (zo_bth h)))
theorem zo_sin {k : Nat → Nat} {sum : PA} {rc : Option PA} (hs : zo sum) (h : ∀ x, rc = some x → zo x) : zo (pSin k sum rc) := by
  unfold pSin
  have l : zo (sq sum (pCmp k sum)) := zo_sq hs (zo_cmp hs)
  rcases rc with _ | s
  · exact zo_ite zo_flp (zo_ite zo_flp (zo_ite (zo_sq zo_tk zo_ho) (zo_ite (zo_sq zo_tk zo_ho) l)))
  · have ho := h s rfl
    exact zo_ite (zo_sq zo_tk (zo_sq ho zo_em)) (zo_ite (zo_sq zo_tk (zo_sq (zo_tst ho) zo_tk)) (zo_ite (zo_sq zo_tk zo_ho) (zo_ite (zo_sq zo_tk zo_ho) l)))
theorem zo_single {k : Nat → Nat} : ∀ a, zo (pSingle k a)
  | 0 => zo_sin (zo_sum (zo_one 0)) (fun x h => by cases h)
  | a + 1 => zo_sin (zo_sum (zo_one (a + 1))) (fun x h => by cases h; exact zo_single a)
theorem zo_evq {P Q : PA} (h : ∀ i b, evq (P i b) (Q i b)) (hp : zo P) : zo Q := by
  intro i b j c e hQ
  have y := h i b
  rw [hQ] at y
  rcases h1 : P i b with ⟨l, _ | ⟨c1, e1⟩⟩
  · rw [h1] at y; exact absurd y.2 (by simp)
  · rw [h1] at y
    obtain ⟨y1, y2⟩ := y
    have y1 : l = j := y1
    have y3 : e1 = e := Option.some.inj y2
    subst y1 y3
    exact hp _ _ _ _ _ h1
theorem zo_if {k : Nat → Nat} {tst blk : PA} (ht : zo tst) (hb : zo blk) : zo (pIf k tst blk) :=
  zo_evq (fun _ _ => ev_if) (zo_sq zo_em (zo_sq zo_tk (zo_sq ht (zo_sq zo_em (zo_sq hb (zo_ite (c := fun i => k i = 15) (zo_sq zo_tk (zo_sq zo_em hb)) zo_skp))))))
theorem zo_rep {k : Nat → Nat} {blk : PA} (hb : zo blk) : zo (pRep k blk) := zo_evq (fun _ _ => ev_rep) (zo_sq zo_em (zo_sq zo_tk (zo_sq zo_ho (zo_sq zo_em (zo_sq hb zo_em)))))
theorem zo_leaf {k : Nat → Nat} {c : Nat} {op : Int32} {nm r : Nat} : zo (pLeaf k c op nm r) := zo_sq zo_em (zo_sq zo_tk (zo_sq zo_ho zo_tk))
theorem zo_sen {k : Nat → Nat} {tst blk : PA} (ht : zo tst) (hb : zo blk) : zo (pSen k tst blk) :=
  zo_ite (c := fun i => k i = 11) zo_leaf (zo_ite (c := fun i => k i = 12) zo_leaf (zo_ite (c := fun i => k i = 13) zo_leaf (zo_ite (c := fun i => k i = 17) zo_leaf (zo_ite (c := fun i => k i = 14) (zo_if ht hb) (zo_ite (c := fun i => k i = 16) (zo_rep hb) zo_flp)))))
theorem zo_sns {k : Nat → Nat} {tst blk : PA} (ht : zo tst) (hb : zo blk) : ∀ n, zo (pSns k tst blk n)
  | 0 => zo_skp
  | n + 1 => zo_ite (c := fun i => isSe (k i) = true) (zo_sq (zo_sen ht hb) (zo_sns ht hb n)) zo_skp
theorem zo_blkF {k : Nat → Nat} {tst blk : PA} (ht : zo tst) (hb : zo blk) : zo (pBlkF k tst blk) := by
  intro i b j c e h
  unfold pBlkF at h
  rcases h1 : sq (tk k 31) (sq (lpF (pSns k tst blk)) (tk k 32)) i b with ⟨l, _ | ⟨c1, e1⟩⟩
  · rw [h1] at h; cases h
  · rw [h1] at h
    cases h
    obtain ⟨l1, c1, e1, c2, e2, g1, g2, _, rfl⟩ := sq_inv h1
    obtain ⟨_, rfl, rfl, rfl⟩ := tk_inv g1
    obtain ⟨z1, z2, z3⟩ := zo_sq (zo_lpF (zo_sns (k := k) ht hb)) (zo_tk (k := k) (c := 32)) _ _ _ _ _ g2
    refine ⟨by omega, fun ev hv => ?_, List.pairwise_append.mpr ⟨z3, List.pairwise_singleton _ _, fun x hx y hy => ?_⟩⟩
    · rcases List.mem_append.mp hv with q | q
      · have := z2 ev q; omega
      · rw [List.mem_singleton] at q
        subst q
        exact ⟨Nat.le_refl _, by show i < j; omega⟩
    · rw [List.mem_singleton] at hy
      subst hy
      have := z2 x hx
      show ¬ x.2.1 = i
      omega
theorem zo_block {k : Nat → Nat} : ∀ a, zo (pBlock k a)
  | 0 => zo_flp
  | a + 1 => zo_blkF (zo_tst (zo_single a)) (zo_block a)
