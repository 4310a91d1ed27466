/-! THE PURE PARSER GOES ON -/
def mo (P : PA) : Prop := ∀ i b, i ≤ (P i b).1
theorem mo_sq {P Q : PA} (hp : mo P) (hq : mo Q) : mo (sq P Q) := by
  intro i b
  rcases h : P i b with ⟨j, _ | ⟨c, e⟩⟩
  · rw [sq_n h]
    have := hp i b
    rw [h] at this
    exact this
  · have g1 := hp i b
    rw [h] at g1
    have g2 := hq j (b + c.length)
    rcases h2 : Q j (b + c.length) with ⟨l, _ | ⟨c', e'⟩⟩
    · rw [h2] at g2; rw [sq_sn h h2]; exact Nat.le_trans g1 g2
    · rw [h2] at g2; rw [sq_ss h h2]; exact Nat.le_trans g1 g2
theorem mo_tk {k : Nat → Nat} {c : Nat} : mo (tk k c) := by
  intro i b; unfold tk; split
  · exact Nat.le_succ i
  · exact Nat.le_refl i
theorem mo_em {op : Int32} : mo (em op) := fun i _ => Nat.le_refl i
theorem mo_ho {k : Nat → Nat} {op : Int32} {nm r : Nat} : mo (ho k op nm r) := by
  intro i b; unfold ho; split
  · exact Nat.le_succ i
  · exact Nat.le_refl i
theorem mo_flp : mo flp := fun i _ => Nat.le_refl i
theorem mo_skp : mo skp := fun i _ => Nat.le_refl i
theorem mo_ite {P Q : PA} {c : Nat → Prop} [∀ i, Decidable (c i)] (hp : mo P) (hq : mo Q) : mo (fun i b => if c i then P i b else Q i b) := by
  intro i b
  show i ≤ (if c i then P i b else Q i b).1
  split
  · exact hp i b
  · exact hq i b
theorem mo_lpp {k : Nat → Nat} {c1 c2 : Nat} {o1 o2 : Int32} {x : PA} (hx : mo x) : ∀ n, mo (lpp k c1 o1 c2 o2 x n)
  | 0 => mo_skp
  | n + 1 => mo_ite (c := fun i => k i = c1) (mo_sq mo_tk (mo_sq hx (mo_sq mo_em (mo_lpp hx n)))) (mo_ite (c := fun i => k i = c2) (mo_sq mo_tk (mo_sq hx (mo_sq mo_em (mo_lpp hx n)))) mo_skp)
theorem mo_lpF {f : Nat → PA} (h : ∀ n, mo (f n)) : mo (lpF f) := fun i b => h _ i b
theorem mo_prod {k : Nat → Nat} {one : PA} (h : mo one) : mo (pProd k one) := mo_sq h (mo_lpF (mo_lpp h))
theorem mo_sum {k : Nat → Nat} {one : PA} (h : mo one) : mo (pSum k one) := mo_sq (mo_prod h) (mo_lpF (mo_lpp (mo_prod h)))
theorem mo_pr {k : Nat → Nat} {c : Nat} {op : Int32} {one : PA} (h : mo one) : mo (pPr k c op one) := mo_sq mo_tk (mo_sq mo_tk (mo_sq (mo_sum h) (mo_sq mo_tk (mo_sq (mo_sum h) (mo_sq mo_tk mo_em)))))
theorem mo_oneF {k : Nat → Nat} {rc : Option PA} (h : ∀ x, rc = some x → mo x) : mo (pOneF k rc) := by
  have t : ∀ c op, mo (sq (tk k c) (em op)) := fun c op => mo_sq mo_tk mo_em
  unfold pOneF
  rcases rc with _ | one
  · exact mo_ite mo_ho (mo_ite (t 20 11) (mo_ite (t 21 12) (mo_ite (t 22 13) (mo_ite (t 23 14) (mo_ite (t 6 15) (mo_ite mo_flp (mo_ite mo_flp (mo_ite (mo_sq mo_tk mo_flp) (mo_ite (mo_sq mo_tk mo_flp) mo_flp)))))))))
  · have ho := h one rfl
    exact mo_ite mo_ho (mo_ite (t 20 11) (mo_ite (t 21 12) (mo_ite (t 22 13) (mo_ite (t 23 14) (mo_ite (t 6 15) (mo_ite (mo_sq mo_tk (mo_sq ho mo_em)) (mo_ite (mo_sq mo_tk (mo_sq (mo_sum ho) mo_tk)) (mo_ite (mo_pr ho) (mo_ite (mo_pr ho) mo_flp)))))))))
theorem mo_one {k : Nat → Nat} : ∀ a, mo (pOne k a)
  | 0 => mo_oneF (fun x h => by cases h)
  | a + 1 => mo_oneF (fun x h => by cases h; exact mo_one a)
theorem mo_cmp {k : Nat → Nat} {sum : PA} (h : mo sum) : mo (pCmp k sum) := by
  have t : ∀ c op, mo (sq (tk k c) (sq sum (em op))) := fun c op => mo_sq mo_tk (mo_sq h mo_em)
  exact mo_ite (t 43 26) (mo_ite (t 44 27) (mo_ite (t 45 28) (mo_ite (t 46 29) (mo_ite (t 47 30) mo_flp))))
theorem mo_bth {k : Nat → Nat} {s : PA} (h : mo s) : mo (pBth k s) := mo_sq h (mo_lpF (mo_lpp h))
theorem mo_tst {k : Nat → Nat} {s : PA} (h : mo s) : mo (pTst k s) := mo_sq (mo_bth h) (mo_lpF (mo_lpp (mo_bth h)))
theorem mo_sin {k : Nat → Nat} {sum : PA} {rc : Option PA} (hs : mo sum) (h : ∀ x, rc = some x → mo x) : mo (pSin k sum rc) := by
  unfold pSin
  have l : mo (sq sum (pCmp k sum)) := mo_sq hs (mo_cmp hs)
  rcases rc with _ | s
  · exact mo_ite mo_flp (mo_ite mo_flp (mo_ite (mo_sq mo_tk mo_ho) (mo_ite (mo_sq mo_tk mo_ho) l)))
  · have ho := h s rfl
    exact mo_ite (mo_sq mo_tk (mo_sq ho mo_em)) (mo_ite (mo_sq mo_tk (mo_sq (mo_tst ho) mo_tk)) (mo_ite (mo_sq mo_tk mo_ho) (mo_ite (mo_sq mo_tk mo_ho) l)))
theorem mo_single {k : Nat → Nat} : ∀ a, mo (pSingle k a)
  | 0 => mo_sin (mo_sum (mo_one 0)) (fun x h => by cases h)
  | a + 1 => mo_sin (mo_sum (mo_one (a + 1))) (fun x h => by cases h; exact mo_single a)
theorem mo_evq {P Q : PA} (h : ∀ i b, evq (P i b) (Q i b)) (hp : mo P) : mo Q := fun i b => by rw [← (h i b).1]; exact hp i b
theorem mo_if {k : Nat → Nat} {tst blk : PA} (ht : mo tst) (hb : mo blk) : mo (pIf k tst blk) :=
  mo_evq (fun _ _ => ev_if) (mo_sq mo_em (mo_sq mo_tk (mo_sq ht (mo_sq mo_em (mo_sq hb (mo_ite (c := fun i => k i = 15) (mo_sq mo_tk (mo_sq mo_em hb)) mo_skp))))))
theorem mo_rep {k : Nat → Nat} {blk : PA} (hb : mo blk) : mo (pRep k blk) := mo_evq (fun _ _ => ev_rep) (mo_sq mo_em (mo_sq mo_tk (mo_sq mo_ho (mo_sq mo_em (mo_sq hb mo_em)))))
theorem mo_leaf {k : Nat → Nat} {c : Nat} {op : Int32} {nm r : Nat} : mo (pLeaf k c op nm r) := mo_sq mo_em (mo_sq mo_tk (mo_sq mo_ho mo_tk))
theorem mo_sen {k : Nat → Nat} {tst blk : PA} (ht : mo tst) (hb : mo blk) : mo (pSen k tst blk) :=
  mo_ite (c := fun i => k i = 11) mo_leaf (mo_ite (c := fun i => k i = 12) mo_leaf (mo_ite (c := fun i => k i = 13) mo_leaf (mo_ite (c := fun i => k i = 17) mo_leaf (mo_ite (c := fun i => k i = 14) (mo_if ht hb) (mo_ite (c := fun i => k i = 16) (mo_rep hb) mo_flp)))))
theorem mo_sns {k : Nat → Nat} {tst blk : PA} (ht : mo tst) (hb : mo blk) : ∀ n, mo (pSns k tst blk n)
  | 0 => mo_skp
  | n + 1 => mo_ite (c := fun i => isSe (k i) = true) (mo_sq (mo_sen ht hb) (mo_sns ht hb n)) mo_skp
theorem mo_blkF {k : Nat → Nat} {tst blk : PA} (ht : mo tst) (hb : mo blk) : mo (pBlkF k tst blk) := by
  intro i b
  have g := mo_sq (mo_tk (k := k) (c := 31)) (mo_sq (mo_lpF (mo_sns (k := k) ht hb)) (mo_tk (k := k) (c := 32))) i b
  unfold pBlkF
  rcases h : sq (tk k 31) (sq (lpF (pSns k tst blk)) (tk k 32)) i b with ⟨j, _ | ⟨c, e⟩⟩ <;> rw [h] at g <;> exact g
theorem mo_block {k : Nat → Nat} : ∀ a, mo (pBlock k a)
  | 0 => mo_flp
  | a + 1 => mo_blkF (mo_tst (mo_single a)) (mo_block a)
/-- what begins with a token goes on by one -/
theorem mo_tk1 {k : Nat → Nat} {c i b j : Nat} {Q : PA} {x : List CI × List EVt} (hq : mo Q) (h : sq (tk k c) Q i b = (j, some x)) : i < j := by
  by_cases g : k i = c
  · have t : tk k c i b = (i + 1, some ([], [])) := by unfold tk; rw [if_pos g]
    have g2 := hq (i + 1) (b + 0)
    rcases h2 : Q (i + 1) (b + 0) with ⟨l, _ | ⟨c', e'⟩⟩
    · rw [sq_sn t h2] at h; cases h
    · rw [sq_ss t h2] at h
      rw [h2] at g2
      cases h
      exact g2
  · rw [sq_n (p := tk k c) (j := i) (by unfold tk; rw [if_neg g])] at h
    cases h
theorem em_sq {op : Int32} {i b j : Nat} {Q : PA} {x : List CI × List EVt} (h : sq (em op) Q i b = (j, some x)) : ∃ y, Q i (b + 1) = (j, some y) := by
  have t : em op i b = (i, some ([(op, 0, 0)], [])) := rfl
  rcases h2 : Q i (b + 1) with ⟨l, _ | ⟨c', e'⟩⟩
  · rw [sq_sn t h2] at h; cases h
  · rw [sq_ss t h2] at h; cases h; exact ⟨_, rfl⟩
theorem sen_lt {k : Nat → Nat} {tst blk : PA} {i b j : Nat} {x : List CI × List EVt} (ht : mo tst) (hb : mo blk) (h : pSen k tst blk i b = (j, some x)) : i < j := by
  have leaf : ∀ c op nm r, pLeaf k c op nm r i b = (j, some x) → i < j := by
    intro c op nm r h
    obtain ⟨y, hy⟩ := em_sq h
    exact mo_tk1 (mo_sq mo_ho mo_tk) hy
  have viaq : ∀ (P : PA) op c (Q : PA), mo Q → evq (sq (em op) (sq (tk k c) Q) i b) (P i b) → P i b = (j, some x) → i < j := by
    intro P op c Q hQ hE hP
    rcases h3 : sq (em op) (sq (tk k c) Q) i b with ⟨l, _ | y⟩
    · rw [h3, hP] at hE; exact absurd hE.2 (by simp)
    · rw [h3, hP] at hE
      have : l = j := hE.1
      subst this
      obtain ⟨z, hz⟩ := em_sq h3
      exact mo_tk1 hQ hz
  unfold pSen at h
  by_cases g1 : k i = 11
  · rw [if_pos g1] at h; exact leaf _ _ _ _ h
  rw [if_neg g1] at h
  by_cases g2 : k i = 12
  · rw [if_pos g2] at h; exact leaf _ _ _ _ h
  rw [if_neg g2] at h
  by_cases g3 : k i = 13
  · rw [if_pos g3] at h; exact leaf _ _ _ _ h
  rw [if_neg g3] at h
  by_cases g4 : k i = 17
  · rw [if_pos g4] at h; exact leaf _ _ _ _ h
  rw [if_neg g4] at h
  by_cases g5 : k i = 14
  · rw [if_pos g5] at h
    exact viaq _ _ _ _ (mo_sq ht (mo_sq mo_em (mo_sq hb (mo_ite (c := fun i => k i = 15) (mo_sq mo_tk (mo_sq mo_em hb)) mo_skp)))) ev_if h
  rw [if_neg g5] at h
  by_cases g6 : k i = 16
  · rw [if_pos g6] at h
    exact viaq _ _ _ _ (mo_sq mo_ho (mo_sq mo_em (mo_sq hb mo_em))) ev_rep h
  rw [if_neg g6] at h
  cases h
theorem RG_seqP {p : Nat} {X : PX} {d d1 i b : Nat} {s : RS} {h : mH} {t t1 : Option mO} {P q : PA} (h1 : RG p X d1 i s h t1 (P i b))
    (f0 : ∀ H, t1 = some (.inl (some (.int 0)), H) → t = some (.inl (some (.int 0)), H))
    (f1 : ∀ H j b s' (x : Nat × List CI × List EVt), P i x.1 = (j, some x.2) → t1 = some (.inl (some (.int 1)), H) → pS H p X j d1 s' → i ≤ j → RG p X d j s' H t (q j b)) : RG p X d i s h t (sq P q i b) := by
  rcases hP : P i b with ⟨j, _ | ⟨c, e⟩⟩
  · exact RG_seq h1 f0 (fun H j b' s' e _ _ => by
      rw [hP] at h1
      obtain ⟨G, a1, _⟩ := h1
      rw [a1] at e
      exact absurd e (by intro q; cases q))
  · rw [hP] at h1
    obtain ⟨H, a1, a2, a3, a4⟩ := h1
    have g := f1 H j (b + c.length) _ (b, c, e) hP a1 a2 a3
    rcases hq : q j (b + c.length) with ⟨l, _ | ⟨c', e'⟩⟩
    · rw [hq] at g; rw [sq_sn hP hq]
      obtain ⟨G, b1, b2, b3, b4, b5⟩ := g
      exact ⟨G, b1, b2, b3, b4, Fr_trans a4 b5⟩
    · rw [hq] at g; rw [sq_ss hP hq]
      obtain ⟨G, b1, b2, b3, b4⟩ := g
      refine ⟨G, b1, ?_, by omega, Fr_trans a4 b4⟩
      rw [evs_app]; exact b2
