/-! THE REFERENCE'S PARSER: A TOUR -/
/-- an error once stays -/
theorem sMn_1 {X : PX} {s : RS} {i : Nat} {b : Bool} {n : Int32} (hn : ¬ n = 0) (h : (sMn X s i b n).1 = 0) : s.1 = 0 ∧ b = false := by
  unfold sMn at h
  by_cases c : b = true ∧ s.1 = 0
  · rw [if_pos c] at h; exact absurd (show n = 0 from h) hn
  · rw [if_neg c] at h
    refine ⟨h, ?_⟩
    cases hb : b
    · rfl
    · exact absurd ⟨hb, h⟩ c
theorem evR_1 {X : PX} {s : RS} {ev : EVt} (h : (evR X s ev).1 = 0) : s.1 = 0 := by
  obtain ⟨r, i, j⟩ := ev
  unfold evR sNm sL sV at h
  dsimp only at h
  repeat' split at h
  all_goals first
    | exact h
    | exact (sMn_1 (by decide) h).1
theorem evs_1 {X : PX} : ∀ {e : List EVt} {s : RS}, (evs X s e).1 = 0 → s.1 = 0
  | [], s, h => h
  | ev :: e, s, h => evR_1 (evs_1 (e := e) (s := evR X s ev) h)
/-- the events of blocks -/
def blkE (e : List EVt) : Prop := ∀ ev, ev ∈ e → ev.1 = 0 ∨ ev.1 = 67 ∨ ev.1 = 68 ∨ ev.1 = 69 ∨ ev.1 = 73 ∨ ev.1 = 74 ∨ ev.1 = 75
theorem evTs_blk {X : PX} {R : (Nat → Int32) × (Nat → Int32) × (Nat → Int32) × Int32 × Int32 × Int32} : ∀ {e : List EVt} {s : RS}, blkE e → evTs (X, s, R) e = (X, evs X s e, R)
  | [], s, h => rfl
  | (r, i, j) :: e, s, h => by
    have h0 := h (r, i, j) (by simp)
    have ih := evTs_blk (X := X) (R := R) (e := e) (s := evR X s (r, i, j)) (fun ev hv => h ev (by simp [hv]))
    have : evT (X, s, R) (r, i, j) = (X, evR X s (r, i, j), R) := by
      obtain ⟨td, tp, tt, wo, ki, ne⟩ := R
      simp only at h0
      rcases h0 with q | q | q | q | q | q | q <;> subst q <;> rfl
    show evTs (evT (X, s, R) (r, i, j)) e = _
    rw [this, ih]
    rfl
theorem evTs_app {Q : TS} {e e' : List EVt} : evTs Q (e ++ e') = evTs (evTs Q e) e' := List.foldl_append
def beOK (P : PA) : Prop := ∀ i b j c e, P i b = (j, some (c, e)) → blkE e
theorem be_nil : blkE [] := fun _ h => absurd h (List.not_mem_nil)
theorem be_app {e e' : List EVt} (h : blkE e) (h' : blkE e') : blkE (e ++ e') := fun ev q => by
  rcases List.mem_append.mp q with q | q
  · exact h ev q
  · exact h' ev q
theorem be_sq {P Q : PA} (hp : beOK P) (hq : beOK Q) : beOK (sq P Q) := by
  intro i b j c e h
  rcases h1 : P i b with ⟨l, _ | ⟨c1, e1⟩⟩
  · rw [sq_n h1] at h; cases h
  · rcases h2 : Q l (b + c1.length) with ⟨l2, _ | ⟨c2, e2⟩⟩
    · rw [sq_sn h1 h2] at h; cases h
    · rw [sq_ss h1 h2] at h
      cases h
      exact be_app (hp _ _ _ _ _ h1) (hq _ _ _ _ _ h2)
theorem be_tk {k : Nat → Nat} {c : Nat} : beOK (tk k c) := by
  intro i b j c' e h; unfold tk at h; split at h
  · cases h; exact be_nil
  · cases h
theorem be_em {op : Int32} : beOK (em op) := by intro i b j c e h; cases h; exact be_nil
theorem be_flp : beOK flp := by intro i b j c e h; cases h
theorem be_skp : beOK skp := by intro i b j c e h; cases h; exact be_nil
theorem be_ho {k : Nat → Nat} {op : Int32} {nm r : Nat} (hr : r = 67 ∨ r = 68 ∨ r = 69 ∨ r = 73 ∨ r = 74 ∨ r = 75) : beOK (ho k op nm r) := by
  intro i b j c e h; unfold ho at h; split at h
  · cases h
    intro ev hv
    rw [List.mem_singleton] at hv
    subst hv
    exact Or.inr hr
  · cases h
theorem be_ite {P Q : PA} {c : Nat → Prop} [∀ i, Decidable (c i)] (hp : beOK P) (hq : beOK Q) : beOK (fun i b => if c i then P i b else Q i b) := by
  intro i b j c' e h
  by_cases z : c i
  · exact hp i b j c' e (by simpa [z] using h)
  · exact hq i b j c' e (by simpa [z] using h)
theorem be_lpp {k : Nat → Nat} {c1 c2 : Nat} {o1 o2 : Int32} {x : PA} (hx : beOK x) : ∀ n, beOK (lpp k c1 o1 c2 o2 x n)
  | 0 => be_skp
  | n + 1 => be_ite (c := fun i => k i = c1) (be_sq be_tk (be_sq hx (be_sq be_em (be_lpp hx n)))) (be_ite (c := fun i => k i = c2) (be_sq be_tk (be_sq hx (be_sq be_em (be_lpp hx n)))) be_skp)
theorem be_lpF {f : Nat → PA} (h : ∀ n, beOK (f n)) : beOK (lpF f) := fun i b => h _ i b
theorem be_prod {k : Nat → Nat} {one : PA} (h : beOK one) : beOK (pProd k one) := be_sq h (be_lpF (be_lpp h))
theorem be_sum {k : Nat → Nat} {one : PA} (h : beOK one) : beOK (pSum k one) := be_sq (be_prod h) (be_lpF (be_lpp (be_prod h)))
theorem be_pr {k : Nat → Nat} {c : Nat} {op : Int32} {one : PA} (h : beOK one) : beOK (pPr k c op one) := be_sq be_tk (be_sq be_tk (be_sq (be_sum h) (be_sq be_tk (be_sq (be_sum h) (be_sq be_tk be_em)))))
theorem be_oneF {k : Nat → Nat} {rc : Option PA} (h : ∀ x, rc = some x → beOK x) : beOK (pOneF k rc) := by
  have t : ∀ c op, beOK (sq (tk k c) (em op)) := fun c op => be_sq be_tk be_em
  unfold pOneF
  rcases rc with _ | one
  · exact be_ite (be_ho (by decide)) (be_ite (t 20 11) (be_ite (t 21 12) (be_ite (t 22 13) (be_ite (t 23 14) (be_ite (t 6 15) (be_ite be_flp (be_ite be_flp (be_ite (be_sq be_tk be_flp) (be_ite (be_sq be_tk be_flp) be_flp)))))))))
  · have ho := h one rfl
    exact be_ite (be_ho (by decide)) (be_ite (t 20 11) (be_ite (t 21 12) (be_ite (t 22 13) (be_ite (t 23 14) (be_ite (t 6 15) (be_ite (be_sq be_tk (be_sq ho be_em)) (be_ite (be_sq be_tk (be_sq (be_sum ho) be_tk)) (be_ite (be_pr ho) (be_ite (be_pr ho) be_flp)))))))))
theorem be_one {k : Nat → Nat} : ∀ a, beOK (pOne k a)
  | 0 => be_oneF (fun x h => by cases h)
  | a + 1 => be_oneF (fun x h => by cases h; exact be_one a)
theorem be_cmp {k : Nat → Nat} {sum : PA} (h : beOK sum) : beOK (pCmp k sum) := by
  have t : ∀ c op, beOK (sq (tk k c) (sq sum (em op))) := fun c op => be_sq be_tk (be_sq h be_em)
  exact be_ite (t 43 26) (be_ite (t 44 27) (be_ite (t 45 28) (be_ite (t 46 29) (be_ite (t 47 30) be_flp))))
theorem be_bth {k : Nat → Nat} {s : PA} (h : beOK s) : beOK (pBth k s) := be_sq h (be_lpF (be_lpp h))
theorem be_tst {k : Nat → Nat} {s : PA} (h : beOK s) : beOK (pTst k s) := be_sq (be_bth h) (be_lpF (be_lpp (be_bth h)))
theorem be_sin {k : Nat → Nat} {sum : PA} {rc : Option PA} (hs : beOK sum) (h : ∀ x, rc = some x → beOK x) : beOK (pSin k sum rc) := by
  unfold pSin
  have l : beOK (sq sum (pCmp k sum)) := be_sq hs (be_cmp hs)
  rcases rc with _ | s
  · exact be_ite be_flp (be_ite be_flp (be_ite (be_sq be_tk (be_ho (by decide))) (be_ite (be_sq be_tk (be_ho (by decide))) l)))
  · have ho := h s rfl
    exact be_ite (be_sq be_tk (be_sq ho be_em)) (be_ite (be_sq be_tk (be_sq (be_tst ho) be_tk)) (be_ite (be_sq be_tk (be_ho (by decide))) (be_ite (be_sq be_tk (be_ho (by decide))) l)))
theorem be_single {k : Nat → Nat} : ∀ a, beOK (pSingle k a)
  | 0 => be_sin (be_sum (be_one 0)) (fun x h => by cases h)
  | a + 1 => be_sin (be_sum (be_one (a + 1))) (fun x h => by cases h; exact be_single a)
theorem be_evq {P Q : PA} (h : ∀ i b, evq (P i b) (Q i b)) (hp : beOK P) : beOK Q := by
  intro i b j c e hQ
  have := h i b
  rw [hQ] at this
  rcases h1 : P i b with ⟨l, _ | ⟨c1, e1⟩⟩
  · rw [h1] at this; exact absurd this.2 (by simp)
  · rw [h1] at this
    have g := this.2
    simp only [Option.map_some, Option.some.injEq] at g
    rw [← g]
    exact hp _ _ _ _ _ h1
theorem be_if {k : Nat → Nat} {tst blk : PA} (ht : beOK tst) (hb : beOK blk) : beOK (pIf k tst blk) :=
  be_evq (fun _ _ => ev_if) (be_sq be_em (be_sq be_tk (be_sq ht (be_sq be_em (be_sq hb (be_ite (c := fun i => k i = 15) (be_sq be_tk (be_sq be_em hb)) be_skp))))))
theorem be_rep {k : Nat → Nat} {blk : PA} (hb : beOK blk) : beOK (pRep k blk) := be_evq (fun _ _ => ev_rep) (be_sq be_em (be_sq be_tk (be_sq (be_ho (by decide)) (be_sq be_em (be_sq hb be_em)))))
theorem be_leaf {k : Nat → Nat} {c : Nat} {op : Int32} {nm r : Nat} (hr : r = 67 ∨ r = 68 ∨ r = 69 ∨ r = 73 ∨ r = 74 ∨ r = 75) : beOK (pLeaf k c op nm r) := be_sq be_em (be_sq be_tk (be_sq (be_ho hr) be_tk))
theorem be_sen {k : Nat → Nat} {tst blk : PA} (ht : beOK tst) (hb : beOK blk) : beOK (pSen k tst blk) :=
  be_ite (c := fun i => k i = 11) (be_leaf (by decide)) (be_ite (c := fun i => k i = 12) (be_leaf (by decide)) (be_ite (c := fun i => k i = 13) (be_leaf (by decide)) (be_ite (c := fun i => k i = 17) (be_leaf (by decide)) (be_ite (c := fun i => k i = 14) (be_if ht hb) (be_ite (c := fun i => k i = 16) (be_rep hb) be_flp)))))
theorem be_sns {k : Nat → Nat} {tst blk : PA} (ht : beOK tst) (hb : beOK blk) : ∀ n, beOK (pSns k tst blk n)
  | 0 => be_skp
  | n + 1 => be_ite (c := fun i => isSe (k i) = true) (be_sq (be_sen ht hb) (be_sns ht hb n)) be_skp
theorem be_blkF {k : Nat → Nat} {tst blk : PA} (ht : beOK tst) (hb : beOK blk) : beOK (pBlkF k tst blk) := by
  intro i b j c e h
  have g := be_sq (be_tk (k := k) (c := 31)) (be_sq (be_lpF (be_sns (k := k) ht hb)) (be_tk (k := k) (c := 32))) i b
  unfold pBlkF at h
  rcases h1 : sq (tk k 31) (sq (lpF (pSns k tst blk)) (tk k 32)) i b with ⟨l, _ | ⟨c1, e1⟩⟩
  · rw [h1] at h; cases h
  · rw [h1] at h
    cases h
    refine be_app (g _ _ _ h1) (fun ev hv => ?_)
    rw [List.mem_singleton] at hv
    subst hv
    exact Or.inl rfl
theorem be_block {k : Nat → Nat} : ∀ a, beOK (pBlock k a)
  | 0 => be_flp
  | a + 1 => be_blkF (be_tst (be_single a)) (be_block a)
