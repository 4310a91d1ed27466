/-! WHAT A SENTENCE'S TEXT IS -/
theorem leaf_inv {k : Nat → Nat} {c nm r i b j : Nat} {op : Int32} {cc : List CI} {e : List EVt} (h : pLeaf k c op nm r i b = (j, some (cc, e))) : k i = c ∧ k (i + 1) = nm ∧ k (i + 2) = 37 ∧ j = i + 3 ∧ cc = [(1, 0, 0), (op, 0, i + 2)] ∧ e = [(r, i + 1, 0)] := by
  unfold pLeaf at h
  obtain ⟨l, a1, f1, a2, f2, x1, x2, hc, he⟩ := sq_inv h
  obtain ⟨q1, q2, q3⟩ := em_inv x1
  obtain ⟨l2, a3, f3, a4, f4, x3, x4, hc2, he2⟩ := sq_inv x2
  obtain ⟨k1, q4, q5, q6⟩ := tk_inv x3
  obtain ⟨l3, a5, f5, a6, f6, x5, x6, hc3, he3⟩ := sq_inv x4
  obtain ⟨k2, q7, q8, q9⟩ := ho_inv x5
  obtain ⟨k3, q10, q11, q12⟩ := tk_inv x6
  rw [q1] at k1 q4
  rw [q4] at k2 q7 q8 q9
  rw [q7] at k3 q10
  refine ⟨k1, k2, k3, q10, ?_, ?_⟩
  · rw [hc, hc2, hc3, q2, q5, q8, q11]; rfl
  · rw [he, he2, he3, q3, q6, q9, q12]; rfl
theorem rep_inv {k : Nat → Nat} {blk : PA} {i b j : Nat} {cc : List CI} {e : List EVt} (h : pRep k blk i b = (j, some (cc, e))) : ∃ c2 e2, k i = 16 ∧ k (i + 1) = 30 ∧ blk (i + 2) (b + 3) = (j, some (c2, e2)) ∧ cc = [(1, 0, 0), (6, 0, i + 2)] ++ ([(7, Int32.ofNat (b + 3 + c2.length + 1), 0)] ++ (c2 ++ [(8, Int32.ofNat (b + 2), 0)])) ∧ e = [(74, i + 1, 0)] ++ e2 := by
  unfold pRep at h
  rcases h1 : sq (em 1) (sq (tk k 16) (ho k 6 30 74)) i b with ⟨l, _ | ⟨c1, e1⟩⟩
  · rw [h1] at h; cases h
  rw [h1] at h
  dsimp only at h
  obtain ⟨l2, a1, f1, a2, f2, x1, x2, hc, he⟩ := sq_inv h1
  obtain ⟨q1, q2, q3⟩ := em_inv x1
  obtain ⟨l3, a3, f3, a4, f4, x3, x4, hc2, he2⟩ := sq_inv x2
  obtain ⟨k1, q4, q5, q6⟩ := tk_inv x3
  obtain ⟨k2, q7, q8, q9⟩ := ho_inv x4
  rw [q1] at k1 q4
  rw [q4] at k2 q7 q8 q9
  have ec : c1 = [(1, 0, 0), (6, 0, i + 2)] := by rw [hc, hc2, q2, q5, q8]; rfl
  have ee : e1 = [(74, i + 1, 0)] := by rw [he, he2, q3, q6, q9]; rfl
  subst ec ee
  rw [q7] at h
  rcases h2 : blk (i + 2) (b + 3) with ⟨l4, _ | ⟨c2, e2⟩⟩
  · have h2' : blk (i + 1 + 1) (b + [((1 : Int32), (0 : Int32), 0), (6, 0, i + 2)].length + 1) = (l4, none) := h2
    rw [h2'] at h; cases h
  · have h2' : blk (i + 1 + 1) (b + [((1 : Int32), (0 : Int32), 0), (6, 0, i + 2)].length + 1) = (l4, some (c2, e2)) := h2
    rw [h2'] at h
    cases h
    refine ⟨c2, e2, k1, k2, rfl, ?_, rfl⟩
    rw [List.append_assoc, List.append_assoc]
    rfl
theorem if_inv {k : Nat → Nat} {tst blk : PA} {i b j : Nat} {cc : List CI} {e : List EVt} (h : pIf k tst blk i b = (j, some (cc, e))) : ∃ i1 ct et i2 c2 e2, k i = 14 ∧ tst (i + 1) (b + 1) = (i1, some (ct, et)) ∧ blk i1 (b + 1 + ct.length + 1) = (i2, some (c2, e2)) ∧
    ((¬ k i2 = 15 ∧ j = i2 ∧ cc = [(1, 0, 0)] ++ (ct ++ ([(9, Int32.ofNat (b + 1 + ct.length + 1 + c2.length), 0)] ++ c2)) ∧ e = et ++ e2) ∨
     (k i2 = 15 ∧ ∃ c3 e3, blk (i2 + 1) (b + 1 + ct.length + 1 + c2.length + 1) = (j, some (c3, e3)) ∧ cc = [(1, 0, 0)] ++ (ct ++ ([(9, Int32.ofNat (b + 1 + ct.length + 1 + c2.length + 1), 0)] ++ (c2 ++ ([(8, Int32.ofNat (b + 1 + ct.length + 1 + c2.length + 1 + c3.length), 0)] ++ c3)))) ∧ e = et ++ e2 ++ e3)) := by
  unfold pIf at h
  rcases h1 : sq (em 1) (sq (tk k 14) tst) i b with ⟨l, _ | ⟨c1, e1⟩⟩
  · rw [h1] at h; cases h
  rw [h1] at h
  dsimp only at h
  obtain ⟨l2, a1, f1, a2, f2, x1, x2, hc, he⟩ := sq_inv h1
  obtain ⟨q1, q2, q3⟩ := em_inv x1
  obtain ⟨l3, a3, f3, a4, f4, x3, x4, hc2, he2⟩ := sq_inv x2
  obtain ⟨k1, q4, q5, q6⟩ := tk_inv x3
  rw [q1] at k1 q4
  rw [q4, q2, q5] at x4
  have ec : c1 = [(1, 0, 0)] ++ a4 := by rw [hc, hc2, q2, q5]; rfl
  have ee : e1 = f4 := by rw [he, he2, q3, q6]; rfl
  subst ec ee
  have el : b + ([((1 : Int32), (0 : Int32), 0)] ++ a4).length = b + 1 + a4.length := by rw [List.length_append, List.length_cons, List.length_nil]; omega
  rw [el] at h
  have x4' : tst (i + 1) (b + 1) = (l, some (a4, e1)) := x4
  rcases h2 : blk l (b + 1 + a4.length + 1) with ⟨i2, _ | ⟨c2, e2⟩⟩
  · rw [h2] at h; cases h
  rw [h2] at h
  dsimp only at h
  by_cases g : k i2 = 15
  · rw [if_pos g] at h
    rcases h3 : blk (i2 + 1) (b + 1 + a4.length + 1 + c2.length + 1) with ⟨i3, _ | ⟨c3, e3⟩⟩
    · rw [h3] at h; cases h
    rw [h3] at h
    cases h
    refine ⟨l, a4, e1, i2, c2, e2, k1, x4', h2, Or.inr ⟨g, c3, e3, h3, ?_, rfl⟩⟩
    simp
  · rw [if_neg g] at h
    cases h
    refine ⟨l, a4, e1, j, c2, e2, k1, x4', h2, Or.inl ⟨g, rfl, ?_, rfl⟩⟩
    simp
theorem blk_inv {k : Nat → Nat} {a i b j : Nat} {cc : List CI} {e : List EVt} (h : pBlock k a i b = (j, some (cc, e))) : ∃ a' l e', a = a' + 1 ∧ k i = 31 ∧ pSns k (pTst k (pSingle k a')) (pBlock k a') (402 - (i + 1)) (i + 1) b = (l, some (cc, e')) ∧ k l = 32 ∧ j = l + 1 ∧ e = e' ++ [(0, i, l)] := by
  cases a with
  | zero => cases h
  | succ a' =>
    have h' : pBlkF k (pTst k (pSingle k a')) (pBlock k a') i b = (j, some (cc, e)) := h
    unfold pBlkF at h'
    rcases h1 : sq (tk k 31) (sq (lpF (pSns k (pTst k (pSingle k a')) (pBlock k a'))) (tk k 32)) i b with ⟨l, _ | ⟨c1, e1⟩⟩
    · rw [h1] at h'; cases h'
    rw [h1] at h'
    cases h'
    obtain ⟨l2, a1, f1, a2, f2, x1, x2, hc, he⟩ := sq_inv h1
    obtain ⟨k1, q1, q2, q3⟩ := tk_inv x1
    obtain ⟨l3, a3, f3, a4, f4, x3, x4, hc2, he2⟩ := sq_inv x2
    obtain ⟨k2, q4, q5, q6⟩ := tk_inv x4
    rw [q1, q2] at x3
    refine ⟨a', l3, f3, rfl, k1, ?_, k2, q4, ?_⟩
    · have x3' : pSns k (pTst k (pSingle k a')) (pBlock k a') (402 - (i + 1)) (i + 1) b = (l3, some (a3, f3)) := x3
      rw [x3', hc, hc2, q2, q5]; simp
    · rw [he, he2, q3, q6, q4]; simp
theorem sns_end {k : Nat → Nat} {tst blk : PA} {m i b j : Nat} {cc : List CI} {e : List EVt} (hs : ¬ isSe (k i) = true) (h : pSns k tst blk m i b = (j, some (cc, e))) : j = i ∧ cc = [] ∧ e = [] := by
  have g : pSns k tst blk m i b = (i, some ([], [])) := by
    cases m with
    | zero => rfl
    | succ m => exact if_neg hs
  rw [g] at h
  cases h
  exact ⟨rfl, rfl, rfl⟩
theorem sns_inv {k : Nat → Nat} {tst blk : PA} {m i b j : Nat} {cc : List CI} {e : List EVt} (h : pSns k tst blk m i b = (j, some (cc, e))) (hij : ¬ i = j) : ∃ m' l c1 e1 c2 e2, m = m' + 1 ∧ isSe (k i) = true ∧ pSen k tst blk i b = (l, some (c1, e1)) ∧ pSns k tst blk m' l (b + c1.length) = (j, some (c2, e2)) ∧ cc = c1 ++ c2 ∧ e = e1 ++ e2 := by
  by_cases hs : isSe (k i) = true
  · cases m with
    | zero => cases h; exact absurd rfl hij
    | succ m =>
      have h' : sq (pSen k tst blk) (pSns k tst blk m) i b = (j, some (cc, e)) := by rw [← h]; exact (if_pos hs).symm
      obtain ⟨l, c1, e1, c2, e2, x1, x2, hc, he⟩ := sq_inv h'
      exact ⟨m, l, c1, e1, c2, e2, rfl, hs, x1, x2, hc, he⟩
  · exact absurd (sns_end hs h).1.symm hij
theorem mo_blk' {k : Nat → Nat} {a : Nat} : mo (pBlock k a) := mo_block a
