/-! THE CODE'S GOES: EACH HAS A ROOM'S NAME -/
def GB (c : List CI) (e : List EVt) : Prop := ∀ ci, ci ∈ c → ci.1 = 2 → ∃ t, ci.2.2 = t + 1 ∧ (67, t, 0) ∈ e
theorem gb_app {c1 c2 : List CI} {e1 e2 : List EVt} (h1 : GB c1 e1) (h2 : GB c2 e2) : GB (c1 ++ c2) (e1 ++ e2) := by
  intro ci hci h
  rcases List.mem_append.mp hci with q | q
  · obtain ⟨t, t1, t2⟩ := h1 ci q h
    exact ⟨t, t1, List.mem_append_left _ t2⟩
  · obtain ⟨t, t1, t2⟩ := h2 ci q h
    exact ⟨t, t1, List.mem_append_right _ t2⟩
theorem gb_1 {op x : Int32} {n : Nat} {c : List CI} {e : List EVt} (ho : ¬ op = 2) (h : GB c e) : GB ([(op, x, n)] ++ c) e := by
  intro ci hci h2
  rcases List.mem_append.mp hci with q | q
  · rw [List.mem_singleton] at q
    subst q
    exact absurd h2 ho
  · exact h ci q h2
theorem gb_r {op x : Int32} {n : Nat} {c : List CI} {e : List EVt} (ho : ¬ op = 2) (h : GB c e) : GB (c ++ [(op, x, n)]) e := by
  intro ci hci h2
  rcases List.mem_append.mp hci with q | q
  · exact h ci q h2
  · rw [List.mem_singleton] at q
    subst q
    exact absurd h2 ho
theorem gb_m {c : List CI} {e e' : List EVt} (h : GB c e) (hm : ∀ x, x ∈ e → x ∈ e') : GB c e' := by
  intro ci hci h2
  obtain ⟨t, t1, t2⟩ := h ci hci h2
  exact ⟨t, t1, hm _ t2⟩
theorem gb_xo {P : PA} (hx : xo P) {i b j : Nat} {c : List CI} {e : List EVt} (h : P i b = (j, some (c, e))) : GB c e := by
  intro ci hci h2
  have := hx _ _ _ _ _ h ci hci
  rw [h2] at this
  exact absurd this (by decide)
theorem gb_2 {op op' x x' : Int32} {n n' : Nat} {e : List EVt} (ho : ¬ op = 2) (ho' : ¬ op' = 2) : GB [(op, x, n), (op', x', n')] e := by
  intro ci hci h2
  simp only [List.mem_cons, List.not_mem_nil, or_false] at hci
  rcases hci with q | q <;> subst q
  · exact absurd h2 ho
  · exact absurd h2 ho'
theorem gb_sen {k : Nat → Nat} {tst blk : PA} (ht : ∀ i b j c e, tst i b = (j, some (c, e)) → GB c e) (hb : ∀ i b j c e, blk i b = (j, some (c, e)) → GB c e) {i b j : Nat} {c : List CI} {e : List EVt} (h : pSen k tst blk i b = (j, some (c, e))) : GB c e := by
  unfold pSen at h
  by_cases c1 : k i = 11
  · rw [if_pos c1] at h
    obtain ⟨_, _, _, _, rfl, rfl⟩ := leaf_inv h
    intro ci hci h2
    simp only [List.mem_cons, List.not_mem_nil, or_false] at hci
    rcases hci with q | q <;> subst q
    · exact absurd h2 (show ¬ (1 : Int32) = 2 by decide)
    · exact ⟨i + 1, rfl, List.mem_singleton.mpr rfl⟩
  rw [if_neg c1] at h
  by_cases c2 : k i = 12
  · rw [if_pos c2] at h
    obtain ⟨_, _, _, _, rfl, rfl⟩ := leaf_inv h
    exact gb_2 (by decide) (by decide)
  rw [if_neg c2] at h
  by_cases c3 : k i = 13
  · rw [if_pos c3] at h
    obtain ⟨_, _, _, _, rfl, rfl⟩ := leaf_inv h
    exact gb_2 (by decide) (by decide)
  rw [if_neg c3] at h
  by_cases c4 : k i = 17
  · rw [if_pos c4] at h
    obtain ⟨_, _, _, _, rfl, rfl⟩ := leaf_inv h
    exact gb_2 (by decide) (by decide)
  rw [if_neg c4] at h
  by_cases c5 : k i = 14
  · rw [if_pos c5] at h
    obtain ⟨i1, ct, et, i2, c2, e2, _, a2, a3, a4⟩ := if_inv h
    have g1 := ht _ _ _ _ _ a2
    have g2 := hb _ _ _ _ _ a3
    rcases a4 with ⟨_, _, rfl, rfl⟩ | ⟨_, c3, e3, a5, rfl, rfl⟩
    · exact gb_1 (by decide) (gb_app g1 (gb_1 (by decide) g2))
    · rw [List.append_assoc]
      exact gb_1 (by decide) (gb_app g1 (gb_1 (by decide) (gb_app g2 (gb_1 (by decide) (hb _ _ _ _ _ a5)))))
  rw [if_neg c5] at h
  by_cases c6 : k i = 16
  · rw [if_pos c6] at h
    obtain ⟨c2, e2, _, _, a1, rfl, rfl⟩ := rep_inv h
    refine gb_app (gb_2 (by decide) (by decide)) (gb_1 (by decide) (gb_r (by decide) (hb _ _ _ _ _ a1)))
  · rw [if_neg c6] at h
    cases h
theorem gb_sns {k : Nat → Nat} {tst blk : PA} (ht : ∀ i b j c e, tst i b = (j, some (c, e)) → GB c e) (hb : ∀ i b j c e, blk i b = (j, some (c, e)) → GB c e) : ∀ n {i b j : Nat} {c : List CI} {e : List EVt}, pSns k tst blk n i b = (j, some (c, e)) → GB c e
  | 0, _, _, _, _, _, h => by cases h; exact fun _ h => absurd h List.not_mem_nil
  | n + 1, i, b, j, c, e, h => by
    rw [pSns] at h
    dsimp only at h
    by_cases z : isSe (k i) = true
    · rw [if_pos z] at h
      obtain ⟨l, c1, e1, c2, e2, a1, a2, rfl, rfl⟩ := sq_inv h
      exact gb_app (gb_sen ht hb a1) (gb_sns ht hb n a2)
    · rw [if_neg z] at h
      cases h
      exact fun _ h => absurd h List.not_mem_nil
theorem gb_block {k : Nat → Nat} (h50 : ∀ i, k i < 50) : ∀ (a i b j : Nat) (c : List CI) (e : List EVt), pBlock k a i b = (j, some (c, e)) → GB c e := by
  intro a
  induction a with
  | zero => intro i b j c e h; cases h
  | succ a ih =>
    intro i b j c e h
    obtain ⟨a', l, e', ea, _, h1, _, _, rfl⟩ := blk_inv h
    have : a' = a := by omega
    subst this
    exact gb_m (gb_sns (fun _ _ _ _ _ h => gb_xo (xo_tst h50 (xo_single h50 a')) h) ih _ h1) (fun x hx => List.mem_append_left _ hx)
