/-! THE GRAMMAR'S MACHINE AND THE PARSER: ONE VALUE, ONE TEST -/
theorem sq_as {p q r : PA} {i b : Nat} : sq (sq p q) r i b = sq p (sq q r) i b := by
  rcases hp : p i b with ⟨j, _ | ⟨c, e⟩⟩
  · rw [sq_n hp, sq_n (sq_n hp)]
  · rcases hq : q j (b + c.length) with ⟨l, _ | ⟨c', e'⟩⟩
    · rw [sq_n (sq_sn hp hq), sq_sn hp (sq_n hq)]
    · have h1 := sq_ss hp hq
      rcases hr : r l (b + (c ++ c').length) with ⟨l2, _ | ⟨c2, e2⟩⟩
      · rw [sq_sn h1 hr]
        rw [List.length_append, ← Nat.add_assoc] at hr
        rw [sq_sn hp (sq_sn hq hr)]
      · rw [sq_ss h1 hr]
        rw [List.length_append, ← Nat.add_assoc] at hr
        rw [sq_ss hp (sq_ss hq hr), List.append_assoc, List.append_assoc]
theorem MS_as {kd : List Nat} {H : Nat} {z z' a N : Nat} {w K : Int} {gl : List Nat} {p q r : PA} (h : MS kd H z z' a N w K gl (sq (sq p q) r)) : MS kd H z z' a N w K gl (sq p (sq q r)) := fun i b hi hb => by rw [← sq_as]; exact h i b hi hb
theorem MS_c {kd : List Nat} {H : Nat} {z z' a N : Nat} {w K : Int} {gl : List Nat} {p q : PA} (e : ∀ i b, p i b = q i b) (h : MS kd H z z' a N w K gl p) : MS kd H z z' a N w K gl q := fun i b hi hb => by rw [← e]; exact h i b hi hb
/-- a value that is told by one word -/
theorem MS_w {kd : List Nat} {H : Nat} {z a c g : Nat} {op : Int32} (hx : kdX kd) (hc : c < 48) (h30 : ¬ c = 30 ∧ ¬ c = 8 ∧ ¬ c = 9) (hg : 110 ≤ g) (hop : op = Int32.ofNat (g - 110)) : MS kd H (z + 1) (z + 1) a 1 (-38) 1 [c, g] (sq (tk (kF kd) c) (em op)) :=
  MS_sq (g1 := [c]) (g2 := [g]) (MS_tk hx hc h30) (MS_em hx hg hop) (Nat.le_refl _) (Nat.zero_le _) (by decide) (by decide) (by decide)
/-- two sums in brackets -/
theorem MS_99 {kd : List Nat} {H : Nat} {z a N : Nat} {one : PA} (hx : kdX kd) (hL : kdL kd) (ha : a + 1 ≤ 8) (h : MS kd H (z + 1) (z + 1) a N (-20) 5 [98] one) (hm : mo one) (hN : 4 ≤ N) : MS kd H z (z + 3) (a + 1) (N + 8) (-140) 5 [99] (sq (tk (kF kd) 33) (sq (pSum (kF kd) one) (sq (tk (kF kd) 38) (sq (pSum (kF kd) one) (tk (kF kd) 34))))) := by
  have s := MS_sum hx hL h hm hN
  have s2 : MS kd H (z + 1) (z + 1) a (N + 4) (-16) 7 [94] (pSum (kF kd) one) := s
  have s3 : MS kd H (z + 2) (z + 2) a (N + 4) (-16) 7 [94] (pSum (kF kd) one) := MS_up s 1
  have t := MS_sq (N := N + 5) (w := -55) (K := 7) s3 (MS_tk (z := z + 2) hx (show 34 < 48 by decide) (by decide)) (by show N + 4 + 1 ≤ _; omega) (by omega) (by decide) (by decide) (by decide)
  have t2 := MS_sq (N := N + 5) (w := -94) (K := 1) (MS_tk (z := z + 1) hx (show 38 < 48 by decide) (by decide)) t (by show 0 + 2 ≤ _; omega) (by omega) (by decide) (by decide) (by decide)
  have t3 := MS_sq (N := N + 7) (w := -110) (K := 7) s2 t2 (by show N + 4 + 3 ≤ _; omega) (by omega) (by decide) (by decide) (by decide)
  have t4 := MS_sq (N := N + 7) (w := -149) (K := 1) (MS_tk (z := z) hx (show 33 < 48 by decide) (by decide)) t3 (by show 0 + 4 ≤ _; omega) (by omega) (by decide) (by decide) (by decide)
  have t5 := MS_dp ha t4
  intro i b hi hb
  refine MA_x (by decide) (by decide) ?_ (t5 i b hi hb) (Nat.le_refl _) (by show 7 ≤ _; omega) (by decide) (by decide)
  unfold rlN rfN
  rfl
theorem MS_pr {kd : List Nat} {H : Nat} {z a N c g : Nat} {op : Int32} {one : PA} (hx : kdX kd) (hL : kdL kd) (ha : a + 1 ≤ 8) (h : MS kd H (z + 1) (z + 1) a N (-20) 5 [98] one) (hm : mo one) (hN : 4 ≤ N) (hc : c < 48) (h30 : ¬ c = 30 ∧ ¬ c = 8 ∧ ¬ c = 9) (hg : 110 ≤ g) (hop : op = Int32.ofNat (g - 110)) : MS kd H (z + 1) (z + 1) (a + 1) (N + 9) (-100) 2 [c, 99, g] (pPr (kF kd) c op one) := by
  have s := MS_99 (z := z + 2) hx hL ha (MS_up h 2) hm hN
  have e := MS_em (H := H) (z := z + 4) (a := a + 1) hx hg hop
  have t := MS_sq (N := N + 9) (w := -139) (K := 5) s e (by show N + 8 + 1 ≤ _; omega) (by omega) (by decide) (by decide) (by decide)
  have t2 : MS kd H (z + 2) (z + 4) (a + 1) (N + 9) (-139) 5 ([99] ++ [g]) (sq (tk (kF kd) 33) (sq (pSum (kF kd) one) (sq (tk (kF kd) 38) (sq (pSum (kF kd) one) (sq (tk (kF kd) 34) (em op)))))) := by
    refine MS_c (fun i b => ?_) t
    have e1 : ∀ (p q r s t u : PA) (i b : Nat), sq (sq p (sq q (sq r (sq s t)))) u i b = sq p (sq q (sq r (sq s (sq t u)))) i b := by
      intro p q r s t u i b
      have f : ∀ (x y z : PA), sq (sq x y) z = sq x (sq y z) := fun x y z => by funext i b; exact sq_as
      rw [f, f, f, f]
    exact e1 _ _ _ _ _ _ i b
  have t3 := MS_sq (N := N + 9) (w := -100) (K := 2) (MS_tk (z := z + 1) (a := a + 1) hx hc h30) t2 (by show 0 + 2 ≤ _; omega) (by omega) (by decide) (by decide) (by decide)
  intro i b hi hb gs hs R Pl os od h1 h2 h3 h4 h5 h6
  have y := t3 i b hi hb gs hs R Pl os od h1 h2 h3 h4 h5 h6
  unfold pPr
  generalize sq (tk (fun i => kd.getD i 0) c) (sq (tk (kF kd) 33) (sq (pSum (kF kd) one) (sq (tk (kF kd) 38) (sq (pSum (kF kd) one) (sq (tk (kF kd) 34) (em op)))))) i b = r at y ⊢
  rcases r with ⟨j, _ | ⟨c', e'⟩⟩
  · exact y
  · obtain ⟨y1, y2, y3, y4⟩ := y
    exact ⟨y1, y2, by omega, y4⟩
/-- a number: a place for it, the number -/
theorem MA_nf {kd : List Nat} {H : Nat} {z z' a N i b : Nat} {w K : Int} (hx : kdX kd) (hi : i < kd.length) (hb : b + 1 ≤ i) (hk : ¬ kd.getD i 0 = 30) (hK : 2 ≤ K) : MA kd H z z' a N w K [120, 75] i b (i, none) := by
  intro gs hs R Pl os od h1 h2 h3 h4 h5 h6
  have := MS_ho (z := 0) (a := a) (g := 120) (r := 75) (nm := 30) (op := 10) hx (by decide) (by decide) (by decide) (by decide) i b hi hb gs hs R Pl os od (by omega) h2 h3 h4 h5 h6
  unfold ho at this
  rw [if_neg hk] at this
  obtain ⟨y1, y2, n, y3, y4⟩ := this
  exact ⟨y1, y2, n, by omega, y4⟩
theorem MS_oneF {kd : List Nat} {H : Nat} {z a N : Nat} {rc : Option PA} (hx : kdX kd) (hL : kdL kd) (hN : 8 ≤ N) (hz : (rc = none ∧ a = 0) ∨ ∃ a' N' one, rc = some one ∧ a = a' + 1 ∧ a ≤ 8 ∧ N' + 9 ≤ N ∧ 8 ≤ N' ∧ mo one ∧ ∀ z, MS kd H (z + 1) (z + 1) a' N' (-20) 5 [98] one) : MS kd H (z + 1) (z + 1) a N (-20) 5 [98] (pOneF (kF kd) rc) := by
  intro i b hi hb
  have row : ∀ κ gl, kd.getD i 0 = κ → rlN 98 κ = gl → rlN 98 (kd.getD i 0) = gl := fun κ gl h1 h2 => by rw [h1, h2]
  unfold pOneF
  by_cases k30 : kF kd i = 30
  · rw [if_pos k30]
    exact MA_x (by decide) (by decide) (row 30 [120, 75] k30 (by decide)) (MS_ho (g := 120) hx (by decide) (by decide) (by decide) (by decide) i b hi hb) (by omega) (by show 2 ≤ _; omega) (by decide) (by decide)
  rw [if_neg k30]
  by_cases k20 : kF kd i = 20
  · rw [if_pos k20]
    exact MA_x (by decide) (by decide) (row 20 [20, 121] k20 (by decide)) (MS_w (g := 121) hx (by decide) (by decide) (by decide) (by decide) i b hi hb) (by omega) (by show 2 ≤ _; omega) (by decide) (by decide)
  rw [if_neg k20]
  by_cases k21 : kF kd i = 21
  · rw [if_pos k21]
    exact MA_x (by decide) (by decide) (row 21 [21, 122] k21 (by decide)) (MS_w (g := 122) hx (by decide) (by decide) (by decide) (by decide) i b hi hb) (by omega) (by show 2 ≤ _; omega) (by decide) (by decide)
  rw [if_neg k21]
  by_cases k22 : kF kd i = 22
  · rw [if_pos k22]
    exact MA_x (by decide) (by decide) (row 22 [22, 123] k22 (by decide)) (MS_w (g := 123) hx (by decide) (by decide) (by decide) (by decide) i b hi hb) (by omega) (by show 2 ≤ _; omega) (by decide) (by decide)
  rw [if_neg k22]
  by_cases k23 : kF kd i = 23
  · rw [if_pos k23]
    exact MA_x (by decide) (by decide) (row 23 [23, 124] k23 (by decide)) (MS_w (g := 124) hx (by decide) (by decide) (by decide) (by decide) i b hi hb) (by omega) (by show 2 ≤ _; omega) (by decide) (by decide)
  rw [if_neg k23]
  by_cases k6 : kF kd i = 6
  · rw [if_pos k6]
    exact MA_x (by decide) (by decide) (row 6 [6, 125] k6 (by decide)) (MS_w (g := 125) hx (by decide) (by decide) (by decide) (by decide) i b hi hb) (by omega) (by show 2 ≤ _; omega) (by decide) (by decide)
  rw [if_neg k6]
  by_cases k40 : kF kd i = 40
  · rw [if_pos k40]
    rcases hz with ⟨rfl, rfl⟩ | ⟨a', N', one, rfl, rfl, h8, hN', hN2, hm, h⟩
    · exact MA_x (by decide) (by decide) (row 40 [100, 40, 98, 101, 128] k40 (by decide)) (MA_sh (N := 0) (K := 1) (w := -38) hi (by decide)) (by omega) (by show 5 ≤ _; omega) (by decide) (by decide)
    · have t := MS_sq (N := N' + 1) (w := -59) (K := 1) (MS_tk (z := z + 1) hx (show 40 < 48 by decide) (by decide)) (h (z + 1)) (by show 0 + 1 ≤ _; omega) (by omega) (by decide) (by decide) (by decide)
      have t2 := MS_sq (N := N' + 3) (w := -56) (K := 2) (MS_dp h8 t) (MS_em (z := z + 1) (g := 128) (op := 18) hx (by decide) (by decide)) (by show N' + 1 + 1 + 1 ≤ _; omega) (by omega) (by decide) (by decide) (by decide)
      exact MA_x (by decide) (by decide) (row 40 _ k40 (by decide)) (MS_as t2 i b hi hb) (by omega) (by show 5 ≤ _; omega) (by decide) (by decide)
  rw [if_neg k40]
  by_cases k33 : kF kd i = 33
  · rw [if_pos k33]
    rcases hz with ⟨rfl, rfl⟩ | ⟨a', N', one, rfl, rfl, h8, hN', hN2, hm, h⟩
    · exact MA_x (by decide) (by decide) (row 33 [100, 33, 94, 34, 101] k33 (by decide)) (MA_sh (N := 0) (K := 1) (w := -38) hi (by decide)) (by omega) (by show 5 ≤ _; omega) (by decide) (by decide)
    · have s := MS_sum hx hL (h (z + 1)) hm (by omega)
      have t := MS_sq (N := N' + 5) (w := -55) (K := 7) s (MS_tk (z := z + 2) hx (show 34 < 48 by decide) (by decide)) (by show N' + 4 + 1 ≤ _; omega) (by omega) (by decide) (by decide) (by decide)
      have t2 := MS_sq (N := N' + 5) (w := -94) (K := 1) (MS_tk (z := z + 1) hx (show 33 < 48 by decide) (by decide)) t (by show 0 + 2 ≤ _; omega) (by omega) (by decide) (by decide) (by decide)
      have t3 := MS_dp h8 t2
      have t4 : MA kd H (z + 1) (z + 1) (a' + 1) (N' + 6) (-92) 2 ([100] ++ ([33] ++ ([94] ++ [34])) ++ [101]) i b (sq (tk (kF kd) 33) (sq (pSum (kF kd) one) (tk (kF kd) 34)) i b) := by
        intro gs hs R Pl os od h1 h2 h3 h4 h5 h6
        have y := t3 i b hi hb gs hs R Pl os od h1 h2 h3 h4 h5 h6
        generalize sq (tk (fun i => kd.getD i 0) 33) (sq (pSum (kF kd) one) (tk (fun i => kd.getD i 0) 34)) i b = r at y ⊢
        rcases r with ⟨j, _ | ⟨c', e'⟩⟩
        · exact y
        · obtain ⟨y1, y2, y3, y4⟩ := y
          exact ⟨y1, y2, by omega, y4⟩
      exact MA_x (by decide) (by decide) (row 33 _ k33 (by decide)) t4 (by omega) (by show 5 ≤ _; omega) (by decide) (by decide)
  rw [if_neg k33]
  by_cases k27 : kF kd i = 27
  · rw [if_pos k27]
    rcases hz with ⟨rfl, rfl⟩ | ⟨a', N', one, rfl, rfl, h8, hN', hN2, hm, h⟩
    · have t : MA kd H (z + 1) (z + 1) 0 8 (-38) 3 ([27] ++ [99, 134]) i b (sq (tk (kF kd) 27) flp i b) := MA_sq2 (z1 := z + 2) (N1 := 0) (N2 := 8) (w1 := -39) (w2 := 0) (K1 := 1) (K2 := 2) hb (MS_tk hx (by decide) (by decide) i b hi hb) (fun j c e hj hjl hb2 => by
        intro gs hs R Pl os od h1 h2 h3 h4 h5 h6
        have y : MA kd H (z + 2) (z + 1) 0 7 0 2 [99] j (b + c.length) (j, none) := MA_x (gl := [100, 33, 94, 38, 94, 34, 101]) (N' := 0) (w' := -1) (K' := 1) (by decide) (by decide) (by unfold rlN rfN; rfl) (MA_sh hjl (by decide)) (by decide) (by decide) (by decide) (by decide)
        exact y ([134] ++ gs) hs R Pl os od (by
          have y2 : ([134] ++ gs).length = gs.length + 1 := by rw [List.length_append, List.length_cons, List.length_nil]; omega
          omega) h2 h3 h4 h5 h6) (by decide) (by decide) (by decide) (by decide) (by decide)
      exact MA_x (by decide) (by decide) (row 27 _ k27 (by decide)) t hN (by show 3 ≤ _; omega) (by decide) (by decide)
    · exact MA_x (by decide) (by decide) (row 27 _ k27 (by decide)) (MS_pr (g := 134) hx hL h8 (h z) hm (by omega) (by decide) (by decide) (by decide) (by decide) i b hi hb) hN' (by show 3 ≤ _; omega) (by decide) (by decide)
  rw [if_neg k27]
  by_cases k28 : kF kd i = 28
  · rw [if_pos k28]
    rcases hz with ⟨rfl, rfl⟩ | ⟨a', N', one, rfl, rfl, h8, hN', hN2, hm, h⟩
    · have t : MA kd H (z + 1) (z + 1) 0 8 (-38) 3 ([28] ++ [99, 135]) i b (sq (tk (kF kd) 28) flp i b) := MA_sq2 (z1 := z + 2) (N1 := 0) (N2 := 8) (w1 := -39) (w2 := 0) (K1 := 1) (K2 := 2) hb (MS_tk hx (by decide) (by decide) i b hi hb) (fun j c e hj hjl hb2 => by
        intro gs hs R Pl os od h1 h2 h3 h4 h5 h6
        have y : MA kd H (z + 2) (z + 1) 0 7 0 2 [99] j (b + c.length) (j, none) := MA_x (gl := [100, 33, 94, 38, 94, 34, 101]) (N' := 0) (w' := -1) (K' := 1) (by decide) (by decide) (by unfold rlN rfN; rfl) (MA_sh hjl (by decide)) (by decide) (by decide) (by decide) (by decide)
        exact y ([135] ++ gs) hs R Pl os od (by
          have y2 : ([135] ++ gs).length = gs.length + 1 := by rw [List.length_append, List.length_cons, List.length_nil]; omega
          omega) h2 h3 h4 h5 h6) (by decide) (by decide) (by decide) (by decide) (by decide)
      exact MA_x (by decide) (by decide) (row 28 _ k28 (by decide)) t hN (by show 3 ≤ _; omega) (by decide) (by decide)
    · exact MA_x (by decide) (by decide) (row 28 _ k28 (by decide)) (MS_pr (g := 135) hx hL h8 (h z) hm (by omega) (by decide) (by decide) (by decide) (by decide) i b hi hb) hN' (by show 3 ≤ _; omega) (by decide) (by decide)
  rw [if_neg k28]
  refine MA_x (gl := [120, 75]) (N' := 0) (w' := -21) (K' := 2) (by decide) (by decide) ?_ (MA_nf hx hi (by omega) k30 (by decide)) (by omega) (by show 2 ≤ _; omega) (by decide) (by decide)
  unfold rlN rfN valN
  simp only [show ¬ kd.getD i 0 = 20 from k20, show ¬ kd.getD i 0 = 21 from k21, show ¬ kd.getD i 0 = 22 from k22, show ¬ kd.getD i 0 = 23 from k23, show ¬ kd.getD i 0 = 6 from k6, show ¬ kd.getD i 0 = 40 from k40, show ¬ kd.getD i 0 = 33 from k33, show ¬ kd.getD i 0 = 27 from k27, show ¬ kd.getD i 0 = 28 from k28]
  rfl
theorem MS_one {kd : List Nat} {H : Nat} (hx : kdX kd) (hL : kdL kd) : ∀ a, a ≤ 8 → ∀ z, MS kd H (z + 1) (z + 1) a (8 + 9 * a) (-20) 5 [98] (pOne (kF kd) a)
  | 0, _, z => MS_oneF hx hL (by decide) (Or.inl ⟨rfl, rfl⟩)
  | a + 1, h, z => MS_oneF hx hL (by omega) (Or.inr ⟨a, 8 + 9 * a, _, rfl, rfl, h, by omega, by omega, mo_one a, MS_one hx hL a (by omega)⟩)
