/-! THE GRAMMAR'S MACHINE AND THE PARSER: TESTS -/
theorem MS_dn {kd : List Nat} {H : Nat} {z z' a N : Nat} {w K : Int} {gl : List Nat} {P : PA} (x : Nat) (h : MS kd H z (z' + x) a N w K gl P) : MS kd H z z' a N w K gl P := by
  intro i b hi hb gs hs R Pl os od h1 h2 h3 h4 h5 h6
  have y := h i b hi hb gs hs R Pl os od h1 h2 h3 h4 h5 h6
  generalize P i b = r at y ⊢
  rcases r with ⟨j, _ | ⟨c, e⟩⟩
  · exact y
  · obtain ⟨x1, x2, x3, x4⟩ := y
    exact ⟨x1, x2, by omega, x4⟩
theorem MS_cm1 {kd : List Nat} {H : Nat} {z a N c g : Nat} {op : Int32} {sum : PA} (hx : kdX kd) (h : MS kd H (z + 2) (z + 2) a N (-16) 7 [94] sum) (hc : c < 48) (h30 : ¬ c = 30 ∧ ¬ c = 8 ∧ ¬ c = 9) (hg : 110 ≤ g) (hop : op = Int32.ofNat (g - 110)) : MS kd H (z + 1) (z + 1) a (N + 2) (-54) 1 ([c] ++ ([94] ++ [g])) (sq (tk (kF kd) c) (sq sum (em op))) := by
  have t := MS_sq (N := N + 1) (w := -15) (K := 7) h (MS_em (z := z + 1) hx hg hop) (by show N + 1 ≤ _; omega) (by omega) (by decide) (by decide) (by decide)
  exact MS_sq (MS_tk (z := z + 1) hx hc h30) t (by show 0 + 2 ≤ _; omega) (by omega) (by decide) (by decide) (by decide)
theorem MS_cmp {kd : List Nat} {H : Nat} {z a N : Nat} {sum : PA} (hx : kdX kd) (hN : 1 ≤ N) (h : MS kd H (z + 2) (z + 2) a N (-16) 7 [94] sum) : MS kd H (z + 1) (z + 1) a (N + 2) (-53) 2 [93] (pCmp (kF kd) sum) := by
  intro i b hi hb
  have row : ∀ κ gl, kd.getD i 0 = κ → rlN 93 κ = gl → rlN 93 (kd.getD i 0) = gl := fun κ gl h1 h2 => by rw [h1, h2]
  unfold pCmp
  by_cases k43 : kF kd i = 43
  · rw [if_pos k43]
    exact MA_x (by decide) (by decide) (row 43 _ k43 (by decide)) (MS_cm1 (g := 136) hx h (by decide) (by decide) (by decide) (by decide) i b hi hb) (Nat.le_refl _) (by show 3 ≤ _; omega) (by decide) (by decide)
  rw [if_neg k43]
  by_cases k44 : kF kd i = 44
  · rw [if_pos k44]
    exact MA_x (by decide) (by decide) (row 44 _ k44 (by decide)) (MS_cm1 (g := 137) hx h (by decide) (by decide) (by decide) (by decide) i b hi hb) (Nat.le_refl _) (by show 3 ≤ _; omega) (by decide) (by decide)
  rw [if_neg k44]
  by_cases k45 : kF kd i = 45
  · rw [if_pos k45]
    exact MA_x (by decide) (by decide) (row 45 _ k45 (by decide)) (MS_cm1 (g := 138) hx h (by decide) (by decide) (by decide) (by decide) i b hi hb) (Nat.le_refl _) (by show 3 ≤ _; omega) (by decide) (by decide)
  rw [if_neg k45]
  by_cases k46 : kF kd i = 46
  · rw [if_pos k46]
    exact MA_x (by decide) (by decide) (row 46 _ k46 (by decide)) (MS_cm1 (g := 139) hx h (by decide) (by decide) (by decide) (by decide) i b hi hb) (Nat.le_refl _) (by show 3 ≤ _; omega) (by decide) (by decide)
  rw [if_neg k46]
  by_cases k47 : kF kd i = 47
  · rw [if_pos k47]
    exact MA_x (by decide) (by decide) (row 47 _ k47 (by decide)) (MS_cm1 (g := 140) hx h (by decide) (by decide) (by decide) (by decide) i b hi hb) (Nat.le_refl _) (by show 3 ≤ _; omega) (by decide) (by decide)
  rw [if_neg k47]
  refine MA_x (gl := [47, 94, 140]) (N' := 0) (w' := -54) (K' := 1) (by decide) (by decide) ?_ (MA_ft hi (by decide) k47 (by decide)) (Nat.zero_le _) (by show 3 ≤ _; omega) (by decide) (by decide)
  unfold rlN rfN cmpN
  simp only [show ¬ kd.getD i 0 = 43 from k43, show ¬ kd.getD i 0 = 44 from k44, show ¬ kd.getD i 0 = 45 from k45, show ¬ kd.getD i 0 = 46 from k46]
  rfl
theorem MS_bth {kd : List Nat} {H : Nat} {z a N : Nat} {s : PA} (hx : kdX kd) (hL : kdL kd) (h : MS kd H (z + 1) (z + 1) a N (-20) 8 [92] s) (hm : mo s) (hN : 4 ≤ N) : MS kd H (z + 1) (z + 1) a (N + 2) (-19) 8 [92, 91] (pBth (kF kd) s) := by
  intro i b hi hb
  refine MA_sq2 (g1 := [92]) (g2 := [91]) (z1 := z + 1) (N1 := N) (N2 := N + 2) (w1 := -20) (w2 := 1) (K1 := 8) (K2 := 3) hb (h i b hi hb) (fun j c e hj hjl hb2 => ?_) (by show N + 1 ≤ _; omega) (Nat.le_refl _) (by decide) (by decide) (by decide)
  refine MS_lpp (p1 := 141) (p2 := 0) (gx := [92]) hx hL (by decide) (by decide) h hm (by decide) (Or.inr (by decide)) (by decide) ?_ (fun hh => absurd hh (by decide)) (fun κ h0 h1 h2 => ?_) (Nat.le_refl _) (by show 1 + 3 ≤ _; omega) (by decide) (by decide) (by decide) _ j _ (by omega) hjl hb2
  · decide
  · unfold rlN rfN; simp only [h1]; rfl
theorem MS_tst {kd : List Nat} {H : Nat} {z a N : Nat} {s : PA} (hx : kdX kd) (hL : kdL kd) (h : MS kd H (z + 1) (z + 1) a N (-20) 8 [92] s) (hm : mo s) (hN : 4 ≤ N) : MS kd H (z + 1) (z + 1) a (N + 4) (-17) 9 [89] (pTst (kF kd) s) := by
  intro i b hi hb
  have hp := MS_bth hx hL h hm hN
  refine MA_x (gl := [92, 91] ++ [90]) (N' := N + 4) (w' := -18) (K' := 8) (by decide) (by decide) ?_ ?_ (Nat.le_refl _) (by show 3 ≤ _; omega) (by decide) (by decide)
  · unfold rlN rfN; rfl
  · refine MA_sq2 (z1 := z + 1) (N1 := N + 2) (N2 := N + 4) (w1 := -19) (w2 := 1) (K1 := 8) (K2 := 3) hb (hp i b hi hb) (fun j c e hj hjl hb2 => ?_) (by show N + 2 + 1 ≤ _; omega) (Nat.le_refl _) (by decide) (by decide) (by decide)
    refine MS_lpp (p1 := 142) (p2 := 0) (gx := [92, 91]) hx hL (by decide) (by decide) hp (mo_bth hm) (by decide) (Or.inr (by decide)) (by decide) ?_ (fun hh => absurd hh (by decide)) (fun κ h0 h1 h2 => ?_) (Nat.le_refl _) (by show 2 + 3 ≤ _; omega) (by decide) (by decide) (by decide) _ j _ (by omega) hjl hb2
    · decide
    · unfold rlN rfN; simp only [h1]; rfl
theorem MS_sin {kd : List Nat} {H : Nat} {z a N Ns : Nat} {sum : PA} {rc : Option PA} (hx : kdX kd) (hL : kdL kd) (hN : Ns + 3 ≤ N) (hNs : 10 ≤ Ns) (hs : ∀ z, MS kd H (z + 1) (z + 1) a Ns (-16) 7 [94] sum) (hz : (rc = none ∧ a = 0) ∨ ∃ a' N' s, rc = some s ∧ a = a' + 1 ∧ a ≤ 8 ∧ N' + 7 ≤ N ∧ 4 ≤ N' ∧ mo s ∧ ∀ z, MS kd H (z + 1) (z + 1) a' N' (-20) 8 [92] s) : MS kd H (z + 1) (z + 1) a N (-20) 8 [92] (pSin (kF kd) sum rc) := by
  intro i b hi hb
  have row : ∀ κ gl, kd.getD i 0 = κ → rlN 92 κ = gl → rlN 92 (kd.getD i 0) = gl := fun κ gl h1 h2 => by rw [h1, h2]
  unfold pSin
  by_cases k24 : kF kd i = 24
  · rw [if_pos k24]
    rcases hz with ⟨rfl, rfl⟩ | ⟨a', N', s, rfl, rfl, h8, hN', hN2, hm, h⟩
    · exact MA_x (by decide) (by decide) (row 24 [100, 24, 92, 101, 129] k24 (by decide)) (MA_sh (N := 0) (K := 1) (w := -38) hi (by decide)) (by omega) (by show 5 ≤ _; omega) (by decide) (by decide)
    · have t := MS_sq (N := N' + 1) (w := -59) (K := 1) (MS_tk (z := z + 1) hx (show 24 < 48 by decide) (by decide)) (h (z + 1)) (by show 0 + 1 ≤ _; omega) (by omega) (by decide) (by decide) (by decide)
      have t2 := MS_sq (N := N' + 3) (w := -56) (K := 2) (MS_dp h8 t) (MS_em (z := z + 1) (g := 129) (op := 19) hx (by decide) (by decide)) (by show N' + 1 + 1 + 1 ≤ _; omega) (by omega) (by decide) (by decide) (by decide)
      exact MA_x (by decide) (by decide) (row 24 _ k24 (by decide)) (MS_as t2 i b hi hb) (by omega) (by show 5 ≤ _; omega) (by decide) (by decide)
  rw [if_neg k24]
  by_cases k35 : kF kd i = 35
  · rw [if_pos k35]
    rcases hz with ⟨rfl, rfl⟩ | ⟨a', N', s, rfl, rfl, h8, hN', hN2, hm, h⟩
    · exact MA_x (by decide) (by decide) (row 35 [100, 35, 89, 36, 101] k35 (by decide)) (MA_sh (N := 0) (K := 1) (w := -38) hi (by decide)) (by omega) (by show 5 ≤ _; omega) (by decide) (by decide)
    · have tt := MS_tst hx hL (h (z + 1)) hm hN2
      have t := MS_sq (N := N' + 5) (w := -56) (K := 9) tt (MS_tk (z := z + 2) hx (show 36 < 48 by decide) (by decide)) (by show N' + 4 + 1 ≤ _; omega) (by omega) (by decide) (by decide) (by decide)
      have t2 := MS_sq (N := N' + 5) (w := -95) (K := 1) (MS_tk (z := z + 1) hx (show 35 < 48 by decide) (by decide)) t (by show 0 + 2 ≤ _; omega) (by omega) (by decide) (by decide) (by decide)
      exact MA_x (by decide) (by decide) (row 35 _ k35 (by decide)) (MS_dn 2 (MS_dp h8 t2) i b hi hb) (by omega) (by show 5 ≤ _; omega) (by decide) (by decide)
  rw [if_neg k35]
  by_cases k18 : kF kd i = 18
  · rw [if_pos k18]
    have t := MS_sq (N := 2) (w := -77) (K := 1) (MS_tk (H := H) (z := z + 1) (a := a) hx (show 18 < 48 by decide) (by decide)) (MS_ho (z := z + 1) (g := 126) (r := 68) (nm := 29) (op := 16) hx (by decide) (by decide) (by decide) (by decide)) (by decide) (by decide) (by decide) (by decide) (by decide)
    exact MA_x (by decide) (by decide) (row 18 _ k18 (by decide)) (MS_dn 1 t i b hi hb) (by omega) (by show 3 ≤ _; omega) (by decide) (by decide)
  rw [if_neg k18]
  by_cases k19 : kF kd i = 19
  · rw [if_pos k19]
    have t := MS_sq (N := 2) (w := -77) (K := 1) (MS_tk (H := H) (z := z + 1) (a := a) hx (show 19 < 48 by decide) (by decide)) (MS_ho (z := z + 1) (g := 127) (r := 67) (nm := 29) (op := 17) hx (by decide) (by decide) (by decide) (by decide)) (by decide) (by decide) (by decide) (by decide) (by decide)
    exact MA_x (by decide) (by decide) (row 19 _ k19 (by decide)) (MS_dn 1 t i b hi hb) (by omega) (by show 3 ≤ _; omega) (by decide) (by decide)
  rw [if_neg k19]
  have t := MS_sq (N := Ns + 2) (w := -69) (K := 7) (hs z) (MS_cmp (z := z) hx (by omega) (hs (z + 1))) (by show Ns + 1 ≤ _; omega) (by omega) (by decide) (by decide) (by decide)
  refine MA_x (gl := [94] ++ [93]) (by decide) (by decide) ?_ (t i b hi hb) (by omega) (by show 2 ≤ _; omega) (by decide) (by decide)
  unfold rlN rfN sglN
  simp only [show ¬ kd.getD i 0 = 24 from k24, show ¬ kd.getD i 0 = 35 from k35, show ¬ kd.getD i 0 = 18 from k18, show ¬ kd.getD i 0 = 19 from k19]
  rfl
theorem MS_single {kd : List Nat} {H : Nat} (hx : kdX kd) (hL : kdL kd) : ∀ a, a ≤ 8 → ∀ z, MS kd H (z + 1) (z + 1) a (15 + 9 * a) (-20) 8 [92] (pSingle (kF kd) a)
  | 0, _, z => MS_sin (Ns := 12) hx hL (by decide) (by decide) (fun z => MS_sum hx hL (MS_one hx hL 0 (by decide) z) (mo_one 0) (by decide)) (Or.inl ⟨rfl, rfl⟩)
  | a + 1, h, z => MS_sin (Ns := 8 + 9 * (a + 1) + 4) hx hL (by omega) (by omega) (fun z => MS_sum hx hL (MS_one hx hL (a + 1) h z) (mo_one (a + 1)) (by omega)) (Or.inr ⟨a, 15 + 9 * a, _, rfl, rfl, h, by omega, by omega, mo_single a, MS_single hx hL a (by omega)⟩)
