/-! THE GRAMMAR'S MACHINE AND THE PARSER: ROOMS, DOORS, PARTS -/
theorem MS_e {kd : List Nat} {H : Nat} {z z' a N : Nat} {w K : Int} {gl : List Nat} {P Q : PA} (h : MS kd H z z' a N w K gl P) (e : ∀ i b, (∃ j, P i b = (j, none) ∧ Q i b = (j, none)) ∨ ∃ j c e e', P i b = (j, some (c, e)) ∧ Q i b = (j, some (c, e')) ∧ e'.filter isR = e.filter isR) : MS kd H z z' a N w K gl Q := by
  intro i b hi hb gs hs R Pl os od h1 h2 h3 h4 h5 h6
  have y := h i b hi hb gs hs R Pl os od h1 h2 h3 h4 h5 h6
  rcases e i b with ⟨j, e1, e2⟩ | ⟨j, c, ev, ev', e1, e2, e3⟩
  · rw [e1] at y
    rw [e2]
    exact y
  · rw [e1] at y
    rw [e2]
    obtain ⟨y1, y2, y3, n, me, y4, y5, y6⟩ := y
    exact ⟨y1, y2, y3, n, me, y4, y5, MEK_ev y6 e3⟩
theorem fil_in {e : List EVt} {r i j : Nat} (h : ¬ (60 ≤ r ∧ r ≤ 76)) : (e ++ [(r, i, j)]).filter isR = e.filter isR := by
  rw [List.filter_append, List.filter_cons, if_neg (by unfold isR; simp only [Bool.and_eq_true, decide_eq_true_eq]; exact h)]
  exact List.append_nil _
theorem MS_evE {kd : List Nat} {H : Nat} {z z' a N : Nat} {w K : Int} {gl : List Nat} {P : PA} {ev : Nat → EVt} (h : MS kd H z z' a N w K gl P) (hr : ∀ i, ¬ (60 ≤ (ev i).1 ∧ (ev i).1 ≤ 76)) : MS kd H z z' a N w K gl (evE P ev) := by
  refine MS_e h (fun i b => ?_)
  unfold evE
  rcases hp : P i b with ⟨j, _ | ⟨c, e⟩⟩
  · exact Or.inl ⟨j, rfl, rfl⟩
  · exact Or.inr ⟨j, c, e, _, rfl, rfl, fil_in (hr i)⟩
theorem MS_room {kd : List Nat} {H : Nat} {z a : Nat} (hx : kdX kd) : MS kd H z (z + 3) a 2 (-117) 1 ([0] ++ ([60] ++ [37])) (pRoom (kF kd)) := by
  have t1 := MS_sq (N := 1) (w := -78) (K := 1) (MS_nmk (H := H) (z := z + 1) (a := a) (r := 60) (nm := 29) hx (by decide) (by decide) (by decide) (by decide)) (MS_tk (z := z + 2) hx (show 37 < 48 by decide) (by decide)) (by decide) (by decide) (by decide) (by decide) (by decide)
  have t2 := MS_sq (N := 2) (w := -117) (K := 1) (MS_tk (z := z) hx (show 0 < 48 by decide) (by decide)) t1 (by decide) (by decide) (by decide) (by decide) (by decide)
  exact MS_evE t2 (fun i => by show ¬ (60 ≤ 1 ∧ _); omega)
theorem MS_door {kd : List Nat} {H : Nat} {z a : Nat} (hx : kdX kd) : MS kd H z (z + 5) a 4 (-195) 1 ([1] ++ ([61] ++ ([62] ++ ([70] ++ [37])))) (pDoor (kF kd)) := by
  have t1 := MS_sq (N := 1) (w := -78) (K := 1) (MS_nmk (H := H) (z := z + 3) (a := a) (r := 70) (nm := 30) hx (by decide) (by decide) (by decide) (by decide)) (MS_tk (z := z + 4) hx (show 37 < 48 by decide) (by decide)) (by decide) (by decide) (by decide) (by decide) (by decide)
  have t2 := MS_sq (N := 2) (w := -117) (K := 1) (MS_nmk (H := H) (z := z + 2) (a := a) (r := 62) (nm := 29) hx (by decide) (by decide) (by decide) (by decide)) t1 (by decide) (by decide) (by decide) (by decide) (by decide)
  have t3 := MS_sq (N := 3) (w := -156) (K := 1) (MS_nmk (H := H) (z := z + 1) (a := a) (r := 61) (nm := 29) hx (by decide) (by decide) (by decide) (by decide)) t2 (by decide) (by decide) (by decide) (by decide) (by decide)
  have t4 := MS_sq (N := 4) (w := -195) (K := 1) (MS_tk (z := z) hx (show 1 < 48 by decide) (by decide)) t3 (by decide) (by decide) (by decide) (by decide) (by decide)
  exact MS_evE t4 (fun i => by show ¬ (60 ≤ 2 ∧ _); omega)
theorem MS_P3 {kd : List Nat} {H : Nat} {z a i0 : Nat} (hx : kdX kd) : MS kd H z (z + 1) a 0 (-39) 1 [37] (pP3 (kF kd) i0) := by
  refine MS_e (MS_tk hx (by decide) (by decide)) (fun i b => ?_)
  unfold pP3
  rcases hp : tk (kF kd) 37 i b with ⟨j, _ | ⟨c, e⟩⟩
  · exact Or.inl ⟨j, rfl, rfl⟩
  · exact Or.inr ⟨j, c, e, _, rfl, rfl, fil_in (by omega)⟩
theorem MS_P2 {kd : List Nat} {H : Nat} {z a i0 : Nat} (hx : kdX kd) : MS kd H z (z + 1) a 3 (-38) 2 [85, 37] (pP2 (kF kd) i0) := by
  intro i b hi hb
  unfold pP2
  by_cases c : kF kd i = 6
  · rw [if_pos c]
    have t1 := MS_sq (N := 1) (w := -78) (K := 1) (MS_nmk (H := H) (z := z + 1) (a := a) (r := 72) (nm := 30) hx (by decide) (by decide) (by decide) (by decide)) (MS_P3 (z := z + 2) (i0 := i0) hx) (by decide) (by decide) (by decide) (by decide) (by decide)
    have t2 := MS_sq (N := 2) (w := -117) (K := 1) (MS_tk (z := z) hx (show 6 < 48 by decide) (by decide)) t1 (by decide) (by decide) (by decide) (by decide) (by decide)
    have y := MS_dn 2 t2 i b hi hb
    intro gs hs R Pl os od h1 h2 h3 h4 h5 h6
    have st : ∀ n, gN kd (1 + n) (ST kd ([85, 37] ++ gs) hs i a R Pl os od) = gN kd n (ST kd ([6] ++ ([72] ++ [37]) ++ gs) hs i a R Pl os od) := by
      intro n
      rw [show [85, 37] ++ gs = 85 :: 37 :: gs from rfl, gN_s, gD_x (by omega) (by omega), show kd.getD i 0 = 6 from c, show rlN 85 6 = [6, 72] by decide, gP_ok _ _ (by rw [List.length_cons]; show gs.length + 1 + 2 ≤ 200; omega)]
      rfl
    have x := y gs hs R Pl os od (by omega) h2 h3 h4 h5 h6
    rcases hr : sq (tk (kF kd) 6) (sq (nmk (kF kd) 30 72) (pP3 (kF kd) i0)) i b with ⟨j, _ | ⟨c', e'⟩⟩
    · rw [hr] at x
      obtain ⟨x1, x2, n, x3, x4⟩ := x
      exact ⟨x1, x2, 1 + n, by omega, by rw [st]; exact x4⟩
    · rw [hr] at x
      obtain ⟨x1, x2, x3, n, me, x4, x5⟩ := x
      exact ⟨x1, x2, by omega, 1 + n, me, by omega, by rw [st]; exact x5⟩
  · rw [if_neg c]
    intro gs hs R Pl os od h1 h2 h3 h4 h5 h6
    have st : ∀ n, gN kd (1 + n) (ST kd ([85, 37] ++ gs) hs i a R Pl os od) = gN kd n (ST kd ([37] ++ gs) hs i a R Pl os od) := by
      intro n
      rw [show [85, 37] ++ gs = 85 :: 37 :: gs from rfl, gN_s, gD_x (by omega) (by omega), show rlN 85 (kd.getD i 0) = [] by unfold rlN rfN; simp only [show ¬ kd.getD i 0 = 6 from c]; rfl]
      rfl
    have x := MS_P3 (H := H) (z := z) (a := a) (i0 := i0) hx i b hi hb gs hs R Pl os od (by omega) h2 h3 h4 h5 h6
    rcases hr : pP3 (kF kd) i0 i b with ⟨j, _ | ⟨c', e'⟩⟩
    · rw [hr] at x
      obtain ⟨x1, x2, n, x3, x4⟩ := x
      exact ⟨x1, x2, 1 + n, by omega, by rw [st]; exact x4⟩
    · rw [hr] at x
      obtain ⟨x1, x2, x3, n, me, x4, x5⟩ := x
      exact ⟨x1, x2, by omega, 1 + n, me, by omega, by rw [st]; exact x5⟩
/-- for whom: a word of three -/
theorem MS_kk {kd : List Nat} {H : Nat} {z a : Nat} (hx : kdX kd) : MS kd H z (z + 1) a 1 (-38) 2 [84] (kk (kF kd)) := by
  intro i b hi hb
  have hl := hx.1
  unfold kk
  by_cases c : 7 ≤ kF kd i ∧ kF kd i ≤ 9
  · rw [if_pos c]
    intro gs hs R Pl os od h1 h2 h3 h4 h5 h6
    have hk : kd.getD i 0 = kF kd i := rfl
    have hi1 := (hx.2 i hi).mp (by omega)
    refine ⟨Nat.le_succ _, hi1, by show 0 + (z + 1) ≤ _; omega, 1 + 1, [(76, 0)], by omega, ?_, rfl, rfl, fun t ht => ?_, fun m hm => absurd hm (Nat.not_lt_zero _), fun t ht hu => ?_⟩
    · have r : rlN 84 (kd.getD i 0) = [kF kd i] := by
        unfold rlN rfN
        rw [hk]
        rcases (show kF kd i = 7 ∨ kF kd i = 8 ∨ kF kd i = 9 by omega) with e | e | e <;> rw [e] <;> rfl
      rw [show [84] ++ gs = 84 :: gs from rfl, gN_s, gD_x (by omega) (by omega), r, gP_ok _ _ (by show gs.length + 1 ≤ 200; omega), show [kF kd i] ++ gs = kF kd i :: gs from rfl, gN_1, gD_tk1 (by omega) rfl (by omega) (by omega)]
      simp [meR, meP, rlW]
    · have : t = 0 := by rw [List.length_cons, List.length_nil] at ht; omega
      subst this
      exact ⟨fun z => absurd (show 76 = 0 from z) (by decide), fun _ => ⟨by show 60 ≤ 76; omega, by show 76 ≤ 76; omega⟩, fun _ z => absurd (show 76 < 70 from z) (by decide), fun _ z => absurd (show 76 < 76 from z) (by decide), fun _ => c⟩
    · have : t = 0 := by rw [List.length_cons, List.length_nil] at ht; omega
      subst this
      exact absurd hu (by decide)
  · rw [if_neg c]
    have r : ∃ x, rlN 84 (kd.getD i 0) = [x] ∧ x < 60 ∧ ¬ kd.getD i 0 = x := by
      have c' : ¬ (7 ≤ kd.getD i 0 ∧ kd.getD i 0 ≤ 9) := c
      refine ⟨9, ?_, by decide, by omega⟩
      unfold rlN rfN
      simp only [show ¬ kd.getD i 0 = 7 by omega, show ¬ kd.getD i 0 = 8 by omega]
      rfl
    obtain ⟨x, r1, r2, r3⟩ := r
    exact MA_x (N' := 0) (w' := -39) (K' := 1) (by decide) (by decide) r1 (MA_ft hi r2 r3 (by decide)) (by decide) (Nat.le_refl 1) (by decide) (by decide)
theorem MS_P1 {kd : List Nat} {H : Nat} {z a i0 : Nat} (hx : kdX kd) : MS kd H z (z + 1) a 5 (-37) 3 [83, 85, 37] (pP1 (kF kd) i0) := by
  intro i b hi hb
  unfold pP1
  by_cases c : kF kd i = 5
  · rw [if_pos c]
    have t1 := MS_sq (N := 3) (w := -76) (K := 2) (MS_kk (H := H) (z := z + 1) (a := a) hx) (MS_P2 (z := z + 2) (i0 := i0) hx) (by decide) (by decide) (by decide) (by decide) (by decide)
    have t2 := MS_sq (N := 3) (w := -115) (K := 1) (MS_tk (z := z) hx (show 5 < 48 by decide) (by decide)) t1 (by decide) (by decide) (by decide) (by decide) (by decide)
    have y := MS_dn 2 t2 i b hi hb
    intro gs hs R Pl os od h1 h2 h3 h4 h5 h6
    have st : ∀ n, gN kd (1 + n) (ST kd ([83, 85, 37] ++ gs) hs i a R Pl os od) = gN kd n (ST kd ([5] ++ ([84] ++ [85, 37]) ++ gs) hs i a R Pl os od) := by
      intro n
      rw [show [83, 85, 37] ++ gs = 83 :: 85 :: 37 :: gs from rfl, gN_s, gD_x (by omega) (by omega), show kd.getD i 0 = 5 from c, show rlN 83 5 = [5, 84] by decide, gP_ok _ _ (by rw [List.length_cons, List.length_cons]; show gs.length + 1 + 1 + 2 ≤ 200; omega)]
      rfl
    have x := y gs hs R Pl os od (by omega) h2 h3 h4 h5 h6
    rcases hr : sq (tk (kF kd) 5) (sq (kk (kF kd)) (pP2 (kF kd) i0)) i b with ⟨j, _ | ⟨c', e'⟩⟩
    · rw [hr] at x
      obtain ⟨x1, x2, n, x3, x4⟩ := x
      exact ⟨x1, x2, 1 + n, by omega, by rw [st]; exact x4⟩
    · rw [hr] at x
      obtain ⟨x1, x2, x3, n, me, x4, x5⟩ := x
      exact ⟨x1, x2, by omega, 1 + n, me, by omega, by rw [st]; exact x5⟩
  · rw [if_neg c]
    intro gs hs R Pl os od h1 h2 h3 h4 h5 h6
    have st : ∀ n, gN kd (1 + n) (ST kd ([83, 85, 37] ++ gs) hs i a R Pl os od) = gN kd n (ST kd ([85, 37] ++ gs) hs i a R Pl os od) := by
      intro n
      rw [show [83, 85, 37] ++ gs = 83 :: 85 :: 37 :: gs from rfl, gN_s, gD_x (by omega) (by omega), show rlN 83 (kd.getD i 0) = [] by unfold rlN rfN; simp only [show ¬ kd.getD i 0 = 5 from c]; rfl]
      rfl
    have x := MS_P2 (H := H) (z := z) (a := a) (i0 := i0) hx i b hi hb gs hs R Pl os od (by omega) h2 h3 h4 h5 h6
    rcases hr : pP2 (kF kd) i0 i b with ⟨j, _ | ⟨c', e'⟩⟩
    · rw [hr] at x
      obtain ⟨x1, x2, n, x3, x4⟩ := x
      exact ⟨x1, x2, 1 + n, by omega, by rw [st]; exact x4⟩
    · rw [hr] at x
      obtain ⟨x1, x2, x3, n, me, x4, x5⟩ := x
      exact ⟨x1, x2, by omega, 1 + n, me, by omega, by rw [st]; exact x5⟩
theorem pNd_sq {k : Nat → Nat} {i0 n i b t : Nat} (hk : k i = t) : pNd k i0 (n + 1) i b = sq (tk k t) (sq (nmk k 29 65) (fun j b => if k j = 38 then pNd k i0 n j b else pP1 k i0 j b)) i b := by
  have e1 : tk k t i b = (i + 1, some ([], [])) := by unfold tk; rw [if_pos hk]
  rw [pNd]
  dsimp only
  have b0 : b + ([] : List CI).length = b := rfl
  by_cases c : k (i + 1) = 29
  · have e2 : nmk k 29 65 (i + 1) b = (i + 1 + 1, some ([], [(65, i + 1, 0)])) := by unfold nmk; rw [if_pos c]
    rw [e2]
    dsimp only
    rcases h3 : (if k (i + 1 + 1) = 38 then pNd k i0 n (i + 1 + 1) b else pP1 k i0 (i + 1 + 1) b) with ⟨l, _ | ⟨c', e'⟩⟩
    · rw [sq_sn e1 (by rw [b0]; exact sq_sn e2 h3)]; rfl
    · rw [sq_ss e1 (by rw [b0]; exact sq_ss e2 h3)]; rfl
  · have e2 : nmk k 29 65 (i + 1) b = (i + 1, none) := by unfold nmk; rw [if_neg c]
    rw [e2]
    dsimp only
    rw [sq_sn e1 (by rw [b0]; exact sq_n e2)]
theorem MA_nd {kd : List Nat} {H : Nat} {z a i0 : Nat} (hx : kdX kd) : ∀ (n i b t : Nat), 402 ≤ i + n → i < kd.length → b + z ≤ i → (t = 4 ∨ t = 38) → kd.getD i 0 = t → MA kd H z (z + 2) a 8 (-76) 4 ([t] ++ ([65] ++ [82, 83, 85, 37])) i b (pNd (kF kd) i0 n i b)
  | 0, i, b, t, h1, h2, h3, h4, h5 => by have := hx.1; omega
  | n + 1, i, b, t, h1, h2, h3, h4, h5 => by
    rw [pNd_sq (k := kF kd) h5]
    have mt : MS kd H z (z + 1) a 0 (-39) 1 [t] (tk (kF kd) t) := by
      rcases h4 with rfl | rfl
      · exact MS_tk hx (by decide) (by decide)
      · exact MS_tk hx (by decide) (by decide)
    refine MA_sq2 (z1 := z + 1) (N1 := 0) (N2 := 8) (w1 := -39) (w2 := -37) (K1 := 1) (K2 := 5) h3 (mt i b h2 h3) (fun j c e hj hjl hb => ?_) (show 0 + 5 ≤ 8 by decide) (by decide) (by decide) (by decide) (by decide)
    have ej := tk_j hj
    refine MA_sq2 (z1 := z + 2) (N1 := 0) (N2 := 8) (w1 := -39) (w2 := 2) (K1 := 1) (K2 := 5) hb (MS_nmk (H := H) (z := z + 1) (a := a) (r := 65) (nm := 29) hx (by decide) (by decide) (by decide) (by decide) j _ hjl hb) (fun j2 c2 e2 hj2 hjl2 hb2 => ?_) (show 0 + 4 ≤ 8 by decide) (by decide) (by decide) (by decide) (by decide)
    have ej2 : j2 = j + 1 := by unfold nmk at hj2; split at hj2 <;> cases hj2; rfl
    intro gs hs R Pl os od g1 g2 g3 g4 g5 g6
    by_cases hc : kF kd j2 = 38
    · have y := MA_nd (H := H) (z := z) (a := a) (i0 := i0) hx n j2 (b + c.length + c2.length) 38 (by omega) hjl2 (by omega) (Or.inr rfl) hc gs hs R Pl os od (by omega) g2 g3 g4 g5 g6
      rw [if_pos hc]
      have st : ∀ m, gN kd (1 + m) (ST kd ([82, 83, 85, 37] ++ gs) hs j2 a R Pl os od) = gN kd m (ST kd ([38] ++ ([65] ++ [82, 83, 85, 37]) ++ gs) hs j2 a R Pl os od) := by
        intro m
        rw [show [82, 83, 85, 37] ++ gs = 82 :: 83 :: 85 :: 37 :: gs from rfl, gN_s, gD_x (by omega) (by omega), show kd.getD j2 0 = 38 from hc, show rlN 82 38 = [38, 65, 82] by decide, gP_ok _ _ (by rw [List.length_cons, List.length_cons, List.length_cons]; show gs.length + 1 + 1 + 1 + 3 ≤ 200; omega)]
        rfl
      rcases hr : pNd (kF kd) i0 n j2 (b + c.length + c2.length) with ⟨l, _ | ⟨c', e'⟩⟩
      · rw [hr] at y
        obtain ⟨x1, x2, n', x3, x4⟩ := y
        exact ⟨x1, x2, 1 + n', by omega, by rw [st]; exact x4⟩
      · rw [hr] at y
        obtain ⟨x1, x2, x3, n', me, x4, x5⟩ := y
        exact ⟨x1, x2, by omega, 1 + n', me, by omega, by rw [st]; exact x5⟩
    · rw [if_neg hc]
      have y := MS_P1 (H := H) (z := z + 1) (a := a) (i0 := i0) hx j2 (b + c.length + c2.length) hjl2 (by omega) gs hs R Pl os od (by omega) g2 g3 g4 g5 g6
      have st : ∀ m, gN kd (1 + m) (ST kd ([82, 83, 85, 37] ++ gs) hs j2 a R Pl os od) = gN kd m (ST kd ([83, 85, 37] ++ gs) hs j2 a R Pl os od) := by
        intro m
        rw [show [82, 83, 85, 37] ++ gs = 82 :: 83 :: 85 :: 37 :: gs from rfl, gN_s, gD_x (by omega) (by omega), show rlN 82 (kd.getD j2 0) = [] by unfold rlN rfN; simp only [show ¬ kd.getD j2 0 = 38 from hc]; rfl]
        rfl
      rcases hr : pP1 (kF kd) i0 j2 (b + c.length + c2.length) with ⟨l, _ | ⟨c', e'⟩⟩
      · rw [hr] at y
        obtain ⟨x1, x2, n', x3, x4⟩ := y
        exact ⟨x1, x2, 1 + n', by omega, by rw [st]; exact x4⟩
      · rw [hr] at y
        obtain ⟨x1, x2, x3, n', me, x4, x5⟩ := y
        exact ⟨x1, x2, by omega, 1 + n', me, by omega, by rw [st]; exact x5⟩
theorem MS_PX {kd : List Nat} {H : Nat} {z a : Nat} (hx : kdX kd) : MS kd H z (z + 1) a 8 (-36) 5 [81, 83, 85, 37] (pPX (kF kd)) := by
  intro i b hi hb gs hs R Pl os od g1 g2 g3 g4 g5 g6
  unfold pPX
  by_cases c : kF kd i = 4
  · rw [if_pos c]
    have y := MA_nd (H := H) (z := z) (a := a) (i0 := i - 4) hx (402 - i) i b 4 (by omega) hi hb (Or.inl rfl) c gs hs R Pl os od (by omega) g2 g3 g4 g5 g6
    have st : ∀ m, gN kd (1 + m) (ST kd ([81, 83, 85, 37] ++ gs) hs i a R Pl os od) = gN kd m (ST kd ([4] ++ ([65] ++ [82, 83, 85, 37]) ++ gs) hs i a R Pl os od) := by
      intro m
      rw [show [81, 83, 85, 37] ++ gs = 81 :: 83 :: 85 :: 37 :: gs from rfl, gN_s, gD_x (by omega) (by omega), show kd.getD i 0 = 4 from c, show rlN 81 4 = [4, 65, 82] by decide, gP_ok _ _ (by rw [List.length_cons, List.length_cons, List.length_cons]; show gs.length + 1 + 1 + 1 + 3 ≤ 200; omega)]
      rfl
    rcases hr : pNd (kF kd) (i - 4) (402 - i) i b with ⟨l, _ | ⟨c', e'⟩⟩
    · rw [hr] at y
      obtain ⟨x1, x2, n', x3, x4⟩ := y
      exact ⟨x1, x2, 1 + n', by omega, by rw [st]; exact x4⟩
    · rw [hr] at y
      obtain ⟨x1, x2, x3, n', me, x4, x5⟩ := y
      exact ⟨x1, x2, by omega, 1 + n', me, by omega, by rw [st]; exact x5⟩
  · rw [if_neg c]
    have y := MS_P1 (H := H) (z := z) (a := a) (i0 := i - 4) hx i b hi hb gs hs R Pl os od (by omega) g2 g3 g4 g5 g6
    have st : ∀ m, gN kd (1 + m) (ST kd ([81, 83, 85, 37] ++ gs) hs i a R Pl os od) = gN kd m (ST kd ([83, 85, 37] ++ gs) hs i a R Pl os od) := by
      intro m
      rw [show [81, 83, 85, 37] ++ gs = 81 :: 83 :: 85 :: 37 :: gs from rfl, gN_s, gD_x (by omega) (by omega), show rlN 81 (kd.getD i 0) = [] by unfold rlN rfN; simp only [show ¬ kd.getD i 0 = 4 from c]; rfl]
      rfl
    rcases hr : pP1 (kF kd) (i - 4) i b with ⟨l, _ | ⟨c', e'⟩⟩
    · rw [hr] at y
      obtain ⟨x1, x2, n', x3, x4⟩ := y
      exact ⟨x1, x2, 1 + n', by omega, by rw [st]; exact x4⟩
    · rw [hr] at y
      obtain ⟨x1, x2, x3, n', me, x4, x5⟩ := y
      exact ⟨x1, x2, by omega, 1 + n', me, by omega, by rw [st]; exact x5⟩
theorem MS_part {kd : List Nat} {H : Nat} {z a : Nat} (hx : kdX kd) : MS kd H z (z + 6) a 8 (-231) 1 ([2] ++ ([63] ++ ([3] ++ ([64] ++ ([71] ++ [81, 83, 85, 37]))))) (pPart (kF kd)) := by
  have t1 := MS_sq (N := 8) (w := -75) (K := 1) (MS_nmk (H := H) (z := z + 4) (a := a) (r := 71) (nm := 30) hx (by decide) (by decide) (by decide) (by decide)) (MS_PX (z := z + 5) hx) (by decide) (by decide) (by decide) (by decide) (by decide)
  have t2 := MS_sq (N := 8) (w := -114) (K := 1) (MS_nmk (H := H) (z := z + 3) (a := a) (r := 64) (nm := 29) hx (by decide) (by decide) (by decide) (by decide)) t1 (by decide) (by decide) (by decide) (by decide) (by decide)
  have t3 := MS_sq (N := 8) (w := -153) (K := 1) (MS_tk (z := z + 2) hx (show 3 < 48 by decide) (by decide)) t2 (by decide) (by decide) (by decide) (by decide) (by decide)
  have t4 := MS_sq (N := 8) (w := -192) (K := 1) (MS_nmk (H := H) (z := z + 1) (a := a) (r := 63) (nm := 29) hx (by decide) (by decide) (by decide) (by decide)) t3 (by decide) (by decide) (by decide) (by decide) (by decide)
  exact MS_sq (MS_tk (z := z) hx (show 2 < 48 by decide) (by decide)) t4 (by decide) (by decide) (by decide) (by decide) (by decide)
