/-! THE GRAMMAR'S MACHINE AND THE PARSER: ONE GOAL -/

theorem gD_tk {kd : List Nat} {c i a : Nat} {gs : List Nat} {hs R Pl os od : List Int32} (hc : c < 60) : gD kd c (ST kd gs hs i a R Pl os od) = (gs, hs, if kd.getD i 0 = c then i + 1 else i, Int32.ofNat (8 - a), !decide (kd.getD i 0 = c), rp kd.length R, rp kd.length Pl, os, od) := by
  unfold ST
  unfold gD
  dsimp only
  rw [if_neg (by omega), if_neg (by omega), if_neg (by omega), if_neg (by omega)]
  rfl
theorem gD_tk1 {kd : List Nat} {c i a : Nat} {gs : List Nat} {hs R Pl os od : List Int32} (hc : c < 60) (hk : kd.getD i 0 = c) (hR : R.length < kd.length) (hP : Pl.length < kd.length) : gD kd c (ST kd gs hs i a R Pl os od) = ST kd gs hs (i + 1) a (R ++ [0]) (Pl ++ [0]) os od := by
  rw [gD_tk hc, if_pos hk, decide_eq_true hk, rp_0 hR, rp_0 hP]
  rfl
theorem gD_em {kd : List Nat} {g i a : Nat} {gs : List Nat} {hs R Pl os od : List Int32} (hg : 110 ≤ g) (h1 : os.length < 400) (h2 : od.length < 400) : gD kd g (ST kd gs hs i a R Pl os od) = ST kd gs hs i a R Pl (os ++ [Int32.ofNat (g - 110)]) (od ++ [0]) := by
  unfold ST
  unfold gD
  dsimp only
  rw [if_pos hg, la_ok h1, la_ok h2]
theorem gD_x {kd : List Nat} {g i a : Nat} {gs : List Nat} {hs R Pl os od : List Int32} (h0 : 80 ≤ g) (h1 : g < 100) : gD kd g (ST kd gs hs i a R Pl os od) = ST kd (gP gs (rlN g (kd.getD i 0))) hs i a R Pl os od := by
  unfold ST
  unfold gD
  dsimp only
  rw [if_neg (by omega), if_neg (by omega), if_pos h0]
theorem gD_rl {kd : List Nat} {r i a : Nat} {gs : List Nat} {hs R Pl os od : List Int32} (h0 : 60 ≤ r) (h1 : r < 80) (hR : R.length = i) (hP : Pl.length = i) (hi : i < kd.length) (hn : kd.length ≤ 1000000) : gD kd r (ST kd gs hs i a R Pl os od) = (gs, hs, if kd.getD i 0 = (if 70 ≤ r then 30 else 29) then i + 1 else i, Int32.ofNat (8 - a), !decide (kd.getD i 0 = (if 70 ≤ r then 30 else 29)), rp kd.length (R ++ [Int32.ofNat r]), rp kd.length (Pl ++ [if r = 66 then Int32.ofNat os.length else Int32.ofNat os.length - 1]), os, od) := by
  unfold ST
  unfold gD
  dsimp only
  rw [if_neg (by omega), if_neg (by omega), if_neg (by omega), if_pos h0]
  have a := rp_s (n := kd.length) (R := R) (x := Int32.ofNat r) (by omega) hn
  have b := rp_s (n := kd.length) (R := Pl) (x := if r = 66 then Int32.ofNat os.length else Int32.ofNat os.length - 1) (by omega) hn
  rw [hR] at a
  rw [hP] at b
  unfold gRole
  dsimp only
  rw [a, b]
  rfl
theorem MA_ft {kd : List Nat} {H : Nat} {z z' a N i b c : Nat} {w K : Int} {gl : List Nat} (hi : i < kd.length) (hc : c < 60) (hk : ¬ kd.getD i 0 = c) (hK : 1 ≤ K) : MA kd H z z' a N w K (c :: gl) i b (i, none) := by
  intro gs hs R Pl os od h1 h2 h3 h4 h5 h6
  refine ⟨Nat.le_refl _, hi, 1, by omega, ?_, ?_⟩
  · rw [List.cons_append, gN_1, gD_tk hc, if_neg hk, decide_eq_false hk]; rfl
  · rw [List.cons_append, gN_1, gD_tk hc, if_neg hk]
theorem MS_tk {kd : List Nat} {H : Nat} {z a c : Nat} (hx : kdX kd) (hc : c < 48) (h30 : ¬ c = 30 ∧ ¬ c = 8 ∧ ¬ c = 9) : MS kd H z (z + 1) a 0 (-39) 1 [c] (tk (fun i => kd.getD i 0) c) := by
  intro i b hi hb
  unfold tk
  by_cases hk : kd.getD i 0 = c
  · rw [if_pos hk]
    intro gs hs R Pl os od h1 h2 h3 h4 h5 h6
    have hi1 := (hx.2 i hi).mp (by omega)
    refine ⟨Nat.le_succ _, hi1, ?_, 1, [(0, 0)], ?_, ?_, rfl, rfl, ?_, fun m hm => absurd hm (Nat.not_lt_zero _), ?_⟩
    · show 0 + (z + 1) ≤ _; omega
    · omega
    · rw [List.cons_append, gN_1, gD_tk1 (by omega) hk (by omega) (by omega)]
      simp [meR, meP, rlW]
    · intro t ht
      have : t = 0 := by rw [List.length_cons, List.length_nil] at ht; omega
      subst this
      refine ⟨fun _ => ?_, fun z => absurd rfl z, fun z => absurd rfl z, fun z => absurd z (by decide), fun z => absurd z (by decide)⟩
      show ¬ kd.getD (i + 0) 0 = 30 ∧ ¬ kd.getD (i + 0) 0 = 8 ∧ ¬ kd.getD (i + 0) 0 = 9
      rw [Nat.add_zero, hk]
      exact h30
    · intro t ht hu
      have : t = 0 := by rw [List.length_cons, List.length_nil] at ht; omega
      subst this
      exact absurd hu (by decide)
  · rw [if_neg hk]
    exact MA_ft hi (by omega) hk (by decide)
theorem MS_em {kd : List Nat} {H : Nat} {z a g : Nat} {op : Int32} (hx : kdX kd) (hg : 110 ≤ g) (hop : op = Int32.ofNat (g - 110)) : MS kd H (z + 1) z a 0 1 0 [g] (em op) := by
  intro i b hi hb gs hs R Pl os od h1 h2 h3 h4 h5 h6
  have := hx.1
  refine ⟨Nat.le_refl _, hi, ?_, 1, [], by omega, ?_, MEK_em⟩
  · show 1 + z ≤ _; omega
  · rw [List.cons_append, gN_1, gD_em hg (by omega) (by omega), hop]
    simp [meR, meP]
theorem MS_nil {kd : List Nat} {H : Nat} {z a : Nat} : MS kd H z z a 0 0 0 [] skp := by
  intro i b hi hb gs hs R Pl os od h1 h2 h3 h4 h5 h6
  refine ⟨Nat.le_refl _, hi, by show 0 + z ≤ _; omega, 0, [], by omega, ?_, MEK_nil⟩
  rw [gN, List.nil_append]
  simp [meR, meP]
theorem MEK_1 {k : Nat → Nat} {i b : Nat} {op : Int32} {r : Nat} (hu : isU r = true) (hr : kOK (k i) r) : MEK k i (i + 1) b [(op, 0, i + 1)] [(r, i, 0)] [(r, Int32.ofNat b)] := by
  have h60 : 67 ≤ r ∧ r ≤ 75 := by
    unfold isU at hu
    simp only [Bool.or_eq_true, decide_eq_true_eq] at hu
    omega
  refine ⟨rfl, ?_, fun t ht => ?_, fun m hm => ?_, fun t ht hh => ?_⟩
  · rw [evO, if_neg (show ¬ r = 0 by omega), evO, List.filter_cons, if_pos (by unfold isR; dsimp only; rw [decide_eq_true (by omega), decide_eq_true (by omega)]; rfl)]
    rfl
  · have : t = 0 := by rw [List.length_cons, List.length_nil] at ht; omega
    subst this
    exact hr
  · have : m = 0 := by rw [List.length_cons, List.length_nil] at hm; omega
    subst this
    exact Or.inr ⟨0, Nat.zero_lt_one, rfl, rfl, hu, rfl⟩
  · have : t = 0 := by rw [List.length_cons, List.length_nil] at ht; omega
    subst this
    exact ⟨0, Nat.zero_lt_one, rfl, rfl⟩
theorem MS_ho {kd : List Nat} {H : Nat} {z a g r nm : Nat} {op : Int32} (hx : kdX kd) (hg : 110 ≤ g) (hop : op = Int32.ofNat (g - 110)) (hu : isU r = true) (hnm : nm = if 70 ≤ r then 30 else 29) : MS kd H (z + 1) (z + 1) a 0 (-38) 2 [g, r] (ho (fun i => kd.getD i 0) op nm r) := by
  intro i b hi hb
  have h60 : 67 ≤ r ∧ r ≤ 75 := by
    unfold isU at hu
    simp only [Bool.or_eq_true, decide_eq_true_eq] at hu
    omega
  unfold ho
  dsimp only
  have hl := hx.1
  have st : ∀ gs hs R Pl os od, os.length = b → od.length = b → R.length = i → Pl.length = i → gN kd 2 (ST kd (g :: r :: gs) hs i a R Pl os od) = (gs, hs, if kd.getD i 0 = nm then i + 1 else i, Int32.ofNat (8 - a), !decide (kd.getD i 0 = nm), rp kd.length (R ++ [Int32.ofNat r]), rp kd.length (Pl ++ [Int32.ofNat b]), os ++ [op], od ++ [0]) := by
    intro gs hs R Pl os od h5 h6 h3 h4
    rw [show 2 = 1 + 1 from rfl, gN_s, gD_em hg (by omega) (by omega), gN_1, gD_rl (by omega) (by omega) h3 h4 hi (by omega), ← hnm, if_neg (show ¬ r = 66 by omega), List.length_append, List.length_cons, List.length_nil, h5, ← hop]
    rw [show Int32.ofNat (b + (0 + 1)) - 1 = Int32.ofNat b by rw [show (1 : Int32) = Int32.ofNat 1 from rfl, i_subof (by omega)]; rfl]
  by_cases hk : kd.getD i 0 = nm
  · rw [if_pos hk]
    intro gs hs R Pl os od h1 h2 h3 h4 h5 h6
    have hi1 := (hx.2 i hi).mp (by rw [hk, hnm]; split <;> omega)
    refine ⟨Nat.le_succ _, hi1, ?_, 2, [(r, Int32.ofNat b)], by omega, ?_, MEK_1 hu ⟨fun z => by omega, fun _ => by omega, fun _ z => ?_, fun z _ => ?_, fun z => by omega⟩⟩
    · show 1 + (z + 1) ≤ _; omega
    · rw [show [g, r] ++ gs = g :: r :: gs from rfl, st gs hs R Pl os od h5 h6 h3 h4, if_pos hk, decide_eq_true hk]
      have : rlW r = Int32.ofNat r := by unfold rlW; rw [if_neg (by omega)]
      simp [meR, meP, this, ST]
    · rw [hk, hnm, if_neg (by omega)]
    · rw [hk, hnm, if_pos z]
  · rw [if_neg hk]
    intro gs hs R Pl os od h1 h2 h3 h4 h5 h6
    refine ⟨Nat.le_refl _, hi, 2, by omega, ?_, ?_⟩ <;> rw [show [g, r] ++ gs = g :: r :: gs from rfl, st gs hs R Pl os od h5 h6 h3 h4]
    · rw [decide_eq_false hk]; rfl
    · rw [if_neg hk]
/-- a name or a number that is told in a thing -/
theorem MS_nmk {kd : List Nat} {H : Nat} {z a r nm : Nat} (hx : kdX kd) (h0 : 60 ≤ r) (h1 : r ≤ 72) (hu : isU r = false) (hnm : nm = if 70 ≤ r then 30 else 29) : MS kd H z (z + 1) a 0 (-39) 1 [r] (nmk (fun i => kd.getD i 0) nm r) := by
  intro i b hi hb
  unfold nmk
  dsimp only
  have hl := hx.1
  by_cases hk : kd.getD i 0 = nm
  · rw [if_pos hk]
    intro gs hs R Pl os od g1 g2 g3 g4 g5 g6
    have hi1 := (hx.2 i hi).mp (by rw [hk, hnm]; split <;> omega)
    refine ⟨Nat.le_succ _, hi1, ?_, 1, [(r, if r = 66 then Int32.ofNat b else Int32.ofNat b - 1)], by omega, ?_, rfl, ?_, ?_, fun m hm => absurd hm (Nat.not_lt_zero _), ?_⟩
    · show 0 + (z + 1) ≤ _; omega
    · rw [List.cons_append, gN_1, gD_rl (by omega) (by omega) g3 g4 hi (by omega), ← hnm, if_pos hk, decide_eq_true hk, g5]
      have : rlW r = Int32.ofNat r := by unfold rlW; rw [if_neg (by omega)]
      simp [meR, meP, this, ST]
    · rw [evO, if_neg (show ¬ r = 0 by omega), evO, List.filter_cons, if_pos (by unfold isR; dsimp only; rw [decide_eq_true (by omega), decide_eq_true (by omega)]; rfl)]
      rfl
    · intro t ht
      have : t = 0 := by rw [List.length_cons, List.length_nil] at ht; omega
      subst this
      refine ⟨fun z => absurd (show r = 0 from z) (by omega), fun _ => ⟨h0, by show r ≤ 76; omega⟩, fun _ z => ?_, fun z _ => ?_, fun z => absurd (show r = 76 from z) (by omega)⟩
      · have z : r < 70 := z
        show kd.getD (i + 0) 0 = 29
        rw [Nat.add_zero, hk, hnm, if_neg (by omega)]
      · have z : 70 ≤ r := z
        show kd.getD (i + 0) 0 = 30
        rw [Nat.add_zero, hk, hnm, if_pos z]
    · intro t ht hh
      have : t = 0 := by rw [List.length_cons, List.length_nil] at ht; omega
      subst this
      rw [show isU (([(r, if r = 66 then Int32.ofNat b else Int32.ofNat b - 1)] : ME).getD 0 (0, 0)).1 = isU r from rfl, hu] at hh
      cases hh
  · rw [if_neg hk]
    intro gs hs R Pl os od g1 g2 g3 g4 g5 g6
    refine ⟨Nat.le_refl _, hi, 1, by omega, ?_, ?_⟩ <;> rw [List.cons_append, gN_1, gD_rl (by omega) (by omega) g3 g4 hi (by omega), ← hnm]
    · rw [decide_eq_false hk]; rfl
    · rw [if_neg hk]
/-- a goal that stands for others -/
theorem MA_x {kd : List Nat} {H : Nat} {z z' a N N' g i b : Nat} {w w' K K' : Int} {gl : List Nat} {r : PR} (h0 : 80 ≤ g) (h1 : g < 100) (hr : rlN g (kd.getD i 0) = gl) (h : MA kd H z z' a N' w' K' gl i b r) (hN : N' ≤ N) (hg : gl.length ≤ N) (hw : w' + 1 ≤ w) (hK : K' + 1 ≤ K) : MA kd H z z' a N w K [g] i b r := by
  intro gs hs R Pl os od g1 g2 g3 g4 g5 g6
  have x := h gs hs R Pl os od (by omega) g2 g3 g4 g5 g6
  have st : ∀ n, gN kd (1 + n) (ST kd ([g] ++ gs) hs i a R Pl os od) = gN kd n (ST kd (gl ++ gs) hs i a R Pl os od) := by
    intro n
    rw [List.cons_append, gN_s, List.nil_append, gD_x h0 h1, hr, gP_ok _ _ (by omega)]
  rcases r with ⟨j, _ | ⟨c, e⟩⟩
  · obtain ⟨x1, x2, n, x3, x4⟩ := x
    exact ⟨x1, x2, 1 + n, by omega, by rw [st]; exact x4⟩
  · obtain ⟨x1, x2, x3, n, me, x4, x5⟩ := x
    exact ⟨x1, x2, x3, 1 + n, me, by omega, by rw [st]; exact x5⟩
/-- so deep -/
theorem MS_dp {kd : List Nat} {H : Nat} {z z' a N : Nat} {w K : Int} {gl : List Nat} {P : PA} (ha : a + 1 ≤ 8) (h : MS kd H z z' a N w K gl P) : MS kd H z z' (a + 1) (N + 1) (w + 2) (K + 1) ([100] ++ gl ++ [101]) P := by
  intro i b hi hb gs hs R Pl os od g1 g2 g3 g4 g5 g6
  have x := h i b hi hb ([101] ++ gs) hs R Pl os od (by rw [List.length_append, List.length_cons, List.length_nil]; omega) (by omega) g3 g4 g5 g6
  have st : ∀ n, gN kd (1 + n) (ST kd ([100] ++ gl ++ [101] ++ gs) hs i (a + 1) R Pl os od) = gN kd n (ST kd (gl ++ ([101] ++ gs)) hs i a R Pl os od) := by
    intro n
    rw [List.append_assoc, List.append_assoc, List.cons_append, List.nil_append, gN_s]
    congr 1
    unfold ST
    unfold gD
    dsimp only
    rw [if_neg (by omega), if_pos (by omega)]
    unfold gAct
    dsimp only
    have e8 : decide ((8 : Int32) ≤ Int32.ofNat (8 - (a + 1))) = false := by
      rw [decide_eq_false_iff_not, show (8 : Int32) = Int32.ofNat 8 from rfl, i_ofle (by omega) (by omega)]
      omega
    rw [if_pos rfl, e8, show (1 : Int32) = Int32.ofNat 1 from rfl, i_addof, show 8 - (a + 1) + 1 = 8 - a by omega]
  generalize P i b = r at x ⊢
  rcases r with ⟨j, _ | ⟨c, e⟩⟩
  · obtain ⟨x1, x2, n, x3, x4⟩ := x
    exact ⟨x1, x2, 1 + n, by omega, by rw [st]; exact x4⟩
  · obtain ⟨x1, x2, x3, n, me, x4, x5, x6⟩ := x
    refine ⟨x1, x2, x3, 1 + n + 1, me, by omega, ?_, x6⟩
    rw [gN_add (1 + n) 1, st, x5, List.cons_append, List.nil_append, gN_1]
    unfold ST
    unfold gD
    dsimp only
    rw [if_neg (by omega), if_pos (by omega)]
    unfold gAct
    dsimp only
    rw [if_neg (by omega), if_pos rfl, show (1 : Int32) = Int32.ofNat 1 from rfl, i_subof (by omega), show 8 - a - 1 = 8 - (a + 1) by omega]
theorem MA_sh {kd : List Nat} {H : Nat} {z z' N i b : Nat} {w K : Int} {gl : List Nat} (hi : i < kd.length) (hK : 1 ≤ K) : MA kd H z z' 0 N w K (100 :: gl) i b (i, none) := by
  intro gs hs R Pl os od h1 h2 h3 h4 h5 h6
  refine ⟨Nat.le_refl _, hi, 1, by omega, ?_, ?_⟩ <;> rw [List.cons_append, gN_1] <;> rfl
/-- a block: deeper, where more may wait -/
theorem MS_dp2 {kd : List Nat} {H : Nat} {z z' a N : Nat} {w K : Int} {gl : List Nat} {P : PA} (ha : a + 1 ≤ 8) (h : MS kd H z z' a N w K gl P) : MS kd (H + 1) z z' (a + 1) (N + 1) (w + 2) (K + 1) ([100] ++ gl ++ [101]) P := by
  intro i b hi hb gs hs R Pl os od g1 g2 g3 g4 g5 g6
  have x := h i b hi hb ([101] ++ gs) hs R Pl os od (by rw [List.length_append, List.length_cons, List.length_nil]; omega) (by omega) g3 g4 g5 g6
  have st : ∀ n, gN kd (1 + n) (ST kd ([100] ++ gl ++ [101] ++ gs) hs i (a + 1) R Pl os od) = gN kd n (ST kd (gl ++ ([101] ++ gs)) hs i a R Pl os od) := by
    intro n
    rw [List.append_assoc, List.append_assoc, List.cons_append, List.nil_append, gN_s]
    congr 1
    unfold ST
    unfold gD
    dsimp only
    rw [if_neg (by omega), if_pos (by omega)]
    unfold gAct
    dsimp only
    have e8 : decide ((8 : Int32) ≤ Int32.ofNat (8 - (a + 1))) = false := by
      rw [decide_eq_false_iff_not, show (8 : Int32) = Int32.ofNat 8 from rfl, i_ofle (by omega) (by omega)]
      omega
    rw [if_pos rfl, e8, show (1 : Int32) = Int32.ofNat 1 from rfl, i_addof, show 8 - (a + 1) + 1 = 8 - a by omega]
  generalize P i b = r at x ⊢
  rcases r with ⟨j, _ | ⟨c, e⟩⟩
  · obtain ⟨x1, x2, n, x3, x4⟩ := x
    exact ⟨x1, x2, 1 + n, by omega, by rw [st]; exact x4⟩
  · obtain ⟨x1, x2, x3, n, me, x4, x5, x6⟩ := x
    refine ⟨x1, x2, x3, 1 + n + 1, me, by omega, ?_, x6⟩
    rw [gN_add (1 + n) 1, st, x5, List.cons_append, List.nil_append, gN_1]
    unfold ST
    unfold gD
    dsimp only
    rw [if_neg (by omega), if_pos (by omega)]
    unfold gAct
    dsimp only
    rw [if_neg (by omega), if_pos rfl, show (1 : Int32) = Int32.ofNat 1 from rfl, i_subof (by omega), show 8 - a - 1 = 8 - (a + 1) by omega]
