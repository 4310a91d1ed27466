/-! THE GRAMMAR'S MACHINE AND THE PARSER: TOURS, A TEXT -/
def pTour2 (k : Nat → Nat) : PA := evE (sq (tk k 10) (sq (nmk k 29 66) (sq (pBlock k 8) (em 0)))) (fun i => (4, i + 1, 0))
def pThing2 (k : Nat → Nat) : PA := fun i b => if k i = 0 then pRoom k i b else if k i = 1 then pDoor k i b else if k i = 2 then pPart k i b else if k i = 10 then pTour2 k i b else flp i b
def pTxt2 (k : Nat → Nat) : Nat → PA
  | 0 => skp
  | n + 1 => fun i b => if k i = 48 then skp i b else sq (pThing2 k) (pTxt2 k n) i b
/-- a thing: what the machine wrote -/
def THG (k : Nat → Nat) (i i1 b : Nat) (c : List CI) (e : List EVt) (me : ME) : Prop := MEK k i i1 b c e me ∧ (k i = 10 → (me.getD 1 (0, 0)).2 = Int32.ofNat b)
def MB (kd : List Nat) (w K : Int) (gl : List Nat) (i b : Nat) (r : PR) : Prop := ∀ (gs : List Nat) (R Pl os od : List Int32), gs.length + 120 ≤ 200 → R.length = i → Pl.length = i → os.length = b → od.length = b →
  match r with
  | (j, none) => i ≤ j ∧ j < kd.length ∧ ∃ n : Nat, (n : Int) ≤ 40 * ((j : Int) - i) + K ∧ (gN kd n (ST kd (gl ++ gs) [] i 8 R Pl os od)).2.2.2.2.1 = true ∧ (gN kd n (ST kd (gl ++ gs) [] i 8 R Pl os od)).2.2.1 = j
  | (j, some (c, e)) => i < j ∧ j < kd.length ∧ c.length ≤ j - i ∧ ∃ (n : Nat) (me : ME), (n : Int) ≤ 40 * ((j : Int) - i) + w ∧ gN kd n (ST kd (gl ++ gs) [] i 8 R Pl os od) = ST kd gs [] j 8 (R ++ meR me) (Pl ++ meP me) (os ++ c.map (·.1)) (od ++ c.map (·.2.1)) ∧ THG (kF kd) i j b c e me
theorem MB_of {kd : List Nat} {z' N i b : Nat} {w K : Int} {gl : List Nat} {r : PR} (h : MA kd 9 0 (z' + 1) 8 N w K gl i b r) (hN : N ≤ 120) (hk : ¬ kd.getD i 0 = 10) : MB kd w K gl i b r := by
  intro gs R Pl os od h1 h3 h4 h5 h6
  have y := h gs [] R Pl os od (by omega) (by decide) h3 h4 h5 h6
  rcases r with ⟨j, _ | ⟨c, e⟩⟩
  · exact y
  · obtain ⟨y1, y2, y3, n, me, y4, y5, y6⟩ := y
    exact ⟨by omega, y2, by omega, n, me, y4, y5, y6, fun z => absurd z hk⟩
theorem MEK_nm {k : Nat → Nat} {i b r : Nat} {pl : Int32} (h0 : 60 ≤ r) (h1 : r ≤ 72) (hu : isU r = false) (hr : kOK (k i) r) : MEK k i (i + 1) b [] [(r, i, 0)] [(r, pl)] := by
  refine ⟨rfl, ?_, fun t ht => ?_, fun m hm => absurd hm (Nat.not_lt_zero _), fun t ht hh => ?_⟩
  · rw [evO, if_neg (show ¬ r = 0 by omega), evO, List.filter_cons, if_pos (by unfold isR; dsimp only; rw [decide_eq_true (by omega), decide_eq_true (by omega)]; rfl)]
    rfl
  · have : t = 0 := by rw [List.length_cons, List.length_nil] at ht; omega
    subst this
    exact hr
  · have : t = 0 := by rw [List.length_cons, List.length_nil] at ht; omega
    subst this
    have hh : isU r = true := hh
    rw [hu] at hh
    cases hh
theorem MB_tour {kd : List Nat} {i b : Nat} (hx : kdX kd) (hL : kdL kd) (hi : i < kd.length) (hb : b ≤ i) (hk : kd.getD i 0 = 10) : MB kd 0 10 [10, 66, 86, 110] i b (pTour2 (kF kd) i b) := by
  intro gs R Pl os od h1 h3 h4 h5 h6
  have l4 := hx.1
  have hi1 := (hx.2 i hi).mp (by omega)
  have s1 : tk (kF kd) 10 i b = (i + 1, some ([], [])) := by unfold tk; rw [if_pos hk]
  have st1 : ∀ n, gN kd (1 + n) (ST kd ([10, 66, 86, 110] ++ gs) [] i 8 R Pl os od) = gN kd n (ST kd (66 :: 86 :: 110 :: gs) [] (i + 1) 8 (R ++ [0]) (Pl ++ [0]) os od) := by
    intro n
    rw [show [10, 66, 86, 110] ++ gs = 10 :: 66 :: 86 :: 110 :: gs from rfl, gN_s, gD_tk1 (by omega) hk (by omega) (by omega)]
  have R1 : (R ++ [0]).length = i + 1 := by rw [List.length_append, h3]; rfl
  have P1 : (Pl ++ [0]).length = i + 1 := by rw [List.length_append, h4]; rfl
  have b0 : b + ([] : List CI).length = b := rfl
  unfold pTour2 evE
  by_cases c : kd.getD (i + 1) 0 = 29
  · have hi2 := (hx.2 (i + 1) hi1).mp (by omega)
    have s2 : nmk (kF kd) 29 66 (i + 1) b = (i + 1 + 1, some ([], [(66, i + 1, 0)])) := by unfold nmk; rw [if_pos c]
    have st2 : ∀ n, gN kd (1 + n) (ST kd (66 :: 86 :: 110 :: gs) [] (i + 1) 8 (R ++ [0]) (Pl ++ [0]) os od) = gN kd n (ST kd ([86] ++ (110 :: gs)) [] (i + 2) 8 (R ++ [0] ++ [66]) (Pl ++ [0] ++ [Int32.ofNat b]) os od) := by
      intro n
      rw [gN_s, gD_rl (by omega) (by omega) R1 P1 hi1 (by omega), if_neg (show ¬ 70 ≤ 66 by omega), if_pos c, decide_eq_true c, if_pos rfl, h5]
      rfl
    have y := MS_blk hx hL 8 (by decide) 0 (i + 2) b hi2 (by omega) (110 :: gs) [] (R ++ [0] ++ [66]) (Pl ++ [0] ++ [Int32.ofNat b]) os od (by rw [List.length_cons]; omega) (by decide) (by rw [List.length_append, R1]; rfl) (by rw [List.length_append, P1]; rfl) h5 h6
    have kt : MEK (kF kd) i (i + 2) b ([] ++ []) ([] ++ [(66, i + 1, 0)]) ([(0, 0)] ++ [(66, Int32.ofNat b)]) := by
      refine MEK_sq (MEK_tk ?_) (MEK_nm (by decide) (by decide) (by decide) ?_)
      · rw [show kF kd i = 10 from hk]
        exact ⟨fun _ => by decide, fun z => absurd rfl z, fun z => absurd rfl z, fun z => absurd z (by decide), fun z => absurd z (by decide)⟩
      · rw [show kF kd (i + 1) = 29 from c]
        exact ⟨fun z => absurd z (by decide), fun _ => by decide, fun _ _ => rfl, fun z => absurd z (by decide), fun z => absurd z (by decide)⟩
    rcases hB : pBlock (kF kd) 8 (i + 2) b with ⟨j, _ | ⟨c2, e2⟩⟩
    · rw [hB] at y
      obtain ⟨y1, y2, n, y3, y4⟩ := y
      rw [sq_sn s1 (by rw [b0]; exact sq_sn s2 (by rw [b0]; exact sq_n hB))]
      refine ⟨by omega, y2, 1 + (1 + n), by omega, ?_⟩
      rw [st1, st2]
      exact y4
    · rw [hB] at y
      obtain ⟨y1, y2, y3, n, me, y4, y5, y6⟩ := y
      have e3 : em 0 j (b + c2.length) = (j, some ([(0, 0, 0)], [])) := rfl
      rw [sq_ss s1 (by rw [b0]; exact sq_ss s2 (by rw [b0]; exact sq_ss hB e3))]
      refine ⟨by omega, y2, ?_, 1 + (1 + (n + 1)), [(0, 0)] ++ [(66, Int32.ofNat b)] ++ (me ++ []), by omega, ?_, ?_, fun _ => rfl⟩
      · simp only [List.length_append, List.length_cons, List.length_nil]; omega
      · rw [st1, st2, gN_add, y5, gN_1, gD_em (by omega) (by rw [List.length_append, List.length_map]; omega) (by rw [List.length_append, List.length_map]; omega)]
        have : rlW 66 = 66 := rfl
        simp [meR, meP, this]
        rfl
      · have K := MEK_sq kt (MEK_sq (show MEK (kF kd) (i + 2) j (b + ([] ++ [] : List CI).length) c2 e2 me from y6) (MEK_em (i := j) (op := 0) (x := 0)))
        refine MEK_ev K ?_
        rw [fil_in (by omega)]
        simp only [List.nil_append, List.append_nil]
  · have s2 : nmk (kF kd) 29 66 (i + 1) b = (i + 1, none) := by unfold nmk; rw [if_neg c]
    rw [sq_sn s1 (by rw [b0]; exact sq_n s2)]
    have st2 : gN kd 1 (ST kd (66 :: 86 :: 110 :: gs) [] (i + 1) 8 (R ++ [0]) (Pl ++ [0]) os od) = (86 :: 110 :: gs, [], i + 1, Int32.ofNat (8 - 8), true, rp kd.length (R ++ [0] ++ [66]), rp kd.length (Pl ++ [0] ++ [Int32.ofNat b]), os, od) := by
      rw [gN_1, gD_rl (by omega) (by omega) R1 P1 hi1 (by omega), if_neg (show ¬ 70 ≤ 66 by omega), if_neg c, decide_eq_false c, if_pos rfl, h5]
      rfl
    refine ⟨by omega, hi1, 1 + 1, by omega, ?_, ?_⟩ <;> rw [st1, st2]
def MBo (kd : List Nat) (w K : Int) (i : Nat) (b : Nat) (R Pl os od : List Int32) : PR → Prop
  | (j, none) => i ≤ j ∧ j < kd.length ∧ ∃ n : Nat, (n : Int) ≤ 40 * ((j : Int) - i) + K + 1 ∧ (gN kd n (ST kd [80] [] i 8 R Pl os od)).2.2.2.2.1 = true ∧ (gN kd n (ST kd [80] [] i 8 R Pl os od)).2.2.1 = j
  | (j, some (c, e)) => i < j ∧ j < kd.length ∧ c.length ≤ j - i ∧ ∃ (n : Nat) (me : ME), (n : Int) ≤ 40 * ((j : Int) - i) + w + 1 ∧ gN kd n (ST kd [80] [] i 8 R Pl os od) = ST kd [80] [] j 8 (R ++ meR me) (Pl ++ meP me) (os ++ c.map (·.1)) (od ++ c.map (·.2.1)) ∧ THG (kF kd) i j b c e me
theorem MB_sub {kd : List Nat} {i b : Nat} {w K : Int} {gl : List Nat} {r : PR} (hg : rlN 80 (kd.getD i 0) = gl ++ [80]) (hl : gl.length ≤ 100) (h : MB kd w K gl i b r) : ∀ (R Pl os od : List Int32), R.length = i → Pl.length = i → os.length = b → od.length = b → MBo kd w K i b R Pl os od r := by
  intro R Pl os od h3 h4 h5 h6
  have y := h [80] R Pl os od (by decide) h3 h4 h5 h6
  have st : ∀ n, gN kd (1 + n) (ST kd [80] [] i 8 R Pl os od) = gN kd n (ST kd (gl ++ [80]) [] i 8 R Pl os od) := by
    intro n
    rw [gN_s, gD_x (by omega) (by omega), hg, gP_ok _ _ (by rw [List.length_append]; show 0 + (gl.length + 1) ≤ 200; omega), List.append_nil]
  rcases r with ⟨j, _ | ⟨c, e⟩⟩
  · obtain ⟨y1, y2, n, y3, y4⟩ := y
    exact ⟨y1, y2, 1 + n, by omega, by rw [st]; exact y4⟩
  · obtain ⟨y1, y2, y3, n, me, y4, y5⟩ := y
    exact ⟨y1, y2, y3, 1 + n, me, by omega, by rw [st]; exact y5⟩
/-- things one after another -/
def TCH (k : Nat → Nat) : Nat → Nat → Nat → Nat → List CI → List EVt → ME → Prop
  | 0, _, _, _, _, _, _ => False
  | n + 1, i, b, j, c, e, me => (k i = 48 ∧ i = j ∧ c = [] ∧ e = [] ∧ me = []) ∨ (¬ k i = 48 ∧ ∃ i1 c1 e1 m1 c2 e2 m2, pThing2 k i b = (i1, some (c1, e1)) ∧ i < i1 ∧ THG k i i1 b c1 e1 m1 ∧ TCH k n i1 (b + c1.length) j c2 e2 m2 ∧ c = c1 ++ c2 ∧ e = e1 ++ e2 ∧ me = m1 ++ m2)
theorem MT {kd : List Nat} (hx : kdX kd) (hL : kdL kd) : ∀ (n i b : Nat) (R Pl os od : List Int32), 402 ≤ i + n → i < kd.length → b ≤ i → R.length = i → Pl.length = i → os.length = b → od.length = b →
  match pTxt2 (kF kd) n i b with
  | (j, none) => i ≤ j ∧ j < kd.length ∧ ∃ m : Nat, (m : Int) ≤ 41 * ((j : Int) - i) + 20 ∧ (gN kd m (ST kd [80] [] i 8 R Pl os od)).2.2.2.2.1 = true ∧ (gN kd m (ST kd [80] [] i 8 R Pl os od)).2.2.1 = j
  | (j, some (c, e)) => i ≤ j ∧ j < kd.length ∧ b + c.length ≤ j ∧ ∃ (m : Nat) (me : ME), (m : Int) ≤ 41 * ((j : Int) - i) + 20 ∧ gN kd m (ST kd [80] [] i 8 R Pl os od) = ST kd [] [] (j + 1) 8 (R ++ meR me ++ [0]) (Pl ++ meP me ++ [0]) (os ++ c.map (·.1)) (od ++ c.map (·.2.1)) ∧ TCH (kF kd) n i b j c e me := by
  intro n
  induction n with
  | zero => intro i b R Pl os od h1 h2; have := hx.1; omega
  | succ n ih =>
    intro i b R Pl os od h1 h2 hb h3 h4 h5 h6
    rw [pTxt2]
    dsimp only
    by_cases k48 : kF kd i = 48
    · rw [if_pos k48]
      refine ⟨Nat.le_refl _, h2, by show b + 0 ≤ i; omega, 1 + 1, [], by omega, ?_, Or.inl ⟨k48, rfl, rfl, rfl, rfl⟩⟩
      rw [gN_s, gD_x (by omega) (by omega), show kd.getD i 0 = 48 from k48, show rlN 80 48 = [48] by decide, show gP [] [48] = [48] from rfl, gN_1, gD_tk1 (by omega) k48 (by omega) (by omega)]
      simp [meR, meP]
    · rw [if_neg k48]
      have fin : ∀ (gl : List Nat) (w K : Int), rlN 80 (kd.getD i 0) = gl ++ [80] → gl.length ≤ 100 → w ≤ 0 → K ≤ 15 → MB kd w K gl i b (pThing2 (kF kd) i b) → (match sq (pThing2 (kF kd)) (pTxt2 (kF kd) n) i b with | (j, none) => i ≤ j ∧ j < kd.length ∧ ∃ m : Nat, (m : Int) ≤ 41 * ((j : Int) - i) + 20 ∧ (gN kd m (ST kd [80] [] i 8 R Pl os od)).2.2.2.2.1 = true ∧ (gN kd m (ST kd [80] [] i 8 R Pl os od)).2.2.1 = j | (j, some (c, e)) => i ≤ j ∧ j < kd.length ∧ b + c.length ≤ j ∧ ∃ (m : Nat) (me : ME), (m : Int) ≤ 41 * ((j : Int) - i) + 20 ∧ gN kd m (ST kd [80] [] i 8 R Pl os od) = ST kd [] [] (j + 1) 8 (R ++ meR me ++ [0]) (Pl ++ meP me ++ [0]) (os ++ c.map (·.1)) (od ++ c.map (·.2.1)) ∧ TCH (kF kd) (n + 1) i b j c e me) := by
        intro gl w K hg hl hw hK hm
        have y := MB_sub hg hl hm R Pl os od h3 h4 h5 h6
        rcases hT : pThing2 (kF kd) i b with ⟨i1, _ | ⟨c1, e1⟩⟩
        · rw [hT] at y
          obtain ⟨y1, y2, m, y3, y4⟩ := y
          rw [sq_n hT]
          exact ⟨y1, y2, m, by omega, y4⟩
        · rw [hT] at y
          obtain ⟨y1, y2, y3, m, m1, y4, y5, y6⟩ := y
          have ml := y6.1.1
          have x := ih i1 (b + c1.length) (R ++ meR m1) (Pl ++ meP m1) (os ++ c1.map (·.1)) (od ++ c1.map (·.2.1)) (by omega) y2 (by omega) (by rw [List.length_append, meR, List.length_map]; omega) (by rw [List.length_append, meP, List.length_map]; omega) (by rw [List.length_append, List.length_map]; omega) (by rw [List.length_append, List.length_map]; omega)
          rcases hX : pTxt2 (kF kd) n i1 (b + c1.length) with ⟨j, _ | ⟨c2, e2⟩⟩
          · rw [hX] at x
            obtain ⟨x1, x2, m', x3, x4⟩ := x
            rw [sq_sn hT hX]
            refine ⟨by omega, x2, m + m', by omega, ?_⟩
            rw [gN_add, y5]
            exact x4
          · rw [hX] at x
            obtain ⟨x1, x2, x3, m', m2, x4, x5, x6⟩ := x
            rw [sq_ss hT hX]
            refine ⟨by omega, x2, by rw [List.length_append]; omega, m + m', m1 ++ m2, by omega, ?_, Or.inr ⟨k48, i1, c1, e1, m1, c2, e2, m2, hT, y1, y6, x6, rfl, rfl, rfl⟩⟩
            rw [gN_add, y5, x5]
            simp [meR, meP]
      have hb0 : b + 0 ≤ i := hb
      have row : ∀ κ gl, kd.getD i 0 = κ → rlN 80 κ = gl → rlN 80 (kd.getD i 0) = gl := fun κ gl h1 h2 => by rw [h1, h2]
      by_cases k0 : kF kd i = 0
      · refine fin _ (-117) 1 (row 0 _ k0 (show _ = [0, 60, 37] ++ [80] by decide)) (by decide) (by decide) (by decide) ?_
        unfold pThing2
        rw [if_pos k0]
        exact MB_of (MS_room (H := 9) (z := 0) (a := 8) hx i b h2 hb0) (by decide) (by rw [show kd.getD i 0 = 0 from k0]; decide)
      by_cases k1 : kF kd i = 1
      · refine fin _ (-195) 1 (row 1 _ k1 (show _ = [1, 61, 62, 70, 37] ++ [80] by decide)) (by decide) (by decide) (by decide) ?_
        unfold pThing2
        rw [if_neg k0, if_pos k1]
        exact MB_of (MS_door (H := 9) (z := 0) (a := 8) hx i b h2 hb0) (by decide) (by rw [show kd.getD i 0 = 1 from k1]; decide)
      by_cases k2 : kF kd i = 2
      · refine fin _ (-231) 1 (row 2 _ k2 (show _ = [2, 63, 3, 64, 71, 81, 83, 85, 37] ++ [80] by decide)) (by decide) (by decide) (by decide) ?_
        unfold pThing2
        rw [if_neg k0, if_neg k1, if_pos k2]
        exact MB_of (MS_part (H := 9) (z := 0) (a := 8) hx i b h2 hb0) (by decide) (by rw [show kd.getD i 0 = 2 from k2]; decide)
      by_cases k10 : kF kd i = 10
      · refine fin _ _ _ (row 10 _ k10 (show _ = [10, 66, 86, 110] ++ [80] by decide)) (by decide) (Int.le_refl 0) (show (10 : Int) ≤ 15 by decide) ?_
        unfold pThing2
        rw [if_neg k0, if_neg k1, if_neg k2, if_pos k10]
        exact MB_tour hx hL h2 hb k10
      have e : pThing2 (kF kd) i b = (i, none) := by
        unfold pThing2
        rw [if_neg k0, if_neg k1, if_neg k2, if_neg k10]
        rfl
      rw [sq_n e]
      have r : rlN 80 (kd.getD i 0) = [48] := by
        unfold rlN rfN thgN
        simp only [show ¬ kd.getD i 0 = 0 from k0, show ¬ kd.getD i 0 = 1 from k1, show ¬ kd.getD i 0 = 2 from k2, show ¬ kd.getD i 0 = 10 from k10]
        rfl
      have s2 : gN kd (1 + 1) (ST kd [80] [] i 8 R Pl os od) = ([], [], i, Int32.ofNat (8 - 8), true, rp kd.length R, rp kd.length Pl, os, od) := by rw [gN_s, gD_x (by omega) (by omega), r, show gP [] [48] = [48] from rfl, gN_1, gD_tk (by omega), if_neg (show ¬ kd.getD i 0 = 48 from k48), decide_eq_false (show ¬ kd.getD i 0 = 48 from k48)]; rfl
      refine ⟨Nat.le_refl _, h2, 1 + 1, by omega, ?_, ?_⟩ <;> rw [s2]
