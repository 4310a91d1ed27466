/-! THE GRAMMAR'S MACHINE AND THE PARSER: SENTENCES WITH BLOCKS -/
theorem gD_102 {kd : List Nat} {i a b : Nat} {gs : List Nat} {hs R Pl os od : List Int32} (h : hs.length < 10) (hb : os.length = b + 1) (hb2 : b ≤ 1000) : gD kd 102 (ST kd gs hs i a R Pl os od) = ST kd gs (Int32.ofNat b :: hs) i a R Pl os od := by
  unfold ST
  unfold gD
  dsimp only
  rw [if_neg (by omega), if_pos (by omega)]
  unfold gAct
  dsimp only
  rw [if_neg (by omega), if_neg (by omega), if_pos rfl, if_pos h, hb, show (1 : Int32) = Int32.ofNat 1 from rfl, i_subof (by omega)]
  rfl
theorem gD_103 {kd : List Nat} {i a : Nat} {gs : List Nat} {x : Int32} {hs R Pl os od : List Int32} : gD kd 103 (ST kd gs (x :: hs) i a R Pl os od) = ST kd gs hs i a R Pl os (ls od x (Int32.ofNat os.length)) := by
  unfold ST
  unfold gD
  dsimp only
  rw [if_neg (by omega), if_pos (by omega)]
  unfold gAct
  dsimp only
  rw [if_neg (by omega), if_neg (by omega), if_neg (by omega), if_pos rfl]
  rfl
theorem gD_104 {kd : List Nat} {i a : Nat} {gs : List Nat} {x : Int32} {hs R Pl os od : List Int32} (h1 : os.length < 400) (h2 : od.length < 400) : gD kd 104 (ST kd gs (x :: hs) i a R Pl os od) = ST kd gs hs i a R Pl (os ++ [8]) (ls (od ++ [x]) x (Int32.ofNat (os.length + 1))) := by
  unfold ST
  unfold gD
  dsimp only
  rw [if_neg (by omega), if_pos (by omega)]
  unfold gAct
  dsimp only
  rw [if_neg (by omega), if_neg (by omega), if_neg (by omega), if_neg (by omega), la_ok h1, List.headD_cons, la_ok h2, List.length_append, List.length_cons, List.length_nil]
  rfl
theorem set_mid {l t : List Int32} {b : Nat} {y v : Int32} (hb : l.length = b) (h : b ≤ 1000000) : ls (l ++ (y :: t)) (Int32.ofNat b) v = l ++ (v :: t) := by
  rw [ls_of h, List.set_append_right _ _ (by omega), hb, Nat.sub_self]
  rfl
theorem MEK_tk {k : Nat → Nat} {i b : Nat} (h : kOK (k i) 0) : MEK k i (i + 1) b [] [] [(0, 0)] := by
  refine ⟨rfl, rfl, fun t ht => ?_, fun m hm => absurd hm (Nat.not_lt_zero _), fun t ht hu => ?_⟩
  · have : t = 0 := by rw [List.length_cons, List.length_nil] at ht; omega
    subst this
    exact h
  · have : t = 0 := by rw [List.length_cons, List.length_nil] at ht; omega
    subst this
    exact absurd hu (by decide)
def pIf2 (k : Nat → Nat) (blk : PA) : PA := fun i b =>
  match blk i (b + 1) with
  | (i2, none) => (i2, none)
  | (i2, some (c2, e2)) =>
    if k i2 = 15 then
      match blk (i2 + 1) (b + 1 + c2.length + 1) with
      | (i3, none) => (i3, none)
      | (i3, some (c3, e3)) => (i3, some ([(9, Int32.ofNat (b + 1 + c2.length + 1), 0)] ++ c2 ++ [(8, Int32.ofNat (b + 1 + c2.length + 1 + c3.length), 0)] ++ c3, e2 ++ e3))
    else (i2, some ([(9, Int32.ofNat (b + 1 + c2.length), 0)] ++ c2, e2))
theorem pIf_2 {k : Nat → Nat} {tst blk : PA} {i b : Nat} : sq (sq (em 1) (sq (tk k 14) tst)) (pIf2 k blk) i b = pIf k tst blk i b := by
  unfold pIf
  rcases h1 : sq (em 1) (sq (tk k 14) tst) i b with ⟨i1, _ | ⟨c1, e1⟩⟩
  · rw [sq_n h1]
  · rcases h2 : blk i1 (b + c1.length + 1) with ⟨i2, _ | ⟨c2, e2⟩⟩
    · have : pIf2 k blk i1 (b + c1.length) = (i2, none) := by unfold pIf2; rw [h2]
      rw [sq_sn h1 this]
      dsimp only
      rw [h2]
    · by_cases c : k i2 = 15
      · rcases h3 : blk (i2 + 1) (b + c1.length + 1 + c2.length + 1) with ⟨i3, _ | ⟨c3, e3⟩⟩
        · have : pIf2 k blk i1 (b + c1.length) = (i3, none) := by unfold pIf2; rw [h2]; dsimp only; rw [if_pos c, h3]
          rw [sq_sn h1 this]
          dsimp only
          rw [h2]
          dsimp only
          rw [if_pos c, h3]
        · have : pIf2 k blk i1 (b + c1.length) = (i3, some ([(9, Int32.ofNat (b + c1.length + 1 + c2.length + 1), 0)] ++ c2 ++ [(8, Int32.ofNat (b + c1.length + 1 + c2.length + 1 + c3.length), 0)] ++ c3, e2 ++ e3)) := by unfold pIf2; rw [h2]; dsimp only; rw [if_pos c, h3]
          rw [sq_ss h1 this]
          dsimp only
          rw [h2]
          dsimp only
          rw [if_pos c, h3]
          simp only [List.append_assoc]
      · have : pIf2 k blk i1 (b + c1.length) = (i2, some ([(9, Int32.ofNat (b + c1.length + 1 + c2.length), 0)] ++ c2, e2)) := by unfold pIf2; rw [h2]; dsimp only; rw [if_neg c]
        rw [sq_ss h1 this]
        dsimp only
        rw [h2]
        dsimp only
        rw [if_neg c]
        simp only [List.append_assoc]
theorem MS_if2 {kd : List Nat} {z a N : Nat} {blk : PA} (hx : kdX kd) (hN : 5 ≤ N) (h : ∀ z, MS kd 9 (z + 1) (z + 3) a N (-70) 4 [86] blk) : MS kd 8 (z + 2) (z + 3) a (N + 3) (-66) 6 [119, 102, 86, 88, 103] (pIf2 (kF kd) blk) := by
  intro i b hi hb gs hs R Pl os od h1 h2 h3 h4 h5 h6
  have l4 := hx.1
  have st1 : ∀ n, gN kd (1 + (1 + n)) (ST kd ([119, 102, 86, 88, 103] ++ gs) hs i a R Pl os od) = gN kd n (ST kd ([86] ++ (88 :: 103 :: gs)) (Int32.ofNat b :: hs) i a R Pl (os ++ [9]) (od ++ [0])) := by
    intro n
    rw [show [119, 102, 86, 88, 103] ++ gs = 119 :: 102 :: 86 :: 88 :: 103 :: gs from rfl, gN_s, gD_em (by omega) (by omega) (by omega), gN_s, gD_102 (b := b) (by omega) (by rw [List.length_append, List.length_cons, List.length_nil]; omega) (by omega)]
    rfl
  have y := h z i (b + 1) hi (by omega) (88 :: 103 :: gs) (Int32.ofNat b :: hs) R Pl (os ++ [9]) (od ++ [0]) (by rw [List.length_cons, List.length_cons]; omega) (by rw [List.length_cons]; omega) h3 h4 (by rw [List.length_append, List.length_cons, List.length_nil]; omega) (by rw [List.length_append, List.length_cons, List.length_nil]; omega)
  unfold pIf2
  rcases e2 : blk i (b + 1) with ⟨i2, _ | ⟨c2, ev2⟩⟩
  · rw [e2] at y
    obtain ⟨y1, y2, n, y3, y4⟩ := y
    exact ⟨y1, y2, 1 + (1 + n), by omega, by rw [st1]; exact y4⟩
  · rw [e2] at y
    obtain ⟨y1, y2, y3, n, me2, y4, y5, y6⟩ := y
    have ml2 := y6.1
    dsimp only
    have oL : (os ++ [9] ++ List.map (fun x : CI => x.1) c2).length = b + 1 + c2.length := by simp only [List.length_append, List.length_cons, List.length_nil, List.length_map]; omega
    have dL : (od ++ [0] ++ List.map (fun x : CI => x.2.1) c2).length = b + 1 + c2.length := by simp only [List.length_append, List.length_cons, List.length_nil, List.length_map]; omega
    have R2 : (R ++ meR me2).length = i2 := by rw [List.length_append, meR, List.length_map]; omega
    have P2 : (Pl ++ meP me2).length = i2 := by rw [List.length_append, meP, List.length_map]; omega
    by_cases c : kF kd i2 = 15
    · rw [if_pos c]
      have hi3 := (hx.2 i2 y2).mp (by rw [show kd.getD i2 0 = 15 from c]; decide)
      have dS : ls (od ++ [0] ++ List.map (fun x : CI => x.2.1) c2 ++ [0]) (Int32.ofNat b) (Int32.ofNat (b + 1 + c2.length + 1)) = od ++ [Int32.ofNat (b + 1 + c2.length + 1)] ++ List.map (fun x : CI => x.2.1) c2 ++ [0] := by
        have := set_mid (l := od) (t := List.map (fun x : CI => x.2.1) c2 ++ [0]) (y := 0) (v := Int32.ofNat (b + 1 + c2.length + 1)) h6 (by omega)
        simpa only [List.append_assoc, List.cons_append, List.nil_append] using this
      have st2 : ∀ m, gN kd (1 + (1 + (1 + (1 + (1 + m))))) (ST kd (88 :: 103 :: gs) (Int32.ofNat b :: hs) i2 a (R ++ meR me2) (Pl ++ meP me2) (os ++ [9] ++ List.map (fun x : CI => x.1) c2) (od ++ [0] ++ List.map (fun x : CI => x.2.1) c2)) = gN kd m (ST kd ([86] ++ (103 :: gs)) (Int32.ofNat (b + 1 + c2.length) :: hs) (i2 + 1) a (R ++ meR me2 ++ [0]) (Pl ++ meP me2 ++ [0]) (os ++ [9] ++ List.map (fun x : CI => x.1) c2 ++ [8]) (od ++ [Int32.ofNat (b + 1 + c2.length + 1)] ++ List.map (fun x : CI => x.2.1) c2 ++ [0])) := by
        intro m
        rw [gN_s, gD_x (by omega) (by omega), show kd.getD i2 0 = 15 from c, show rlN 88 15 = [15, 118, 103, 102, 86] by decide, gP_ok _ _ (by rw [List.length_cons]; show gs.length + 1 + 5 ≤ 200; omega), show [15, 118, 103, 102, 86] ++ 103 :: gs = 15 :: 118 :: 103 :: 102 :: 86 :: 103 :: gs from rfl, gN_s, gD_tk1 (by omega) c (by omega) (by omega), gN_s, gD_em (by omega) (by omega) (by omega), gN_s, gD_103, gN_s, gD_102 (b := b + 1 + c2.length) (by omega) (by rw [List.length_append, oL]; rfl) (by omega), List.length_append, oL, show [Int32.ofNat (118 - 110)].length = 1 from rfl, dS]
        rfl
      have x := h z (i2 + 1) (b + 1 + c2.length + 1) hi3 (by omega) (103 :: gs) (Int32.ofNat (b + 1 + c2.length) :: hs) (R ++ meR me2 ++ [0]) (Pl ++ meP me2 ++ [0]) (os ++ [9] ++ List.map (fun x : CI => x.1) c2 ++ [8]) (od ++ [Int32.ofNat (b + 1 + c2.length + 1)] ++ List.map (fun x : CI => x.2.1) c2 ++ [0]) (by rw [List.length_cons]; omega) (by rw [List.length_cons]; omega) (by rw [List.length_append, R2]; rfl) (by rw [List.length_append, P2]; rfl) (by rw [List.length_append, oL]; rfl) (by simp only [List.length_append, List.length_cons, List.length_nil, List.length_map]; omega)
      have K1 : MEK (fun i => kd.getD i 0) i (i2 + 1) b ([(9, Int32.ofNat (b + 1 + c2.length + 1), 0)] ++ c2 ++ []) ([] ++ ev2 ++ []) ([] ++ me2 ++ [(0, 0)]) := by
        refine MEK_sq (MEK_sq MEK_em ?_) (MEK_tk ?_)
        · exact y6
        · show kOK (kd.getD i2 0) 0
          rw [show kd.getD i2 0 = 15 from c]
          exact ⟨fun _ => by decide, fun z => absurd rfl z, fun z => absurd rfl z, fun z => absurd z (by decide), fun z => absurd z (by decide)⟩
      rcases e3 : blk (i2 + 1) (b + 1 + c2.length + 1) with ⟨i3, _ | ⟨c3, ev3⟩⟩
      · rw [e3] at x
        obtain ⟨x1, x2, n', x3, x4⟩ := x
        refine ⟨by omega, x2, 1 + (1 + (n + (1 + (1 + (1 + (1 + (1 + n'))))))), by omega, ?_⟩
        rw [st1, gN_add, y5, st2]
        exact x4
      · rw [e3] at x
        obtain ⟨x1, x2, x3, n', me3, x4, x5, x6⟩ := x
        refine ⟨by omega, x2, ?_, 1 + (1 + (n + (1 + (1 + (1 + (1 + (1 + (n' + 1)))))))), me2 ++ [(0, 0)] ++ me3, by omega, ?_, ?_⟩
        · simp only [List.length_append, List.length_cons, List.length_nil]; omega
        · rw [st1, gN_add, y5, st2, gN_add, x5, gN_1, gD_103]
          have dS2 := set_mid (l := od ++ [Int32.ofNat (b + 1 + c2.length + 1)] ++ List.map (fun x : CI => x.2.1) c2) (t := List.map (fun x : CI => x.2.1) c3) (y := 0) (v := Int32.ofNat (b + 1 + c2.length + 1 + c3.length)) (b := b + 1 + c2.length) (by simp only [List.length_append, List.length_cons, List.length_nil, List.length_map]; omega) (by omega)
          have oL3 : (os ++ [9] ++ List.map (fun x : CI => x.1) c2 ++ [8] ++ List.map (fun x : CI => x.1) c3).length = b + 1 + c2.length + 1 + c3.length := by simp only [List.length_append, List.length_cons, List.length_nil, List.length_map]; omega
          have dS3 : ls (od ++ [Int32.ofNat (b + 1 + c2.length + 1)] ++ List.map (fun x : CI => x.2.1) c2 ++ [0] ++ List.map (fun x : CI => x.2.1) c3) (Int32.ofNat (b + 1 + c2.length)) (Int32.ofNat (b + 1 + c2.length + 1 + c3.length)) = od ++ [Int32.ofNat (b + 1 + c2.length + 1)] ++ List.map (fun x : CI => x.2.1) c2 ++ [Int32.ofNat (b + 1 + c2.length + 1 + c3.length)] ++ List.map (fun x : CI => x.2.1) c3 := by simpa only [List.append_assoc, List.cons_append, List.nil_append] using dS2
          rw [oL3, dS3]
          simp [meR, meP, rlW]
        · have K2 := MEK_sq K1 (MEK_sq (MEK_em (i := i2 + 1) (op := 8) (x := Int32.ofNat (b + 1 + c2.length + 1 + c3.length))) (show MEK _ _ _ (b + 1 + c2.length + 1) c3 ev3 me3 from x6) |> fun q => show MEK _ (i2 + 1) i3 (b + ([(9, Int32.ofNat (b + 1 + c2.length + 1), 0)] ++ c2 ++ [] : List CI).length) _ _ _ by
            have e : b + ([(9, Int32.ofNat (b + 1 + c2.length + 1), 0)] ++ c2 ++ [] : List CI).length = b + 1 + c2.length := by simp only [List.length_append, List.length_cons, List.length_nil]; omega
            rw [e]; exact q)
          simpa only [List.append_assoc, List.append_nil, List.nil_append] using K2
    · rw [if_neg c]
      have st2 : gN kd 2 (ST kd (88 :: 103 :: gs) (Int32.ofNat b :: hs) i2 a (R ++ meR me2) (Pl ++ meP me2) (os ++ [9] ++ List.map (fun x : CI => x.1) c2) (od ++ [0] ++ List.map (fun x : CI => x.2.1) c2)) = ST kd gs hs i2 a (R ++ meR me2) (Pl ++ meP me2) (os ++ [9] ++ List.map (fun x : CI => x.1) c2) (od ++ [Int32.ofNat (b + 1 + c2.length)] ++ List.map (fun x : CI => x.2.1) c2) := by
        have dS := set_mid (l := od) (t := List.map (fun x : CI => x.2.1) c2) (y := 0) (v := Int32.ofNat (b + 1 + c2.length)) h6 (by omega)
        have r0 : rlN 88 (kd.getD i2 0) = [] := by unfold rlN rfN; simp only [show ¬ kd.getD i2 0 = 15 from c]; rfl
        rw [show 2 = 1 + 1 from rfl, gN_s, gD_x (by omega) (by omega), r0, show gP (103 :: gs) [] = 103 :: gs from rfl, gN_1, gD_103, oL, List.append_assoc od, List.cons_append, List.nil_append, dS, List.append_assoc od]
        rfl
      refine ⟨y1, y2, ?_, 1 + (1 + (n + 2)), me2, by omega, ?_, ?_⟩
      · simp only [List.length_append, List.length_cons, List.length_nil]; omega
      · rw [st1, gN_add, y5, st2]
        simp
      · exact MEK_sq (MEK_em (op := 9) (x := Int32.ofNat (b + 1 + c2.length))) y6
