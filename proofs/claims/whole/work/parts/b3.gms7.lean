/-! THE GRAMMAR'S MACHINE AND THE PARSER: SENTENCES, BLOCKS -/
def pRep2 (blk : PA) : PA := fun i b =>
  match blk i (b + 1) with
  | (i2, none) => (i2, none)
  | (i2, some (c2, e2)) => (i2, some ([(7, Int32.ofNat (b + 1 + c2.length + 1), 0)] ++ c2 ++ [(8, Int32.ofNat b, 0)], e2))
theorem pRep_2 {k : Nat → Nat} {blk : PA} {i b : Nat} : sq (sq (em 1) (sq (tk k 16) (ho k 6 30 74))) (pRep2 blk) i b = pRep k blk i b := by
  unfold pRep
  rcases h1 : sq (em 1) (sq (tk k 16) (ho k 6 30 74)) i b with ⟨i1, _ | ⟨c1, e1⟩⟩
  · rw [sq_n h1]
  · rcases h2 : blk i1 (b + c1.length + 1) with ⟨i2, _ | ⟨c2, e2⟩⟩
    · have : pRep2 blk i1 (b + c1.length) = (i2, none) := by unfold pRep2; rw [h2]
      rw [sq_sn h1 this]
      dsimp only
      rw [h2]
    · have : pRep2 blk i1 (b + c1.length) = (i2, some ([(7, Int32.ofNat (b + c1.length + 1 + c2.length + 1), 0)] ++ c2 ++ [(8, Int32.ofNat (b + c1.length), 0)], e2)) := by unfold pRep2; rw [h2]
      rw [sq_ss h1 this]
      dsimp only
      rw [h2]
      simp only [List.append_assoc]
theorem MS_rep2 {kd : List Nat} {z a N : Nat} {blk : PA} (hx : kdX kd) (h : ∀ z, MS kd 9 (z + 1) (z + 3) a N (-70) 4 [86] blk) : MS kd 8 (z + 2) (z + 2) a (N + 4) (-66) 6 [117, 102, 86, 104] (pRep2 blk) := by
  intro i b hi hb gs hs R Pl os od h1 h2 h3 h4 h5 h6
  have l4 := hx.1
  have st1 : ∀ n, gN kd (1 + (1 + n)) (ST kd ([117, 102, 86, 104] ++ gs) hs i a R Pl os od) = gN kd n (ST kd ([86] ++ (104 :: gs)) (Int32.ofNat b :: hs) i a R Pl (os ++ [7]) (od ++ [0])) := by
    intro n
    rw [show [117, 102, 86, 104] ++ gs = 117 :: 102 :: 86 :: 104 :: gs from rfl, gN_s, gD_em (by omega) (by omega) (by omega), gN_s, gD_102 (b := b) (by omega) (by rw [List.length_append, List.length_cons, List.length_nil]; omega) (by omega)]
    rfl
  have y := h z i (b + 1) hi (by omega) (104 :: gs) (Int32.ofNat b :: hs) R Pl (os ++ [7]) (od ++ [0]) (by rw [List.length_cons]; omega) (by rw [List.length_cons]; omega) h3 h4 (by rw [List.length_append, List.length_cons, List.length_nil]; omega) (by rw [List.length_append, List.length_cons, List.length_nil]; omega)
  unfold pRep2
  rcases e2 : blk i (b + 1) with ⟨i2, _ | ⟨c2, ev2⟩⟩
  · rw [e2] at y
    obtain ⟨y1, y2, n, y3, y4⟩ := y
    exact ⟨y1, y2, 1 + (1 + n), by omega, by rw [st1]; exact y4⟩
  · rw [e2] at y
    obtain ⟨y1, y2, y3, n, me2, y4, y5, y6⟩ := y
    dsimp only
    have oL : (os ++ [7] ++ List.map (fun x : CI => x.1) c2).length = b + 1 + c2.length := by simp only [List.length_append, List.length_cons, List.length_nil, List.length_map]; omega
    have dL : (od ++ [0] ++ List.map (fun x : CI => x.2.1) c2).length = b + 1 + c2.length := by simp only [List.length_append, List.length_cons, List.length_nil, List.length_map]; omega
    have dS := set_mid (l := od) (t := List.map (fun x : CI => x.2.1) c2 ++ [Int32.ofNat b]) (y := 0) (v := Int32.ofNat (b + 1 + c2.length + 1)) h6 (by omega)
    have dS3 : ls (od ++ [0] ++ List.map (fun x : CI => x.2.1) c2 ++ [Int32.ofNat b]) (Int32.ofNat b) (Int32.ofNat (b + 1 + c2.length + 1)) = od ++ [Int32.ofNat (b + 1 + c2.length + 1)] ++ List.map (fun x : CI => x.2.1) c2 ++ [Int32.ofNat b] := by simpa only [List.append_assoc, List.cons_append, List.nil_append] using dS
    refine ⟨y1, y2, ?_, 1 + (1 + (n + 1)), me2, by omega, ?_, ?_⟩
    · simp only [List.length_append, List.length_cons, List.length_nil]; omega
    · rw [st1, gN_add, y5, gN_1, gD_104 (by omega) (by omega), oL, dS3]
      simp
    · have K := MEK_sq (MEK_sq (MEK_em (i := i) (b := b) (op := 7) (x := Int32.ofNat (b + 1 + c2.length + 1))) (show MEK _ _ _ (b + 1) c2 ev2 me2 from y6)) (MEK_em (i := i2) (op := 8) (x := Int32.ofNat b))
      simpa only [List.append_nil, List.nil_append] using K
theorem MS_leaf {kd : List Nat} {z a c g r nm : Nat} {op : Int32} (hx : kdX kd) (hc : c < 48 ∧ ¬ c = 30 ∧ ¬ c = 8 ∧ ¬ c = 9) (hg : 110 ≤ g) (hop : op = Int32.ofNat (g - 110)) (hu : isU r = true) (hnm : nm = if 70 ≤ r then 30 else 29) : MS kd 8 (z + 2) (z + 3) a 4 (-110) 3 ([111] ++ ([c] ++ ([g, r] ++ [37]))) (pLeaf (kF kd) c op nm r) := by
  have t1 := MS_sq (N := 1) (w := -77) (K := 2) (MS_ho (H := 8) (z := z + 1) (a := a) hx hg hop hu hnm) (MS_tk (z := z + 2) hx (show 37 < 48 by decide) (by decide)) (by decide) (by decide) (by decide) (by decide) (by decide)
  have t2 := MS_sq (N := 3) (w := -116) (K := 1) (MS_tk (H := 8) (z := z + 1) hx hc.1 hc.2) t1 (show 0 + 3 ≤ 3 by decide) (by decide) (by decide) (by decide) (by decide)
  exact MS_sq (MS_em (z := z + 1) (g := 111) (op := 1) hx (by decide) (by decide)) t2 (by show 0 + 4 ≤ 4; decide) (by decide) (by decide) (by decide) (by decide)
theorem MS_if {kd : List Nat} {z a N Nt : Nat} {tst blk : PA} (hx : kdX kd) (hN : 5 ≤ N) (ht : ∀ z, MS kd 8 (z + 1) (z + 1) a Nt (-17) 9 [89] tst) (h : ∀ z, MS kd 9 (z + 1) (z + 3) a N (-70) 4 [86] blk) : MS kd 8 (z + 2) (z + 2) a (max N Nt + 7) (-110) 3 ([111] ++ ([14] ++ [89]) ++ [119, 102, 86, 88, 103]) (pIf (kF kd) tst blk) := by
  have t1 := MS_sq (N := Nt + 1) (w := -56) (K := 1) (MS_tk (H := 8) (z := z + 1) hx (show 14 < 48 by decide) (by decide)) (ht (z + 1)) (by show 0 + 1 ≤ _; omega) (by omega) (by decide) (by decide) (by decide)
  have t2 := MS_sq (N := Nt + 2) (w := -55) (K := 2) (MS_em (z := z + 1) (g := 111) (op := 1) hx (by decide) (by decide)) t1 (by show 0 + 2 ≤ _; omega) (by omega) (by decide) (by decide) (by decide)
  have t3 := MS_sq (N := max N Nt + 7) (w := -110) (K := 3) t2 (MS_if2 (z := z) hx hN h) (by show Nt + 2 + 5 ≤ _; omega) (by omega) (by decide) (by decide) (by decide)
  exact MS_c (fun i b => pIf_2) (MS_dn 1 t3)
theorem MS_rep {kd : List Nat} {z a N : Nat} {blk : PA} (hx : kdX kd) (h : ∀ z, MS kd 9 (z + 1) (z + 3) a N (-70) 4 [86] blk) : MS kd 8 (z + 2) (z + 2) a (N + 7) (-110) 3 ([111] ++ ([16] ++ [116, 74]) ++ [117, 102, 86, 104]) (pRep (kF kd) blk) := by
  have t1 := MS_sq (N := 2) (w := -77) (K := 1) (MS_tk (H := 8) (z := z + 1) (a := a) hx (show 16 < 48 by decide) (by decide)) (MS_ho (z := z + 1) (g := 116) (op := 6) (r := 74) (nm := 30) hx (by decide) (by decide) (by decide) (by decide)) (by decide) (by decide) (by decide) (by decide) (by decide)
  have t2 := MS_sq (N := 3) (w := -76) (K := 2) (MS_em (z := z + 1) (g := 111) (op := 1) hx (by decide) (by decide)) t1 (by decide) (by decide) (by decide) (by decide) (by decide)
  have t3 := MS_sq (N := N + 7) (w := -110) (K := 3) t2 (MS_rep2 (z := z) hx h) (by show 3 + 4 ≤ _; omega) (by omega) (by decide) (by decide) (by decide)
  exact MS_c (fun i b => pRep_2) t3
theorem MS_sns {kd : List Nat} {a N Nt : Nat} {tst blk : PA} (hx : kdX kd) (hN : 5 ≤ N) (ht : ∀ z, MS kd 8 (z + 1) (z + 1) a Nt (-17) 9 [89] tst) (h : ∀ z, MS kd 9 (z + 1) (z + 3) a N (-70) 4 [86] blk) (mt : mo tst) (mb : mo blk) (z : Nat) :
    ∀ n i b, 402 ≤ i + n → i < kd.length → b + (z + 2) ≤ i → MA kd 8 (z + 2) (z + 2) a (max N Nt + 8) 1 4 [87] i b (pSns (kF kd) tst blk n i b) := by
  intro n
  induction n with
  | zero => intro i b h1 h2 h3; have := hx.1; omega
  | succ n ih =>
    intro i b h1 h2 h3
    rw [pSns]
    dsimp only
    by_cases hs : isSe (kF kd i) = true
    · rw [if_pos hs]
      have br : ∀ (gl : List Nat), rlN 87 (kd.getD i 0) = gl ++ [87] → gl.length ≤ 8 → MA kd 8 (z + 2) (z + 2) a (max N Nt + 7) (-110) 3 gl i b (pSen (kF kd) tst blk i b) → MA kd 8 (z + 2) (z + 2) a (max N Nt + 8) 1 4 [87] i b (sq (pSen (kF kd) tst blk) (pSns (kF kd) tst blk n) i b) := by
        intro gl hg hgl hm
        refine MA_x (N' := max N Nt + 8) (w' := 0) (K' := 3) (by decide) (by decide) hg ?_ (Nat.le_refl _) (by rw [List.length_append]; show gl.length + 1 ≤ _; omega) (by decide) (by decide)
        refine MA_sq2 (z1 := z + 2) (N1 := max N Nt + 7) (N2 := max N Nt + 8) (w1 := -110) (w2 := 1) (K1 := 3) (K2 := 4) h3 hm (fun j c e hj hjl hb => ?_) (Nat.le_refl _) (Nat.le_refl _) (by decide) (by decide) (by decide)
        have := sen_lt mt mb hj
        exact ih j _ (by omega) hjl hb
      have row : ∀ κ gl, kd.getD i 0 = κ → rlN 87 κ = gl → rlN 87 (kd.getD i 0) = gl := fun κ gl h1 h2 => by rw [h1, h2]
      have dn : ∀ {gl : List Nat} {N' : Nat} {P : PA}, MS kd 8 (z + 2) (z + 3) a 4 (-110) 3 gl P → MA kd 8 (z + 2) (z + 2) a (max N Nt + 7) (-110) 3 gl i b (P i b) := fun hh => MA_mono (MS_dn 1 hh i b h2 h3) (by omega) (Int.le_refl _) (Int.le_refl _)
      rcases isSe_c hs with g | g | g | g | g | g
      · refine br _ (row 11 _ g (show _ = ([111] ++ ([11] ++ ([112, 67] ++ [37]))) ++ [87] by decide)) (by decide) ?_
        unfold pSen
        rw [if_pos g]
        exact dn (N' := 0) (MS_leaf hx (by decide) (by decide) (by decide) (by decide) (by decide))
      · refine br _ (row 12 _ g (show _ = ([111] ++ ([12] ++ ([113, 68] ++ [37]))) ++ [87] by decide)) (by decide) ?_
        unfold pSen
        rw [if_neg (by omega), if_pos g]
        exact dn (N' := 0) (MS_leaf hx (by decide) (by decide) (by decide) (by decide) (by decide))
      · refine br _ (row 13 _ g (show _ = ([111] ++ ([13] ++ ([114, 73] ++ [37]))) ++ [87] by decide)) (by decide) ?_
        unfold pSen
        rw [if_neg (by omega), if_neg (by omega), if_pos g]
        exact dn (N' := 0) (MS_leaf hx (by decide) (by decide) (by decide) (by decide) (by decide))
      · refine br _ (row 17 _ g (show _ = ([111] ++ ([17] ++ ([115, 69] ++ [37]))) ++ [87] by decide)) (by decide) ?_
        unfold pSen
        rw [if_neg (by omega), if_neg (by omega), if_neg (by omega), if_pos g]
        exact dn (N' := 0) (MS_leaf hx (by decide) (by decide) (by decide) (by decide) (by decide))
      · refine br _ (row 14 _ g (show _ = ([111] ++ ([14] ++ [89]) ++ [119, 102, 86, 88, 103]) ++ [87] by decide)) (by decide) ?_
        unfold pSen
        rw [if_neg (by omega), if_neg (by omega), if_neg (by omega), if_neg (by omega), if_pos g]
        exact MS_if hx hN ht h i b h2 h3
      · refine br _ (row 16 _ g (show _ = ([111] ++ ([16] ++ [116, 74]) ++ [117, 102, 86, 104]) ++ [87] by decide)) (by decide) ?_
        unfold pSen
        rw [if_neg (by omega), if_neg (by omega), if_neg (by omega), if_neg (by omega), if_neg (by omega), if_pos g]
        exact MA_mono (MS_rep hx h i b h2 h3) (by omega) (Int.le_refl _) (Int.le_refl _)
    · rw [if_neg hs]
      refine MA_x (gl := []) (N' := 0) (w' := 0) (K' := 0) (by decide) (by decide) ?_ (MS_nil i b h2 h3) (Nat.zero_le _) (Nat.zero_le _) (by decide) (by decide)
      unfold isSe at hs
      simp only [Bool.or_eq_true, decide_eq_true_eq, not_or] at hs
      obtain ⟨⟨⟨⟨⟨s1, s2⟩, s3⟩, s4⟩, s5⟩, s6⟩ := hs
      unfold rlN rfN sntN
      simp only [show ¬ kd.getD i 0 = 11 from s1, show ¬ kd.getD i 0 = 12 from s2, show ¬ kd.getD i 0 = 13 from s3, show ¬ kd.getD i 0 = 17 from s4, show ¬ kd.getD i 0 = 14 from s5, show ¬ kd.getD i 0 = 16 from s6]
      rfl
theorem MS_blk {kd : List Nat} (hx : kdX kd) (hL : kdL kd) : ∀ a, a ≤ 8 → ∀ z, MS kd 9 (z + 1) (z + 3) a (30 + 10 * a) (-70) 4 [86] (pBlock (kF kd) a)
  | 0, _, z => by
    intro i b hi hb
    exact MA_x (gl := [100, 31, 87, 32, 101]) (N' := 0) (w' := -71) (K' := 1) (by decide) (by decide) (by unfold rlN rfN; rfl) (MA_sh hi (by decide)) (by decide) (by decide) (by decide) (by decide)
  | a + 1, ha, z => by
    have ih := MS_blk hx hL a (by omega)
    have ht : ∀ z, MS kd 8 (z + 1) (z + 1) a (19 + 9 * a) (-17) 9 [89] (pTst (kF kd) (pSingle (kF kd) a)) := fun z => MS_mono (MS_tst hx hL (MS_single hx hL a (by omega) z) (mo_single a) (by omega)) (by omega) (Int.le_refl _) (Int.le_refl _)
    have s : MS kd 8 (z + 2) (z + 2) a (38 + 10 * a) 1 4 [87] (lpF (pSns (kF kd) (pTst (kF kd) (pSingle (kF kd) a)) (pBlock (kF kd) a))) := fun i b hi hb => MA_mono (MS_sns hx (by omega) ht ih (mo_tst (mo_single a)) (mo_block a) z (402 - i) i b (by omega) hi hb) (by omega) (Int.le_refl _) (Int.le_refl _)
    have t1 := MS_sq (N := 39 + 10 * a) (w := -38) (K := 4) s (MS_tk (z := z + 2) hx (show 32 < 48 by decide) (by decide)) (by show 38 + 10 * a + 1 ≤ _; omega) (by omega) (by decide) (by decide) (by decide)
    have t2 := MS_sq (N := 39 + 10 * a) (w := -77) (K := 1) (MS_tk (z := z + 1) hx (show 31 < 48 by decide) (by decide)) t1 (by show 0 + 2 ≤ _; omega) (by omega) (by decide) (by decide) (by decide)
    have t3 := MS_dp2 ha t2
    intro i b hi hb
    refine MA_x (gl := [100] ++ ([31] ++ ([87] ++ [32])) ++ [101]) (N' := 40 + 10 * a) (w' := -75) (K' := 2) (by decide) (by decide) (by unfold rlN rfN; rfl) ?_ (by omega) (by show 5 ≤ _; omega) (by decide) (by decide)
    intro gs hs R Pl os od h1 h2 h3 h4 h5 h6
    have y := t3 i b hi hb gs hs R Pl os od (by omega) h2 h3 h4 h5 h6
    show match pBlkF (kF kd) (pTst (kF kd) (pSingle (kF kd) a)) (pBlock (kF kd) a) i b with
      | (j, none) => _
      | (j, some (c, e)) => _
    unfold pBlkF
    rcases hr : sq (tk (kF kd) 31) (sq (lpF (pSns (kF kd) (pTst (kF kd) (pSingle (kF kd) a)) (pBlock (kF kd) a))) (tk (kF kd) 32)) i b with ⟨j, _ | ⟨c, e⟩⟩
    · rw [hr] at y
      exact y
    · rw [hr] at y
      obtain ⟨y1, y2, y3, n, me, y4, y5, y6⟩ := y
      refine ⟨y1, y2, y3, n, me, y4, y5, MEK_ev y6 ?_⟩
      rw [List.filter_append]
      show _ ++ [] = _
      rw [List.append_nil]
