/-! THE GRAMMAR'S MACHINE AND THE PARSER: VALUES, TESTS -/
abbrev kF (kd : List Nat) : Nat → Nat := fun i => kd.getD i 0
def kdL (kd : List Nat) : Prop := ∀ i, kd.getD i 0 < 50
theorem MA_sq2 {kd : List Nat} {H : Nat} {z z1 z2 a N N1 N2 i b : Nat} {w w1 w2 K K1 K2 : Int} {g1 g2 : List Nat} {P Q : PA} (hb : b + z ≤ i) (hp : MA kd H z z1 a N1 w1 K1 g1 i b (P i b)) (hq : ∀ j c e, P i b = (j, some (c, e)) → j < kd.length → b + c.length + z1 ≤ j → MA kd H z1 z2 a N2 w2 K2 g2 j (b + c.length) (Q j (b + c.length))) (n1 : N1 + g2.length ≤ N) (n2 : N2 ≤ N) (k1 : K1 ≤ K) (k2 : w1 + K2 ≤ K) (hw : w1 + w2 ≤ w) : MA kd H z z2 a N w K (g1 ++ g2) i b (sq P Q i b) := by
  intro gs hs R Pl os od h1 h2 h3 h4 h5 h6
  have x := hp (g2 ++ gs) hs R Pl os od (by rw [List.length_append]; omega) h2 h3 h4 h5 h6
  rcases hP : P i b with ⟨j, _ | ⟨c, e⟩⟩
  · rw [hP] at x
    obtain ⟨x1, x2, n, x3, x4⟩ := x
    rw [sq_n hP, List.append_assoc]
    exact ⟨x1, x2, n, by omega, x4⟩
  · rw [hP] at x
    obtain ⟨x1, x2, x3, n, me, x4, x5, x6⟩ := x
    have x6' := x6
    obtain ⟨ml, _⟩ := x6'
    have y := hq j c e hP x2 (by omega) gs hs (R ++ meR me) (Pl ++ meP me) (os ++ c.map (·.1)) (od ++ c.map (·.2.1)) (by omega) h2 (by rw [List.length_append, meR, List.length_map]; omega) (by rw [List.length_append, meP, List.length_map]; omega) (by rw [List.length_append, List.length_map]; omega) (by rw [List.length_append, List.length_map]; omega)
    rcases hQ : Q j (b + c.length) with ⟨l, _ | ⟨c', e'⟩⟩
    · rw [hQ] at y
      obtain ⟨y1, y2, n', y3, y4⟩ := y
      rw [sq_sn hP hQ]
      refine ⟨by omega, y2, n + n', by omega, ?_⟩
      rw [List.append_assoc, gN_add, x5]
      exact y4
    · rw [hQ] at y
      obtain ⟨y1, y2, y3, n', me', y4, y5, y6⟩ := y
      rw [sq_ss hP hQ]
      refine ⟨by omega, y2, by rw [List.length_append]; omega, n + n', me ++ me', by omega, ?_, MEK_sq x6 y6⟩
      rw [List.append_assoc, gN_add, x5, y5]
      unfold meR meP
      simp only [List.map_append, List.append_assoc]
theorem tk_j {k : Nat → Nat} {c i b j : Nat} {x : List CI × List EVt} (h : tk k c i b = (j, some x)) : j = i + 1 := by
  unfold tk at h
  split at h
  · cases h; rfl
  · cases h
theorem em_j {op : Int32} {i b j : Nat} {x : List CI × List EVt} (h : em op i b = (j, some x)) : j = i := by
  unfold em at h
  cases h; rfl
theorem MS_lpp {kd : List Nat} {H : Nat} {z a N Nx c1 c2 p1 p2 gl : Nat} {wx K Kx : Int} {x : PA} {gx : List Nat} {o1 o2 : Int32} (hx : kdX kd) (hL : kdL kd) (hg0 : 80 ≤ gl) (hg1 : gl < 100) (h : MS kd H (z + 1) (z + 1) a Nx wx Kx gx x) (hm : mo x) (hc1 : c1 < 48 ∧ ¬ c1 = 30 ∧ ¬ c1 = 8 ∧ ¬ c1 = 9) (hc2 : (c2 < 48 ∧ ¬ c2 = 30 ∧ ¬ c2 = 8 ∧ ¬ c2 = 9 ∧ 110 ≤ p2 ∧ o2 = Int32.ofNat (p2 - 110)) ∨ 50 ≤ c2) (hp1 : 110 ≤ p1 ∧ o1 = Int32.ofNat (p1 - 110)) (r1 : rlN gl c1 = [c1] ++ (gx ++ ([p1] ++ [gl]))) (r2 : c2 < 50 → rlN gl c2 = [c2] ++ (gx ++ ([p2] ++ [gl]))) (r0 : ∀ κ, κ < 50 → ¬ κ = c1 → ¬ κ = c2 → rlN gl κ = []) (hN : Nx + 2 ≤ N) (hN2 : gx.length + 3 ≤ N) (hwx : wx ≤ 0) (hK : 3 ≤ K) (hKx : Kx ≤ K + 30) :
    ∀ n i b, 402 ≤ i + n → i < kd.length → b + (z + 1) ≤ i → MA kd H (z + 1) (z + 1) a N 1 K [gl] i b (lpp (kF kd) c1 o1 c2 o2 x n i b) := by
  intro n
  induction n with
  | zero => intro i b h1 h2 h3; have := hx.1; omega
  | succ n ih =>
    intro i b h1 h2 h3
    have br : ∀ (c p : Nat) (o : Int32), (c < 48 ∧ ¬ c = 30 ∧ ¬ c = 8 ∧ ¬ c = 9) → 110 ≤ p → o = Int32.ofNat (p - 110) → rlN gl c = [c] ++ (gx ++ ([p] ++ [gl])) → kF kd i = c → MA kd H (z + 1) (z + 1) a N 1 K [gl] i b (sq (tk (kF kd) c) (sq x (sq (em o) (lpp (kF kd) c1 o1 c2 o2 x n))) i b) := by
      intro c p o hc hp ho hr hk
      have h1i : 402 ≤ i + 1 + n := by omega
      refine MA_x (gl := [c] ++ (gx ++ ([p] ++ [gl]))) (N' := N) (w' := 0) (K' := K - 1) hg0 hg1 (by rw [show kd.getD i 0 = c from hk, hr]) ?_ (Nat.le_refl _) (by simp only [List.length_append, List.length_cons, List.length_nil]; omega) (by omega) (by omega)
      refine MA_sq2 (z1 := z + 2) (N1 := 0) (N2 := N) (w1 := -39) (w2 := 39) (K1 := 1) (K2 := K + 38) h3 (MS_tk hx hc.1 hc.2 i b h2 h3) (fun j c' e hj hjl hb => ?_) (by simp only [List.length_append, List.length_cons, List.length_nil]; omega) (Nat.le_refl _) (by omega) (by omega) (by omega)
      have ej := tk_j hj
      refine MA_sq2 (z1 := z + 2) (N1 := Nx) (N2 := N) (w1 := wx) (w2 := 39) (K1 := Kx) (K2 := K + 30) hb (MS_mono (MS_up h 1) (Nat.le_refl _) (Int.le_refl _) (Int.le_refl _) j _ hjl hb) (fun j2 c2' e2 hj2 hjl2 hb2 => ?_) (by simp only [List.length_append, List.length_cons, List.length_nil]; omega) (Nat.le_refl _) (by omega) (by omega) (by omega)
      have em2 := mo_le hm hj2
      refine MA_sq2 (z1 := z + 1) (N1 := 0) (N2 := N) (w1 := 1) (w2 := 1) (K1 := 0) (K2 := K) hb2 (MS_em hx hp ho j2 _ hjl2 hb2) (fun j3 c3 e3 hj3 hjl3 hb3 => ?_) (by simp only [List.length_append, List.length_cons, List.length_nil]; omega) (Nat.le_refl _) (by omega) (by omega) (by omega)
      have ej3 := em_j hj3
      exact ih j3 _ (by omega) hjl3 hb3
    rw [lpp]
    dsimp only
    by_cases k1 : kF kd i = c1
    · rw [if_pos k1]
      exact br c1 p1 o1 hc1 hp1.1 hp1.2 r1 k1
    · rw [if_neg k1]
      by_cases k2 : kF kd i = c2
      · rw [if_pos k2]
        have := hL i
        rcases hc2 with hc2 | hc2
        · exact br c2 p2 o2 ⟨hc2.1, hc2.2.1, hc2.2.2.1, hc2.2.2.2.1⟩ hc2.2.2.2.2.1 hc2.2.2.2.2.2 (r2 (by omega)) k2
        · exact absurd k2 (by show ¬ kd.getD i 0 = c2; omega)
      · rw [if_neg k2]
        exact MA_x (N' := 0) (w' := 0) (K' := 0) hg0 hg1 (r0 _ (hL i) k1 k2) (MS_nil i b h2 h3) (Nat.zero_le _) (Nat.zero_le _) (by omega) (by omega)
theorem MS_prod {kd : List Nat} {H : Nat} {z a N : Nat} {one : PA} (hx : kdX kd) (hL : kdL kd) (h : MS kd H (z + 1) (z + 1) a N (-20) 5 [98] one) (hm : mo one) (hN : 4 ≤ N) : MS kd H (z + 1) (z + 1) a (N + 2) (-18) 6 [96] (pProd (kF kd) one) := by
  intro i b hi hb
  refine MA_x (gl := [98] ++ [97]) (N' := N + 2) (w' := -19) (K' := 5) (by decide) (by decide) ?_ ?_ (Nat.le_refl _) (by show 2 ≤ _; omega) (by decide) (by decide)
  · unfold rlN rfN; rfl
  · refine MA_sq2 (z1 := z + 1) (N1 := N) (N2 := N + 2) (w1 := -20) (w2 := 1) (K1 := 5) (K2 := 3) hb (h i b hi hb) (fun j c e hj hjl hb2 => ?_) (by show N + 1 ≤ _; omega) (Nat.le_refl _) (by decide) (by decide) (by decide)
    refine MS_lpp (p1 := 132) (p2 := 133) hx hL (by decide) (by decide) h hm (by decide) (Or.inl (by decide)) (by decide) ?_ (fun _ => ?_) (fun κ h0 h1 h2 => ?_) (Nat.le_refl _) (by show 1 + 3 ≤ _; omega) (by decide) (by decide) (by decide) _ j _ (by omega) hjl hb2
    · decide
    · decide
    · unfold rlN rfN; simp only [h1, h2]; rfl
theorem MS_sum {kd : List Nat} {H : Nat} {z a N : Nat} {one : PA} (hx : kdX kd) (hL : kdL kd) (h : MS kd H (z + 1) (z + 1) a N (-20) 5 [98] one) (hm : mo one) (hN : 4 ≤ N) : MS kd H (z + 1) (z + 1) a (N + 4) (-16) 7 [94] (pSum (kF kd) one) := by
  intro i b hi hb
  have hp := MS_prod hx hL h hm hN
  refine MA_x (gl := [96] ++ [95]) (N' := N + 4) (w' := -17) (K' := 6) (by decide) (by decide) ?_ ?_ (Nat.le_refl _) (by show 2 ≤ _; omega) (by decide) (by decide)
  · unfold rlN rfN; rfl
  · refine MA_sq2 (z1 := z + 1) (N1 := N + 2) (N2 := N + 4) (w1 := -18) (w2 := 1) (K1 := 6) (K2 := 3) hb (hp i b hi hb) (fun j c e hj hjl hb2 => ?_) (by show N + 2 + 1 ≤ _; omega) (Nat.le_refl _) (by decide) (by decide) (by decide)
    refine MS_lpp (p1 := 130) (p2 := 131) hx hL (by decide) (by decide) hp (mo_prod hm) (by decide) (Or.inl (by decide)) (by decide) ?_ (fun _ => ?_) (fun κ h0 h1 h2 => ?_) (Nat.le_refl _) (by show 1 + 3 ≤ _; omega) (by decide) (by decide) (by decide) _ j _ (by omega) hjl hb2
    · decide
    · decide
    · unfold rlN rfN; simp only [h1, h2]; rfl
