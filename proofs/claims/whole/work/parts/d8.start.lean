/-! THE LAW: FROM ITS BEGINNING TO ITS END -/
theorem range_all {n : Nat} {p : Nat → Bool} (h : (List.range n).all p = true) : ∀ k, k < n → p k = true := fun k hk => List.all_eq_true.mp h k (List.mem_range.mpr hk)
theorem start_k {X : Nat × (Nat → Int32)} {l : List OP} (w : wfL 361 l) (c : okC l = true) (m : okM l = true) : REL (conc X l) := by
  unfold okC at c
  unfold okM at m
  simp only [Bool.and_eq_true, decide_eq_true_iff] at c m
  obtain ⟨⟨⟨⟨⟨⟨⟨⟨c1, c2⟩, c3⟩, c4⟩, c5⟩, c6⟩, c7⟩, c8⟩, c9⟩ := c
  obtain ⟨⟨⟨⟨⟨⟨⟨⟨⟨⟨⟨m1, m2⟩, m3⟩, m4⟩, m5⟩, m6⟩, m7⟩, m8⟩, m9⟩, ma⟩, mb⟩, mc⟩ := m
  have V : ∀ a f t, aV l a f = some t → mV (conc X l) a f = .ref t := fun a f t h => by rw [c_V w, h]
  have I : ∀ a j x, aI l a j = x → mI (conc X l) a j = x := fun a j x h => by rw [c_I w, h]
  have N : mN (conc X l) = 361 := c_N w
  have rows : ∀ a, isRow a = true → mI (conc X l) a 1 = if a = 231 then 144 else 0 := by
    intro a ha
    obtain ⟨b1, b2⟩ := isRow_b ha
    have h0 : (!isRow (200 + (a - 200)) || decide (aI l (200 + (a - 200)) 1 = if a - 200 = 31 then 144 else 0)) = true := range_all c3 (a - 200) (by omega)
    rw [show 200 + (a - 200) = a by omega, ha, Bool.not_true, Bool.false_or, decide_eq_true_iff] at h0
    rw [c_I w, h0]
    by_cases z : a = 231
    · rw [if_pos z, if_pos (by omega)]
    · rw [if_neg z, if_neg (by omega)]
  have K : ∀ n, n < 116 → mK (conc X l) (200 + n) = cKt.getD n (0, 0) := fun n hn => by
    rw [c_K w]
    exact of_decide_eq_true (range_all c1 n hn)
  have hk : kS (conc X l) := by
    refine ⟨K, by omega, fun q hq => V _ _ _ (of_decide_eq_true (List.all_eq_true.mp c2 q hq)), fun a ha => ?_, Or.inl ⟨V _ _ _ c4, V _ _ _ c5⟩⟩
    rw [rows a ha]
    by_cases z : a = 231
    · subst z
      rw [if_pos rfl]
      refine ⟨by decide, ?_⟩
      show 144 ≤ (mK (conc X l) 232).2
      rw [K 32 (by decide)]
      decide +kernel
    · rw [if_neg z]
      exact ⟨by decide, Nat.zero_le _⟩
  have L0 : ∀ a, isRow a = true → ¬ a = 231 → rL (conc X l) a = [] := by
    intro a ha hz
    unfold rL
    rw [rows a ha, if_neg hz]
    rfl
  have L231 : (rL (conc X l) 231).length = 144 := by
    unfold rL
    rw [rows 231 (by decide +kernel), if_pos rfl, List.length_map, List.length_range]
    rfl
  have km : kM (conc X l) := by
    refine ⟨fun n hn => ?_, by omega, fun q hq => V _ _ _ (of_decide_eq_true (List.all_eq_true.mp m2 q hq)), Or.inl ⟨V _ _ _ m3, V _ _ _ m4⟩⟩
    rw [c_K w]
    exact of_decide_eq_true (range_all m1 n hn)
  have z6 : ∀ j, j ∈ [6, 7, 8, 9] → mI (conc X l) 323 j = 0 := fun j hj => I _ _ _ (of_decide_eq_true (List.all_eq_true.mp m6 j hj))
  have z7 : ∀ j, j ∈ [2, 5, 6] → mI (conc X l) 316 j = 0 := fun j hj => I _ _ _ (of_decide_eq_true (List.all_eq_true.mp m7 j hj))
  have z9 : ∀ j, j ∈ [0, 6, 13] → mI (conc X l) 347 j = 0 := fun j hj => I _ _ _ (of_decide_eq_true (List.all_eq_true.mp m9 j hj))
  have ep : pt (conc X l) = 323 := by
    unfold pt
    rw [V _ _ _ m3]
  have k360 : mK (conc X l) 360 = (101, 1) := by rw [c_K w]; exact ma
  refine ⟨?_, by rw [k360], 233, ([], [], [], [], [], []), [], [], [], [], -1, [], false, (0, 0, 0, 0), (0, 0, 0, 0, 0, 0, 0, 0, 0, []), false, [], ?_, ?_, ?_, ?_⟩
  · unfold mIs
    rw [decide_eq_true_iff, k360]
    exact ⟨by decide, by omega, rfl⟩
  · refine ⟨hk, ⟨⟨Or.inl rfl, Nat.zero_le _, ⟨L0 225 (by decide +kernel) (by decide), L0 227 (by decide +kernel) (by decide), L0 229 (by decide +kernel) (by decide)⟩, V _ _ _ c4, ⟨L0 236 (by decide +kernel) (by decide), L0 238 (by decide +kernel) (by decide), L0 240 (by decide +kernel) (by decide)⟩, L0 244 (by decide +kernel) (by decide), L0 246 (by decide +kernel) (by decide), L0 248 (by decide +kernel) (by decide), L0 250 (by decide +kernel) (by decide), L0 252 (by decide +kernel) (by decide)⟩, fun s h => absurd h List.not_mem_nil, L0 258 (by decide +kernel) (by decide), L0 260 (by decide +kernel) (by decide), L0 256 (by decide +kernel) (by decide)⟩, ?_, ⟨fun x h => absurd h List.not_mem_nil, fun x h => absurd h List.not_mem_nil, fun x h => absurd h List.not_mem_nil, L0 234 (by decide +kernel) (by decide), L0 242 (by decide +kernel) (by decide), L0 254 (by decide +kernel) (by decide)⟩, L0 201 (by decide +kernel) (by decide), I _ _ _ c6, L0 262 (by decide +kernel) (by decide), L0 264 (by decide +kernel) (by decide), L0 266 (by decide +kernel) (by decide), L0 285 (by decide +kernel) (by decide), ⟨I _ _ _ c8, L0 270 (by decide +kernel) (by decide), I _ _ _ c9⟩⟩
    show qOK [] (mI (conc X l) 224 4, mI (conc X l) 224 5, rL (conc X l) 231)
    rw [I _ _ _ c7]
    exact qOK_0 L231
  · refine ⟨by omega, ⟨km, ?_, ?_, fun q h => absurd h List.not_mem_nil, ?_, ?_, fun x h => absurd h List.not_mem_nil⟩, ?_, ?_, ⟨⟨z7 2 (by decide), Nat.zero_le _, fun k h => absurd h (Nat.not_lt_zero _)⟩, fun x h => absurd h List.not_mem_nil⟩, I _ _ _ m8, ⟨z7 5 (by decide), Nat.zero_le _, fun k h => absurd h (Nat.not_lt_zero _)⟩, ⟨fun _ => 0, 0, fun _ => 0, fun _ => 0, fun _ => 0, ⟨Nat.zero_le _, fun i h => absurd h (Nat.not_lt_zero _), fun _ => by show (0 : Nat) < 50; decide, fun i h => absurd rfl h⟩, fun q h => absurd h (Nat.not_lt_zero _), ⟨Nat.zero_le _, fun q h => absurd h (Nat.not_lt_zero _)⟩⟩, z9 0 (by decide), z9 13 (by decide), z9 6 (by decide)⟩
    · rw [ep]
      exact ⟨z6 7 (by decide), Nat.zero_le _, fun s h => absurd h List.not_mem_nil, fun k h => absurd h (Nat.not_lt_zero _)⟩
    · intro r hr
      exact ⟨Nat.zero_le _, I _ _ _ (of_decide_eq_true (range_all m5 r hr)), fun k h => absurd h (Nat.not_lt_zero _)⟩
    · rw [ep]
      exact ⟨z6 8 (by decide), Nat.zero_le _, fun k h => absurd h (Nat.not_lt_zero _)⟩
    · exact ⟨z7 6 (by decide), Nat.zero_le _, fun k h => absurd h (Nat.not_lt_zero _)⟩
    · rw [ep]
      exact ⟨z6 6 (by decide), Nat.zero_le _, z6 9 (by decide), rfl⟩
    · exact ⟨fun r h => absurd h (Nat.not_lt_zero _), fun r h => absurd h (Nat.not_lt_zero _), rfl⟩
  · have lgn : ∀ p : Int32, lg [] p = 0 := fun p => by
      unfold lg
      by_cases z : p < 0
      · rw [if_pos z]
      · rw [if_neg z]; rfl
    refine ⟨fun pc h => ?_, fun p => ⟨0, by decide, lgn p⟩, ⟨fun _ => 0, Nat.zero_le _, fun p h => absurd h (Nat.not_lt_zero _)⟩, fun p h => absurd h (Nat.not_lt_zero _), fun x h => absurd h List.not_mem_nil, fun x h => absurd h List.not_mem_nil, fun x h => absurd h List.not_mem_nil⟩
    have h : lg [] pc = 2 := h
    rw [lgn] at h
    exact absurd h (by decide)
  · exact ⟨fun x h => absurd h List.not_mem_nil, fun x h => absurd h List.not_mem_nil, fun x h => absurd h List.not_mem_nil⟩
/-- the law, on every script -/
theorem law_all {X : Nat × (Nat → Int32)} (hl : X.1 ≤ 3072) : ∃ H, mCall 61 263 [.ref 0] (hZ X) = some (.inl (some (.int 1)), H) ∧ mC H ≤ 601024 ∧ mS H ≤ 7293034 := by
  have ok := aF_ok
  cases e : aF with
  | none => rw [e] at ok; cases ok
  | some q =>
    rw [e] at ok
    obtain ⟨pc, lo, st, A⟩ := q
    unfold okF at ok
    simp only [Bool.and_eq_true, decide_eq_true_iff] at ok
    obtain ⟨⟨⟨⟨⟨o1, o2⟩, o3⟩, o4⟩, o5⟩, o6⟩ := ok
    obtain ⟨t1, t2⟩ := s_to (C' := mCall 60) (C := aCall 60) (mid := 263) (s_call 60) (by decide +kernel) 13 0 _ [] (200, []) _ e rfl
    dsimp only at t1 t2
    rw [o4] at t1
    have R : REL (conc X A.2) := start_k t1 o5 o6
    obtain ⟨cC, cS, cX⟩ := c_C (X := X) (l := A.2)
    have es : st = [] := List.isEmpty_iff.mp o3
    have el : lo = LO 0 none none none none := by
      unfold loOK at o2
      split at o2
      · rw [of_decide_eq_true o2]; rfl
      · cases o2
    subst o1 es el
    unfold okM at o6
    simp only [Bool.and_eq_true, decide_eq_true_iff] at o6
    obtain ⟨H, h1, h2, h3⟩ := L_loop (D := 0) (X := X) (by omega) 513 0 (conc X A.2) none none none none (by omega) (by omega) cX R
    refine ⟨H, ?_, ?_, ?_⟩
    · rw [c_263]
      exact (t2 X).trans h1
    · rw [cC] at h2
      have := o6.1.2
      omega
    · rw [cS] at h3
      have := o6.2
      omega
