/-! A NEW ROW (of the reference's part) -/
theorem kM_New {h : mH} {kd : Nat × Nat} {n : Nat} (hk : kM h) : kM (mNew h kd n) := by
  obtain ⟨a, b, c, d⟩ := hk
  have v : ∀ q j, q < 360 → mV (mNew h kd n) q j = mV h q j := by
    intro q j hq
    show (if q = mN h then Value.null else mV h q j) = _
    rw [if_neg (by omega)]
  refine ⟨?_, ?_, ?_, ?_⟩
  · intro k hk
    show (if 316 + k = mN h then kd else mK h (316 + k)) = _
    rw [if_neg (by omega)]
    exact a k hk
  · show 361 ≤ mN h + 1
    omega
  · intro q hq
    rw [v _ _ ((by decide +kernel : ∀ q, q ∈ mmRt → q.1 < 360) q hq)]
    exact c q hq
  · rw [v _ _ (by omega), v _ _ (by omega)]
    exact d
theorem nwI {h : mH} {kd : Nat × Nat} {n q : Nat} (hq : q < mN h) : mI (mNew h kd n) q = mI h q := by
  funext j
  show (if q = mN h then 0 else mI h q j) = _
  rw [if_neg (by omega)]
theorem nwL {h : mH} {kd : Nat × Nat} {n q : Nat} (hq : q < mN h) : mL (mNew h kd n) q = mL h q := by
  funext j
  show (if q = mN h then 0 else mL h q j) = _
  rw [if_neg (by omega)]
theorem pS_New {X : PX} {p i d n : Nat} {kd : Nat × Nat} {s : RS} {h : mH} (m : pS h p X i d s) : pS (mNew h kd n) p X i d s := by
  obtain ⟨hk, hp, hX, hi, w1, w2, w3, w4, w5, w6, n1, n2, n3, a1, a2, a3, a4, a5, a6, a7⟩ := m
  have g : ∀ k, k ≤ 11 → p + k < mN h := by
    intro k hk'
    have := hk.2.1
    rcases hp with rfl | rfl <;> omega
  have g0 : p < mN h := g 0 (by omega)
  refine ⟨kM_New hk, hp, hX, hi, ?_, ?_, ?_, ?_, ?_, ?_, ?_, ?_, ?_, ?_, ?_, ?_, ?_, ?_, ?_, ?_⟩
  · intro j hj; rw [nwI (g 1 (by omega))]; exact w1 j hj
  · rw [nwI (g 3 (by omega)), w2]
  · rw [nwL (g 5 (by omega)), w3]
  · rw [nwL (g 6 (by omega)), w4]
  · rw [nwL (g 7 (by omega)), w5]
  · rw [nwL (g 8 (by omega)), w6]
  · rw [nwI g0, n1]
  · rw [nwI g0, n2]
  · rw [nwI g0, n3]
  · rw [nwI g0, a1]
  · rw [nwI g0, a2]
  · rw [nwI g0, a3]
  · rw [nwI g0, a4]
  · rw [nwI (g 2 (by omega)), a5]
  · rw [nwI (g 4 (by omega)), a6]
  · rw [nwI g0, a7]
/-- a write to a row that is not the program's -/
theorem pS_out {X : PX} {p i d A k : Nat} {x : Int32} {s : RS} {h : mH} (m : pS h p X i d s) (hA : 361 ≤ A) : pS (mSI h A k x) p X i d s := by
  obtain ⟨hk, hp, hX, hi, w1, w2, w3, w4, w5, w6, n1, n2, n3, a1, a2, a3, a4, a5, a6, a7⟩ := m
  have I : ∀ q, q ≤ 11 → mI (mSI h A k x) (p + q) = mI h (p + q) := by
    intro q hq
    exact mI_SI_other (by rcases hp with rfl | rfl <;> omega)
  have I0 : mI (mSI h A k x) p = mI h p := I 0 (by omega)
  refine ⟨by rw [kM_SI]; exact hk, hp, hX, hi, ?_, ?_, w3, w4, w5, w6, ?_, ?_, ?_, ?_, ?_, ?_, ?_, ?_, ?_, ?_⟩
  · intro j hj; rw [I 1 (by omega)]; exact w1 j hj
  · rw [I 3 (by omega), w2]
  · rw [I0, n1]
  · rw [I0, n2]
  · rw [I0, n3]
  · rw [I0, a1]
  · rw [I0, a2]
  · rw [I0, a3]
  · rw [I0, a4]
  · rw [I 2 (by omega), a5]
  · rw [I 4 (by omega), a6]
  · rw [I0, a7]
/-- the part's row: place, minutes, worth, kind, needs -/
def pA (h : mH) (A : Nat) (v0 v1 wo ki ne : Int32) : Prop := 361 ≤ A ∧ A < mN h ∧ mK h A = (100, 5) ∧ mI h A 0 = v0 ∧ mI h A 1 = v1 ∧ mI h A 2 = wo ∧ mI h A 3 = ki ∧ mI h A 4 = ne
theorem pA_is {h : mH} {A : Nat} {v0 v1 wo ki ne : Int32} (m : pA h A v0 v1 wo ki ne) : mIs h A 100 = true ∧ (mK h A).2 = 5 := by
  obtain ⟨a, b, c, _⟩ := m
  refine ⟨?_, by rw [c]⟩
  unfold mIs
  rw [decide_eq_true_iff]
  exact ⟨by show 200 ≤ A; omega, b, by rw [c]⟩
theorem pA_Fr {p : Nat} {h H : mH} {A : Nat} {v0 v1 wo ki ne : Int32} (hp : isP p) (m : pA h A v0 v1 wo ki ne) (f : Fr [p, p + 2, p + 4] h H) : pA H A v0 v1 wo ki ne := by
  obtain ⟨a, b, c, d0, d1, d2, d3, d4⟩ := m
  have n : A ∉ [p, p + 2, p + 4] := by
    intro hc
    simp only [List.mem_cons, List.not_mem_nil, or_false] at hc
    rcases hp with rfl | rfl <;> omega
  exact ⟨a, by rw [Fr_N f]; exact b, by rw [Fr_K f]; exact c, by rw [Fr_I f n]; exact d0, by rw [Fr_I f n]; exact d1, by rw [Fr_I f n]; exact d2, by rw [Fr_I f n]; exact d3, by rw [Fr_I f n]; exact d4⟩
def arr5 (h : mH) (v0 v1 : Int32) : mH := mSI (mSI (mSI (mSI (mSI (mNew h (100, 5) 5) (mN h) 0 v0) (mN h) 1 v1) (mN h) 2 1) (mN h) 3 0) (mN h) 4 0
theorem pS_arr {X : PX} {p i d : Nat} {s : RS} {h : mH} {v0 v1 : Int32} (m : pS h p X i d s) : pS (arr5 h v0 v1) p X i d s ∧ pA (arr5 h v0 v1) (mN h) v0 v1 1 0 0 := by
  have hN := m.1.2.1
  refine ⟨pS_out (pS_out (pS_out (pS_out (pS_out (pS_New m) hN) hN) hN) hN) hN, hN, ?_, ?_, ?_, ?_, ?_, ?_, ?_⟩
  · show mN h < mN h + 1
    omega
  · show (if mN h = mN h then (100, 5) else mK h (mN h)) = _
    rw [if_pos rfl]
  all_goals
    unfold arr5
    simp only [nI_SI, and_self, if_true, true_and, Nat.reduceEqDiff, if_false, Nat.zero_ne_one, Nat.one_ne_zero]
theorem FT_arr {p c : Nat} {h H : mH} {v0 v1 : Int32} (f : FT p c h H) (hk : kM H) : FT p (c + 1) h (arr5 H v0 v1) := by
  have hN := hk.2.1
  obtain ⟨a1, a2, a3, a4, a5, a6, a7⟩ := f
  have I : ∀ q j, q < 361 → mI (arr5 H v0 v1) q j = mI H q j := by
    intro q j hq
    unfold arr5
    rw [mI_SI_other (by omega), mI_SI_other (by omega), mI_SI_other (by omega), mI_SI_other (by omega), mI_SI_other (by omega), nwI (by omega)]
  refine ⟨fun a j h1 h2 => ⟨by rw [I a j h1]; exact (a1 a j h1 h2).1, ?_⟩, ?_, ?_, ?_, a5, ?_, ?_⟩
  · show mL (mNew H (100, 5) 5) a j = _
    rw [nwL (by omega)]
    exact (a1 a j h1 h2).2
  · intro a j h1
    show (if a = mN H then Value.null else mV H a j) = _
    rw [if_neg (by omega)]
    exact a2 a j h1
  · intro a h1
    show (if a = mN H then (100, 5) else mK H a) = _
    rw [if_neg (by omega)]
    exact a3 a h1
  · show mN h ≤ mN H + 1
    omega
  · show mC H + 1 ≤ _
    omega
  · show mS H + 5 ≤ _
    omega
/-- a write to the part's row -/
theorem pA_4 {h : mH} {A : Nat} {v0 v1 wo ki ne x : Int32} (m : pA h A v0 v1 wo ki ne) : pA (mSI h A 4 x) A v0 v1 wo ki x := by
  obtain ⟨a, b, c, d0, d1, d2, d3, d4⟩ := m
  exact ⟨a, b, c, by rw [nI_SI, if_neg (by omega)]; exact d0, by rw [nI_SI, if_neg (by omega)]; exact d1, by rw [nI_SI, if_neg (by omega)]; exact d2, by rw [nI_SI, if_neg (by omega)]; exact d3, by rw [nI_SI, if_pos ⟨rfl, rfl⟩]⟩
theorem pA_3 {h : mH} {A : Nat} {v0 v1 wo ki ne x : Int32} (m : pA h A v0 v1 wo ki ne) : pA (mSI h A 3 x) A v0 v1 wo x ne := by
  obtain ⟨a, b, c, d0, d1, d2, d3, d4⟩ := m
  exact ⟨a, b, c, by rw [nI_SI, if_neg (by omega)]; exact d0, by rw [nI_SI, if_neg (by omega)]; exact d1, by rw [nI_SI, if_neg (by omega)]; exact d2, by rw [nI_SI, if_pos ⟨rfl, rfl⟩], by rw [nI_SI, if_neg (by omega)]; exact d4⟩
theorem pA_2 {h : mH} {A : Nat} {v0 v1 wo ki ne x : Int32} (m : pA h A v0 v1 wo ki ne) : pA (mSI h A 2 x) A v0 v1 x ki ne := by
  obtain ⟨a, b, c, d0, d1, d2, d3, d4⟩ := m
  exact ⟨a, b, c, by rw [nI_SI, if_neg (by omega)]; exact d0, by rw [nI_SI, if_neg (by omega)]; exact d1, by rw [nI_SI, if_pos ⟨rfl, rfl⟩], by rw [nI_SI, if_neg (by omega)]; exact d3, by rw [nI_SI, if_neg (by omega)]; exact d4⟩
theorem FT_out {p c A k : Nat} {x : Int32} {h H : mH} (f : FT p c h H) (hA : 361 ≤ A) : FT p c h (mSI H A k x) := by
  obtain ⟨a1, a2, a3, a4, a5, a6, a7⟩ := f
  refine ⟨fun a j h1 h2 => ⟨?_, (a1 a j h1 h2).2⟩, a2, a3, a4, a5, a6, a7⟩
  rw [mI_SI_other (by omega)]
  exact (a1 a j h1 h2).1
