/-! NAMES AND NUMBERS OF TOKENS: BOTH SIDES -/
theorem nmOK_eq {x y : List Int32} {w v : Int64} (h : nmOK x w) (h' : nmOK y v) : (x = y) = (w = v) := by
  obtain ⟨l, a1, a2, a3, a4, a5⟩ := h
  obtain ⟨l', b1, b2, b3, b4, b5⟩ := h'
  have inj := wd_inj a1 b1 a3 b3
  rw [a5, b5, inj]
  apply propext
  constructor
  · intro e
    rw [a4, b4] at e
    have nz : ∀ y : Int32, isLD y = true → ¬ y = 0 := fun y hy e => by subst e; revert hy; decide
    have key : ∀ l l' : List Int32, (∀ y, y ∈ l → isLD y = true) → (∀ y, y ∈ l' → isLD y = true) → ∀ m m', l ++ List.replicate m (0 : Int32) = l' ++ List.replicate m' 0 → l = l' := by
      intro l
      induction l with
      | nil =>
        intro l' _ h2 m m' e
        cases l' with
        | nil => rfl
        | cons z l' =>
          have : z ∈ [] ++ List.replicate m (0 : Int32) := by rw [e]; simp
          rw [List.nil_append] at this
          exact absurd (List.eq_of_mem_replicate this) (nz z (h2 z (by simp)))
      | cons y l ih =>
        intro l' h1 h2 m m' e
        cases l' with
        | nil =>
          have : y ∈ [] ++ List.replicate m' (0 : Int32) := by rw [← e]; simp
          rw [List.nil_append] at this
          exact absurd (List.eq_of_mem_replicate this) (nz y (h1 y (by simp)))
        | cons z l' =>
          rw [List.cons_append, List.cons_append] at e
          injection e with e1 e2
          rw [e1, ih l' (fun y hy => h1 y (by simp [hy])) (fun y hy => h2 y (by simp [hy])) m m' e2]
    exact key l l' a1 b1 _ _ e
  · intro e
    subst e
    rw [a4, b4]
theorem fnd_fnL {x : List Int32} {w : Int64} {W : Nat → Int64} (h : nmOK x w) : ∀ (N : List (List Int32)) (k : Nat), (∀ r, r < N.length → nmOK (N.getD r []) (W (k + r))) → fnd x N k = fnL W w N.length k
  | [], k, _ => rfl
  | y :: N, k, hN => by
    have e : (y = x) = (W k = w) := nmOK_eq (hN 0 (Nat.succ_pos _)) h
    rw [fnd, List.length_cons, fnL]
    by_cases c : W k = w
    · rw [if_pos c, if_pos (by rw [e]; exact c)]
    · rw [if_neg c, if_neg (by rw [e]; exact c)]
      exact fnd_fnL h N (k + 1) (fun r hr => by
        have := hN (r + 1) (Nat.succ_lt_succ hr)
        rw [show k + 1 + r = k + (r + 1) by omega]
        exact this)
theorem fnL_r {W : Nat → Int64} {w : Int64} : ∀ (n k : Nat), fnL W w n k = -1 ∨ ∃ r, k ≤ r ∧ r < k + n ∧ fnL W w n k = Int32.ofNat r
  | 0, k => Or.inl rfl
  | n + 1, k => by
    rw [fnL]
    by_cases c : W k = w
    · rw [if_pos c]; exact Or.inr ⟨k, Nat.le_refl _, by omega, rfl⟩
    · rw [if_neg c]
      rcases fnL_r (W := W) (w := w) n (k + 1) with e | ⟨r, h1, h2, h3⟩
      · exact Or.inl e
      · exact Or.inr ⟨r, by omega, by omega, h3⟩
/-- a name looked up: not there, or its place -/
theorem look {x : List Int32} {w : Int64} {W : Nat → Int64} {N : List (List Int32)} (h : nmOK x w) (hN : nmsOK N W) (hl : N.length ≤ 100) : fnd x N 0 = fnL W w N.length 0 ∧ ((fnd x N 0 = -1 ∧ fnd x N 0 < 0) ∨ ∃ r, r < N.length ∧ fnd x N 0 = Int32.ofNat r ∧ ¬ fnd x N 0 < 0 ∧ ¬ fnd x N 0 = -1) := by
  have e := fnd_fnL h N 0 (fun r hr => by rw [Nat.zero_add]; exact hN r hr)
  refine ⟨e, ?_⟩
  rcases fnL_r (W := W) (w := w) N.length 0 with q | ⟨r, _, h2, h3⟩
  · exact Or.inl ⟨e.trans q, by rw [e, q]; decide⟩
  · refine Or.inr ⟨r, by omega, e.trans h3, ?_, ?_⟩
    · rw [e, h3, i_lt, i_of_i (by omega), i_z]; omega
    · rw [e, h3]
      intro z
      have := congrArg Int32.toInt z
      rw [i_of_i (by omega), show (-1 : Int32).toInt = -1 from rfl] at this
      omega
theorem sgn_chs {B : List Int32} {s len : Nat} (hl : len ≤ 10) : sgn B s len = chs B len s ++ List.replicate (10 - len) 0 := by
  refine ext_getD (x := 0) (by rw [sgn_len, List.length_append, chs_len, List.length_replicate]; omega) (fun i hi => ?_)
  rw [sgn_len] at hi
  have e1 : (sgn B s len).getD i 0 = if i < len then B.getD (s + i) 0 else 0 := by
    unfold sgn
    rw [getD_lt (by rw [List.length_map, List.length_range]; exact hi), List.getElem_map, List.getElem_range]
  rw [e1]
  by_cases c : i < len
  · rw [if_pos c, getD_l (by rw [chs_len]; exact c), chs_get _ _ _ c]
  · rw [if_neg c, getD_r (by rw [chs_len]; omega), chs_len, getD_lt (by rw [List.length_replicate]; omega), List.getElem_replicate]
theorem rn_Dg {B : List Int32} : ∀ (n i q : Nat), i ≤ q → q < rn isDg B n i → isDg (B.getD q 0) = true
  | 0, i, q, h1, h2 => by rw [rn] at h2; omega
  | n + 1, i, q, h1, h2 => by
    rw [rn] at h2
    by_cases c : isDg (B.getD i 0) = true
    · rw [if_pos c] at h2
      by_cases e : q = i
      · subst e; exact c
      · exact rn_Dg n (i + 1) q (by omega) h2
    · rw [if_neg c] at h2; omega
theorem nmA_n {B : List Int32} {s : Nat} : ∀ (n i m : Nat), i + n ≤ 6 → m < 10 ^ i → (∀ q, i ≤ q → q < i + n → isDg (B.getD (s + q) 0) = true) → ∃ x, x < 10 ^ 6 ∧ nmA B s n i (Int32.ofNat m) = Int32.ofNat x
  | 0, i, m, h1, h2, _ => ⟨m, Nat.lt_of_lt_of_le h2 (Nat.pow_le_pow_right (by decide) (by omega)), rfl⟩
  | n + 1, i, m, h1, h2, h3 => by
    have d := h3 i (Nat.le_refl _) (by omega)
    unfold isDg at d
    rw [Bool.and_eq_true, decide_eq_true_iff, decide_eq_true_iff, i_le, i_le, show (48 : Int32).toInt = 48 from rfl, show (57 : Int32).toInt = 57 from rfl] at d
    obtain ⟨v, hv⟩ : ∃ v : Nat, B.getD (s + i) 0 = Int32.ofNat v ∧ 48 ≤ v ∧ v ≤ 57 := by
      refine ⟨(B.getD (s + i) 0).toInt.toNat, ?_, by omega, by omega⟩
      apply Int32.toInt_inj.1
      rw [i_of_i (by omega)]
      omega
    rw [nmA, hv.1, show (10 : Int32) = Int32.ofNat 10 from rfl, i_mulof, i_addof, show (48 : Int32) = Int32.ofNat 48 from rfl, i_subof (by omega)]
    refine nmA_n n (i + 1) _ (by omega) ?_ (fun q q1 q2 => h3 q (by omega) (by omega))
    rw [Nat.pow_succ]
    omega
/-- what tokens hold -/
def tkOK (B : List Int32) (q : TK) : Prop := (q.1 = 29 → nmOK (sgn B q.2.1 q.2.2.1) (wdT B q)) ∧ (q.1 = 30 → ∃ x, x < 10 ^ 6 ∧ q.2.2.2 = Int32.ofNat x) ∧ q.2.1 ≤ 2000 ∧ q.2.2.1 ≤ 2000
theorem kwF_29 {B : List Int32} {i len : Nat} (h : kdA B i len = 29) : isLt (B.getD i 0) = true ∧ len ≤ 10 := by
  unfold kdA at h
  by_cases c1 : isLt (B.getD i 0) = true
  · rw [if_pos c1] at h
    by_cases c2 : len ≤ 10
    · exact ⟨c1, c2⟩
    · rw [if_neg c2] at h; omega
  · rw [if_neg c1] at h
    by_cases c2 : isDg (B.getD i 0) = true
    · rw [if_pos c2] at h
      split at h <;> omega
    · rw [if_neg c2] at h
      by_cases c3 : len = 2
      · rw [if_pos c3] at h
        split at h <;> omega
      · rw [if_neg c3] at h
        rcases sy_ge (x := B.getD i 0) sSy 31 with z | z <;> omega
theorem kdA_30 {B : List Int32} {i len : Nat} (h : kdA B i len = 30) : ¬ isLt (B.getD i 0) = true ∧ isDg (B.getD i 0) = true ∧ len ≤ 6 := by
  unfold kdA at h
  by_cases c1 : isLt (B.getD i 0) = true
  · rw [if_pos c1] at h
    by_cases c2 : len ≤ 10
    · rw [if_pos c2] at h
      have := kwF_le (B := B) (s := i) (len := len) 29 0
      omega
    · rw [if_neg c2] at h; omega
  · rw [if_neg c1] at h
    by_cases c2 : isDg (B.getD i 0) = true
    · rw [if_pos c2] at h
      by_cases c3 : len ≤ 6
      · exact ⟨c1, c2, c3⟩
      · rw [if_neg c3] at h; omega
    · rw [if_neg c2] at h
      by_cases c3 : len = 2
      · rw [if_pos c3] at h
        split at h <;> omega
      · rw [if_neg c3] at h
        rcases sy_ge (x := B.getD i 0) sSy 31 with z | z <;> omega
theorem tkOK_at {B : List Int32} {j : Nat} (hl : B.length ≤ 2000) (hj : j < B.length) (k : Nat) (hk : k = kdA B j (tkEnd B j - j) ∨ k = 49) : tkOK B (k, j, tkEnd B j - j, tkN B k j (tkEnd B j - j)) := by
  have he := tkEnd_le (B := B) (i := j) hj
  refine ⟨fun h => ?_, fun h => ?_, by show j ≤ 2000; omega, by show tkEnd B j - j ≤ 2000; omega⟩
  · have h : k = 29 := h
    obtain ⟨c1, c2⟩ := kwF_29 (B := B) (i := j) (len := tkEnd B j - j) (by rcases hk with e | e <;> omega)
    have eT : tkEnd B j = rn isLD B (B.length - (j + 1)) (j + 1) := by unfold tkEnd; rw [if_pos c1]
    have cLD : isLD (B.getD j 0) = true := by unfold isLD; rw [c1]; rfl
    have ld : ∀ q, q < tkEnd B j - j → isLD (B.getD (j + q) 0) = true := by
      intro q hq
      by_cases e : q = 0
      · subst e; exact cLD
      · exact rn_LD (B.length - (j + 1)) (j + 1) (j + q) (by omega) (by rw [← eT]; omega)
    refine ⟨chs B (tkEnd B j - j) j, chs_LD _ _ ld, by rw [chs_len]; omega, by rw [chs_len]; exact c2, ?_, ?_⟩
    · show sgn B j (tkEnd B j - j) = _
      rw [chs_len]
      exact sgn_chs c2
    · show wdT B (k, j, tkEnd B j - j, _) = _
      unfold wdT
      rw [if_pos (by show k ≤ 29; omega)]
  · have h : k = 30 := h
    obtain ⟨c1, c2, c3⟩ := kdA_30 (B := B) (i := j) (len := tkEnd B j - j) (by rcases hk with e | e <;> omega)
    have eT : tkEnd B j = rn isDg B (B.length - (j + 1)) (j + 1) := by unfold tkEnd; rw [if_neg c1, if_pos c2]
    have ld : ∀ q, q < tkEnd B j - j → isDg (B.getD (j + q) 0) = true := by
      intro q hq
      by_cases e : q = 0
      · subst e; exact c2
      · exact rn_Dg (B.length - (j + 1)) (j + 1) (j + q) (by omega) (by rw [← eT]; omega)
    show ∃ x, x < 10 ^ 6 ∧ tkN B k j (tkEnd B j - j) = Int32.ofNat x
    unfold tkN
    rw [if_pos h]
    exact nmA_n (tkEnd B j - j) 0 0 (by omega) (by decide) (fun q q1 q2 => ld q (by omega))
theorem spl_tk {B : List Int32} (hl : B.length ≤ 2000) : ∀ (n i c : Nat), ∀ q, q ∈ spl B n i c → tkOK B q
  | 0, _, _, q, h => by cases h
  | n + 1, i, c, q, h => by
    rw [spl] at h
    by_cases e : B.length ≤ rn isBl B (B.length - i) i
    · rw [if_pos e, List.mem_singleton] at h
      subst h
      exact ⟨fun h => absurd (show (48 : Nat) = 29 from h) (by decide), fun h => absurd (show (48 : Nat) = 30 from h) (by decide), hl, Nat.zero_le _⟩
    · rw [if_neg e] at h
      dsimp only at h
      rcases List.mem_cons.mp h with z | z
      · subst z
        refine tkOK_at hl (by omega) _ ?_
        by_cases cc : c < 400
        · rw [if_pos cc]; exact Or.inl rfl
        · rw [if_neg cc]; exact Or.inr rfl
      · by_cases c49 : (if c < 400 then kdA B (rn isBl B (B.length - i) i) (tkEnd B (rn isBl B (B.length - i) i) - rn isBl B (B.length - i) i) else 49) = 49
        · rw [if_pos c49] at z; cases z
        · rw [if_neg c49] at z; exact spl_tk hl n _ _ q z
theorem tT_tk {B : List Int32} (hl : B.length ≤ 2000) (t : Nat) : tkOK B ((tT B).getD t (0, 0, 0, 0)) := by
  by_cases h : t < (tT B).length
  · rw [getD_lt h]
    exact spl_tk hl _ _ _ _ (List.getElem_mem h)
  · rw [getD_ge (by omega)]
    exact ⟨fun h => absurd (show (0 : Nat) = 29 from h) (by decide), fun h => absurd (show (0 : Nat) = 30 from h) (by decide), Nat.zero_le _, Nat.zero_le _⟩
