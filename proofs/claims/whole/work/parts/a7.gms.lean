/-! THE GRAMMAR'S MACHINE AND THE PARSER: STATES -/
def gStop (σ : GM) : Prop := σ.1 = [] ∨ σ.2.2.2.2.1 = true
theorem gN_t {kd : List Nat} {σ : GM} (h : gStop σ) : ∀ n, gN kd n σ = σ
  | 0 => rfl
  | n + 1 => by rw [gN, if_pos (show σ.1 = [] ∨ σ.2.2.2.2.1 = true from h)]
theorem gN_add {kd : List Nat} : ∀ (n m : Nat) (σ : GM), gN kd (n + m) σ = gN kd m (gN kd n σ)
  | 0, m, σ => by rw [Nat.zero_add, gN]
  | n + 1, m, σ => by
    rw [show n + 1 + m = (n + m) + 1 by omega, gN, gN]
    by_cases c : σ.1 = [] ∨ σ.2.2.2.2.1 = true
    · rw [if_pos c, if_pos c, gN_t c]
    · rw [if_neg c, if_neg c, gN_add n m]
/-- roles and places so far, then none -/
def rp (n : Nat) (R : List Int32) : List Int32 := R ++ List.replicate (n - R.length) 0
def ST (kd gs : List Nat) (hs : List Int32) (i a : Nat) (R Pl os od : List Int32) : GM := (gs, hs, i, Int32.ofNat (8 - a), false, rp kd.length R, rp kd.length Pl, os, od)
theorem rp_0 {n : Nat} {R : List Int32} (h : R.length < n) : rp n R = rp n (R ++ [0]) := by
  unfold rp
  rw [List.length_append, List.length_cons, List.length_nil, show n - R.length = (n - (R.length + 1)) + 1 by omega, List.replicate_succ, List.append_assoc]
  rfl
theorem rp_s {n : Nat} {R : List Int32} {x : Int32} (h : R.length < n) (hn : n ≤ 1000000) : ls (rp n R) (Int32.ofNat R.length) x = rp n (R ++ [x]) := by
  rw [ls_of (by omega)]
  unfold rp
  rw [List.length_append, List.length_cons, List.length_nil, show n - R.length = (n - (R.length + 1)) + 1 by omega, List.replicate_succ, List.append_assoc, List.set_append_right _ _ (Nat.le_refl _), Nat.sub_self]
  rfl
theorem gN_1 {kd : List Nat} {g : Nat} {gs : List Nat} {hs : List Int32} {i a : Nat} {R Pl os od : List Int32} : gN kd 1 (ST kd (g :: gs) hs i a R Pl os od) = gD kd g (ST kd gs hs i a R Pl os od) := by
  rw [gN, if_neg (by unfold ST; simp), gN]
  rfl
theorem gN_s {kd : List Nat} {g n : Nat} {gs : List Nat} {hs : List Int32} {i a : Nat} {R Pl os od : List Int32} : gN kd (1 + n) (ST kd (g :: gs) hs i a R Pl os od) = gN kd n (gD kd g (ST kd gs hs i a R Pl os od)) := by
  rw [gN_add, gN_1]
theorem gP_ok : ∀ (r gs : List Nat), gs.length + r.length ≤ 200 → gP gs r = r ++ gs
  | [], _, _ => rfl
  | x :: r, gs, h => by
    rw [List.length_cons] at h
    have e := gP_ok r gs (by omega)
    unfold gP at e ⊢
    rw [List.foldr_cons, e, if_pos (by rw [List.length_append]; omega)]
    rfl
/-- a role as it is written -/
def rlW (r : Nat) : Int32 := if r = 76 then 0 else Int32.ofNat r
abbrev ME : Type := List (Nat × Int32)
def meR (me : ME) : List Int32 := me.map (fun q => rlW q.1)
def meP (me : ME) : List Int32 := me.map (·.2)
def isR (ev : EVt) : Bool := decide (60 ≤ ev.1) && decide (ev.1 ≤ 76)
def isU (r : Nat) : Bool := decide (r = 67) || decide (r = 68) || decide (r = 69) || decide (r = 73) || decide (r = 74) || decide (r = 75)
def evO : Nat → ME → List EVt
  | _, [] => []
  | i, x :: me => if x.1 = 0 then evO (i + 1) me else (x.1, i, 0) :: evO (i + 1) me
theorem evO_app : ∀ (m1 m2 : ME) (i : Nat), evO i (m1 ++ m2) = evO i m1 ++ evO (i + m1.length) m2
  | [], m2, i => rfl
  | x :: m1, m2, i => by
    rw [List.cons_append, evO, evO, List.length_cons, evO_app m1 m2 (i + 1), show i + (m1.length + 1) = i + 1 + m1.length by omega]
    split <;> rfl
def kOK (κ r : Nat) : Prop := (r = 0 → ¬ κ = 30 ∧ ¬ κ = 8 ∧ ¬ κ = 9) ∧ (¬ r = 0 → 60 ≤ r ∧ r ≤ 76) ∧ (¬ r = 0 → r < 70 → κ = 29) ∧ (70 ≤ r → r < 76 → κ = 30) ∧ (r = 76 → 7 ≤ κ ∧ κ ≤ 9)
/-- what the machine wrote for a parser's result -/
def MEK (k : Nat → Nat) (i j b : Nat) (c : List CI) (e : List EVt) (me : ME) : Prop := i + me.length = j ∧ e.filter isR = evO i me ∧ (∀ t, t < me.length → kOK (k (i + t)) (me.getD t (0, 0)).1) ∧
  (∀ m, m < c.length → (c.getD m (0, 0, 0)).2.2 = 0 ∨ ∃ t, t < me.length ∧ (c.getD m (0, 0, 0)).2.2 = i + t + 1 ∧ (c.getD m (0, 0, 0)).2.1 = 0 ∧ isU (me.getD t (0, 0)).1 = true ∧ (me.getD t (0, 0)).2 = Int32.ofNat (b + m)) ∧
  (∀ t, t < me.length → isU (me.getD t (0, 0)).1 = true → ∃ m, m < c.length ∧ (c.getD m (0, 0, 0)).2.2 = i + t + 1 ∧ (me.getD t (0, 0)).2 = Int32.ofNat (b + m))
theorem gDl {α : Type} {l l' : List α} {n : Nat} {d : α} (h : n < l.length) : (l ++ l').getD n d = l.getD n d := by
  rw [List.getD_eq_getElem?_getD, List.getElem?_append_left h, ← List.getD_eq_getElem?_getD]
theorem gDr {α : Type} {l l' : List α} {n : Nat} {d : α} : (l ++ l').getD (l.length + n) d = l'.getD n d := by
  rw [List.getD_eq_getElem?_getD, List.getElem?_append_right (by omega), Nat.add_sub_cancel_left, ← List.getD_eq_getElem?_getD]
theorem MEK_sq {k : Nat → Nat} {i j l b : Nat} {c c' : List CI} {e e' : List EVt} {m1 m2 : ME} (h : MEK k i j b c e m1) (h' : MEK k j l (b + c.length) c' e' m2) : MEK k i l b (c ++ c') (e ++ e') (m1 ++ m2) := by
  obtain ⟨a1, a2, a3, a4, a5⟩ := h
  obtain ⟨b1, b2, b3, b4, b5⟩ := h'
  refine ⟨by rw [List.length_append]; omega, by rw [List.filter_append, a2, b2, evO_app, a1], fun t ht => ?_, fun m hm => ?_, fun t ht hu => ?_⟩
  · rw [List.length_append] at ht
    by_cases x : t < m1.length
    · rw [gDl x]; exact a3 t x
    · have := b3 (t - m1.length) (by omega)
      rw [show j + (t - m1.length) = i + t by omega] at this
      rw [show t = m1.length + (t - m1.length) by omega, gDr, show i + (m1.length + (t - m1.length)) = i + t by omega]
      exact this
  · rw [List.length_append] at hm
    by_cases x : m < c.length
    · rw [gDl x]
      rcases a4 m x with z | ⟨t, t1, t2, t3, t4, t5⟩
      · exact Or.inl z
      · exact Or.inr ⟨t, by rw [List.length_append]; omega, t2, t3, by rw [gDl t1]; exact t4, by rw [gDl t1]; exact t5⟩
    · obtain ⟨q, rfl⟩ : ∃ q, m = c.length + q := ⟨m - c.length, by omega⟩
      rw [gDr]
      rcases b4 q (by omega) with z | ⟨t, t1, t2, t3, t4, t5⟩
      · exact Or.inl z
      · exact Or.inr ⟨m1.length + t, by rw [List.length_append]; omega, by omega, t3, by rw [gDr]; exact t4, by rw [gDr, t5]; congr 1; omega⟩
  · rw [List.length_append] at ht
    by_cases x : t < m1.length
    · rw [gDl x] at hu ⊢
      obtain ⟨m, y1, y2, y3⟩ := a5 t x hu
      exact ⟨m, by rw [List.length_append]; omega, by rw [gDl y1]; exact y2, y3⟩
    · obtain ⟨q, rfl⟩ : ∃ q, t = m1.length + q := ⟨t - m1.length, by omega⟩
      rw [gDr] at hu ⊢
      obtain ⟨m, y1, y2, y3⟩ := b5 q (by omega) hu
      exact ⟨c.length + m, by rw [List.length_append]; omega, by rw [gDr]; omega, by rw [y3]; congr 1; omega⟩
theorem MEK_nil {k : Nat → Nat} {i b : Nat} : MEK k i i b [] [] [] := ⟨rfl, rfl, fun _ ht => absurd ht (Nat.not_lt_zero _), fun _ hm => absurd hm (Nat.not_lt_zero _), fun _ ht => absurd ht (Nat.not_lt_zero _)⟩
theorem MEK_em {k : Nat → Nat} {i b : Nat} {op x : Int32} : MEK k i i b [(op, x, 0)] [] [] := by
  refine ⟨rfl, rfl, fun _ ht => absurd ht (Nat.not_lt_zero _), fun m hm => ?_, fun _ ht => absurd ht (Nat.not_lt_zero _)⟩
  rw [List.length_cons, List.length_nil] at hm
  rw [show m = 0 by omega]
  exact Or.inl rfl
theorem MEK_ev {k : Nat → Nat} {i j b : Nat} {c : List CI} {e e' : List EVt} {me : ME} (h : MEK k i j b c e me) (h' : e'.filter isR = e.filter isR) : MEK k i j b c e' me := by
  obtain ⟨a1, a2, a3, a4, a5⟩ := h
  exact ⟨a1, h'.trans a2, a3, a4, a5⟩
/-- the kinds of a text's tokens -/
def kdX (kd : List Nat) : Prop := kd.length ≤ 401 ∧ ∀ i, i < kd.length → (kd.getD i 0 < 48 ↔ i + 1 < kd.length)
/-- the machine does what the parser's result says: goals gl, from token i and code b -/
def MA (kd : List Nat) (H z z' a N : Nat) (w K : Int) (gl : List Nat) (i b : Nat) (r : PR) : Prop := ∀ (gs : List Nat) (hs R Pl os od : List Int32), gs.length + N ≤ 200 → hs.length + a ≤ H → R.length = i → Pl.length = i → os.length = b → od.length = b →
  match r with
  | (j, none) => i ≤ j ∧ j < kd.length ∧ ∃ n : Nat, (n : Int) ≤ 40 * ((j : Int) - i) + K ∧ (gN kd n (ST kd (gl ++ gs) hs i a R Pl os od)).2.2.2.2.1 = true ∧ (gN kd n (ST kd (gl ++ gs) hs i a R Pl os od)).2.2.1 = j
  | (j, some (c, e)) => i ≤ j ∧ j < kd.length ∧ c.length + z' ≤ (j - i) + z ∧ ∃ (n : Nat) (me : ME), (n : Int) ≤ 40 * ((j : Int) - i) + w ∧ gN kd n (ST kd (gl ++ gs) hs i a R Pl os od) = ST kd gs hs j a (R ++ meR me) (Pl ++ meP me) (os ++ c.map (·.1)) (od ++ c.map (·.2.1)) ∧ MEK (fun i => kd.getD i 0) i j b c e me
def MS (kd : List Nat) (H z z' a N : Nat) (w K : Int) (gl : List Nat) (P : PA) : Prop := ∀ i b, i < kd.length → b + z ≤ i → MA kd H z z' a N w K gl i b (P i b)
theorem MA_mono {kd : List Nat} {H : Nat} {z z' a N N' : Nat} {w w' K K' : Int} {gl : List Nat} {i b : Nat} {r : PR} (h : MA kd H z z' a N w K gl i b r) (hN : N ≤ N') (hw : w ≤ w') (hK : K ≤ K') : MA kd H z z' a N' w' K' gl i b r := by
  intro gs hs R Pl os od h1 h2 h3 h4 h5 h6
  have x := h gs hs R Pl os od (by omega) h2 h3 h4 h5 h6
  rcases r with ⟨j, _ | ⟨c, e⟩⟩
  · obtain ⟨x1, x2, n, x3, x4⟩ := x
    exact ⟨x1, x2, n, by omega, x4⟩
  · obtain ⟨x1, x2, x3, n, me, x4, x5⟩ := x
    exact ⟨x1, x2, x3, n, me, by omega, x5⟩
theorem MS_mono {kd : List Nat} {H : Nat} {z z' a N N' : Nat} {w w' K K' : Int} {gl : List Nat} {P : PA} (h : MS kd H z z' a N w K gl P) (hN : N ≤ N') (hw : w ≤ w') (hK : K ≤ K') : MS kd H z z' a N' w' K' gl P := fun i b hi hb => MA_mono (h i b hi hb) hN hw hK
theorem MS_up {kd : List Nat} {H : Nat} {z z' a N : Nat} {w K : Int} {gl : List Nat} {P : PA} (h : MS kd H z z' a N w K gl P) (x : Nat) : MS kd H (z + x) (z' + x) a N w K gl P := by
  intro i b hi hb gs hs R Pl os od h1 h2 h3 h4 h5 h6
  have y := h i b hi (by omega) gs hs R Pl os od h1 h2 h3 h4 h5 h6
  generalize P i b = r at y ⊢
  rcases r with ⟨j, _ | ⟨c, e⟩⟩
  · exact y
  · obtain ⟨x1, x2, x3, x4⟩ := y
    exact ⟨x1, x2, by omega, x4⟩
theorem MA_sq {kd : List Nat} {H : Nat} {z z1 z2 a N N1 N2 i b : Nat} {w w1 w2 K K1 K2 : Int} {g1 g2 : List Nat} {P Q : PA} (hb : b + z ≤ i) (hp : MA kd H z z1 a N1 w1 K1 g1 i b (P i b)) (hq : MS kd H z1 z2 a N2 w2 K2 g2 Q) (n1 : N1 + g2.length ≤ N) (n2 : N2 ≤ N) (k1 : K1 ≤ K) (k2 : w1 + K2 ≤ K) (hw : w1 + w2 ≤ w) : MA kd H z z2 a N w K (g1 ++ g2) i b (sq P Q i b) := by
  intro gs hs R Pl os od h1 h2 h3 h4 h5 h6
  have x := hp (g2 ++ gs) hs R Pl os od (by rw [List.length_append]; omega) h2 h3 h4 h5 h6
  rcases hP : P i b with ⟨j, _ | ⟨c, e⟩⟩
  · rw [hP] at x
    obtain ⟨x1, x2, n, x3, x4⟩ := x
    rw [sq_n hP, List.append_assoc]
    exact ⟨x1, x2, n, by omega, x4⟩
  · rw [hP] at x
    obtain ⟨x1, x2, x3, n, me, x4, x5, x6⟩ := x
    have x6' := x6
    obtain ⟨ml, _⟩ := x6'
    have y := hq j (b + c.length) x2 (by omega) gs hs (R ++ meR me) (Pl ++ meP me) (os ++ c.map (·.1)) (od ++ c.map (·.2.1)) (by omega) h2 (by rw [List.length_append, meR, List.length_map]; omega) (by rw [List.length_append, meP, List.length_map]; omega) (by rw [List.length_append, List.length_map]; omega) (by rw [List.length_append, List.length_map]; omega)
    rcases hQ : Q j (b + c.length) with ⟨l, _ | ⟨c', e'⟩⟩
    · rw [hQ] at y
      obtain ⟨y1, y2, n', y3, y4⟩ := y
      rw [sq_sn hP hQ]
      refine ⟨by omega, y2, n + n', by omega, ?_⟩
      rw [List.append_assoc, gN_add, x5]
      exact y4
    · rw [hQ] at y
      obtain ⟨y1, y2, y3, n', me', y4, y5, y6⟩ := y
      rw [sq_ss hP hQ]
      refine ⟨by omega, y2, by rw [List.length_append]; omega, n + n', me ++ me', by omega, ?_, MEK_sq x6 y6⟩
      rw [List.append_assoc, gN_add, x5, y5]
      unfold meR meP
      simp only [List.map_append, List.append_assoc]
theorem MS_sq {kd : List Nat} {H : Nat} {z z1 z2 a N N1 N2 : Nat} {w w1 w2 K K1 K2 : Int} {g1 g2 : List Nat} {P Q : PA} (hp : MS kd H z z1 a N1 w1 K1 g1 P) (hq : MS kd H z1 z2 a N2 w2 K2 g2 Q) (n1 : N1 + g2.length ≤ N) (n2 : N2 ≤ N) (k1 : K1 ≤ K) (k2 : w1 + K2 ≤ K) (hw : w1 + w2 ≤ w) : MS kd H z z2 a N w K (g1 ++ g2) (sq P Q) :=
  fun i b hi hb => MA_sq hb (hp i b hi hb) hq n1 n2 k1 k2 hw
