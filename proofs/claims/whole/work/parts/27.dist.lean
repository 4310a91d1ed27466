/-! SHORTEST WAYS, pure: after 11 rounds nothing changes -/
abbrev NS : Type := Nat × Nat × Nat
def eI : Nat := 1000000
def rE (op : Nat → Bool) (E : Nat → Nat) (s : NS) : Nat → Nat := if op s.2.1 = true ∧ E s.1 + s.2.2 < E s.2.1 then fun v => if v = s.2.1 then E s.1 + s.2.2 else E v else E
def rdE (op : Nat → Bool) (sd : List NS) (E : Nat → Nat) : Nat → Nat := sd.foldl (rE op) E
def itE (op : Nat → Bool) (sd : List NS) : Nat → (Nat → Nat) → Nat → Nat
  | 0, E => E
  | n + 1, E => itE op sd n (rdE op sd E)
def E0 (f : Nat) : Nat → Nat := fun v => if v = f then 0 else eI
theorem rE_le {op : Nat → Bool} {E : Nat → Nat} {s : NS} (v : Nat) : rE op E s v ≤ E v := by
  unfold rE
  split
  · next c =>
    show (if v = s.2.1 then _ else _) ≤ _
    split
    · next e => rw [e]; omega
    · exact Nat.le_refl _
  · exact Nat.le_refl _
theorem fE_le {op : Nat → Bool} : ∀ (sd : List NS) (E : Nat → Nat) (v : Nat), sd.foldl (rE op) E v ≤ E v := by
  intro sd
  induction sd with
  | nil => intro E v; exact Nat.le_refl _
  | cons s sd ih => intro E v; exact Nat.le_trans (ih _ v) (rE_le v)
theorem rdE_le {op : Nat → Bool} {sd : List NS} (E : Nat → Nat) (v : Nat) : rdE op sd E v ≤ E v := fE_le sd E v
theorem itE_le {op : Nat → Bool} {sd : List NS} : ∀ (n : Nat) (E : Nat → Nat) (v : Nat), itE op sd n E v ≤ E v := by
  intro n
  induction n with
  | zero => intro E v; exact Nat.le_refl _
  | succ n ih => intro E v; exact Nat.le_trans (ih _ v) (rdE_le E v)
theorem itE_add {op : Nat → Bool} {sd : List NS} : ∀ (m n : Nat) (E : Nat → Nat), itE op sd (m + n) E = itE op sd n (itE op sd m E) := by
  intro m
  induction m with
  | zero => intro n E; rw [Nat.zero_add]; rfl
  | succ m ih => intro n E; rw [show m + 1 + n = (m + n) + 1 by omega]; exact ih n _
/-- a side that was looked at is obeyed, if its first node did not change -/
theorem fE_obey {op : Nat → Bool} : ∀ (sd : List NS) (E : Nat → Nat) (s : NS), s ∈ sd → op s.2.1 = true → sd.foldl (rE op) E s.1 = E s.1 → sd.foldl (rE op) E s.2.1 ≤ E s.1 + s.2.2 := by
  intro sd
  induction sd with
  | nil => intro E s h; cases h
  | cons r sd ih =>
    intro E s h ho he
    rw [List.foldl_cons] at he ⊢
    have h1 : rE op E r s.1 = E s.1 := by
      have a := fE_le (op := op) sd (rE op E r) s.1
      have b := rE_le (op := op) (E := E) (s := r) s.1
      omega
    rcases List.mem_cons.1 h with e | e
    · subst e
      refine Nat.le_trans (fE_le sd _ _) ?_
      unfold rE
      split
      · show (if s.2.1 = s.2.1 then _ else _) ≤ _
        rw [if_pos rfl]; exact Nat.le_refl _
      · next c => have : ¬ E s.1 + s.2.2 < E s.2.1 := fun z => c ⟨ho, z⟩
                  omega
    · have := ih (rE op E r) s e ho (by rw [he, h1])
      rw [h1] at this
      exact this
/-- every node that is reached has one ahead of it -/
def pE (op : Nat → Bool) (sd : List NS) (f : Nat) (E : Nat → Nat) : Prop := E f = 0 ∧ ∀ v, E v ≤ eI ∧ (v ≠ f → E v < eI → ∃ s, s ∈ sd ∧ s.2.1 = v ∧ op v = true ∧ E s.1 + s.2.2 ≤ E v)
theorem pE_r {op : Nat → Bool} {sd : List NS} {f : Nat} {E : Nat → Nat} {s : NS} (hs : s ∈ sd) (h : pE op sd f E) : pE op sd f (rE op E s) := by
  refine ⟨by have := rE_le (op := op) (E := E) (s := s) f; have := h.1; omega, ?_⟩
  intro v
  refine ⟨Nat.le_trans (rE_le v) (h.2 v).1, ?_⟩
  intro hv hf
  unfold rE at hf ⊢
  split
  · next c =>
    rw [if_pos c] at hf
    have hle : ∀ u, (if u = s.2.1 then E s.1 + s.2.2 else E u) ≤ E u := by
      intro u
      split
      · next e => rw [e]; omega
      · exact Nat.le_refl _
    by_cases e : v = s.2.1
    · refine ⟨s, hs, e.symm, e ▸ c.1, ?_⟩
      show (if s.1 = s.2.1 then _ else _) + _ ≤ (if v = s.2.1 then _ else _)
      rw [if_pos e]
      have := hle s.1
      omega
    · have hf' : E v < eI := by
        have : (if v = s.2.1 then E s.1 + s.2.2 else E v) < eI := hf
        rw [if_neg e] at this; exact this
      obtain ⟨r, h1, h2, h3, h4⟩ := (h.2 v).2 hv hf'
      refine ⟨r, h1, h2, h3, ?_⟩
      show (if r.1 = s.2.1 then _ else _) + _ ≤ (if v = s.2.1 then _ else _)
      rw [if_neg e]
      have := hle r.1
      omega
  · next c => rw [if_neg c] at hf; exact (h.2 v).2 hv hf
theorem pE_f {op : Nat → Bool} {sd : List NS} {f : Nat} : ∀ (xs : List NS) (E : Nat → Nat), (∀ s, s ∈ xs → s ∈ sd) → pE op sd f E → pE op sd f (xs.foldl (rE op) E) := by
  intro xs
  induction xs with
  | nil => intro E _ h; exact h
  | cons s xs ih => intro E hs h; exact ih _ (fun r hr => hs r (List.mem_cons_of_mem _ hr)) (pE_r (hs s (List.mem_cons_self ..)) h)
theorem pE_it {op : Nat → Bool} {sd : List NS} {f : Nat} : ∀ (n : Nat) (E : Nat → Nat), pE op sd f E → pE op sd f (itE op sd n E) := by
  intro n
  induction n with
  | zero => intro E h; exact h
  | succ n ih => intro E h; exact ih _ (pE_f sd E (fun _ h => h) h)
theorem pE_0 {op : Nat → Bool} {sd : List NS} {f : Nat} : pE op sd f (E0 f) := by
  refine ⟨by unfold E0; rw [if_pos rfl], ?_⟩
  intro v
  unfold E0
  refine ⟨by split <;> simp [eI], ?_⟩
  intro hv hf
  rw [if_neg hv] at hf
  omega
/-- nodes at 12 and behind are never reached -/
theorem fE_12 {op : Nat → Bool} : ∀ (sd : List NS) (E : Nat → Nat) (v : Nat), (∀ s, s ∈ sd → s.2.1 < 12) → 12 ≤ v → sd.foldl (rE op) E v = E v := by
  intro sd
  induction sd with
  | nil => intro E v _ _; rfl
  | cons s sd ih =>
    intro E v hs hv
    rw [List.foldl_cons, ih _ v (fun r hr => hs r (List.mem_cons_of_mem _ hr)) hv]
    unfold rE
    split
    · show (if v = s.2.1 then _ else _) = _
      rw [if_neg (by have := hs s (List.mem_cons_self ..); omega)]
    · rfl
def smE (E : Nat → Nat) : Nat := ((List.range 12).map E).sum
theorem sum_le {E F : Nat → Nat} : ∀ (l : List Nat), (∀ v, v ∈ l → F v ≤ E v) → (l.map F).sum ≤ (l.map E).sum := by
  intro l
  induction l with
  | nil => intro _; exact Nat.le_refl _
  | cons x l ih =>
    intro h
    have h1 := h x (List.mem_cons_self ..)
    have h2 := ih (fun v hv => h v (List.mem_cons_of_mem _ hv))
    simp only [List.map_cons, List.sum_cons]
    omega
theorem sum_lt {E F : Nat → Nat} : ∀ (l : List Nat), (∀ v, v ∈ l → F v ≤ E v) → (∃ v, v ∈ l ∧ F v < E v) → (l.map F).sum < (l.map E).sum := by
  intro l
  induction l with
  | nil => rintro _ ⟨v, hv, _⟩; cases hv
  | cons x l ih =>
    rintro h ⟨v, hv, hl⟩
    have h1 := h x (List.mem_cons_self ..)
    have h2 := sum_le l (fun v hv => h v (List.mem_cons_of_mem _ hv))
    simp only [List.map_cons, List.sum_cons]
    rcases List.mem_cons.1 hv with e | e
    · subst e; omega
    · have := ih (fun v hv => h v (List.mem_cons_of_mem _ hv)) ⟨v, e, hl⟩
      omega
theorem dE_stop {op : Nat → Bool} {sd : List NS} (h12 : ∀ s, s ∈ sd → s.2.1 < 12) (E : Nat → Nat) (hne : ¬ rdE op sd E = E) : smE (rdE op sd E) < smE E := by
  apply sum_lt
  · intro v _; exact rdE_le E v
  · apply Classical.byContradiction
    intro hx
    apply hne
    funext v
    by_cases c : v < 12
    · have h1 := rdE_le (op := op) (sd := sd) E v
      have : ¬ rdE op sd E v < E v := fun z => hx ⟨v, List.mem_range.2 c, z⟩
      omega
    · exact fE_12 sd E v h12 (by omega)
theorem itE_fix {op : Nat → Bool} {sd : List NS} {E : Nat → Nat} (h : rdE op sd E = E) : ∀ n, itE op sd n E = E := by
  intro n
  induction n with
  | zero => rfl
  | succ n ih => rw [itE, h, ih]
theorem itE_succ {op : Nat → Bool} {sd : List NS} {n : Nat} {E : Nat → Nat} : itE op sd (n + 1) E = rdE op sd (itE op sd n E) := itE_add n 1 E
theorem dE_end {op : Nat → Bool} {sd : List NS} (h12 : ∀ s, s ∈ sd → s.2.1 < 12) : ∀ (m : Nat) (E : Nat → Nat), smE E ≤ m → rdE op sd (itE op sd m E) = itE op sd m E := by
  intro m
  induction m with
  | zero =>
    intro E hE
    apply Classical.byContradiction
    intro hx
    have := dE_stop h12 E hx
    omega
  | succ m ih =>
    intro E hE
    by_cases c : rdE op sd E = E
    · rw [itE_fix c]; exact c
    · rw [itE]
      exact ih _ (by have := dE_stop h12 E c; omega)
theorem cnt_lt {p q : Nat → Bool} : ∀ (l : List Nat), (∀ v, v ∈ l → p v = true → q v = true) → (∃ v, v ∈ l ∧ p v = false ∧ q v = true) → l.countP p < l.countP q := by
  intro l
  induction l with
  | nil => rintro _ ⟨v, hv, _⟩; cases hv
  | cons x l ih =>
    rintro h ⟨v, hv, h1, h2⟩
    have h3 : l.countP p ≤ l.countP q := List.countP_mono_left (fun v hv => h v (List.mem_cons_of_mem _ hv))
    have hx := h x (List.mem_cons_self ..)
    rw [List.countP_cons, List.countP_cons]
    rcases List.mem_cons.1 hv with e | e
    · subst e
      rw [h1, h2]; simp only [if_true, Bool.false_eq_true, if_false]; omega
    · have := ih (fun v hv => h v (List.mem_cons_of_mem _ hv)) ⟨v, e, h1, h2⟩
      cases hp : p x
      · simp only [Bool.false_eq_true, if_false]; omega
      · rw [hx hp]; simp only [if_true]; omega
/-- a least one of those that have the property -/
theorem least {P : Nat → Prop} {k : Nat → Nat} : ∀ (n : Nat) (v : Nat), P v → k v ≤ n → ∃ u, P u ∧ ∀ w, P w → k u ≤ k w := by
  intro n
  induction n with
  | zero => intro v hv hn; exact ⟨v, hv, fun w _ => by omega⟩
  | succ n ih =>
    intro v hv hn
    by_cases c : ∃ w, P w ∧ k w < k v
    · obtain ⟨w, h1, h2⟩ := c
      exact ih w h1 (by omega)
    · exact ⟨v, hv, fun w hw => by
        apply Classical.byContradiction
        intro z
        exact c ⟨w, hw, by omega⟩⟩
theorem dE_grow {op : Nat → Bool} {sd : List NS} {f : Nat} (h12 : ∀ s, s ∈ sd → s.1 < 12 ∧ s.2.1 < 12 ∧ 1 ≤ s.2.2) (N k : Nat) (hk : k ≤ N) (hN : rdE op sd (itE op sd N (E0 f)) = itE op sd N (E0 f)) : itE op sd k (E0 f) = itE op sd N (E0 f) ∨ k < (List.range 12).countP (fun v => decide (itE op sd k (E0 f) v = itE op sd N (E0 f) v)) ∨ (12 ≤ f) := by
  induction k with
  | zero =>
    by_cases c : f < 12
    · right; left
      apply List.countP_pos_iff.2
      refine ⟨f, List.mem_range.2 c, ?_⟩
      rw [decide_eq_true_iff]
      have h1 := (pE_it (op := op) (sd := sd) N _ (pE_0 (f := f))).1
      have h2 := (pE_it (op := op) (sd := sd) 0 _ (pE_0 (f := f))).1
      rw [h1, h2]
    · right; right; omega
  | succ k ih =>
    rcases ih (by omega) with e | e | e
    · left
      rw [itE_succ, e, hN]
    · by_cases c : itE op sd (k + 1) (E0 f) = itE op sd N (E0 f)
      · exact Or.inl c
      right; left
      refine Nat.lt_of_le_of_lt (Nat.succ_le_of_lt e) ?_
      have hle : ∀ v, itE op sd N (E0 f) v ≤ itE op sd (k + 1) (E0 f) v := by
        intro v
        rw [show N = (k + 1) + (N - (k + 1)) by omega, itE_add]
        exact itE_le _ _ v
      have hle2 : ∀ v, itE op sd (k + 1) (E0 f) v ≤ itE op sd k (E0 f) v := by
        intro v
        rw [itE_succ]
        exact rdE_le _ v
      have hpN := pE_it (op := op) (sd := sd) N _ (pE_0 (f := f))
      have hpk := pE_it (op := op) (sd := sd) k _ (pE_0 (f := f))
      have hv : ∃ v, ¬ itE op sd k (E0 f) v = itE op sd N (E0 f) v := by
        apply Classical.byContradiction
        intro z
        apply c
        funext v
        have h1 := hle v
        have h2 := hle2 v
        have h3 : itE op sd k (E0 f) v = itE op sd N (E0 f) v := by
          apply Classical.byContradiction
          intro y; exact z ⟨v, y⟩
        omega
      obtain ⟨v0, hv0⟩ := hv
      obtain ⟨v, hv, hmin⟩ := least (P := fun v => ¬ itE op sd k (E0 f) v = itE op sd N (E0 f) v) (k := itE op sd N (E0 f)) _ v0 hv0 (Nat.le_refl _)
      have hf : itE op sd N (E0 f) v < eI := by
        have h1 := (hpk.2 v).1
        have h2 := hle v
        have h3 := hle2 v
        omega
      have hvf : v ≠ f := by
        intro z
        apply hv
        rw [z, hpN.1, hpk.1]
      obtain ⟨s, hs, h2, h3, h4⟩ := (hpN.2 v).2 hvf hf
      have h5 := h12 s hs
      have h6 : itE op sd k (E0 f) s.1 = itE op sd N (E0 f) s.1 := by
        apply Classical.byContradiction
        intro z
        have := hmin s.1 z
        omega
      have h7 : itE op sd (k + 1) (E0 f) v ≤ itE op sd k (E0 f) s.1 + s.2.2 := by
        rw [itE_succ, ← h2]
        refine fE_obey sd _ s hs (by rw [h2]; exact h3) ?_
        have a := hle s.1
        have b := hle2 s.1
        rw [itE_succ] at a b
        change rdE op sd (itE op sd k (E0 f)) s.1 = _
        omega
      apply cnt_lt
      · intro u _ hu
        rw [decide_eq_true_iff] at hu ⊢
        have a := hle u
        have b := hle2 u
        omega
      · refine ⟨v, List.mem_range.2 (by omega), ?_, ?_⟩
        · rw [decide_eq_false_iff_not]; exact hv
        · rw [decide_eq_true_iff]
          have a := hle v
          omega
    · exact Or.inr (Or.inr e)
theorem dE_11 {op : Nat → Bool} {sd : List NS} {f : Nat} (hf : f < 12) (h12 : ∀ s, s ∈ sd → s.1 < 12 ∧ s.2.1 < 12 ∧ 1 ≤ s.2.2) : rdE op sd (itE op sd 11 (E0 f)) = itE op sd 11 (E0 f) := by
  have hN := dE_end (op := op) (sd := sd) (fun s hs => (h12 s hs).2.1) (smE (E0 f) + 11) (E0 f) (by omega)
  have := dE_grow h12 (smE (E0 f) + 11) 11 (by omega) hN
  rcases this with e | e | e
  · rw [e]; exact hN
  · have h1 : itE op sd 11 (E0 f) = itE op sd (smE (E0 f) + 11) (E0 f) := by
      have hl : (List.range 12).countP (fun v => decide (itE op sd 11 (E0 f) v = itE op sd (smE (E0 f) + 11) (E0 f) v)) = (List.range 12).length := by
        have := List.countP_le_length (p := fun v => decide (itE op sd 11 (E0 f) v = itE op sd (smE (E0 f) + 11) (E0 f) v)) (l := List.range 12)
        rw [List.length_range] at this ⊢
        omega
      rw [List.countP_eq_length] at hl
      funext v
      by_cases c : v < 12
      · have := hl v (List.mem_range.2 c)
        rw [decide_eq_true_iff] at this
        exact this
      · have h3 : ∀ n (E : Nat → Nat), itE op sd n E v = E v := by
          intro n
          induction n with
          | zero => intro E; rfl
          | succ n ih => intro E; rw [itE, ih]; exact fE_12 sd E v (fun s hs => (h12 s hs).2.1) (by omega)
        rw [h3, h3]
    rw [h1]; exact hN
  · omega
