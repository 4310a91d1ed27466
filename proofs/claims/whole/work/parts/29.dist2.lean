/-! THE KEPT DISTANCES ARE THE SHORTEST WAYS -/
def e2i (e : Nat) : Int32 := if e < eI then Int32.ofNat e else -1
def cvS (s : NS) : SD := (Int32.ofNat s.1, Int32.ofNat s.2.1, Int32.ofNat s.2.2)
def sidesN : List NS → List NS
  | [] => []
  | x :: xs => (x.1, x.2.1, x.2.2) :: (x.2.1, x.1, x.2.2) :: sidesN xs
theorem sides_map : ∀ (dn : List NS), sides (dn.map cvS) = (sidesN dn).map cvS := by
  intro dn
  induction dn with
  | nil => rfl
  | cons x xs ih => rw [List.map_cons, sides, ih]; rfl
def dnOK (dn : List NS) : Prop := ∀ s, s ∈ dn → s.1 < 12 ∧ s.2.1 < 12 ∧ 1 ≤ s.2.2 ∧ s.2.2 ≤ 200
theorem sidesN_ok : ∀ (dn : List NS), dnOK dn → dnOK (sidesN dn) := by
  intro dn
  induction dn with
  | nil => intro _ s h; cases h
  | cons x xs ih =>
    intro h s hs
    have hx := h x (List.mem_cons_self ..)
    rw [sidesN] at hs
    rcases List.mem_cons.1 hs with e | e
    · subst e; exact hx
    · rcases List.mem_cons.1 e with e | e
      · subst e; exact ⟨hx.2.1, hx.1, hx.2.2⟩
      · exact ih (fun r hr => h r (List.mem_cons_of_mem _ hr)) s e
theorem sidesN_len : ∀ (dn : List NS), (sidesN dn).length = 2 * dn.length := by
  intro dn
  induction dn with
  | nil => rfl
  | cons x xs ih => rw [sidesN, List.length_cons, List.length_cons, List.length_cons, ih]; omega
def opE (o : Int32) (b : Nat) : Bool := bt o (Int32.ofNat b)
/-- the row f of the list L holds the distances E, which are less than m (or none) -/
def dR (L : List Int32) (f : Nat) (E : Nat → Nat) (m : Nat) : Prop := L.length = 144 ∧ ∀ r, r < 12 → (E r ≤ m ∨ E r = eI) ∧ lg L (Int32.ofNat (12 * f + r)) = e2i (E r)
theorem e2i_neg {e : Nat} (h : e ≤ eI) : (e2i e < 0) = (e = eI) := by
  unfold e2i eI at *
  apply propext
  split
  · next c =>
    rw [i_lt, i_of_i (by omega), i_z]; omega
  · next c => exact ⟨fun _ => by omega, fun _ => by decide⟩
theorem ls_get {L : List Int32} {i j : Nat} {x : Int32} (hi : i < L.length) (hL : L.length ≤ 1000000) (hj : j ≤ 1000000) : lg (ls L (Int32.ofNat i) x) (Int32.ofNat j) = if j = i then x else lg L (Int32.ofNat j) := by
  rw [ls_of (by omega), lg_of hj, lg_of hj, List.getD_eq_getElem?_getD, List.getElem?_set]
  by_cases c : i = j
  · subst c; rw [if_pos rfl, if_pos hi, if_pos rfl]; rfl
  · rw [if_neg c, if_neg (fun e => c e.symm), ← List.getD_eq_getElem?_getD]
theorem rlx_E {L : List Int32} {f m : Nat} {E : Nat → Nat} {fl : Bool} {o : Int32} {s : NS} (hf : f < 12) (hs : s.1 < 12 ∧ s.2.1 < 12 ∧ 1 ≤ s.2.2 ∧ s.2.2 ≤ 200) (hm : m + 200 < eI) (h : dR L f E m) :
    dR (rlx o (Int32.ofNat (12 * f)) (L, fl) (cvS s)).1 f (rE (opE o) E s) (m + 200) ∧ (rlx o (Int32.ofNat (12 * f)) (L, fl) (cvS s)).2 = (fl || decide (opE o s.2.1 = true ∧ E s.1 + s.2.2 < E s.2.1)) ∧ (∀ i, i < 144 → (i < 12 * f ∨ 12 * f + 12 ≤ i) → lg (rlx o (Int32.ofNat (12 * f)) (L, fl) (cvS s)).1 (Int32.ofNat i) = lg L (Int32.ofNat i)) := by
  have ha := h.2 s.1 hs.1
  have hb := h.2 s.2.1 hs.2.1
  have hmono : dR L f E (m + 200) := ⟨h.1, fun r hr => ⟨by have := (h.2 r hr).1; omega, (h.2 r hr).2⟩⟩
  rw [rlx_eq]
  simp only [cvS, i_addof, ha.2, hb.2]
  simp only [e2i_neg (show E s.1 ≤ eI by unfold eI at *; omega), e2i_neg (show E s.2.1 ≤ eI by unfold eI at *; omega)]
  by_cases c1 : E s.1 = eI
  · rw [if_pos c1]
    have n : ¬ (opE o s.2.1 = true ∧ E s.1 + s.2.2 < E s.2.1) := by rw [c1]; unfold eI at *; omega
    rw [rE, if_neg n]
    exact ⟨hmono, by simp [n], fun _ _ _ => rfl⟩
  rw [if_neg c1]
  by_cases c2 : bt o (Int32.ofNat s.2.1) = false
  · rw [if_pos c2]
    have n : ¬ (opE o s.2.1 = true ∧ E s.1 + s.2.2 < E s.2.1) := by unfold opE; rw [c2]; rintro ⟨z, _⟩; cases z
    rw [rE, if_neg n]
    exact ⟨hmono, by simp [n], fun _ _ _ => rfl⟩
  rw [if_neg c2]
  have c2' : opE o s.2.1 = true := by unfold opE; cases h : bt o (Int32.ofNat s.2.1) <;> simp_all
  have ea : e2i (E s.1) = Int32.ofNat (E s.1) := by unfold e2i; rw [if_pos (by unfold eI at *; omega)]
  have hE1 : E s.1 ≤ m := by omega
  have c3 : (E s.2.1 = eI ∨ e2i (E s.1) + Int32.ofNat s.2.2 < e2i (E s.2.1)) ↔ (opE o s.2.1 = true ∧ E s.1 + s.2.2 < E s.2.1) := by
    rw [ea, i_addof]
    constructor
    · rintro (z | z)
      · exact ⟨c2', by rw [z]; omega⟩
      · refine ⟨c2', ?_⟩
        unfold e2i at z
        split at z
        · rw [i_oflt (by unfold eI at *; omega) (by unfold eI at *; omega)] at z; exact z
        · unfold eI at *; omega
    · rintro ⟨_, z⟩
      by_cases c : E s.2.1 = eI
      · exact Or.inl c
      · right
        unfold e2i
        rw [if_pos (by unfold eI at *; omega), i_oflt (by unfold eI at *; omega) (by unfold eI at *; omega)]
        exact z
  by_cases c4 : opE o s.2.1 = true ∧ E s.1 + s.2.2 < E s.2.1
  · rw [if_pos (c3.2 c4), rE, if_pos c4]
    refine ⟨⟨by rw [ls_len]; exact h.1, ?_⟩, by simp [c4], ?_⟩
    · intro r hr
      rw [ls_get (by rw [h.1]; omega) (by rw [h.1]; omega) (by omega)]
      show ((if r = s.2.1 then E s.1 + s.2.2 else E r) ≤ _ ∨ (if r = s.2.1 then E s.1 + s.2.2 else E r) = _) ∧ _ = e2i (if r = s.2.1 then E s.1 + s.2.2 else E r)
      by_cases c : r = s.2.1
      · rw [if_pos c, if_pos (by omega)]
        refine ⟨by omega, ?_⟩
        rw [ea, i_addof]; unfold e2i; rw [if_pos (by unfold eI at *; omega)]
      · rw [if_neg c, if_neg (by omega)]
        exact ⟨by have := (h.2 r hr).1; omega, (h.2 r hr).2⟩
    · intro i hi hr
      rw [ls_get (by rw [h.1]; omega) (by rw [h.1]; omega) (by omega), if_neg (by omega)]
  · rw [if_neg (fun z => c4 (c3.1 z)), rE, if_neg c4]
    exact ⟨hmono, by simp [c4], fun _ _ _ => rfl⟩
theorem rlxs_E {f : Nat} {o : Int32} (hf : f < 12) : ∀ (xs : List NS) (L : List Int32) (E : Nat → Nat) (m : Nat) (fl : Bool), dnOK xs → m + 200 * xs.length < eI → dR L f E m →
    dR ((xs.map cvS).foldl (rlx o (Int32.ofNat (12 * f))) (L, fl)).1 f (xs.foldl (rE (opE o)) E) (m + 200 * xs.length) ∧ (((xs.map cvS).foldl (rlx o (Int32.ofNat (12 * f))) (L, fl)).2 = true ↔ fl = true ∨ ¬ xs.foldl (rE (opE o)) E = E) ∧ (∀ i, i < 144 → (i < 12 * f ∨ 12 * f + 12 ≤ i) → lg ((xs.map cvS).foldl (rlx o (Int32.ofNat (12 * f))) (L, fl)).1 (Int32.ofNat i) = lg L (Int32.ofNat i)) := by
  intro xs
  induction xs with
  | nil => intro L E m fl _ _ h; exact ⟨h, by simp, fun _ _ _ => rfl⟩
  | cons s xs ih =>
    intro L E m fl hx hm h
    rw [List.length_cons] at hm
    have h1 := rlx_E (o := o) (fl := fl) hf (hx s (List.mem_cons_self ..)) (by omega) h
    simp only [List.map_cons, List.foldl_cons]
    have e : rlx o (Int32.ofNat (12 * f)) (L, fl) (cvS s) = ((rlx o (Int32.ofNat (12 * f)) (L, fl) (cvS s)).1, (rlx o (Int32.ofNat (12 * f)) (L, fl) (cvS s)).2) := rfl
    rw [e]
    have h2 := ih _ _ _ (rlx o (Int32.ofNat (12 * f)) (L, fl) (cvS s)).2 (fun r hr => hx r (List.mem_cons_of_mem _ hr)) (by omega) h1.1
    rw [List.length_cons, show m + 200 * (xs.length + 1) = m + 200 + 200 * xs.length by omega]
    refine ⟨h2.1, ?_, fun i hi hr => (h2.2.2 i hi hr).trans (h1.2.2 i hi hr)⟩
    rw [h2.2.1, h1.2.1]
    by_cases c : opE o s.2.1 = true ∧ E s.1 + s.2.2 < E s.2.1
    · have : ¬ xs.foldl (rE (opE o)) (rE (opE o) E s) = E := by
        intro z
        have a := fE_le (op := opE o) xs (rE (opE o) E s) s.2.1
        rw [z] at a
        have b : rE (opE o) E s s.2.1 = E s.1 + s.2.2 := by unfold rE; rw [if_pos c]; show (if _ then _ else _) = _; rw [if_pos rfl]
        omega
      simp [c, this]
    · have : rE (opE o) E s = E := by unfold rE; rw [if_neg c]
      rw [this]
      simp [c]
theorem rnds_E {f : Nat} {o : Int32} {dn : List NS} (hf : f < 12) (hd : dnOK dn) (hn : dn.length ≤ 24) : ∀ (n : Nat) (L : List Int32) (E : Nat → Nat) (m : Nat), m + 9600 * n < eI → dR L f E m →
    (∃ m', dR (rnds o (Int32.ofNat (12 * f)) (dn.map cvS) n L) f (itE (opE o) (sidesN dn) n E) m') ∧ (∀ i, i < 144 → (i < 12 * f ∨ 12 * f + 12 ≤ i) → lg (rnds o (Int32.ofNat (12 * f)) (dn.map cvS) n L) (Int32.ofNat i) = lg L (Int32.ofNat i)) := by
  intro n
  induction n with
  | zero => intro L E m _ h; exact ⟨⟨m, h⟩, fun _ _ _ => rfl⟩
  | succ n ih =>
    intro L E m hm h
    have hl := sidesN_len dn
    have h1 := rlxs_E (o := o) hf (sidesN dn) L E m false (sidesN_ok dn hd) (by omega) h
    rw [rnds]
    unfold rnd
    rw [sides_map]
    by_cases c : (((sidesN dn).map cvS).foldl (rlx o (Int32.ofNat (12 * f))) (L, false)).2 = true
    · rw [if_pos c]
      have h2 := ih _ _ _ (by omega) h1.1
      exact ⟨h2.1, fun i hi hr => (h2.2 i hi hr).trans (h1.2.2 i hi hr)⟩
    · rw [if_neg c]
      have e : rdE (opE o) (sidesN dn) E = E := by
        apply Classical.byContradiction
        intro z
        exact c (h1.2.1.2 (Or.inr z))
      rw [itE_fix e]
      refine ⟨⟨m + 200 * (sidesN dn).length, ?_⟩, h1.2.2⟩
      have h3 := h1.1
      change dR _ f (rdE (opE o) (sidesN dn) E) _ at h3
      rw [e] at h3
      exact h3
theorem msr0_E {f : Nat} (hf : f < 12) : ∀ (n i : Nat) (L : List Int32), i + n = 12 → L.length = 144 → (∀ r, r < i → lg L (Int32.ofNat (12 * f + r)) = e2i (E0 f r)) → dR (msr0 (Int32.ofNat (12 * f)) (Int32.ofNat f) n i L) f (E0 f) 0 ∧ (∀ j, j < 144 → (j < 12 * f ∨ 12 * f + 12 ≤ j) → lg (msr0 (Int32.ofNat (12 * f)) (Int32.ofNat f) n i L) (Int32.ofNat j) = lg L (Int32.ofNat j)) := by
  intro n
  induction n with
  | zero =>
    intro i L hi hL h
    refine ⟨⟨hL, fun r hr => ⟨?_, h r (by omega)⟩⟩, fun _ _ _ => rfl⟩
    unfold E0
    split
    · left; omega
    · right; rfl
  | succ n ih =>
    intro i L hi hL h
    rw [msr0, i_addof]
    have h1 := ih (i + 1) (ls L (Int32.ofNat (12 * f + i)) (if Int32.ofNat i = Int32.ofNat f then 0 else -1)) (by omega) (by rw [ls_len]; exact hL) ?_
    · refine ⟨h1.1, fun j hj hr => (h1.2 j hj hr).trans ?_⟩
      rw [ls_get (by omega) (by omega) (by omega), if_neg (by omega)]
    · intro r hr
      rw [ls_get (by omega) (by omega) (by omega)]
      by_cases c : r = i
      · rw [if_pos (by omega)]
        simp only [i_ofeq (show i ≤ 1000000 by omega) (show f ≤ 1000000 by omega)]
        subst c
        unfold E0
        by_cases c2 : r = f
        · rw [if_pos c2, if_pos c2]; rfl
        · rw [if_neg c2, if_neg c2]; rfl
      · rw [if_neg (by omega)]
        exact h r (by omega)
/-- the steps of the shortest way -/
def wD (dn : List NS) (o : Int32) (f to : Nat) : Int32 := e2i (itE (opE o) (sidesN dn) 11 (E0 f) to)
theorem wD_12 {dn : List NS} {o : Int32} {f to n : Nat} (hf : f < 12) (hd : dnOK dn) (hn : 11 ≤ n) : itE (opE o) (sidesN dn) n (E0 f) to = itE (opE o) (sidesN dn) 11 (E0 f) to := by
  have h := dE_11 (op := opE o) (sd := sidesN dn) hf (fun s hs => by have := sidesN_ok dn hd s hs; exact ⟨this.1, this.2.1, this.2.2.1⟩)
  rw [show n = 11 + (n - 11) by omega, itE_add, itE_fix h]
theorem msr_E {f : Nat} {o : Int32} {dn : List NS} {L : List Int32} (hf : f < 12) (hd : dnOK dn) (hn : dn.length ≤ 24) (hL : L.length = 144) : (msr o (Int32.ofNat f) (dn.map cvS) L).length = 144 ∧ (∀ r, r < 12 → lg (msr o (Int32.ofNat f) (dn.map cvS) L) (Int32.ofNat (12 * f + r)) = wD dn o f r) ∧ (∀ i, i < 144 → (i < 12 * f ∨ 12 * f + 12 ≤ i) → lg (msr o (Int32.ofNat f) (dn.map cvS) L) (Int32.ofNat i) = lg L (Int32.ofNat i)) := by
  have e : Int32.ofNat f * 12 = Int32.ofNat (12 * f) := by rw [show (12 : Int32) = Int32.ofNat 12 from rfl, i_mulof, Nat.mul_comm]
  have h1 := msr0_E hf 12 0 L (by omega) hL (fun r hr => by omega)
  have h2 := rnds_E (o := o) hf hd hn 12 _ _ 0 (by unfold eI; omega) h1.1
  unfold msr
  rw [e]
  obtain ⟨⟨m, h3⟩, h4⟩ := h2
  refine ⟨h3.1, fun r hr => ?_, fun i hi hr => (h4 i hi hr).trans (h1.2 i hi hr)⟩
  rw [(h3.2 r hr).2, wD_12 hf hd (by omega)]
  rfl
/-- what is kept is right -/
def qOK (dn : List NS) (q : Int32 × Int32 × List Int32) : Prop := q.2.2.length = 144 ∧ ∀ f, f < 12 → bt q.2.1 (Int32.ofNat f) = true → ∀ r, r < 12 → lg q.2.2 (Int32.ofNat (12 * f + r)) = wD dn q.1 f r
theorem stp_E {dn : List NS} {cl : List CL} {f to : Nat} {s : Int32} {q : Int32 × Int32 × List Int32} (hf : f < 12) (ht : to < 12) (hd : dnOK dn) (hn : dn.length ≤ 24) (hq : qOK dn q) : (stp cl (dn.map cvS) (Int32.ofNat f) (Int32.ofNat to) s q).1 = wD dn (cOpen cl s) f to ∧ qOK dn (stp cl (dn.map cvS) (Int32.ofNat f) (Int32.ofNat to) s q).2 := by
  unfold stp
  simp only [i_ofeq (show f ≤ 1000000 by omega) (show to ≤ 1000000 by omega)]
  by_cases c : f = to
  · rw [if_pos c]
    refine ⟨?_, hq⟩
    subst c
    have := (pE_it (op := opE (cOpen cl s)) (sd := sidesN dn) 11 _ (pE_0 (f := f))).1
    unfold wD
    rw [this]; rfl
  rw [if_neg c]
  dsimp only
  have e : Int32.ofNat f * 12 + Int32.ofNat to = Int32.ofNat (12 * f + to) := by rw [show (12 : Int32) = Int32.ofNat 12 from rfl, i_mulof, i_addof, Nat.mul_comm]
  rw [e]
  have hm := msr_E (o := cOpen cl s) hf hd hn hq.1
  have key : ∀ m, (∀ g, g < 12 → bt m (Int32.ofNat g) = true → ∀ r, r < 12 → lg q.2.2 (Int32.ofNat (12 * g + r)) = wD dn (cOpen cl s) g r) → lg (if m >>> (Int32.ofNat f &&& 31) &&& 1 = 0 then (cOpen cl s, m ||| 1 <<< (Int32.ofNat f &&& 31), msr (cOpen cl s) (Int32.ofNat f) (dn.map cvS) q.2.2) else (cOpen cl s, m, q.2.2) : Int32 × Int32 × List Int32).2.2 (Int32.ofNat (12 * f + to)) = wD dn (cOpen cl s) f to ∧ qOK dn (if m >>> (Int32.ofNat f &&& 31) &&& 1 = 0 then (cOpen cl s, m ||| 1 <<< (Int32.ofNat f &&& 31), msr (cOpen cl s) (Int32.ofNat f) (dn.map cvS) q.2.2) else (cOpen cl s, m, q.2.2)) := by
    intro m h
    by_cases c1 : m >>> (Int32.ofNat f &&& 31) &&& 1 = 0
    · rw [if_pos c1]
      refine ⟨hm.2.1 to ht, hm.1, ?_⟩
      intro g hg hb r hr
      dsimp only at hb ⊢
      by_cases c2 : g = f
      · subst c2; exact hm.2.1 r hr
      · rw [hm.2.2 _ (by omega) (by omega)]
        refine h g hg ?_ r hr
        rw [bt_or (by omega) (by omega)] at hb
        simpa [c2] using hb
    · rw [if_neg c1]
      exact ⟨h f hf (by unfold bt; simp [c1]) to ht, hq.1, h⟩
  by_cases c2 : cOpen cl s = q.1
  · simp only [if_pos c2]
    refine key q.2.1 (fun g hg hb r hr => ?_)
    rw [c2]; exact hq.2 g hg hb r hr
  · simp only [if_neg c2]
    refine key 0 (fun g hg hb => ?_)
    rw [bt_zero (by omega)] at hb; cases hb
