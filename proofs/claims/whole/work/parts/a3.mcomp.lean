/-! COMPOSING: WHAT IT NEEDS -/
theorem st_128 : sT 128 sHd := ⟨by decide, by decide +kernel, by decide, by decide +kernel, 129, by decide, by decide, by decide +kernel, by decide +kernel, by decide +kernel⟩
theorem st_130 : sT 130 sGo := ⟨by decide, by decide +kernel, by decide, by decide +kernel, 131, by decide, by decide, by decide +kernel, by decide +kernel, by decide +kernel⟩
theorem st_132 : sT 132 sPl := ⟨by decide, by decide +kernel, by decide, by decide +kernel, 133, by decide, by decide, by decide +kernel, by decide +kernel, by decide +kernel⟩
theorem st_134 : sT 134 sEn := ⟨by decide, by decide +kernel, by decide, by decide +kernel, 135, by decide, by decide, by decide +kernel, by decide +kernel, by decide +kernel⟩
theorem st_136 : sT 136 sFt := ⟨by decide, by decide +kernel, by decide, by decide +kernel, 137, by decide, by decide, by decide +kernel, by decide +kernel, by decide +kernel⟩
theorem nmF_eq {N : List (List Int32)} {q : Nat} {x : List Int32} (hw : w10 N) (hq : q < N.length) (hn : N.length ≤ 100) (hx : N.getD q [] = x) : ∀ (n i : Nat), i + n = 10 → nmF N.flatten (Int32.ofNat q) n i = (x.drop i).filter (fun y => !decide (y = 0)) := by
  have hl : x.length = 10 := by
    rw [← hx, List.getD_eq_getElem?_getD, List.getElem?_eq_getElem hq]
    exact hw _ (List.getElem_mem hq)
  intro n
  induction n with
  | zero => intro i e; rw [nmF, List.drop_eq_nil_of_le (by omega)]; rfl
  | succ n ih =>
    intro i e
    have eg : lg N.flatten (Int32.ofNat q * 10 + Int32.ofNat i) = x.getD i 0 := by
      rw [show (10 : Int32) = Int32.ofNat 10 from rfl, i_mulof, i_addof, lg_of (by omega), Nat.mul_comm, fl_get N q i hw hq (by omega), hx]
    have ed : x.drop i = x.getD i 0 :: x.drop (i + 1) := by
      rw [List.drop_eq_getElem_cons (by omega), List.getD_eq_getElem?_getD, List.getElem?_eq_getElem (by omega)]; rfl
    rw [nmF, eg, ed, List.filter_cons, ih (i + 1) (by omega)]
    by_cases c : x.getD i 0 = 0
    · rw [if_pos c, if_neg (by rw [decide_eq_true c]; decide)]
    · rw [if_neg c, if_pos (by rw [decide_eq_false c]; decide)]
theorem nm_write {N : List (List Int32)} {q : Nat} {w : Int64} (hw : w10 N) (hq : q < N.length) (hn : N.length ≤ 100) (h : nmOK (N.getD q []) w) : ∃ l : List Int32, (∀ y, y ∈ l → isLD y = true) ∧ l.length ≤ 10 ∧ nmF N.flatten (Int32.ofNat q) 10 0 = l ∧ w = wdL l 0 := by
  obtain ⟨l, h1, h2, h3, h4, h5⟩ := h
  refine ⟨l, h1, h3, ?_, h5⟩
  rw [nmF_eq hw hq hn h4 10 0 (by omega), List.drop_zero, List.filter_append]
  have a : l.filter (fun y => !decide (y = 0)) = l := by
    rw [List.filter_eq_self]
    intro y hy
    have n0 : ¬ isLD 0 = true := by decide
    have hy1 := h1 y hy
    rw [decide_eq_false (show ¬ y = 0 from fun z => by rw [z] at hy1; exact n0 hy1)]; rfl
  have b : (List.replicate (10 - l.length) (0 : Int32)).filter (fun y => !decide (y = 0)) = [] := by
    rw [List.filter_eq_nil_iff]
    intro y hy
    rw [(List.mem_replicate.mp hy).2]
    decide
  rw [a, b, List.append_nil]
theorem laN_ok {n : Nat} : ∀ (xs l : List Int32), l.length + xs.length ≤ n → laN n l xs = l ++ xs
  | [], l, _ => by rw [List.append_nil]; rfl
  | x :: xs, l, h => by
    rw [List.length_cons] at h
    have e : la n l x = l ++ [x] := la_ok (by omega)
    show laN n (la n l x) xs = _
    rw [e, laN_ok xs (l ++ [x]) (by rw [List.length_append, List.length_cons, List.length_nil]; omega), List.append_assoc]
    rfl
/-- a taken part ends later than one stood, and in time -/
theorem cTake_sec {K : VK} {E : EV} {p : Nat} {S : CS} {s x pc lim : Nat} (h : (cTake K E (Int32.ofNat p) S).1 = true) (hs : S.1 = Int32.ofNat s) (hs2 : s ≤ 200000) (hp : K.1 = Int32.ofNat pc) (hp1 : 1 ≤ pc) (hp9 : pc ≤ 1000) (hx : lg (E.2.2.1.map (·.2.1)) (Int32.ofNat p) = Int32.ofNat x) (hx1 : 1 ≤ x) (hx2 : x ≤ 900) (hl : K.2.2.2 = Int32.ofNat lim) (hl2 : lim ≤ 200000) :
    ∃ s', (cTake K E (Int32.ofNat p) S).2.1 = Int32.ofNat s' ∧ s < s' ∧ s' ≤ lim := by
  have big : ∀ n : Nat, n < 2147483648 → (Int32.ofNat n).toInt = n := fun n hn => Int32.toInt_ofNat_of_lt hn
  have t2 : ∀ (S' : CS) (s1 : Nat), S'.1 = Int32.ofNat s1 → s ≤ s1 → s1 ≤ 100000000 → (cTake2 K E (Int32.ofNat p) S').1 = true → ∃ s', (cTake2 K E (Int32.ofNat p) S').2.1 = Int32.ofNat s' ∧ s < s' ∧ s' ≤ lim := by
    intro S' s1 h1 h2 h3 h'
    obtain ⟨sec, room, ti, he, wo⟩ := S'
    unfold cTake2 at h' ⊢
    split at h'
    · next c =>
      rw [if_pos c]
      have e : (cHear E.2.2.1 (Int32.ofNat p) (sec, room, ti, he, wo)).1 = Int32.ofNat (s1 + x) := by
        show sec + lg (E.2.2.1.map (·.2.1)) (Int32.ofNat p) = _
        rw [show sec = Int32.ofNat s1 from h1, hx, i_addof]
      refine ⟨s1 + x, e, by omega, ?_⟩
      have := of_decide_eq_true h'
      rw [e, hl, i_le, big _ (by omega), big _ (by omega)] at this
      omega
    · cases h'
  unfold cTake at h ⊢
  split at h
  · next c => rw [if_pos c]; exact t2 S s hs (Nat.le_refl _) (by omega) h
  · next c =>
    rw [if_neg c]
    split at h
    · cases h
    · next c2 =>
      rw [if_neg c2]
      have hw : ∃ w, w ≤ 1000000 ∧ wC E S (lg (E.2.2.1.map (·.1)) (Int32.ofNat p)) = Int32.ofNat w := by
        unfold wC wD e2i at c2 ⊢
        split at c2
        · next y =>
          rw [if_pos y]
          have yy : itE (opE (cOpen E.1 S.1)) (sidesN E.2.1) 11 (E0 S.2.1.toNatClampNeg) (lg (E.2.2.1.map (·.1)) (Int32.ofNat p)).toNatClampNeg < 1000000 := y
          exact ⟨_, by omega, rfl⟩
        · exact absurd (show (-1 : Int32) < 0 by decide) c2
      obtain ⟨w, hw1, hw2⟩ := hw
      rw [hw2] at h ⊢
      obtain ⟨sec, room, ti, he, wo⟩ := S
      have hs' : sec = Int32.ofNat s := hs
      subst hs'
      have e12 : Int32.ofNat w * 12 = Int32.ofNat (w * 12) := by rw [show (12 : Int32) = Int32.ofNat 12 from rfl, i_mulof]
      have ed : Int32.ofNat (w * 12) / Int32.ofNat pc = Int32.ofNat (w * 12 / pc) := by
        apply Int32.toInt_inj.mp
        rw [Int32.toInt_div_of_ne_right _ _ (by
          intro z
          have := congrArg Int32.toInt z
          rw [big _ (by omega)] at this
          have e1 : (-1 : Int32).toInt = -1 := by decide
          omega), big _ (by omega), big _ (by omega), big _ (by have := Nat.div_le_self (w * 12) pc; omega), Int.tdiv_eq_ediv_of_nonneg (by omega)]
        rfl
      have hd := Nat.div_le_self (w * 12) pc
      have ec : ∃ s1, (cWalk K (Int32.ofNat w) (lg (E.2.2.1.map (·.1)) (Int32.ofNat p)) (Int32.ofNat s, room, ti, he, wo)).1 = Int32.ofNat s1 ∧ s ≤ s1 ∧ s1 ≤ 100000000 := by
        unfold cWalk
        dsimp only
        rw [e12, hp, ed, i_addof]
        generalize w * 12 / pc = z at hd ⊢
        split
        · exact ⟨s + z + 60, by rw [show (60 : Int32) = Int32.ofNat 60 from rfl, i_addof], by omega, by omega⟩
        · exact ⟨s + z, rfl, by omega, by omega⟩
      obtain ⟨s1, x1, x2, x3⟩ := ec
      exact t2 _ s1 x1 x2 x3 h
