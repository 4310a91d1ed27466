/-! THE REFERENCE SEARCHES -/
def psB (ps : List PT) (wN : Nat → Nat) : Prop := ps.length ≤ 16 ∧ ∀ p, p < ps.length → rOK12 (lg (ps.map (·.1)) (Int32.ofNat p)) ∧ lg (ps.map (·.2.2.1)) (Int32.ofNat p) = Int32.ofNat (wN p) ∧ wN p ≤ 99 ∧ ∃ x, 1 ≤ x ∧ x ≤ 900 ∧ lg (ps.map (·.2.1)) (Int32.ofNat p) = Int32.ofNat x
def hdN (he : Int32) (n : Nat) : Nat := (List.range n).countP (fun p => bt he (Int32.ofNat p))
theorem hdN_s {he : Int32} {n : Nat} : hdN he (n + 1) = hdN he n + (if bt he (Int32.ofNat n) = true then 1 else 0) := by
  unfold hdN
  rw [List.range_succ, List.countP_append, List.countP_cons, List.countP_nil]
  simp
theorem hdN_le {he : Int32} : ∀ n, hdN he n ≤ n
  | 0 => Nat.le_refl 0
  | n + 1 => by rw [hdN_s]; have := hdN_le (he := he) n; split <;> omega
theorem hdN_all {he : Int32} : ∀ n, hdN he n = n → ∀ p, p < n → bt he (Int32.ofNat p) = true
  | 0, _, p, h => by omega
  | n + 1, h, p, hp => by
    rw [hdN_s] at h
    have l := hdN_le (he := he) n
    by_cases c : bt he (Int32.ofNat n) = true
    · rw [if_pos c] at h
      by_cases e : p = n
      · rw [e]; exact c
      · exact hdN_all n (by omega) p (by omega)
    · rw [if_neg c] at h; omega
theorem hdN_or {he : Int32} {p : Nat} (hb : bt he (Int32.ofNat p) = false) : ∀ n, n ≤ 32 → p < 32 → hdN (he ||| 1 <<< (Int32.ofNat p &&& 31)) n = hdN he n + (if p < n then 1 else 0)
  | 0, _, _ => by rw [if_neg (by omega)]; rfl
  | n + 1, h, hp => by
    rw [hdN_s, hdN_s, hdN_or hb n (by omega) hp, bt_or hp (by omega)]
    by_cases c : n = p
    · subst c
      rw [hb, if_neg (Nat.lt_irrefl n), if_pos (show n < n + 1 by omega), decide_eq_true rfl]
      simp
    · rw [decide_eq_false c, Bool.or_false]
      by_cases c2 : p < n
      · rw [if_pos c2, if_pos (show p < n + 1 by omega)]; omega
      · rw [if_neg c2, if_neg (show ¬ p < n + 1 by omega)]; omega
theorem cTake_heard {K : VK} {E : EV} {p : Int32} {S : CS} (h : bt S.2.2.2.1 p = true) : (cTake K E p S).1 = false := by
  have t2 : ∀ S' : CS, bt S'.2.2.2.1 p = true → (cTake2 K E p S').1 = false := by
    intro S' h'
    unfold cTake2
    rw [if_neg]
    rintro ⟨_, z⟩
    unfold cCan sCan at z
    rw [h'] at z
    simp at z
  obtain ⟨sec, room, ti, he, wo⟩ := S
  unfold cTake
  split
  · exact t2 _ h
  · split
    · rfl
    · exact t2 _ (by rw [cWalk_p.2]; exact h)
/-- what a taken part does -/
theorem cTake_ok {K : VK} {E : EV} {p : Int32} {S : CS} (h : (cTake K E p S).1 = true) (h0 : ¬ K.2.1 < S.2.2.1) (hs : ¬ K.2.1 < 0) : bt S.2.2.2.1 p = false ∧ (cTake K E p S).2.2.2.2.1 = S.2.2.2.1 ||| 1 <<< (p &&& 31) ∧ (cTake K E p S).2.2.2.2.2 = S.2.2.2.2 + lg (E.2.2.1.map (·.2.2.1)) p ∧ ¬ K.2.1 < (cTake K E p S).2.2.2.1 ∧ (cTake K E p S).2.2.1 = lg (E.2.2.1.map (·.1)) p := by
  have hb : bt S.2.2.2.1 p = false := by
    cases hb : bt S.2.2.2.1 p
    · rfl
    · rw [cTake_heard hb] at h; cases h
  have t2 : ∀ S' : CS, (cTake2 K E p S').1 = true → (cTake2 K E p S').2.2.2.2.1 = S'.2.2.2.1 ||| 1 <<< (p &&& 31) ∧ (cTake2 K E p S').2.2.2.2.2 = S'.2.2.2.2 + lg (E.2.2.1.map (·.2.2.1)) p ∧ (cTake2 K E p S').2.2.2.1 = S'.2.2.1 ∧ (cTake2 K E p S').2.2.1 = S'.2.1 := by
    intro S' h'
    obtain ⟨sec, room, ti, he, wo⟩ := S'
    unfold cTake2 at h' ⊢
    split at h'
    · next c => rw [if_pos c]; exact ⟨rfl, rfl, rfl, rfl⟩
    · cases h'
  obtain ⟨sec, room, ti, he, wo⟩ := S
  refine ⟨hb, ?_⟩
  have half : ¬ K.2.1 < K.2.1 / 2 := by
    have hK : K.2.1 = Int32.ofNat K.2.1.toInt.toNat := by
      have := i_to (x := K.2.1) hs
      rw [i_cl] at this; exact this.symm
    have hlt := Int32.toInt_lt K.2.1
    have h231 : K.2.1.toInt.toNat < 2147483648 := by
      rw [i_lt, i_z] at hs
      omega
    rw [i_lt]
    have e2 : (K.2.1 / 2).toInt = K.2.1.toInt / 2 := by
      rw [Int32.toInt_div_of_ne_right _ _ (by decide)]
      rw [i_lt, i_z] at hs
      rw [show (2 : Int32).toInt = 2 by decide, Int.tdiv_eq_ediv_of_nonneg (by omega)]
    rw [e2]
    rw [i_lt, i_z] at hs
    omega
  unfold cTake at h ⊢
  by_cases c : lg (E.2.2.1.map (·.1)) p = room
  · have c' : lg (E.2.2.1.map (·.1)) p = ((sec, room, ti, he, wo) : CS).2.1 := c
    rw [if_pos c'] at h ⊢
    obtain ⟨a1, a2, a3, a4⟩ := t2 _ h
    exact ⟨a1, a2, by rw [a3]; exact h0, a4.trans c.symm⟩
  · have c' : ¬ lg (E.2.2.1.map (·.1)) p = ((sec, room, ti, he, wo) : CS).2.1 := c
    rw [if_neg c'] at h ⊢
    by_cases c2 : wC E (sec, room, ti, he, wo) (lg (E.2.2.1.map (·.1)) p) < 0
    · rw [if_pos c2] at h; cases h
    · rw [if_neg c2] at h ⊢
      obtain ⟨a1, a2, a3, a4⟩ := t2 _ h
      refine ⟨by rw [a1, cWalk_p.2], ?_, ?_, by rw [a4, cWalk_p.1]⟩
      · rw [a2]
        congr 1
        unfold cWalk
        dsimp only
        split <;> rfl
      · rw [a3]
        unfold cWalk
        dsimp only
        split
        · exact half
        · next c3 => exact c3
def bfN (K : VK) (E : EV) (wN : Nat → Nat) (f : CS → Nat) (S : CS) : Nat → Nat → Nat → Nat
  | 0, _, m => m
  | n + 1, i, m => bfN K E wN f S n (i + 1) (if (cTake K E (Int32.ofNat i) S).1 = true then max m (wN i + f (cTake K E (Int32.ofNat i) S).2) else m)
def bFN (K : VK) (E : EV) (wN : Nat → Nat) : Nat → CS → Nat
  | 0, _ => 0
  | k + 1, S => bfN K E wN (bFN K E wN k) S E.2.2.1.length 0 0
theorem bfN_le {K : VK} {E : EV} {wN : Nat → Nat} {f : CS → Nat} {S : CS} {b : Nat} (hw : ∀ p, p < E.2.2.1.length → wN p ≤ 99) (hf : ∀ S, f S ≤ b) : ∀ (n i m : Nat), i + n = E.2.2.1.length → m ≤ 99 + b → bfN K E wN f S n i m ≤ 99 + b
  | 0, _, m, _, h => h
  | n + 1, i, m, e, h => by
    rw [bfN]
    refine bfN_le hw hf n (i + 1) _ (by omega) ?_
    split
    · have := hw i (by omega)
      have := hf (cTake K E (Int32.ofNat i) S).2
      omega
    · exact h
theorem bFN_le {K : VK} {E : EV} {wN : Nat → Nat} (hw : ∀ p, p < E.2.2.1.length → wN p ≤ 99) : ∀ k S, bFN K E wN k S ≤ 99 * k
  | 0, _ => Nat.zero_le _
  | k + 1, S => by
    rw [bFN]
    have := bfN_le (K := K) (S := S) hw (fun S => bFN_le (K := K) hw k S) E.2.2.1.length 0 0 (by omega) (by omega)
    omega
theorem mx_of {a b : Nat} (ha : a ≤ 1000000) (hb : b ≤ 1000000) : mx (Int32.ofNat a) (Int32.ofNat b) = Int32.ofNat (max a b) := by
  unfold mx
  have e := i_oflt ha hb
  by_cases c : a < b
  · rw [if_pos (by rw [e]; exact c), Nat.max_eq_right (by omega)]
  · rw [if_neg (by rw [e]; exact c), Nat.max_eq_left (by omega)]
/-- the class's search, with what was had -/
theorem cSrch_N {K : VK} {E : EV} {wN : Nat → Nat} (hp : psB E.2.2.1 wN) (hs : ¬ K.2.1 < 0) : ∀ (k : Nat) (S : CS) (W : Nat), k ≤ 6 → S.2.2.2.2 = Int32.ofNat W → W ≤ 100000 - 99 * k → ¬ K.2.1 < S.2.2.1 → cSrch K E k S = Int32.ofNat (W + bFN K E wN k S) := by
  intro k
  induction k with
  | zero => intro S W _ h _ _; rw [cSrch, bFN, h]; rfl
  | succ k ih =>
    intro S W hk h hW hti
    have hw : ∀ p, p < E.2.2.1.length → wN p ≤ 99 := fun p h => (hp.2 p h).2.2.1
    have lp : ∀ (n i : Nat) (m : Nat), i + n = E.2.2.1.length → m ≤ 99 * (k + 1) → cSrL K E (cSrch K E k) S n i (Int32.ofNat (W + m)) = Int32.ofNat (W + bfN K E wN (bFN K E wN k) S n i m) := by
      intro n
      induction n with
      | zero => intro i m _ _; rfl
      | succ n ihn =>
        intro i m e hm
        rw [cSrL, bfN]
        by_cases c : (cTake K E (Int32.ofNat i) S).1 = true
        · rw [if_pos c, if_pos c]
          obtain ⟨t1, t2, t3, t4, t5⟩ := cTake_ok c hti hs
          have hwi := hw i (by omega)
          have b1 := bFN_le (K := K) hw k (cTake K E (Int32.ofNat i) S).2
          have e3 : (cTake K E (Int32.ofNat i) S).2.2.2.2.2 = Int32.ofNat (W + wN i) := by
            rw [t3, h, (hp.2 i (by omega)).2.1, i_addof]
          rw [ih _ (W + wN i) (by omega) e3 (by omega) t4, mx_of (by omega) (by omega)]
          rw [← ihn (i + 1) _ (by omega) (by omega)]
          congr 2
          omega
        · rw [if_neg c, if_neg c]
          exact ihn (i + 1) m (by omega) hm
    rw [cSrch, bFN, h]
    exact lp E.2.2.1.length 0 0 (by omega) (by omega)
