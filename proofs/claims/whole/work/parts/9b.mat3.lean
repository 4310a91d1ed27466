/-! SENTENCES: THE RUNNER'S SIDE -/
theorem at_next {k : Nat → Nat} {n : Nat} {V L : Nat → Int32} {np : Nat} {E : EV} {nx en fi ti a q pc : Nat} {fs : List FRM} {ls' rs : List Int32} (h : AT k n V L np E ((nx, en, fi, ti, a, q) :: fs) pc ls' rs) (hne : ¬ nx = en) :
    ∃ l c1 e1, isSe (k nx) = true ∧ pSen k (pTst k (pSingle k a)) (pBlock k a) nx pc = (l, some (c1, e1)) ∧ EVQ V L np q e1 ∧ cAt E V pc c1 ∧ nx < l ∧ l < n ∧ AT k n V L np E ((l, en, fi, ti, a, q) :: fs) (pc + c1.length) ls' rs := by
  obtain ⟨c, ⟨m, e, b1, b2, b3, b4⟩, k32, hen, ha, hr, hf, hl, hnx, hfi, t1, t9, alt⟩ := h
  obtain ⟨m', l, c1, e1, c2, e2, hm, hs, x1, x2, hc, he⟩ := sns_inv b2 hne
  subst hc he
  obtain ⟨d1, d2⟩ := cAt_app b4
  have lt := sen_lt (mo_tst (mo_single a)) (mo_block a) x1
  have le := mo_le (mo_sns (mo_tst (mo_single a)) (mo_block a) m') x2
  refine ⟨l, c1, e1, hs, x1, EVQ_l b3, d1, lt, by omega, c2, ⟨m', e2, by omega, x2, EVQ_r b3, d2⟩, k32, hen, ha, hr, hf, hl, by omega, hfi, t1, t9, ?_⟩
  rw [List.length_append, ← Nat.add_assoc] at alt
  exact alt
/-- the sentence's first instruction -/
theorem vm_1 {K : VK} {E : EV} {pc : Nat} {ls' rs : List Int32} {S : VS} (o : lg E.2.2.2.1 (Int32.ofNat pc) = 1) (ho : ovr K S = false) : VRn K E 1 (Int32.ofNat pc, [], ls', rs, true, false, S) (Int32.ofNat (pc + 1), [], ls', rs, true, false, vSent S) := by
  have st := VRn_1 (K := K) (E := E) (s := (Int32.ofNat pc, [], ls', rs, true, false, S)) rfl
  rw [vm_c o rfl (by decide)] at st
  have ev : vmC K E 1 (lg E.2.2.2.2.1 (Int32.ofNat pc)) (Int32.ofNat (pc + 1), [], ls', rs, true, false, S) = (Int32.ofNat (pc + 1), [], ls', rs, !ovr K S, ovr K S, if ovr K S = true then S else vSent S) := by
    unfold vmC
    dsimp only
    rw [if_pos rfl]
  rw [ev, ho] at st
  exact st
theorem vm_1e {K : VK} {E : EV} {pc : Nat} {ls' rs : List Int32} {S : VS} (o : lg E.2.2.2.1 (Int32.ofNat pc) = 1) (ho : ovr K S = true) : VRn K E 1 (Int32.ofNat pc, [], ls', rs, true, false, S) (Int32.ofNat (pc + 1), [], ls', rs, false, true, S) := by
  have st := VRn_1 (K := K) (E := E) (s := (Int32.ofNat pc, [], ls', rs, true, false, S)) rfl
  rw [vm_c o rfl (by decide)] at st
  have ev : vmC K E 1 (lg E.2.2.2.2.1 (Int32.ofNat pc)) (Int32.ofNat (pc + 1), [], ls', rs, true, false, S) = (Int32.ofNat (pc + 1), [], ls', rs, !ovr K S, ovr K S, if ovr K S = true then S else vSent S) := by
    unfold vmC
    dsimp only
    rw [if_pos rfl]
  rw [ev, ho] at st
  exact st
/-- a leaf sentence: what it does to the visit -/
theorem vm_leaf {K : VK} {E : EV} {V : Nat → Int32} {pc i : Nat} {op : Int32} {ls' rs : List Int32} {S S' : VS} (hc : cAt E V pc [(1, 0, 0), (op, 0, i + 2)]) (ho : ovr K S = false) (hop : ¬ 10 ≤ op) (he : vmC K E op (V (i + 1)) (Int32.ofNat (pc + 2), [], ls', rs, true, false, vSent S) = (Int32.ofNat (pc + 2), [], ls', rs, true, false, S')) : VRn K E 2 (Int32.ofNat pc, [], ls', rs, true, false, S) (Int32.ofNat (pc + 2), [], ls', rs, true, false, S') := by
  obtain ⟨a1, a2, a3, _⟩ := cAt_h hc
  obtain ⟨b1, b2, _, _⟩ := cAt_h a3
  have st := VRn_1 (K := K) (E := E) (s := (Int32.ofNat (pc + 1), [], ls', rs, true, false, vSent S)) rfl
  have e2 : eo V (op, 0, i + 2) = V (i + 1) := rfl
  rw [vm_c b1 b2 hop, e2] at st
  rw [show pc + 1 + 1 = pc + 2 by omega, he] at st
  exact VRn_t (vm_1 a1 ho) st
theorem vmC_2 {K : VK} {E : EV} {od pc : Int32} {vs ls' rs : List Int32} {r e : Bool} {S : VS} : vmC K E 2 od (pc, vs, ls', rs, r, e, S) = (pc, vs, ls', rs, r, e, vGo K (wI E S od) od S) := by
  unfold vmC; dsimp only; rw [if_neg (by decide), if_pos rfl]
theorem vmC_3 {K : VK} {E : EV} {od pc : Int32} {vs ls' rs : List Int32} {r e : Bool} {S : VS} : vmC K E 3 od (pc, vs, ls', rs, r, e, S) = (pc, vs, ls', rs, r, e, vPlay K E.1 E.2.2.1 od S) := by
  unfold vmC; dsimp only; rw [if_neg (by decide), if_neg (by decide), if_pos rfl]
theorem vmC_4 {K : VK} {E : EV} {od pc : Int32} {vs ls' rs : List Int32} {r e : Bool} {S : VS} : vmC K E 4 od (pc, vs, ls', rs, r, e, S) = (pc, vs, ls', rs, r, e, vRest od S) := by
  unfold vmC; dsimp only; rw [if_neg (by decide), if_neg (by decide), if_neg (by decide), if_pos rfl]
theorem vmC_5 {K : VK} {E : EV} {od pc : Int32} {vs ls' rs : List Int32} {r e : Bool} {S : VS} : vmC K E 5 od (pc, vs, ls', rs, r, e, S) = (lg E.2.2.2.2.2 od, vs, ls', la 6 rs pc, r, e, S) := by
  unfold vmC; dsimp only; rw [if_neg (by decide), if_neg (by decide), if_neg (by decide), if_neg (by decide), if_pos rfl]
theorem vmC_6 {K : VK} {E : EV} {od pc : Int32} {vs ls' rs : List Int32} {r e : Bool} {S : VS} : vmC K E 6 od (pc, vs, ls', rs, r, e, S) = (pc, vs, la 48 ls' od, rs, r, e, S) := by
  unfold vmC; dsimp only; rw [if_neg (by decide), if_neg (by decide), if_neg (by decide), if_neg (by decide), if_neg (by decide), if_pos rfl]
theorem vmC_7 {K : VK} {E : EV} {od pc : Int32} {vs ls' rs : List Int32} {r e : Bool} {S : VS} : vmC K E 7 od (pc, vs, ls', rs, r, e, S) = (if pv ls' ≤ 0 then (od, vs, pl ls', rs, r, e, S) else (pc, vs, la 48 (pl ls') (pv ls' - 1), rs, r, e, S)) := by
  unfold vmC; dsimp only; rw [if_neg (by decide), if_neg (by decide), if_neg (by decide), if_neg (by decide), if_neg (by decide), if_neg (by decide), if_pos rfl]
theorem vmC_9 {K : VK} {E : EV} {od pc : Int32} {vs ls' rs : List Int32} {r e : Bool} {S : VS} : vmC K E 9 od (pc, vs, ls', rs, r, e, S) = (if pv vs = 0 then od else pc, pl vs, ls', rs, r, e, S) := by
  unfold vmC; dsimp only; rw [if_neg (by decide), if_neg (by decide), if_neg (by decide), if_neg (by decide), if_neg (by decide), if_neg (by decide), if_neg (by decide), if_neg (by decide), if_pos rfl]
/-- the tours' code -/
def TOU (k : Nat → Nat) (n : Nat) (V L : Nat → Int32) (np : Nat) (E : EV) (nt : Nat) (T : Nat → Nat) : Prop := nt ≤ 6 ∧ ∀ q, q < nt → T q < n ∧ ∃ j c e p, pBlock k 8 (T q) p = (j, some (c, e)) ∧ EVQ V L np q e ∧ cAt E V p (c ++ [(0, 0, 0)]) ∧ lg E.2.2.2.2.2 (Int32.ofNat q) = Int32.ofNat p
/-- where a block's frame begins -/
theorem at_blk {k : Nat → Nat} {n : Nat} {V L : Nat → Int32} {np : Nat} {E : EV} {a q i b j : Nat} {c : List CI} {e : List EVt} (h50 : ∀ i, ¬ k i = 0 → k i < 48 → i + 1 < n) (h : pBlock k a i b = (j, some (c, e))) (he : EVQ V L np q e) (hc : cAt E V b c) : ∃ a' l, a = a' + 1 ∧ k i = 31 ∧ BOD k V L np E q a' (i + 1) l b c ∧ k l = 32 ∧ j = l + 1 ∧ L i = Int32.ofNat l ∧ l < n ∧ i + 1 < n ∧ l + 1 < n := by
  obtain ⟨a', l, e', h1, h2, h3, h4, h5, h6⟩ := blk_inv h
  subst h6
  have hl := h50 l (by omega) (by omega)
  have hi := h50 i (by omega) (by omega)
  refine ⟨a', l, h1, h2, ⟨402 - (i + 1), e', by omega, h3, EVQ_l he, hc⟩, h4, h5, ?_, by omega, hi, hl⟩
  exact (he (0, i, l) (by simp)).2.2.2.2 rfl
theorem at_call {k : Nat → Nat} {n : Nat} {V L : Nat → Int32} {np : Nat} {E : EV} {K : VK} {S : VS} {nt x l en fi ti a q pc : Nat} {T : Nat → Nat} {fs : List FRM} {ls' rs : List Int32} (h50 : ∀ i, ¬ k i = 0 → k i < 48 → i + 1 < n) (ht : TOU k n V L np E nt T) (hx : x < nt) (hxq : x < q) (h : AT k n V L np E ((l, en, fi, ti, a, q) :: fs) (pc + 2) ls' rs) {i : Nat} (hv : V (i + 1) = Int32.ofNat x) (hc : cAt E V pc [(1, 0, 0), (5, 0, i + 2)]) (ho : ovr K S = false) :
    ∃ z s, VRn K E 2 (Int32.ofNat pc, [], ls', rs, true, false, S) s ∧ L (T x) = Int32.ofNat z ∧ WW k n V L np E ((T x + 1, z, T x + 1, 1, 7, x) :: (l, en, fi, ti, a, q) :: fs) s (vSent S) := by
  obtain ⟨_, tq⟩ := ht
  obtain ⟨t1, j, c, e, p, p1, p2, p3, p4⟩ := tq x hx
  obtain ⟨d1, d2⟩ := cAt_app p3
  obtain ⟨a', z, q1, q2, q3, q4, q5, q6, q7, q8, q9⟩ := at_blk h50 p1 p2 d1
  obtain ⟨a1, a2, a3, _⟩ := cAt_h hc
  obtain ⟨b1, b2, _, _⟩ := cAt_h a3
  have h' := h
  obtain ⟨c2, w1, w2, w3, w4, w5, w6, w7, w8, w9, w10, w11, _⟩ := h
  have st := VRn_1 (K := K) (E := E) (s := (Int32.ofNat (pc + 1), [], ls', rs, true, false, vSent S)) rfl
  have e2 : eo V (5, 0, i + 2) = V (i + 1) := rfl
  rw [vm_c b1 b2 (show ¬ 10 ≤ (5 : Int32) by decide), e2, hv, vmC_5, p4, la_ok (by omega)] at st
  have ea' : a' = 7 := by omega
  subst ea'
  obtain ⟨o1, o2, _, _⟩ := cAt_h d2
  refine ⟨z, _, VRn_t (vm_1 a1 ho) st, q6, Or.inr ⟨p, ls', rs ++ [Int32.ofNat (pc + 1 + 1)], rfl, c, q3, q4, q7, by omega, ?_, ?_, ?_, q8, q8, by omega, by omega, Or.inl ⟨rfl, o1, Or.inr ⟨pc + 2, rs, rfl, h'⟩⟩⟩⟩
  · rw [List.length_append, List.length_cons, List.length_nil]; omega
  · rw [List.length_cons]; omega
  · rw [List.length_cons]; omega
theorem at_rep {k : Nat → Nat} {n : Nat} {V L : Nat → Int32} {np : Nat} {E : EV} {K : VK} {S : VS} {x l en fi ti a q pc i : Nat} {fs : List FRM} {ls' rs : List Int32} {c2 : List CI} {e2 : List EVt} (h50 : ∀ i, ¬ k i = 0 → k i < 48 → i + 1 < n) (hb : pBlock k a (i + 2) (pc + 3) = (l, some (c2, e2))) (he : EVQ V L np q e2) (hx : x ≤ 9) (hv : V (i + 1) = Int32.ofNat x)
    (hc : cAt E V pc ([(1, 0, 0), (6, 0, i + 2)] ++ ([(7, Int32.ofNat (pc + 3 + c2.length + 1), 0)] ++ (c2 ++ [(8, Int32.ofNat (pc + 2), 0)])))) (h : AT k n V L np E ((l, en, fi, ti, a, q) :: fs) (pc + 3 + c2.length + 1) ls' rs) (ho : ovr K S = false) :
    ∃ z s, VRn K E 3 (Int32.ofNat pc, [], ls', rs, true, false, S) s ∧ L (i + 2) = Int32.ofNat z ∧ l = z + 1 ∧ i + 3 < n ∧ ∃ a', WW k n V L np E (if x = 0 then (l, en, fi, ti, a, q) :: fs else (i + 3, z, i + 3, x, a', q) :: (l, en, fi, ti, a, q) :: fs) s (vSent S) := by
  obtain ⟨k1, k2⟩ := cAt_app hc
  obtain ⟨k3, k4⟩ := cAt_app k2
  obtain ⟨k5, k6⟩ := cAt_app k4
  obtain ⟨a1, a2, a3, _⟩ := cAt_h k1
  obtain ⟨b1, b2, _, _⟩ := cAt_h a3
  obtain ⟨o7, od7, _, _⟩ := cAt_h k3
  obtain ⟨o8, od8, _, _⟩ := cAt_h k6
  have k5' : cAt E V (pc + 3) c2 := k5
  obtain ⟨a', z, q1, q2, q3, q4, q5, q6, q7, q8, q9⟩ := at_blk h50 hb he k5'
  have h' := h
  obtain ⟨cc, w1, w2, w3, w4, w5, w6, w7, w8, w9, w10, w11, _⟩ := h
  have st := VRn_1 (K := K) (E := E) (s := (Int32.ofNat (pc + 1), [], ls', rs, true, false, vSent S)) rfl
  have e2' : eo V (6, 0, i + 2) = V (i + 1) := rfl
  rw [vm_c b1 b2 (show ¬ 10 ≤ (6 : Int32) by decide), e2', hv, vmC_6, la_ok (by omega)] at st
  have s2 := VRn_1 (K := K) (E := E) (s := (Int32.ofNat (pc + 1 + 1), [], ls' ++ [Int32.ofNat x], rs, true, false, vSent S)) rfl
  have l5 : ls'.length ≤ 47 := by omega
  have o7' : lg E.2.2.2.1 (Int32.ofNat (pc + 1 + 1)) = 7 := o7
  have od7' : lg E.2.2.2.2.1 (Int32.ofNat (pc + 1 + 1)) = Int32.ofNat (pc + 3 + c2.length + 1) := od7
  rw [vm_c o7' od7' (by decide), vmC_7, (pl_pv (by omega)).1, (pl_pv (by omega)).2] at s2
  have e7 : eo V (7, Int32.ofNat (pc + 3 + c2.length + 1), 0) = Int32.ofNat (pc + 3 + c2.length + 1) := rfl
  have e8 : eo V (8, Int32.ofNat (pc + 2), 0) = Int32.ofNat (pc + 2) := rfl
  have st2 := VRn_t (VRn_t (vm_1 a1 ho) st) s2
  refine ⟨z, _, st2, q6, q5, by omega, a', ?_⟩
  rw [e7] at od7
  rw [e8] at od8
  by_cases c0 : x = 0
  · rw [if_pos c0, if_pos (by rw [c0]; decide)]
    exact Or.inr ⟨_, ls', rs, rfl, h'⟩
  · rw [if_neg c0, if_neg (by rw [show (0 : Int32) = Int32.ofNat 0 from rfl, i_ofle (by omega) (by omega)]; omega), la_ok (by omega), show Int32.ofNat x - 1 = Int32.ofNat (x - 1) by rw [show (1 : Int32) = Int32.ofNat 1 from rfl, i_subof (by omega)]]
    refine Or.inr ⟨pc + 3, ls' ++ [Int32.ofNat (x - 1)], rs, rfl, c2, q3, q4, q7, by omega, w5, ?_, ?_, q8, q8, by omega, by omega, Or.inr (Or.inr (Or.inr ⟨pc + 2, pc + 3 + c2.length + 1, ls', c2, ?_, ?_, ?_, ?_, rfl, q3, rfl, h'⟩))⟩
    · rw [List.length_cons]; omega
    · rw [List.length_append, List.length_cons, List.length_nil, List.length_cons]; omega
    · exact o8
    · exact od8
    · exact o7
    · exact od7
