/-! SENTENCES: IF (the runner's side) -/
theorem vm_test {K : VK} {E : EV} {V : Nat → Int32} {pc : Nat} {od : Int32} {ls' rs : List Int32} {S : VS} {ct rest : List CI} {x : Bool} (hc : cAt E V pc ([(1, 0, 0)] ++ (ct ++ ([(9, od, 0)] ++ rest)))) (hx : exL K E.1 (vSent S) V ct [] = [bz x]) (h10 : ∀ ci, ci ∈ ct → 10 ≤ ci.1) (ho : ovr K S = false) :
    VRn K E (1 + ct.length + 1) (Int32.ofNat pc, [], ls', rs, true, false, S) (if x = true then Int32.ofNat (pc + 1 + ct.length + 1) else od, [], ls', rs, true, false, vSent S) ∧ pc + 1 + ct.length + 1 ≤ 450 ∧ cAt E V (pc + 1 + ct.length + 1) rest := by
  obtain ⟨k1, k2⟩ := cAt_app hc
  obtain ⟨k3, k4⟩ := cAt_app k2
  obtain ⟨a1, a2, _, _⟩ := cAt_h k1
  obtain ⟨o9, od9, k5, k6⟩ := cAt_h k4
  have k3' : cAt E V (pc + 1) ct := k3
  have st := vm_exL (K := K) (ls' := ls') (rs := rs) (ea := false) (S := vSent S) ct (pc + 1) [] k3' h10
  rw [hx] at st
  have s2 := VRn_1 (K := K) (E := E) (s := (Int32.ofNat (pc + 1 + ct.length), [bz x], ls', rs, true, false, vSent S)) rfl
  have o9' : lg E.2.2.2.1 (Int32.ofNat (pc + 1 + ct.length)) = 9 := o9
  have od9' : lg E.2.2.2.2.1 (Int32.ofNat (pc + 1 + ct.length)) = od := od9
  have pp := pl_pv (l := []) (x := bz x) (by simp)
  rw [List.nil_append] at pp
  rw [vm_c o9' od9' (by decide), vmC_9, pp.1, pp.2] at s2
  have e : (if bz x = 0 then od else Int32.ofNat (pc + 1 + ct.length + 1)) = (if x = true then Int32.ofNat (pc + 1 + ct.length + 1) else od) := by
    cases x
    · rw [if_pos (show bz false = 0 from rfl), if_neg (by decide)]
    · rw [if_neg (by decide), if_pos rfl]
  rw [e] at s2
  exact ⟨VRn_t (VRn_t (vm_1 a1 ho) st) s2, k6, k5⟩
theorem at_if1 {k : Nat → Nat} {n : Nat} {V L : Nat → Int32} {np : Nat} {E : EV} {K : VK} {S : VS} {l en fi ti a q pc i1 : Nat} {fs : List FRM} {ls' rs : List Int32} {ct c2 : List CI} {e2 : List EVt} {x : Bool} (h50 : ∀ i, ¬ k i = 0 → k i < 48 → i + 1 < n) (hb : pBlock k a i1 (pc + 1 + ct.length + 1) = (l, some (c2, e2))) (he : EVQ V L np q e2)
    (hc : cAt E V pc ([(1, 0, 0)] ++ (ct ++ ([(9, Int32.ofNat (pc + 1 + ct.length + 1 + c2.length), 0)] ++ c2)))) (h : AT k n V L np E ((l, en, fi, ti, a, q) :: fs) (pc + 1 + ct.length + 1 + c2.length) ls' rs) (hx : exL K E.1 (vSent S) V ct [] = [bz x]) (h10 : ∀ ci, ci ∈ ct → 10 ≤ ci.1) (ho : ovr K S = false) :
    ∃ N z s, N ≤ 452 ∧ VRn K E N (Int32.ofNat pc, [], ls', rs, true, false, S) s ∧ L i1 = Int32.ofNat z ∧ l = z + 1 ∧ i1 + 1 < n ∧ ∃ a', WW k n V L np E (if x = true then (i1 + 1, z, i1 + 1, 1, a', q) :: (l, en, fi, ti, a, q) :: fs else (l, en, fi, ti, a, q) :: fs) s (vSent S) := by
  obtain ⟨st, s4, s5⟩ := vm_test (ls' := ls') (rs := rs) hc hx h10 ho
  obtain ⟨a', z, q1, q2, q3, q4, q5, q6, q7, q8, q9⟩ := at_blk h50 hb he s5
  have h' := h
  obtain ⟨cc, w1, w2, w3, w4, w5, w6, w7, w8, w9, w10, w11, _⟩ := h
  refine ⟨_, z, _, by omega, st, q6, q5, q8, a', ?_⟩
  cases x
  · rw [if_neg (by decide), if_neg (by decide)]
    exact Or.inr ⟨_, ls', rs, rfl, h'⟩
  · rw [if_pos rfl, if_pos rfl]
    refine Or.inr ⟨_, ls', rs, rfl, c2, q3, q4, q7, by omega, w5, ?_, ?_, q8, q8, by omega, by omega, Or.inr (Or.inl ⟨rfl, h'⟩)⟩
    · rw [List.length_cons]; omega
    · rw [List.length_cons]; omega
theorem at_if2 {k : Nat → Nat} {n : Nat} {V L : Nat → Int32} {np : Nat} {E : EV} {K : VK} {S : VS} {l en fi ti a q pc i1 i2 : Nat} {fs : List FRM} {ls' rs : List Int32} {ct c2 c3 : List CI} {e2 e3 : List EVt} {x : Bool} (h50 : ∀ i, ¬ k i = 0 → k i < 48 → i + 1 < n) (hb : pBlock k a i1 (pc + 1 + ct.length + 1) = (i2, some (c2, e2))) (hb3 : pBlock k a (i2 + 1) (pc + 1 + ct.length + 1 + c2.length + 1) = (l, some (c3, e3))) (he : EVQ V L np q e2) (he3 : EVQ V L np q e3)
    (hc : cAt E V pc ([(1, 0, 0)] ++ (ct ++ ([(9, Int32.ofNat (pc + 1 + ct.length + 1 + c2.length + 1), 0)] ++ (c2 ++ ([(8, Int32.ofNat (pc + 1 + ct.length + 1 + c2.length + 1 + c3.length), 0)] ++ c3)))))) (h : AT k n V L np E ((l, en, fi, ti, a, q) :: fs) (pc + 1 + ct.length + 1 + c2.length + 1 + c3.length) ls' rs) (hx : exL K E.1 (vSent S) V ct [] = [bz x]) (h10 : ∀ ci, ci ∈ ct → 10 ≤ ci.1) (ho : ovr K S = false) :
    ∃ N z z3 s, N ≤ 452 ∧ VRn K E N (Int32.ofNat pc, [], ls', rs, true, false, S) s ∧ L i1 = Int32.ofNat z ∧ i2 = z + 1 ∧ i1 + 1 < n ∧ L (i2 + 1) = Int32.ofNat z3 ∧ l = z3 + 1 ∧ i2 + 1 + 1 < n ∧ ∃ a', WW k n V L np E (if x = true then (i1 + 1, z, i1 + 1, 1, a', q) :: (l, en, fi, ti, a, q) :: fs else (i2 + 1 + 1, z3, i2 + 1 + 1, 1, a', q) :: (l, en, fi, ti, a, q) :: fs) s (vSent S) := by
  obtain ⟨st, s4, s5⟩ := vm_test (ls' := ls') (rs := rs) hc hx h10 ho
  obtain ⟨t1, t2⟩ := cAt_app s5
  obtain ⟨o8, od8, t3, _⟩ := cAt_h t2
  obtain ⟨a', z, q1, q2, q3, q4, q5, q6, q7, q8, q9⟩ := at_blk h50 hb he t1
  obtain ⟨a3, z3, r1, r2, r3, r4, r5, r6, r7, r8, r9⟩ := at_blk h50 hb3 he3 t3
  have ea : a3 = a' := by omega
  subst ea
  have h' := h
  obtain ⟨cc, w1, w2, w3, w4, w5, w6, w7, w8, w9, w10, w11, _⟩ := h
  refine ⟨_, z, z3, _, by omega, st, q6, q5, q8, r6, r5, r8, a3, ?_⟩
  cases x
  · rw [if_neg (by decide), if_neg (by decide)]
    refine Or.inr ⟨_, ls', rs, rfl, c3, r3, r4, r7, by omega, w5, ?_, ?_, r8, r8, by omega, by omega, Or.inr (Or.inl ⟨rfl, h'⟩)⟩
    · rw [List.length_cons]; omega
    · rw [List.length_cons]; omega
  · rw [if_pos rfl, if_pos rfl]
    refine Or.inr ⟨_, ls', rs, rfl, c2, q3, q4, q7, by omega, w5, ?_, ?_, q8, q8, by omega, by omega, Or.inr (Or.inr (Or.inl ⟨rfl, _, o8, od8, h'⟩))⟩
    · rw [List.length_cons]; omega
    · rw [List.length_cons]; omega
