/-! THE CLASS'S RUNNER AND THE REFERENCE'S WALK -/
/-- so many turns of the runner lead there -/
def VRn (K : VK) (E : EV) (N : Nat) (s t : VM) : Prop := ∀ m, vmN K E (N + m) s = vmN K E m t
theorem VRn_0 {K : VK} {E : EV} {s : VM} : VRn K E 0 s s := fun m => by rw [Nat.zero_add]
theorem VRn_t {K : VK} {E : EV} {N M : Nat} {s t u : VM} (a : VRn K E N s t) (b : VRn K E M t u) : VRn K E (N + M) s u := fun m => by rw [Nat.add_assoc, a, b]
theorem VRn_1 {K : VK} {E : EV} {s : VM} (h : s.2.2.2.2.1 = true) : VRn K E 1 s (vmS K E s) := fun m => by
  rw [Nat.add_comm, vmN, if_pos h]
theorem vmN_end {K : VK} {E : EV} {s : VM} (h : s.2.2.2.2.1 = false) : ∀ m, vmN K E m s = s
  | 0 => rfl
  | m + 1 => by rw [vmN, if_neg (by rw [h]; decide)]
theorem VRn_end {K : VK} {E : EV} {N M : Nat} {s t : VM} (a : VRn K E N s t) (h : t.2.2.2.2.1 = false) (hM : N ≤ M) : vmN K E M s = t := by
  have := a (M - N)
  rw [show N + (M - N) = M by omega] at this
  rw [this, vmN_end h]
/-- the code stands at a place -/
def cAt (E : EV) (V : Nat → Int32) (pc : Nat) (c : List CI) : Prop := pc + c.length ≤ 450 ∧ ∀ q, q < c.length → lg E.2.2.2.1 (Int32.ofNat (pc + q)) = (c.getD q (0, 0, 0)).1 ∧ lg E.2.2.2.2.1 (Int32.ofNat (pc + q)) = eo V (c.getD q (0, 0, 0))
theorem cAt_app {E : EV} {V : Nat → Int32} {pc : Nat} {c c' : List CI} (h : cAt E V pc (c ++ c')) : cAt E V pc c ∧ cAt E V (pc + c.length) c' := by
  obtain ⟨h1, h2⟩ := h
  rw [List.length_append] at h1 h2
  refine ⟨⟨by omega, fun q hq => ?_⟩, ⟨by omega, fun q hq => ?_⟩⟩
  · have := h2 q (by omega)
    rw [List.getD_eq_getElem?_getD, List.getElem?_append_left hq, ← List.getD_eq_getElem?_getD] at this
    exact this
  · have := h2 (c.length + q) (by omega)
    rw [List.getD_eq_getElem?_getD, List.getElem?_append_right (by omega), Nat.add_sub_cancel_left, ← List.getD_eq_getElem?_getD, ← Nat.add_assoc] at this
    exact this
theorem cAt_h {E : EV} {V : Nat → Int32} {pc : Nat} {ci : CI} {c : List CI} (h : cAt E V pc (ci :: c)) : lg E.2.2.2.1 (Int32.ofNat pc) = ci.1 ∧ lg E.2.2.2.2.1 (Int32.ofNat pc) = eo V ci ∧ cAt E V (pc + 1) c ∧ pc + 1 ≤ 450 := by
  have a := cAt_app (c := [ci]) (c' := c) h
  have b := a.1.2 0 (by simp)
  exact ⟨b.1, b.2, a.2, by have := a.1.1; simp at this; omega⟩
theorem vm_ex {K : VK} {E : EV} {V : Nat → Int32} {pc : Nat} {vs ls' rs : List Int32} {ea : Bool} {S : VS} {ci : CI} (h1 : lg E.2.2.2.1 (Int32.ofNat pc) = ci.1) (h2 : lg E.2.2.2.2.1 (Int32.ofNat pc) = eo V ci) (h3 : 10 ≤ ci.1) : vmS K E (Int32.ofNat pc, vs, ls', rs, true, ea, S) = (Int32.ofNat (pc + 1), exI K E.1 S V vs ci, ls', rs, true, ea, S) := by
  unfold vmS exI
  dsimp only
  rw [h1, h2, i_succ]
  by_cases c1 : 26 ≤ ci.1
  · rw [if_pos c1, if_pos c1]
  · rw [if_neg c1, if_neg c1]
    by_cases c2 : 20 ≤ ci.1
    · rw [if_pos c2, if_pos c2]
    · rw [if_neg c2, if_neg c2, if_pos h3]
theorem vm_exL {K : VK} {E : EV} {V : Nat → Int32} {ls' rs : List Int32} {ea : Bool} {S : VS} : ∀ (c : List CI) (pc : Nat) (vs : List Int32), cAt E V pc c → (∀ ci, ci ∈ c → 10 ≤ ci.1) → VRn K E c.length (Int32.ofNat pc, vs, ls', rs, true, ea, S) (Int32.ofNat (pc + c.length), exL K E.1 S V c vs, ls', rs, true, ea, S)
  | [], pc, vs, _, _ => VRn_0
  | ci :: c, pc, vs, h, h10 => by
    obtain ⟨a1, a2, a3, a4⟩ := cAt_h h
    have b := VRn_1 (K := K) (E := E) (s := (Int32.ofNat pc, vs, ls', rs, true, ea, S)) rfl
    rw [vm_ex a1 a2 (h10 ci (by simp))] at b
    have r := vm_exL (K := K) (ls' := ls') (rs := rs) (ea := ea) (S := S) c (pc + 1) (exI K E.1 S V vs ci) a3 (fun x hx => h10 x (by simp [hx]))
    have := VRn_t b r
    rw [List.length_cons, show c.length + 1 = 1 + c.length by omega, show pc + (1 + c.length) = pc + 1 + c.length by omega]
    exact this
/-- a sentence's instructions -/
theorem vm_c {K : VK} {E : EV} {pc : Nat} {op od : Int32} {vs ls' rs : List Int32} {ea : Bool} {S : VS} (h1 : lg E.2.2.2.1 (Int32.ofNat pc) = op) (h2 : lg E.2.2.2.2.1 (Int32.ofNat pc) = od) (h3 : ¬ 10 ≤ op) : vmS K E (Int32.ofNat pc, vs, ls', rs, true, ea, S) = vmC K E op od (Int32.ofNat (pc + 1), vs, ls', rs, true, ea, S) := by
  have h4 : ¬ 20 ≤ op := fun z => h3 (by rw [i_le] at z ⊢; have e1 : (20 : Int32).toInt = 20 := by decide
                                         have e2 : (10 : Int32).toInt = 10 := by decide
                                         omega)
  have h5 : ¬ 26 ≤ op := fun z => h3 (by rw [i_le] at z ⊢; have e1 : (26 : Int32).toInt = 26 := by decide
                                         have e2 : (10 : Int32).toInt = 10 := by decide
                                         omega)
  unfold vmS
  dsimp only
  rw [h1, h2, i_succ, if_neg h5, if_neg h4, if_neg h3]
/-! expressions' code: operations from 10 on -/
def xo (P : PA) : Prop := ∀ i b j c e, P i b = (j, some (c, e)) → ∀ ci, ci ∈ c → 10 ≤ ci.1
theorem xo_sq {P Q : PA} (hp : xo P) (hq : xo Q) : xo (sq P Q) := by
  intro i b j c e h
  obtain ⟨l, c1, e1, c2, e2, a1, a2, hc, _⟩ := sq_inv h
  intro ci hci
  rw [hc] at hci
  rcases List.mem_append.mp hci with q | q
  · exact hp _ _ _ _ _ a1 ci q
  · exact hq _ _ _ _ _ a2 ci q
theorem xo_tk {k : Nat → Nat} {c : Nat} : xo (tk k c) := by
  intro i b j c e h ci hci
  obtain ⟨_, _, q, _⟩ := tk_inv h
  rw [q] at hci; cases hci
theorem xo_em {op : Int32} (h : 10 ≤ op) : xo (em op) := by
  intro i b j c e hP ci hci
  obtain ⟨_, q, _⟩ := em_inv hP
  rw [q] at hci
  cases hci with
  | head => exact h
  | tail _ z => cases z
theorem xo_ho {k : Nat → Nat} {op : Int32} {nm r : Nat} (h : 10 ≤ op) : xo (ho k op nm r) := by
  intro i b j c e hP ci hci
  obtain ⟨_, _, q, _⟩ := ho_inv hP
  rw [q] at hci
  cases hci with
  | head => exact h
  | tail _ z => cases z
theorem xo_flp : xo flp := by intro i b j c e h; cases h
theorem xo_skp : xo skp := by intro i b j c e h; cases h; intro ci hci; cases hci
theorem xo_ite {P Q : PA} {c : Nat → Prop} [∀ i, Decidable (c i)] (hp : xo P) (hq : xo Q) : xo (fun i b => if c i then P i b else Q i b) := by
  intro i b j c' e h
  by_cases x : c i
  · dsimp only at h; rw [if_pos x] at h; exact hp _ _ _ _ _ h
  · dsimp only at h; rw [if_neg x] at h; exact hq _ _ _ _ _ h
theorem xo_lpp {k : Nat → Nat} {c1 c2 : Nat} {o1 o2 : Int32} {x : PA} (h1 : 10 ≤ o1) (h2 : 10 ≤ o2 ∨ ∀ i, ¬ k i = c2) (hx : xo x) : ∀ n, xo (lpp k c1 o1 c2 o2 x n)
  | 0 => xo_skp
  | n + 1 => by
    rcases h2 with h2 | h2
    · exact xo_ite (c := fun i => k i = c1) (xo_sq xo_tk (xo_sq hx (xo_sq (xo_em h1) (xo_lpp h1 (Or.inl h2) hx n)))) (xo_ite (c := fun i => k i = c2) (xo_sq xo_tk (xo_sq hx (xo_sq (xo_em h2) (xo_lpp h1 (Or.inl h2) hx n)))) xo_skp)
    · refine xo_ite (c := fun i => k i = c1) (xo_sq xo_tk (xo_sq hx (xo_sq (xo_em h1) (xo_lpp h1 (Or.inr h2) hx n)))) ?_
      intro i b j c e h
      have h' : skp i b = (j, some (c, e)) := by rw [← h]; exact (if_neg (h2 i)).symm
      exact xo_skp _ _ _ _ _ h'
theorem xo_lpF {f : Nat → PA} (h : ∀ n, xo (f n)) : xo (lpF f) := fun i b => h _ i b
theorem xo_prod {k : Nat → Nat} {one : PA} (h : xo one) : xo (pProd k one) := xo_sq h (xo_lpF (xo_lpp (by decide) (Or.inl (by decide)) h))
theorem xo_sum {k : Nat → Nat} {one : PA} (h : xo one) : xo (pSum k one) := xo_sq (xo_prod h) (xo_lpF (xo_lpp (by decide) (Or.inl (by decide)) (xo_prod h)))
theorem xo_oneF {k : Nat → Nat} {rc : Option PA} (h : ∀ x, rc = some x → xo x) : xo (pOneF k rc) := by
  have pr : ∀ (c : Nat) (op : Int32) (one : PA), 10 ≤ op → xo one → xo (pPr k c op one) := fun c op one ho hx => xo_sq xo_tk (xo_sq xo_tk (xo_sq (xo_sum hx) (xo_sq xo_tk (xo_sq (xo_sum hx) (xo_sq xo_tk (xo_em ho))))))
  refine xo_ite (c := fun i => k i = 30) (xo_ho (by decide)) (xo_ite (c := fun i => k i = 20) (xo_sq xo_tk (xo_em (by decide))) (xo_ite (c := fun i => k i = 21) (xo_sq xo_tk (xo_em (by decide))) (xo_ite (c := fun i => k i = 22) (xo_sq xo_tk (xo_em (by decide))) (xo_ite (c := fun i => k i = 23) (xo_sq xo_tk (xo_em (by decide))) (xo_ite (c := fun i => k i = 6) (xo_sq xo_tk (xo_em (by decide))) ?_)))))
  cases hr : rc with
  | none => exact xo_ite (c := fun i => k i = 40) xo_flp (xo_ite (c := fun i => k i = 33) xo_flp (xo_ite (c := fun i => k i = 27) (xo_sq xo_tk xo_flp) (xo_ite (c := fun i => k i = 28) (xo_sq xo_tk xo_flp) xo_flp)))
  | some one =>
    have ho := h one hr
    exact xo_ite (c := fun i => k i = 40) (xo_sq xo_tk (xo_sq ho (xo_em (by decide)))) (xo_ite (c := fun i => k i = 33) (xo_sq xo_tk (xo_sq (xo_sum ho) xo_tk)) (xo_ite (c := fun i => k i = 27) (pr _ _ _ (by decide) ho) (xo_ite (c := fun i => k i = 28) (pr _ _ _ (by decide) ho) xo_flp)))
theorem xo_one {k : Nat → Nat} : ∀ a, xo (pOne k a)
  | 0 => xo_oneF (fun x z => by cases z)
  | a + 1 => xo_oneF (fun x z => by cases z; exact xo_one a)
theorem xo_cmp {k : Nat → Nat} {sum : PA} (h : xo sum) : xo (pCmp k sum) :=
  xo_ite (c := fun i => k i = 43) (xo_sq xo_tk (xo_sq h (xo_em (by decide)))) (xo_ite (c := fun i => k i = 44) (xo_sq xo_tk (xo_sq h (xo_em (by decide)))) (xo_ite (c := fun i => k i = 45) (xo_sq xo_tk (xo_sq h (xo_em (by decide)))) (xo_ite (c := fun i => k i = 46) (xo_sq xo_tk (xo_sq h (xo_em (by decide)))) (xo_ite (c := fun i => k i = 47) (xo_sq xo_tk (xo_sq h (xo_em (by decide)))) xo_flp))))
theorem xo_tst {k : Nat → Nat} (h50 : ∀ i, k i < 50) {s : PA} (h : xo s) : xo (pTst k s) := by
  have h99 : ∀ i, ¬ k i = 99 := fun i z => by have := h50 i; omega
  have hb : xo (pBth k s) := xo_sq h (xo_lpF (xo_lpp (by decide) (Or.inr h99) h))
  exact xo_sq hb (xo_lpF (xo_lpp (by decide) (Or.inr h99) hb))
theorem xo_sin {k : Nat → Nat} (h50 : ∀ i, k i < 50) {sum : PA} {rc : Option PA} (hs : xo sum) (h : ∀ x, rc = some x → xo x) : xo (pSin k sum rc) := by
  cases hr : rc with
  | none => exact xo_ite (c := fun i => k i = 24) xo_flp (xo_ite (c := fun i => k i = 35) xo_flp (xo_ite (c := fun i => k i = 18) (xo_sq xo_tk (xo_ho (by decide))) (xo_ite (c := fun i => k i = 19) (xo_sq xo_tk (xo_ho (by decide))) (xo_sq hs (xo_cmp hs)))))
  | some s =>
    have hx := h s hr
    exact xo_ite (c := fun i => k i = 24) (xo_sq xo_tk (xo_sq hx (xo_em (by decide)))) (xo_ite (c := fun i => k i = 35) (xo_sq xo_tk (xo_sq (xo_tst h50 hx) xo_tk)) (xo_ite (c := fun i => k i = 18) (xo_sq xo_tk (xo_ho (by decide))) (xo_ite (c := fun i => k i = 19) (xo_sq xo_tk (xo_ho (by decide))) (xo_sq hs (xo_cmp hs)))))
theorem xo_single {k : Nat → Nat} (h50 : ∀ i, k i < 50) : ∀ a, xo (pSingle k a)
  | 0 => xo_sin h50 (xo_sum (xo_one 0)) (fun x z => by cases z)
  | a + 1 => xo_sin h50 (xo_sum (xo_one (a + 1))) (fun x z => by cases z; exact xo_single h50 a)
