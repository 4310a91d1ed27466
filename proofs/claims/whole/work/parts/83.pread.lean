/-! THE REFERENCE'S PARSER: THINGS, ONE AFTER ANOTHER -/
abbrev ndQ (Q : TS) : Nat := Q.1.2.2.2.2.2.2.2.2.2.2
def pThing (k : Nat → Nat) : PA := fun i b => if k i = 0 then pRoom k i b else if k i = 1 then pDoor k i b else if k i = 2 then pPart k i b else if k i = 10 then pTour k i b else flp i b
def pTxt (k : Nat → Nat) : Nat → PA
  | 0 => skp
  | n + 1 => fun i b => if k i = 48 then skp i b else sq (pThing k) (pTxt k n) i b
theorem evT_k {Q : TS} {ev : EVt} : (evT Q ev).1.1 = Q.1.1 ∧ (evT Q ev).1.2.1 = Q.1.2.1 ∧ (evT Q ev).1.2.2.1 = Q.1.2.2.1 ∧ (evT Q ev).1.2.2.2.1 = Q.1.2.2.2.1 := by
  obtain ⟨X, s, td, tp, tt, wo, ki, ne⟩ := Q
  obtain ⟨r, i, j⟩ := ev
  by_cases c60 : r = 60
  · subst c60
    exact ⟨rfl, rfl, rfl, rfl⟩
  by_cases c61 : r = 61
  · subst c61
    exact ⟨rfl, rfl, rfl, rfl⟩
  by_cases c62 : r = 62
  · subst c62
    exact ⟨rfl, rfl, rfl, rfl⟩
  by_cases c70 : r = 70
  · subst c70
    exact ⟨rfl, rfl, rfl, rfl⟩
  by_cases c63 : r = 63
  · subst c63
    exact ⟨rfl, rfl, rfl, rfl⟩
  by_cases c64 : r = 64
  · subst c64
    exact ⟨rfl, rfl, rfl, rfl⟩
  by_cases c71 : r = 71
  · subst c71
    exact ⟨rfl, rfl, rfl, rfl⟩
  by_cases c65 : r = 65
  · subst c65
    exact ⟨rfl, rfl, rfl, rfl⟩
  by_cases c76 : r = 76
  · subst c76
    exact ⟨rfl, rfl, rfl, rfl⟩
  by_cases c72 : r = 72
  · subst c72
    exact ⟨rfl, rfl, rfl, rfl⟩
  by_cases c66 : r = 66
  · subst c66
    exact ⟨rfl, rfl, rfl, rfl⟩
  by_cases c1 : r = 1
  · subst c1
    rw [show evT (X, s, td, tp, tt, wo, ki, ne) (1, i, j) = (if s.1 = 0 then (adR (X.2.2.2.1 i) X, s, td, tp, tt, wo, ki, ne) else (X, s, td, tp, tt, wo, ki, ne)) from rfl]
    by_cases cs : s.1 = 0
    · rw [if_pos cs]; exact ⟨rfl, rfl, rfl, rfl⟩
    · rw [if_neg cs]; exact ⟨rfl, rfl, rfl, rfl⟩
  by_cases c2 : r = 2
  · subst c2
    rw [show evT (X, s, td, tp, tt, wo, ki, ne) (2, i, j) = (if s.1 = 0 then (adD X, s, cpF td (3 * X.2.2.2.2.2.2.2.2.2.2) 3 (fun q => s.2.2.1 (i + q)), tp, tt, wo, ki, ne) else (X, s, td, tp, tt, wo, ki, ne)) from rfl]
    by_cases cs : s.1 = 0
    · rw [if_pos cs]; exact ⟨rfl, rfl, rfl, rfl⟩
    · rw [if_neg cs]; exact ⟨rfl, rfl, rfl, rfl⟩
  by_cases c3 : r = 3
  · subst c3
    rw [show evT (X, s, td, tp, tt, wo, ki, ne) (3, i, j) = (if s.1 = 0 then (adP (X.2.2.2.1 i) X, s, td, cpF tp (5 * X.2.2.2.2.2.2.2.2.1) 5 (fun q => [s.2.2.1 (i + 2), s.2.2.1 (i + 3), wo, ki, ne].getD q 0), tt, wo, ki, ne) else (X, s, td, tp, tt, wo, ki, ne)) from rfl]
    by_cases cs : s.1 = 0
    · rw [if_pos cs]; exact ⟨rfl, rfl, rfl, rfl⟩
    · rw [if_neg cs]; exact ⟨rfl, rfl, rfl, rfl⟩
  by_cases c4 : r = 4
  · subst c4
    rw [show evT (X, s, td, tp, tt, wo, ki, ne) (4, i, j) = (if s.1 = 0 then (adT (X.2.2.2.1 i) X, s, td, tp, fun q => if q = X.2.2.2.2.2.2.2.2.2.1 then Int32.ofNat (i + 1) else tt q, wo, ki, ne) else (X, s, td, tp, tt, wo, ki, ne)) from rfl]
    by_cases cs : s.1 = 0
    · rw [if_pos cs]; exact ⟨rfl, rfl, rfl, rfl⟩
    · rw [if_neg cs]; exact ⟨rfl, rfl, rfl, rfl⟩
  rw [show evT (X, s, td, tp, tt, wo, ki, ne) (r, i, j) = (X, evR X s (r, i, j), td, tp, tt, wo, ki, ne) by unfold evT; dsimp only; rw [if_neg c60, if_neg c61, if_neg c62, if_neg c70, if_neg c63, if_neg c64, if_neg c71, if_neg c65, if_neg c76, if_neg c72, if_neg c66, if_neg c1, if_neg c2, if_neg c3, if_neg c4]]
  exact ⟨rfl, rfl, rfl, rfl⟩
theorem evTs_k : ∀ {e : List EVt} {Q : TS}, (evTs Q e).1.1 = Q.1.1 ∧ (evTs Q e).1.2.1 = Q.1.2.1 ∧ (evTs Q e).1.2.2.1 = Q.1.2.2.1 ∧ (evTs Q e).1.2.2.2.1 = Q.1.2.2.2.1
  | [], Q => ⟨rfl, rfl, rfl, rfl⟩
  | ev :: e, Q => by
    have a := evTs_k (e := e) (Q := evT Q ev)
    have b := evT_k (Q := Q) (ev := ev)
    exact ⟨a.1.trans b.1, a.2.1.trans b.2.1, a.2.2.1.trans b.2.2.1, a.2.2.2.trans b.2.2.2⟩
theorem evT_nd {Q : TS} {ev : EVt} (h : ¬ ev.1 = 2) : ndQ (evT Q ev) = ndQ Q := by
  obtain ⟨X, s, td, tp, tt, wo, ki, ne⟩ := Q
  obtain ⟨r, i, j⟩ := ev
  have h : ¬ r = 2 := h
  by_cases c60 : r = 60
  · subst c60
    rfl
  by_cases c61 : r = 61
  · subst c61
    rfl
  by_cases c62 : r = 62
  · subst c62
    rfl
  by_cases c70 : r = 70
  · subst c70
    rfl
  by_cases c63 : r = 63
  · subst c63
    rfl
  by_cases c64 : r = 64
  · subst c64
    rfl
  by_cases c71 : r = 71
  · subst c71
    rfl
  by_cases c65 : r = 65
  · subst c65
    rfl
  by_cases c76 : r = 76
  · subst c76
    rfl
  by_cases c72 : r = 72
  · subst c72
    rfl
  by_cases c66 : r = 66
  · subst c66
    rfl
  by_cases c1 : r = 1
  · subst c1
    rw [show evT (X, s, td, tp, tt, wo, ki, ne) (1, i, j) = (if s.1 = 0 then (adR (X.2.2.2.1 i) X, s, td, tp, tt, wo, ki, ne) else (X, s, td, tp, tt, wo, ki, ne)) from rfl]
    by_cases cs : s.1 = 0
    · rw [if_pos cs]; rfl
    · rw [if_neg cs]
  by_cases c2 : r = 2
  · subst c2
    exact absurd rfl h
  by_cases c3 : r = 3
  · subst c3
    rw [show evT (X, s, td, tp, tt, wo, ki, ne) (3, i, j) = (if s.1 = 0 then (adP (X.2.2.2.1 i) X, s, td, cpF tp (5 * X.2.2.2.2.2.2.2.2.1) 5 (fun q => [s.2.2.1 (i + 2), s.2.2.1 (i + 3), wo, ki, ne].getD q 0), tt, wo, ki, ne) else (X, s, td, tp, tt, wo, ki, ne)) from rfl]
    by_cases cs : s.1 = 0
    · rw [if_pos cs]; rfl
    · rw [if_neg cs]
  by_cases c4 : r = 4
  · subst c4
    rw [show evT (X, s, td, tp, tt, wo, ki, ne) (4, i, j) = (if s.1 = 0 then (adT (X.2.2.2.1 i) X, s, td, tp, fun q => if q = X.2.2.2.2.2.2.2.2.2.1 then Int32.ofNat (i + 1) else tt q, wo, ki, ne) else (X, s, td, tp, tt, wo, ki, ne)) from rfl]
    by_cases cs : s.1 = 0
    · rw [if_pos cs]; rfl
    · rw [if_neg cs]
  rw [show evT (X, s, td, tp, tt, wo, ki, ne) (r, i, j) = (X, evR X s (r, i, j), td, tp, tt, wo, ki, ne) by unfold evT; dsimp only; rw [if_neg c60, if_neg c61, if_neg c62, if_neg c70, if_neg c63, if_neg c64, if_neg c71, if_neg c65, if_neg c76, if_neg c72, if_neg c66, if_neg c1, if_neg c2, if_neg c3, if_neg c4]]
theorem evTs_nd : ∀ {e : List EVt} {Q : TS}, (∀ ev, ev ∈ e → ¬ ev.1 = 2) → ndQ (evTs Q e) = ndQ Q
  | [], Q, _ => rfl
  | ev :: e, Q, h => (evTs_nd (e := e) (Q := evT Q ev) (fun x hx => h x (by simp [hx]))).trans (evT_nd (h ev (by simp)))
/-- events of a parser: no door -/
def n2 (P : PA) : Prop := ∀ i b j c e, P i b = (j, some (c, e)) → ∀ ev, ev ∈ e → ¬ ev.1 = 2
theorem n2_sq {P Q : PA} (hp : n2 P) (hq : n2 Q) : n2 (sq P Q) := by
  intro i b j c e h
  rcases h1 : P i b with ⟨l, _ | ⟨c1, e1⟩⟩
  · rw [sq_n h1] at h; cases h
  · rcases h2 : Q l (b + c1.length) with ⟨l2, _ | ⟨c2, e2⟩⟩
    · rw [sq_sn h1 h2] at h; cases h
    · rw [sq_ss h1 h2] at h
      cases h
      intro ev hv
      rcases List.mem_append.mp hv with q | q
      · exact hp _ _ _ _ _ h1 ev q
      · exact hq _ _ _ _ _ h2 ev q
theorem n2_tk {k : Nat → Nat} {c : Nat} : n2 (tk k c) := by
  intro i b j c' e h; unfold tk at h; split at h
  · cases h; intro ev hv; cases hv
  · cases h
theorem n2_nmk {k : Nat → Nat} {c r : Nat} (hr : ¬ r = 2) : n2 (nmk k c r) := by
  intro i b j c' e h; unfold nmk at h; split at h
  · cases h; intro ev hv; cases hv with
    | head => exact hr
    | tail _ q => cases q
  · cases h
theorem n2_evE {P : PA} {ev : Nat → EVt} (hp : n2 P) (hr : ∀ i, ¬ (ev i).1 = 2) : n2 (evE P ev) := by
  intro i b j c e h
  unfold evE at h
  rcases h1 : P i b with ⟨l, _ | ⟨c1, e1⟩⟩
  · rw [h1] at h; cases h
  · rw [h1] at h
    cases h
    intro x hx
    rcases List.mem_append.mp hx with q | q
    · exact hp _ _ _ _ _ h1 x q
    · cases q with
      | head => exact hr i
      | tail _ q => cases q
theorem n2_ite {P Q : PA} {c : Nat → Prop} [∀ i, Decidable (c i)] (hp : n2 P) (hq : n2 Q) : n2 (fun i b => if c i then P i b else Q i b) := by
  intro i b j c' e h
  by_cases x : c i
  · dsimp only at h; rw [if_pos x] at h; exact hp _ _ _ _ _ h
  · dsimp only at h; rw [if_neg x] at h; exact hq _ _ _ _ _ h
theorem n2_blk {k : Nat → Nat} {a : Nat} : n2 (pBlock k a) := by
  intro i b j c e h ev hv
  have := be_block (k := k) a _ _ _ _ _ h ev hv
  omega
theorem n2_p3 {k : Nat → Nat} {i0 : Nat} : n2 (pP3 k i0) := by
  intro i b j c e h
  unfold pP3 at h
  rcases h1 : tk k 37 i b with ⟨l, _ | ⟨c1, e1⟩⟩
  · rw [h1] at h; cases h
  · rw [h1] at h
    cases h
    intro x hx
    rcases List.mem_append.mp hx with q | q
    · exact n2_tk _ _ _ _ _ h1 x q
    · cases q with
      | head => show ¬ (3 : Nat) = 2; omega
      | tail _ q => cases q
theorem n2_p2 {k : Nat → Nat} {i0 : Nat} : n2 (pP2 k i0) := n2_ite (c := fun i => k i = 6) (n2_sq n2_tk (n2_sq (n2_nmk (by decide)) n2_p3)) n2_p3
theorem n2_kk {k : Nat → Nat} : n2 (kk k) := by
  intro i b j c' e h; unfold kk at h; split at h
  · cases h; intro ev hv; cases hv with
    | head => show ¬ (76 : Nat) = 2; omega
    | tail _ q => cases q
  · cases h
theorem n2_p1 {k : Nat → Nat} {i0 : Nat} : n2 (pP1 k i0) := n2_ite (c := fun i => k i = 5) (n2_sq n2_tk (n2_sq n2_kk n2_p2)) n2_p2
theorem n2_nd {k : Nat → Nat} {i0 : Nat} : ∀ n, n2 (pNd k i0 n)
  | 0 => by intro i b j c e h; cases h
  | n + 1 => by
    intro i b j c e h
    unfold pNd at h
    rcases h1 : nmk k 29 65 (i + 1) b with ⟨l, _ | ⟨c1, e1⟩⟩
    · rw [h1] at h; cases h
    · rw [h1] at h
      dsimp only at h
      have hr : n2 (fun l b => if k l = 38 then pNd k i0 n l b else pP1 k i0 l b) := n2_ite (c := fun i => k i = 38) (n2_nd n) n2_p1
      rcases h2 : (if k l = 38 then pNd k i0 n l b else pP1 k i0 l b) with ⟨l2, _ | ⟨c2, e2⟩⟩
      · rw [h2] at h; cases h
      · rw [h2] at h
        cases h
        intro x hx
        rcases List.mem_append.mp hx with q | q
        · exact n2_nmk (by decide) _ _ _ _ _ h1 x q
        · exact hr _ _ _ _ _ h2 x q
theorem n2_part {k : Nat → Nat} : n2 (pPart k) := by
  refine n2_sq n2_tk (n2_sq (n2_nmk (by decide)) (n2_sq n2_tk (n2_sq (n2_nmk (by decide)) (n2_sq (n2_nmk (by decide)) ?_))))
  intro i b j c e h
  unfold pPX at h
  split at h
  · exact n2_nd _ _ _ _ _ _ h
  · exact n2_p1 _ _ _ _ _ h
theorem n2_room {k : Nat → Nat} : n2 (pRoom k) := n2_evE (n2_sq n2_tk (n2_sq (n2_nmk (by decide)) n2_tk)) (fun i => by show ¬ (1 : Nat) = 2; omega)
theorem n2_tour {k : Nat → Nat} : n2 (pTour k) := n2_evE (n2_sq n2_tk (n2_sq (n2_nmk (by decide)) n2_blk)) (fun i => by show ¬ (4 : Nat) = 2; omega)
theorem sq_inv {P Q : PA} {i b j : Nat} {c : List CI} {e : List EVt} (h : sq P Q i b = (j, some (c, e))) : ∃ l c1 e1 c2 e2, P i b = (l, some (c1, e1)) ∧ Q l (b + c1.length) = (j, some (c2, e2)) ∧ c = c1 ++ c2 ∧ e = e1 ++ e2 := by
  rcases h1 : P i b with ⟨l, _ | ⟨c1, e1⟩⟩
  · rw [sq_n h1] at h; cases h
  · rcases h2 : Q l (b + c1.length) with ⟨l2, _ | ⟨c2, e2⟩⟩
    · rw [sq_sn h1 h2] at h; cases h
    · rw [sq_ss h1 h2] at h
      cases h
      exact ⟨l, c1, e1, c2, e2, rfl, h2, rfl, rfl⟩
theorem tk_inv {k : Nat → Nat} {c i b j : Nat} {cc : List CI} {e : List EVt} (h : tk k c i b = (j, some (cc, e))) : k i = c ∧ j = i + 1 ∧ cc = [] ∧ e = [] := by
  unfold tk at h
  split at h
  · rename_i q; cases h; exact ⟨q, rfl, rfl, rfl⟩
  · cases h
theorem nmk_inv {k : Nat → Nat} {c r i b j : Nat} {cc : List CI} {e : List EVt} (h : nmk k c r i b = (j, some (cc, e))) : k i = c ∧ j = i + 1 ∧ cc = [] ∧ e = [(r, i, 0)] := by
  unfold nmk at h
  split at h
  · rename_i q; cases h; exact ⟨q, rfl, rfl, rfl⟩
  · cases h
theorem evE_inv {P : PA} {ev : Nat → EVt} {i b j : Nat} {c : List CI} {e : List EVt} (h : evE P ev i b = (j, some (c, e))) : ∃ e1, P i b = (j, some (c, e1)) ∧ e = e1 ++ [ev i] := by
  unfold evE at h
  rcases h1 : P i b with ⟨l, _ | ⟨c1, e1⟩⟩
  · rw [h1] at h; cases h
  · rw [h1] at h
    cases h
    exact ⟨e1, rfl, rfl⟩
theorem evT_1 {Q : TS} {ev : EVt} (h : (evT Q ev).2.1.1 = 0) : Q.2.1.1 = 0 := by
  obtain ⟨X, s, td, tp, tt, wo, ki, ne⟩ := Q
  obtain ⟨r, i, j⟩ := ev
  show s.1 = 0
  by_cases c60 : r = 60
  · subst c60
    exact (sNw_1 h).1
  by_cases c61 : r = 61
  · subst c61
    exact (sMn_1 (s := sV s _ _) (by decide) (sMn_1 (by decide) h).1).1
  by_cases c62 : r = 62
  · subst c62
    exact (sMn_1 (s := sV s _ _) (by decide) (sMn_1 (by decide) h).1).1
  by_cases c70 : r = 70
  · subst c70
    exact (sMn_1 (by decide) h).1
  by_cases c63 : r = 63
  · subst c63
    exact (sNw_1 h).1
  by_cases c64 : r = 64
  · subst c64
    exact (sMn_1 (s := sV s _ _) (by decide) h).1
  by_cases c71 : r = 71
  · subst c71
    exact (sMn_1 (by decide) h).1
  by_cases c65 : r = 65
  · subst c65
    exact (sMn_1 (s := sV s _ _) (by decide) h).1
  by_cases c76 : r = 76
  · subst c76
    exact h
  by_cases c72 : r = 72
  · subst c72
    exact (sMn_1 (by decide) h).1
  by_cases c66 : r = 66
  · subst c66
    exact (sNw_1 h).1
  by_cases c1 : r = 1
  · subst c1
    rw [show evT (X, s, td, tp, tt, wo, ki, ne) (1, i, j) = (if s.1 = 0 then (adR (X.2.2.2.1 i) X, s, td, tp, tt, wo, ki, ne) else (X, s, td, tp, tt, wo, ki, ne)) from rfl] at h
    by_cases cs : s.1 = 0
    · exact cs
    · rw [if_neg cs] at h; exact h
  by_cases c2 : r = 2
  · subst c2
    rw [show evT (X, s, td, tp, tt, wo, ki, ne) (2, i, j) = (if s.1 = 0 then (adD X, s, cpF td (3 * X.2.2.2.2.2.2.2.2.2.2) 3 (fun q => s.2.2.1 (i + q)), tp, tt, wo, ki, ne) else (X, s, td, tp, tt, wo, ki, ne)) from rfl] at h
    by_cases cs : s.1 = 0
    · exact cs
    · rw [if_neg cs] at h; exact h
  by_cases c3 : r = 3
  · subst c3
    rw [show evT (X, s, td, tp, tt, wo, ki, ne) (3, i, j) = (if s.1 = 0 then (adP (X.2.2.2.1 i) X, s, td, cpF tp (5 * X.2.2.2.2.2.2.2.2.1) 5 (fun q => [s.2.2.1 (i + 2), s.2.2.1 (i + 3), wo, ki, ne].getD q 0), tt, wo, ki, ne) else (X, s, td, tp, tt, wo, ki, ne)) from rfl] at h
    by_cases cs : s.1 = 0
    · exact cs
    · rw [if_neg cs] at h; exact h
  by_cases c4 : r = 4
  · subst c4
    rw [show evT (X, s, td, tp, tt, wo, ki, ne) (4, i, j) = (if s.1 = 0 then (adT (X.2.2.2.1 i) X, s, td, tp, fun q => if q = X.2.2.2.2.2.2.2.2.2.1 then Int32.ofNat (i + 1) else tt q, wo, ki, ne) else (X, s, td, tp, tt, wo, ki, ne)) from rfl] at h
    by_cases cs : s.1 = 0
    · exact cs
    · rw [if_neg cs] at h; exact h
  rw [show evT (X, s, td, tp, tt, wo, ki, ne) (r, i, j) = (X, evR X s (r, i, j), td, tp, tt, wo, ki, ne) by unfold evT; dsimp only; rw [if_neg c60, if_neg c61, if_neg c62, if_neg c70, if_neg c63, if_neg c64, if_neg c71, if_neg c65, if_neg c76, if_neg c72, if_neg c66, if_neg c1, if_neg c2, if_neg c3, if_neg c4]] at h
  exact evR_1 h
theorem evTs_1 : ∀ {e : List EVt} {Q : TS}, (evTs Q e).2.1.1 = 0 → Q.2.1.1 = 0
  | [], Q, h => h
  | ev :: e, Q, h => evT_1 (evTs_1 (e := e) (Q := evT Q ev) h)
theorem door_inv {k : Nat → Nat} {i b j : Nat} {c : List CI} {e : List EVt} (h : pDoor k i b = (j, some (c, e))) : j = i + 5 ∧ c = [] ∧ e = [(61, i + 1, 0), (62, i + 2, 0), (70, i + 3, 0), (2, i + 1, 0)] := by
  obtain ⟨e1, h1, he⟩ := evE_inv h
  obtain ⟨l1, c1, f1, c2, f2, a1, a2, hc1, he1⟩ := sq_inv h1
  obtain ⟨_, x1, y1, z1⟩ := tk_inv a1
  subst x1 y1 z1
  obtain ⟨l2, c3, f3, c4, f4, a3, a4, hc2, he2⟩ := sq_inv a2
  obtain ⟨_, x2, y2, z2⟩ := nmk_inv a3
  subst x2 y2 z2
  obtain ⟨l3, c5, f5, c6, f6, a5, a6, hc3, he3⟩ := sq_inv a4
  obtain ⟨_, x3, y3, z3⟩ := nmk_inv a5
  subst x3 y3 z3
  obtain ⟨l4, c7, f7, c8, f8, a7, a8, hc4, he4⟩ := sq_inv a6
  obtain ⟨_, x4, y4, z4⟩ := nmk_inv a7
  subst x4 y4 z4
  obtain ⟨_, x5, y5, z5⟩ := tk_inv a8
  subst y5 z5
  subst hc4 he4
  subst hc3 he3
  subst hc2 he2
  subst hc1 he1
  subst he
  exact ⟨x5, rfl, rfl⟩
theorem nd_door {k : Nat → Nat} {i b j : Nat} {c : List CI} {e : List EVt} {Q : TS} (h : pDoor k i b = (j, some (c, e))) (hq : ndQ Q ≤ 24) : ndQ (evTs Q e) ≤ 24 := by
  obtain ⟨_, _, rfl⟩ := door_inv h
  obtain ⟨X, s, td, tp, tt, wo, ki, ne⟩ := Q
  rw [show [(61, i + 1, 0), (62, i + 2, 0), (70, i + 3, 0), ((2, i + 1, 0) : EVt)] = [(61, i + 1, 0)] ++ ([(62, i + 2, 0), (70, i + 3, 0)] ++ [(2, i + 1, 0)]) from rfl, evTs_app, evTs_app]
  have e1 : evTs (X, s, td, tp, tt, wo, ki, ne) [(61, i + 1, 0)] = (X, sMn X (sNm X s (i + 1) (fnL X.2.2.2.2.1 (X.2.2.2.1 (i + 1)) X.2.2.2.2.2.2.2.1 0)) (i + 1) (decide (X.2.2.2.2.2.2.2.2.2.2 = 24)) 4, td, tp, tt, wo, ki, ne) := rfl
  have n1 : ndQ (evTs (evTs (X, s, td, tp, tt, wo, ki, ne) [(61, i + 1, 0)]) [(62, i + 2, 0), (70, i + 3, 0)]) = ndQ (X, s, td, tp, tt, wo, ki, ne) := by
    rw [evTs_nd (by intro ev hv; simp only [List.mem_cons, List.not_mem_nil, or_false] at hv; rcases hv with q | q <;> subst q <;> intro z <;> cases z), e1]
  have z := evTs_1 (e := [(62, i + 2, 0), (70, i + 3, 0)]) (Q := evTs (X, s, td, tp, tt, wo, ki, ne) [(61, i + 1, 0)])
  generalize evTs (evTs (X, s, td, tp, tt, wo, ki, ne) [(61, i + 1, 0)]) [(62, i + 2, 0), (70, i + 3, 0)] = Q' at n1 z ⊢
  obtain ⟨X', s', td', tp', tt', wo', ki', ne'⟩ := Q'
  show ndQ (if s'.1 = 0 then (adD X', s', cpF td' (3 * X'.2.2.2.2.2.2.2.2.2.2) 3 (fun q => s'.2.2.1 (i + 1 + q)), tp', tt', wo', ki', ne') else (X', s', td', tp', tt', wo', ki', ne')) ≤ 24
  by_cases y : s'.1 = 0
  · rw [if_pos y]
    have := z y
    rw [e1] at this
    have h3 := of_decide_eq_false (sMn_1 (by decide) this).2
    show X'.2.2.2.2.2.2.2.2.2.2 + 1 ≤ 24
    have n1' : X'.2.2.2.2.2.2.2.2.2.2 = X.2.2.2.2.2.2.2.2.2.2 := n1
    have hq' : X.2.2.2.2.2.2.2.2.2.2 ≤ 24 := hq
    omega
  · rw [if_neg y]
    show ndQ (X', s', td', tp', tt', wo', ki', ne') ≤ 24
    rw [n1]; exact hq
theorem nd_thing {k : Nat → Nat} {i b j : Nat} {c : List CI} {e : List EVt} {Q : TS} (h : pThing k i b = (j, some (c, e))) (hq : ndQ Q ≤ 24) : ndQ (evTs Q e) ≤ 24 := by
  unfold pThing at h
  split at h
  · rw [evTs_nd (n2_room _ _ _ _ _ h)]; exact hq
  · split at h
    · exact nd_door h hq
    · split at h
      · rw [evTs_nd (n2_part _ _ _ _ _ h)]; exact hq
      · split at h
        · rw [evTs_nd (n2_tour _ _ _ _ _ h)]; exact hq
        · cases h
/-- what the reading of things did -/
def RT (p i : Nat) (Q : TS) (h : mH) (t : Option mO) : PR → Prop
  | (j, none) => ∃ H, t = some (.inl (some (.int 1)), H) ∧ kM H ∧ mI H p 18 = 1 ∧ mI H p 19 = Q.1.2.2.1 j ∧ FT p (402 - i) h H
  | (j, some (_, e)) => ∃ H, t = some (.inl (some (.int (evTs Q e).2.1.1)), H) ∧ tS H p j (evTs Q e) ∧ i ≤ j ∧ FT p (j - i) h H
theorem t_end {D p : Nat} {G : mH} {o : Option Value} (hk : kM G) (hp : isP p) : mExec (mCall D) 123 46 [some (.ref p), some (.int 0), o] [] G = some (.inl (some (.int (mI G p 18))), G) := by
  rw [x_123_46]
  simp (maxDischargeDepth := 60) only [hk, x_123_0, x_123_1, x_123_2, x_123_5, x_123_6, x_123_7, x_123_10, x_123_11, x_123_12, x_123_15, x_123_16, x_123_17, x_123_20, x_123_21, x_123_22, x_123_25, x_123_26, x_123_27, x_123_30, x_123_31, x_123_32, x_123_35, x_123_36, x_123_37, x_123_40, x_123_41, x_123_44, x_123_45, x_123_47, x_123_50, x_123_51, x_123_54, x_123_55, x_123_58, x_123_59, x_123_62, x_123_65, x_123_66, x_123_69, x_123_70, x_123_73, x_123_74, x_123_75, x_123_76, x_123_79, x_123_80, x_123_83, x_123_86, x_123_87, x_123_88, x_123_91, x_123_92, x_123_95, x_123_98, x_123_99, x_123_100, x_123_103, x_123_104, x_123_107, x_123_110, x_123_111, x_123_113, x_123_116, x_123_117, x_123_120, x_123_123, x_123_124, x_123_127, x_123_128, x_123_131, x_123_132, x_123_135, hp, Option.bind_some, mAft_n, mAft_v, mAft_x, mS_n, mS_i, mS_r, mS_l, mS_d, ne_eq, not_false_eq_true, not_true_eq_false, true_or, or_true, and_true, true_and, if_true, if_false, ite_true, ite_false, reduceIte, Nat.reduceAdd, Nat.reduceLeDiff, Nat.reduceEqDiff, false_and, and_false, or_false, false_or, eq_self, reduceCtorEq, mi_316, mi_317, ml_317, mi_318, ml_318, mi_319, ml_319, mi_320, ml_320, mi_321, ml_321, mi_322, ml_322, mi_359, ml_359, mv_316_1, mv_316_4, mv_316_7, mv_316_8, mv_316_9, mv_316_10, mv_316_13, mv_316_14, mv_316_15, pi_0, pi_1, pl_1, pv_1, pi_2, pl_2, pv_2, pi_3, pl_3, pv_3, pi_4, pl_4, pv_4, pi_5, pl_5, pv_5, pi_6, pl_6, pv_10, pi_7, pl_7, pv_11, pi_8, pl_8, pv_12, pi_9, pl_9, pv_13, pi_10, pl_10, pv_14, pi_11, pl_11, pv_15, pv_20, wi_0, wi_1, wl_1, wv_14, wi_2, wl_2, wv_15, wi_3, wl_3, wv_16, wi_4, wl_4, wv_17, wi_5, wl_5, wv_18, wv_21, pt_P, pt_v, pt_w, pt_SI, pt_SL, kM_SI, kM_SL, lI_SL, lV_SL, lK_SL, lN_SL, lL_SL, lIs_SL, nI_SI, nV_SI, nK_SI, nN_SI, nL_SI, nIs_SI, pp_c, pp_l, pp_r, pp_k, pp_k0, pp_j, pp_j0, isl]
theorem r_thing {D p i b : Nat} {Q : TS} {G : mH} {o : Option Value} (m : tS G p i Q) (h48 : ¬ Q.1.1 i = 48) (hd : ndQ Q ≤ 24) :
    ∃ t, RH p i Q G t (pThing Q.1.1 i b) ∧ ∀ (r : Int32) (H : mH), t = some (.inl (some (.int r)), H) → mExec (mCall (D + 36)) 123 46 [some (.ref p), some (.int 1), o] [] G = mExec (mCall (D + 36)) 123 46 [some (.ref p), some (.int r), some (.int (kap (Q.1.1 i)))] [] H := by
  obtain ⟨X, s, td, tp, tt, wo, ki, ne⟩ := Q
  have z0 : (0 : Int32) = 0 ∨ (0 : Int32) = 1 := Or.inl rfl
  have z1 : (1 : Int32) = 0 ∨ (1 : Int32) = 1 := Or.inr rfl
  have n10 : ¬ (1 : Int32) = 0 := by decide
  have mt := m
  obtain ⟨m, t1, t2, t3⟩ := m
  dsimp only at m t1 t2 t3 h48 hd
  obtain ⟨k1, k2, k3, k4, k5, hk, hp⟩ := pS_k m
  have hj : mIn (Int32.ofNat i) 402 = true := i_in (by rw [i_of_i (by omega)]; omega) (by rw [i_of_i (by omega)]; omega)
  have en : (Int32.ofNat i).toNatClampNeg = i := i_of_n (by omega)
  have w48 := kap_eq (x := 202) 48 k2 (by decide) (by decide)
  have w0 := kap_eq (x := 0) 0 k2 (by decide) (by decide)
  have w1 := kap_eq (x := 1) 1 k2 (by decide) (by decide)
  have w2 := kap_eq (x := 2) 2 k2 (by decide) (by decide)
  have w10 := kap_eq (x := 10) 10 k2 (by decide) (by decide)
  show ∃ t, RH p i _ G t (pThing X.1 i b) ∧ _
  by_cases c0 : X.1 i = 0
  · refine ⟨mCall (D + 36) 106 [.ref p] G, ?_, ?_⟩
    · unfold pThing; rw [if_pos c0]; exact r_room (D := D + 32) mt c0
    · intro r H e
      have c := eq_true c0
      rw [x_123_46]
      simp (maxDischargeDepth := 60) only [hk, x_123_0, x_123_1, x_123_2, x_123_5, x_123_6, x_123_7, x_123_10, x_123_11, x_123_12, x_123_15, x_123_16, x_123_17, x_123_20, x_123_21, x_123_22, x_123_25, x_123_26, x_123_27, x_123_30, x_123_31, x_123_32, x_123_35, x_123_36, x_123_37, x_123_40, x_123_41, x_123_44, x_123_45, x_123_47, x_123_50, x_123_51, x_123_54, x_123_55, x_123_58, x_123_59, x_123_62, x_123_65, x_123_66, x_123_69, x_123_70, x_123_73, x_123_74, x_123_75, x_123_76, x_123_79, x_123_80, x_123_83, x_123_86, x_123_87, x_123_88, x_123_91, x_123_92, x_123_95, x_123_98, x_123_99, x_123_100, x_123_103, x_123_104, x_123_107, x_123_110, x_123_111, x_123_113, x_123_116, x_123_117, x_123_120, x_123_123, x_123_124, x_123_127, x_123_128, x_123_131, x_123_132, x_123_135, hp, k4, hj, en, k1, w48, h48, n10, w0, c, e, Option.bind_some, mAft_n, mAft_v, mAft_x, mS_n, mS_i, mS_r, mS_l, mS_d, ne_eq, not_false_eq_true, not_true_eq_false, true_or, or_true, and_true, true_and, if_true, if_false, ite_true, ite_false, reduceIte, Nat.reduceAdd, Nat.reduceLeDiff, Nat.reduceEqDiff, false_and, and_false, or_false, false_or, eq_self, reduceCtorEq, mi_316, mi_317, ml_317, mi_318, ml_318, mi_319, ml_319, mi_320, ml_320, mi_321, ml_321, mi_322, ml_322, mi_359, ml_359, mv_316_1, mv_316_4, mv_316_7, mv_316_8, mv_316_9, mv_316_10, mv_316_13, mv_316_14, mv_316_15, pi_0, pi_1, pl_1, pv_1, pi_2, pl_2, pv_2, pi_3, pl_3, pv_3, pi_4, pl_4, pv_4, pi_5, pl_5, pv_5, pi_6, pl_6, pv_10, pi_7, pl_7, pv_11, pi_8, pl_8, pv_12, pi_9, pl_9, pv_13, pi_10, pl_10, pv_14, pi_11, pl_11, pv_15, pv_20, wi_0, wi_1, wl_1, wv_14, wi_2, wl_2, wv_15, wi_3, wl_3, wv_16, wi_4, wl_4, wv_17, wi_5, wl_5, wv_18, wv_21, pt_P, pt_v, pt_w, pt_SI, pt_SL, kM_SI, kM_SL, lI_SL, lV_SL, lK_SL, lN_SL, lL_SL, lIs_SL, nI_SI, nV_SI, nK_SI, nN_SI, nL_SI, nIs_SI, pp_c, pp_l, pp_r, pp_k, pp_k0, pp_j, pp_j0, isl]
  by_cases c1 : X.1 i = 1
  · refine ⟨mCall (D + 36) 109 [.ref p] G, ?_, ?_⟩
    · unfold pThing; rw [if_neg c0, if_pos c1]; exact r_door (D := D + 32) mt c1 hd
    · intro r H e
      have c := eq_true c1
      rw [x_123_46]
      simp (maxDischargeDepth := 60) only [hk, x_123_0, x_123_1, x_123_2, x_123_5, x_123_6, x_123_7, x_123_10, x_123_11, x_123_12, x_123_15, x_123_16, x_123_17, x_123_20, x_123_21, x_123_22, x_123_25, x_123_26, x_123_27, x_123_30, x_123_31, x_123_32, x_123_35, x_123_36, x_123_37, x_123_40, x_123_41, x_123_44, x_123_45, x_123_47, x_123_50, x_123_51, x_123_54, x_123_55, x_123_58, x_123_59, x_123_62, x_123_65, x_123_66, x_123_69, x_123_70, x_123_73, x_123_74, x_123_75, x_123_76, x_123_79, x_123_80, x_123_83, x_123_86, x_123_87, x_123_88, x_123_91, x_123_92, x_123_95, x_123_98, x_123_99, x_123_100, x_123_103, x_123_104, x_123_107, x_123_110, x_123_111, x_123_113, x_123_116, x_123_117, x_123_120, x_123_123, x_123_124, x_123_127, x_123_128, x_123_131, x_123_132, x_123_135, hp, k4, hj, en, k1, w48, h48, n10, w0, w1, c0, c, e, Option.bind_some, mAft_n, mAft_v, mAft_x, mS_n, mS_i, mS_r, mS_l, mS_d, ne_eq, not_false_eq_true, not_true_eq_false, true_or, or_true, and_true, true_and, if_true, if_false, ite_true, ite_false, reduceIte, Nat.reduceAdd, Nat.reduceLeDiff, Nat.reduceEqDiff, false_and, and_false, or_false, false_or, eq_self, reduceCtorEq, mi_316, mi_317, ml_317, mi_318, ml_318, mi_319, ml_319, mi_320, ml_320, mi_321, ml_321, mi_322, ml_322, mi_359, ml_359, mv_316_1, mv_316_4, mv_316_7, mv_316_8, mv_316_9, mv_316_10, mv_316_13, mv_316_14, mv_316_15, pi_0, pi_1, pl_1, pv_1, pi_2, pl_2, pv_2, pi_3, pl_3, pv_3, pi_4, pl_4, pv_4, pi_5, pl_5, pv_5, pi_6, pl_6, pv_10, pi_7, pl_7, pv_11, pi_8, pl_8, pv_12, pi_9, pl_9, pv_13, pi_10, pl_10, pv_14, pi_11, pl_11, pv_15, pv_20, wi_0, wi_1, wl_1, wv_14, wi_2, wl_2, wv_15, wi_3, wl_3, wv_16, wi_4, wl_4, wv_17, wi_5, wl_5, wv_18, wv_21, pt_P, pt_v, pt_w, pt_SI, pt_SL, kM_SI, kM_SL, lI_SL, lV_SL, lK_SL, lN_SL, lL_SL, lIs_SL, nI_SI, nV_SI, nK_SI, nN_SI, nL_SI, nIs_SI, pp_c, pp_l, pp_r, pp_k, pp_k0, pp_j, pp_j0, isl]
  by_cases c2 : X.1 i = 2
  · refine ⟨mCall (D + 36) 110 [.ref p] G, ?_, ?_⟩
    · unfold pThing; rw [if_neg c0, if_neg c1, if_pos c2]; exact r_part (D := D + 32) mt c2
    · intro r H e
      have c := eq_true c2
      rw [x_123_46]
      simp (maxDischargeDepth := 60) only [hk, x_123_0, x_123_1, x_123_2, x_123_5, x_123_6, x_123_7, x_123_10, x_123_11, x_123_12, x_123_15, x_123_16, x_123_17, x_123_20, x_123_21, x_123_22, x_123_25, x_123_26, x_123_27, x_123_30, x_123_31, x_123_32, x_123_35, x_123_36, x_123_37, x_123_40, x_123_41, x_123_44, x_123_45, x_123_47, x_123_50, x_123_51, x_123_54, x_123_55, x_123_58, x_123_59, x_123_62, x_123_65, x_123_66, x_123_69, x_123_70, x_123_73, x_123_74, x_123_75, x_123_76, x_123_79, x_123_80, x_123_83, x_123_86, x_123_87, x_123_88, x_123_91, x_123_92, x_123_95, x_123_98, x_123_99, x_123_100, x_123_103, x_123_104, x_123_107, x_123_110, x_123_111, x_123_113, x_123_116, x_123_117, x_123_120, x_123_123, x_123_124, x_123_127, x_123_128, x_123_131, x_123_132, x_123_135, hp, k4, hj, en, k1, w48, h48, n10, w0, w1, w2, c0, c1, c, e, Option.bind_some, mAft_n, mAft_v, mAft_x, mS_n, mS_i, mS_r, mS_l, mS_d, ne_eq, not_false_eq_true, not_true_eq_false, true_or, or_true, and_true, true_and, if_true, if_false, ite_true, ite_false, reduceIte, Nat.reduceAdd, Nat.reduceLeDiff, Nat.reduceEqDiff, false_and, and_false, or_false, false_or, eq_self, reduceCtorEq, mi_316, mi_317, ml_317, mi_318, ml_318, mi_319, ml_319, mi_320, ml_320, mi_321, ml_321, mi_322, ml_322, mi_359, ml_359, mv_316_1, mv_316_4, mv_316_7, mv_316_8, mv_316_9, mv_316_10, mv_316_13, mv_316_14, mv_316_15, pi_0, pi_1, pl_1, pv_1, pi_2, pl_2, pv_2, pi_3, pl_3, pv_3, pi_4, pl_4, pv_4, pi_5, pl_5, pv_5, pi_6, pl_6, pv_10, pi_7, pl_7, pv_11, pi_8, pl_8, pv_12, pi_9, pl_9, pv_13, pi_10, pl_10, pv_14, pi_11, pl_11, pv_15, pv_20, wi_0, wi_1, wl_1, wv_14, wi_2, wl_2, wv_15, wi_3, wl_3, wv_16, wi_4, wl_4, wv_17, wi_5, wl_5, wv_18, wv_21, pt_P, pt_v, pt_w, pt_SI, pt_SL, kM_SI, kM_SL, lI_SL, lV_SL, lK_SL, lN_SL, lL_SL, lIs_SL, nI_SI, nV_SI, nK_SI, nN_SI, nL_SI, nIs_SI, pp_c, pp_l, pp_r, pp_k, pp_k0, pp_j, pp_j0, isl]
  by_cases c3 : X.1 i = 10
  · refine ⟨mCall (D + 36) 122 [.ref p] G, ?_, ?_⟩
    · unfold pThing; rw [if_neg c0, if_neg c1, if_neg c2, if_pos c3]; exact r_tour (D := D) mt c3
    · intro r H e
      have c := eq_true c3
      rw [x_123_46]
      simp (maxDischargeDepth := 60) only [hk, x_123_0, x_123_1, x_123_2, x_123_5, x_123_6, x_123_7, x_123_10, x_123_11, x_123_12, x_123_15, x_123_16, x_123_17, x_123_20, x_123_21, x_123_22, x_123_25, x_123_26, x_123_27, x_123_30, x_123_31, x_123_32, x_123_35, x_123_36, x_123_37, x_123_40, x_123_41, x_123_44, x_123_45, x_123_47, x_123_50, x_123_51, x_123_54, x_123_55, x_123_58, x_123_59, x_123_62, x_123_65, x_123_66, x_123_69, x_123_70, x_123_73, x_123_74, x_123_75, x_123_76, x_123_79, x_123_80, x_123_83, x_123_86, x_123_87, x_123_88, x_123_91, x_123_92, x_123_95, x_123_98, x_123_99, x_123_100, x_123_103, x_123_104, x_123_107, x_123_110, x_123_111, x_123_113, x_123_116, x_123_117, x_123_120, x_123_123, x_123_124, x_123_127, x_123_128, x_123_131, x_123_132, x_123_135, hp, k4, hj, en, k1, w48, h48, n10, w0, w1, w2, w10, c0, c1, c2, c, e, Option.bind_some, mAft_n, mAft_v, mAft_x, mS_n, mS_i, mS_r, mS_l, mS_d, ne_eq, not_false_eq_true, not_true_eq_false, true_or, or_true, and_true, true_and, if_true, if_false, ite_true, ite_false, reduceIte, Nat.reduceAdd, Nat.reduceLeDiff, Nat.reduceEqDiff, false_and, and_false, or_false, false_or, eq_self, reduceCtorEq, mi_316, mi_317, ml_317, mi_318, ml_318, mi_319, ml_319, mi_320, ml_320, mi_321, ml_321, mi_322, ml_322, mi_359, ml_359, mv_316_1, mv_316_4, mv_316_7, mv_316_8, mv_316_9, mv_316_10, mv_316_13, mv_316_14, mv_316_15, pi_0, pi_1, pl_1, pv_1, pi_2, pl_2, pv_2, pi_3, pl_3, pv_3, pi_4, pl_4, pv_4, pi_5, pl_5, pv_5, pi_6, pl_6, pv_10, pi_7, pl_7, pv_11, pi_8, pl_8, pv_12, pi_9, pl_9, pv_13, pi_10, pl_10, pv_14, pi_11, pl_11, pv_15, pv_20, wi_0, wi_1, wl_1, wv_14, wi_2, wl_2, wv_15, wi_3, wl_3, wv_16, wi_4, wl_4, wv_17, wi_5, wl_5, wv_18, wv_21, pt_P, pt_v, pt_w, pt_SI, pt_SL, kM_SI, kM_SL, lI_SL, lV_SL, lK_SL, lN_SL, lL_SL, lIs_SL, nI_SI, nV_SI, nK_SI, nN_SI, nL_SI, nIs_SI, pp_c, pp_l, pp_r, pp_k, pp_k0, pp_j, pp_j0, isl]
  · refine ⟨mCall (D + 36) 101 [.ref p] G, ?_, ?_⟩
    · unfold pThing; rw [if_neg c0, if_neg c1, if_neg c2, if_neg c3]
      obtain ⟨H, a1, a2, a3, a4, a5⟩ := q_fail (D := D + 35) m
      exact ⟨H, a1, a2, a3, a4, FT_mono (FT_Fr a5) (by omega)⟩
    · intro r H e
      rw [x_123_46]
      simp (maxDischargeDepth := 60) only [hk, x_123_0, x_123_1, x_123_2, x_123_5, x_123_6, x_123_7, x_123_10, x_123_11, x_123_12, x_123_15, x_123_16, x_123_17, x_123_20, x_123_21, x_123_22, x_123_25, x_123_26, x_123_27, x_123_30, x_123_31, x_123_32, x_123_35, x_123_36, x_123_37, x_123_40, x_123_41, x_123_44, x_123_45, x_123_47, x_123_50, x_123_51, x_123_54, x_123_55, x_123_58, x_123_59, x_123_62, x_123_65, x_123_66, x_123_69, x_123_70, x_123_73, x_123_74, x_123_75, x_123_76, x_123_79, x_123_80, x_123_83, x_123_86, x_123_87, x_123_88, x_123_91, x_123_92, x_123_95, x_123_98, x_123_99, x_123_100, x_123_103, x_123_104, x_123_107, x_123_110, x_123_111, x_123_113, x_123_116, x_123_117, x_123_120, x_123_123, x_123_124, x_123_127, x_123_128, x_123_131, x_123_132, x_123_135, hp, k4, hj, en, k1, w48, h48, n10, w0, w1, w2, w10, c0, c1, c2, c3, e, Option.bind_some, mAft_n, mAft_v, mAft_x, mS_n, mS_i, mS_r, mS_l, mS_d, ne_eq, not_false_eq_true, not_true_eq_false, true_or, or_true, and_true, true_and, if_true, if_false, ite_true, ite_false, reduceIte, Nat.reduceAdd, Nat.reduceLeDiff, Nat.reduceEqDiff, false_and, and_false, or_false, false_or, eq_self, reduceCtorEq, mi_316, mi_317, ml_317, mi_318, ml_318, mi_319, ml_319, mi_320, ml_320, mi_321, ml_321, mi_322, ml_322, mi_359, ml_359, mv_316_1, mv_316_4, mv_316_7, mv_316_8, mv_316_9, mv_316_10, mv_316_13, mv_316_14, mv_316_15, pi_0, pi_1, pl_1, pv_1, pi_2, pl_2, pv_2, pi_3, pl_3, pv_3, pi_4, pl_4, pv_4, pi_5, pl_5, pv_5, pi_6, pl_6, pv_10, pi_7, pl_7, pv_11, pi_8, pl_8, pv_12, pi_9, pl_9, pv_13, pi_10, pl_10, pv_14, pi_11, pl_11, pv_15, pv_20, wi_0, wi_1, wl_1, wv_14, wi_2, wl_2, wv_15, wi_3, wl_3, wv_16, wi_4, wl_4, wv_17, wi_5, wl_5, wv_18, wv_21, pt_P, pt_v, pt_w, pt_SI, pt_SL, kM_SI, kM_SL, lI_SL, lV_SL, lK_SL, lN_SL, lL_SL, lIs_SL, nI_SI, nV_SI, nK_SI, nN_SI, nL_SI, nIs_SI, pp_c, pp_l, pp_r, pp_k, pp_k0, pp_j, pp_j0, isl]
theorem r_txt {D p : Nat} : ∀ (n : Nat) {i b : Nat} {Q : TS} {G : mH} {o : Option Value}, tS G p i Q → 402 ≤ i + n → ndQ Q ≤ 24 → RT p i Q G (mExec (mCall (D + 36)) 123 46 [some (.ref p), some (.int 1), o] [] G) (pTxt Q.1.1 n i b) := by
  intro n
  induction n with
  | zero =>
    intro i b Q G o m hn _
    have := (pS_k m.1).2.2.1
    omega
  | succ n ih =>
    intro i b Q G o m hn hd
    have hp := m.1.2.1
    by_cases c : Q.1.1 i = 48
    · unfold pTxt
      rw [if_pos c]
      obtain ⟨k1, k2, k3, k4, k5, hk, _⟩ := pS_k m.1
      have hj : mIn (Int32.ofNat i) 402 = true := i_in (by rw [i_of_i (by omega)]; omega) (by rw [i_of_i (by omega)]; omega)
      have en : (Int32.ofNat i).toNatClampNeg = i := i_of_n (by omega)
      have w48 := kap_eq (x := 202) 48 k2 (by decide) (by decide)
      have er : mI G p 18 = Q.2.1.1 := m.1.2.2.2.2.2.2.2.2.2.2.2.2.2.2.2.1
      have c' := eq_true c
      have n10 : ¬ (1 : Int32) = 0 := by decide
      refine ⟨G, ?_, m, Nat.le_refl i, FT_mono FT_refl (by omega)⟩
      show mExec (mCall (D + 36)) 123 46 [some (.ref p), some (.int 1), o] [] G = some (.inl (some (.int Q.2.1.1)), G)
      rw [x_123_46]
      simp (maxDischargeDepth := 60) only [hk, x_123_0, x_123_1, x_123_2, x_123_5, x_123_6, x_123_7, x_123_10, x_123_11, x_123_12, x_123_15, x_123_16, x_123_17, x_123_20, x_123_21, x_123_22, x_123_25, x_123_26, x_123_27, x_123_30, x_123_31, x_123_32, x_123_35, x_123_36, x_123_37, x_123_40, x_123_41, x_123_44, x_123_45, x_123_47, x_123_50, x_123_51, x_123_54, x_123_55, x_123_58, x_123_59, x_123_62, x_123_65, x_123_66, x_123_69, x_123_70, x_123_73, x_123_74, x_123_75, x_123_76, x_123_79, x_123_80, x_123_83, x_123_86, x_123_87, x_123_88, x_123_91, x_123_92, x_123_95, x_123_98, x_123_99, x_123_100, x_123_103, x_123_104, x_123_107, x_123_110, x_123_111, x_123_113, x_123_116, x_123_117, x_123_120, x_123_123, x_123_124, x_123_127, x_123_128, x_123_131, x_123_132, x_123_135, hp, k4, hj, en, k1, w48, c', er, n10, Option.bind_some, mAft_n, mAft_v, mAft_x, mS_n, mS_i, mS_r, mS_l, mS_d, ne_eq, not_false_eq_true, not_true_eq_false, true_or, or_true, and_true, true_and, if_true, if_false, ite_true, ite_false, reduceIte, Nat.reduceAdd, Nat.reduceLeDiff, Nat.reduceEqDiff, false_and, and_false, or_false, false_or, eq_self, reduceCtorEq, mi_316, mi_317, ml_317, mi_318, ml_318, mi_319, ml_319, mi_320, ml_320, mi_321, ml_321, mi_322, ml_322, mi_359, ml_359, mv_316_1, mv_316_4, mv_316_7, mv_316_8, mv_316_9, mv_316_10, mv_316_13, mv_316_14, mv_316_15, pi_0, pi_1, pl_1, pv_1, pi_2, pl_2, pv_2, pi_3, pl_3, pv_3, pi_4, pl_4, pv_4, pi_5, pl_5, pv_5, pi_6, pl_6, pv_10, pi_7, pl_7, pv_11, pi_8, pl_8, pv_12, pi_9, pl_9, pv_13, pi_10, pl_10, pv_14, pi_11, pl_11, pv_15, pv_20, wi_0, wi_1, wl_1, wv_14, wi_2, wl_2, wv_15, wi_3, wl_3, wv_16, wi_4, wl_4, wv_17, wi_5, wl_5, wv_18, wv_21, pt_P, pt_v, pt_w, pt_SI, pt_SL, kM_SI, kM_SL, lI_SL, lV_SL, lK_SL, lN_SL, lL_SL, lIs_SL, nI_SI, nV_SI, nK_SI, nN_SI, nL_SI, nIs_SI, pp_c, pp_l, pp_r, pp_k, pp_k0, pp_j, pp_j0, isl]
    · obtain ⟨t, g, st⟩ := r_thing (D := D) (b := b) (o := o) m c hd
      have eP : pTxt Q.1.1 (n + 1) i b = sq (pThing Q.1.1) (pTxt Q.1.1 n) i b := by rw [pTxt]; exact if_neg c
      rw [eP]
      rcases h1 : pThing Q.1.1 i b with ⟨l, _ | ⟨c1, e1⟩⟩
      · rw [h1] at g
        obtain ⟨H, a1, a2, a3, a4, a5⟩ := g
        rw [sq_n h1, st _ _ a1, t_end a2 hp, a3]
        exact ⟨H, rfl, a2, a3, a4, a5⟩
      · rw [h1] at g
        obtain ⟨H, a1, a2, a3, a4⟩ := g
        rw [st _ _ a1]
        have ek := evTs_k (e := e1) (Q := Q)
        have tail := ih (b := b + c1.length) (o := some (.int (kap (Q.1.1 i)))) a2 (by omega) (nd_thing h1 hd)
        rw [ek.1] at tail
        rcases h2 : pTxt Q.1.1 n l (b + c1.length) with ⟨l2, _ | ⟨c2, e2⟩⟩
        · rw [h2] at tail
          obtain ⟨K, b1, b2, b3, b4, b5⟩ := tail
          rw [sq_sn h1 h2]
          have lt := (pS_k a2.1).2.2.1
          exact ⟨K, b1, b2, b3, by rw [b4, ek.2.2.1], FT_mono (FT_trans a4 b5) (by omega)⟩
        · rw [h2] at tail
          obtain ⟨K, b1, b2, b3, b5⟩ := tail
          rw [sq_ss h1 h2]
          refine ⟨K, ?_, ?_, by omega, FT_mono (FT_trans a4 b5) (by omega)⟩
          · rw [evTs_app]; exact b1
          · rw [evTs_app]; exact b2
