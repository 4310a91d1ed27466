/-! FRAMES -/
/-- next, end, first, times; how deep its blocks may go, its tour -/
abbrev FRM : Type := Nat × Nat × Nat × Nat × Nat × Nat
def EVQ (V L : Nat → Int32) (np q : Nat) (e : List EVt) : Prop := ∀ ev, ev ∈ e → (ev.1 = 67 → ∃ x, x < 12 ∧ V ev.2.1 = Int32.ofNat x) ∧ (ev.1 = 68 → ∃ x, x < np ∧ V ev.2.1 = Int32.ofNat x) ∧ (ev.1 = 69 → ∃ x, x < q ∧ V ev.2.1 = Int32.ofNat x) ∧ (ev.1 = 74 → ∃ x, x ≤ 9 ∧ V ev.2.1 = Int32.ofNat x) ∧ (ev.1 = 0 → L ev.2.1 = Int32.ofNat ev.2.2)
theorem EVQ_l {V L : Nat → Int32} {np q : Nat} {e e' : List EVt} (h : EVQ V L np q (e ++ e')) : EVQ V L np q e := fun ev hv => h ev (List.mem_append_left _ hv)
theorem EVQ_r {V L : Nat → Int32} {np q : Nat} {e e' : List EVt} (h : EVQ V L np q (e ++ e')) : EVQ V L np q e' := fun ev hv => h ev (List.mem_append_right _ hv)
theorem EVQ_ok {V L : Nat → Int32} {np q : Nat} {e : List EVt} (h : EVQ V L np q e) : evOK V np e := fun ev hv => ⟨(h ev hv).1, (h ev hv).2.1⟩
def BOD (k : Nat → Nat) (V L : Nat → Int32) (np : Nat) (E : EV) (q a fi en pc : Nat) (c : List CI) : Prop := ∃ m e, 402 ≤ fi + m ∧ pSns k (pTst k (pSingle k a)) (pBlock k a) m fi pc = (en, some (c, e)) ∧ EVQ V L np q e ∧ cAt E V pc c
def AT (k : Nat → Nat) (n : Nat) (V L : Nat → Int32) (np : Nat) (E : EV) : List FRM → Nat → List Int32 → List Int32 → Prop
  | [], _, _, _ => False
  | (nx, en, fi, ti, a, q) :: fs, pc, ls', rs => ∃ c, BOD k V L np E q a nx en pc c ∧ k en = 32 ∧ en < n ∧ a ≤ 7 ∧ rs.length + q ≤ 5 ∧ fs.length + 1 + (8 * q + a) ≤ 48 ∧ ls'.length ≤ fs.length + 1 ∧ nx < n ∧ fi < n ∧ 1 ≤ ti ∧ ti ≤ 9 ∧
    ((ti = 1 ∧ lg E.2.2.2.1 (Int32.ofNat (pc + c.length)) = 0 ∧ ((fs = [] ∧ rs = []) ∨ ∃ pcR rs', rs = rs' ++ [Int32.ofNat pcR] ∧ AT k n V L np E fs pcR ls' rs')) ∨
     (ti = 1 ∧ AT k n V L np E fs (pc + c.length) ls' rs) ∨
     (ti = 1 ∧ ∃ pc3, lg E.2.2.2.1 (Int32.ofNat (pc + c.length)) = 8 ∧ lg E.2.2.2.2.1 (Int32.ofNat (pc + c.length)) = Int32.ofNat pc3 ∧ AT k n V L np E fs pc3 ls' rs) ∨
     (∃ hd pcE l2 c0, lg E.2.2.2.1 (Int32.ofNat (pc + c.length)) = 8 ∧ lg E.2.2.2.2.1 (Int32.ofNat (pc + c.length)) = Int32.ofNat hd ∧ lg E.2.2.2.1 (Int32.ofNat hd) = 7 ∧ lg E.2.2.2.2.1 (Int32.ofNat hd) = Int32.ofNat pcE ∧ ls' = l2 ++ [Int32.ofNat (ti - 1)] ∧ BOD k V L np E q a fi en (hd + 1) c0 ∧ pc + c.length = hd + 1 + c0.length ∧ AT k n V L np E fs pcE l2 rs))
def WW (k : Nat → Nat) (n : Nat) (V L : Nat → Int32) (np : Nat) (E : EV) (fs : List FRM) (s : VM) (S : VS) : Prop := (fs = [] ∧ s.2.2.2.2 = (false, false, S)) ∨ ∃ pc ls' rs, s = (Int32.ofNat pc, [], ls', rs, true, false, S) ∧ AT k n V L np E fs pc ls' rs
theorem pl_pv {l : List Int32} {x : Int32} (h : l.length ≤ 1000) : pv (l ++ [x]) = x ∧ pl (l ++ [x]) = l := pv_app (by omega)
theorem at_end {k : Nat → Nat} {n : Nat} {V L : Nat → Int32} {np : Nat} {E : EV} {K : VK} {S : VS} {en fi ti a q pc : Nat} {fs : List FRM} {ls' rs : List Int32} (h : AT k n V L np E ((en, en, fi, ti, a, q) :: fs) pc ls' rs) :
    ∃ N s, N ≤ 2 ∧ VRn K E N (Int32.ofNat pc, [], ls', rs, true, false, S) s ∧ WW k n V L np E (if ti = 1 then fs else (fi, en, fi, ti - 1, a, q) :: fs) s S := by
  obtain ⟨c, ⟨m, e, b1, b2, b3, b4⟩, k32, hen, ha, hr, hf, hl, hnx, hfi, t1, t9, alt⟩ := h
  have hse : ¬ isSe (k en) = true := by rw [k32]; decide
  obtain ⟨_, hc, _⟩ := sns_end hse b2
  subst hc
  rw [List.length_nil, Nat.add_zero] at alt
  rcases alt with ⟨e1, o0, alt⟩ | ⟨e1, alt⟩ | ⟨e1, pc3, o8, od, alt⟩ | ⟨hd, pcE, l2, c0, o8, od, o7, od7, hls, hb, hpc, alt⟩
  · rw [if_pos e1]
    have st := VRn_1 (K := K) (E := E) (s := (Int32.ofNat pc, [], ls', rs, true, false, S)) rfl
    rw [vm_c o0 rfl (by decide)] at st
    have ev : vmC K E 0 (lg E.2.2.2.2.1 (Int32.ofNat pc)) (Int32.ofNat (pc + 1), [], ls', rs, true, false, S) = (pv rs, [], ls', pl rs, decide (0 < rs.length), false, S) := by
      unfold vmC
      dsimp only
      rw [if_neg (by decide), if_neg (by decide), if_neg (by decide), if_neg (by decide), if_neg (by decide), if_neg (by decide), if_neg (by decide), if_neg (by decide), if_neg (by decide)]
    rw [ev] at st
    refine ⟨1, _, by omega, st, ?_⟩
    rcases alt with ⟨e2, e3⟩ | ⟨pcR, rs', e2, alt⟩
    · left
      refine ⟨e2, ?_⟩
      rw [e3]; rfl
    · right
      have l5 : rs'.length ≤ 1000 := by rw [e2, List.length_append] at hr; omega
      refine ⟨pcR, ls', rs', ?_, alt⟩
      rw [e2, (pl_pv l5).1, (pl_pv l5).2]
      have : decide (0 < (rs' ++ [Int32.ofNat pcR]).length) = true := by rw [decide_eq_true_iff, List.length_append, List.length_cons]; omega
      rw [this]
  · rw [if_pos e1]
    exact ⟨0, _, by omega, VRn_0, Or.inr ⟨pc, ls', rs, rfl, alt⟩⟩
  · rw [if_pos e1]
    have st := VRn_1 (K := K) (E := E) (s := (Int32.ofNat pc, [], ls', rs, true, false, S)) rfl
    rw [vm_c o8 od (by decide)] at st
    exact ⟨1, _, by omega, st, Or.inr ⟨pc3, ls', rs, rfl, alt⟩⟩
  · have st := VRn_1 (K := K) (E := E) (s := (Int32.ofNat pc, [], ls', rs, true, false, S)) rfl
    rw [vm_c o8 od (by decide)] at st
    have st' : VRn K E 1 (Int32.ofNat pc, [], ls', rs, true, false, S) (Int32.ofNat hd, [], ls', rs, true, false, S) := st
    have s2 := VRn_1 (K := K) (E := E) (s := (Int32.ofNat hd, [], ls', rs, true, false, S)) rfl
    rw [vm_c o7 od7 (by decide)] at s2
    have l5 : l2.length ≤ 47 := by rw [hls, List.length_append, List.length_cons, List.length_nil] at hl; omega
    have ev : vmC K E 7 (Int32.ofNat pcE) (Int32.ofNat (hd + 1), [], ls', rs, true, false, S) = if Int32.ofNat (ti - 1) ≤ 0 then (Int32.ofNat pcE, [], l2, rs, true, false, S) else (Int32.ofNat (hd + 1), [], la 48 l2 (Int32.ofNat (ti - 1) - 1), rs, true, false, S) := by
      unfold vmC
      dsimp only
      rw [if_neg (by decide), if_neg (by decide), if_neg (by decide), if_neg (by decide), if_neg (by decide), if_neg (by decide), if_pos rfl, hls, (pl_pv (by omega)).1, (pl_pv (by omega)).2]
    rw [ev] at s2
    by_cases e1 : ti = 1
    · rw [if_pos e1]
      rw [if_pos (by rw [e1]; decide)] at s2
      exact ⟨1 + 1, _, by omega, VRn_t st' s2, Or.inr ⟨pcE, l2, rs, rfl, alt⟩⟩
    · rw [if_neg e1]
      rw [if_neg (by rw [show (0 : Int32) = Int32.ofNat 0 from rfl, i_ofle (by omega) (by omega)]; omega), la_ok (by omega), show Int32.ofNat (ti - 1) - 1 = Int32.ofNat (ti - 1 - 1) by rw [show (1 : Int32) = Int32.ofNat 1 from rfl, i_subof (by omega)]] at s2
      refine ⟨1 + 1, _, by omega, VRn_t st' s2, Or.inr ⟨hd + 1, l2 ++ [Int32.ofNat (ti - 1 - 1)], rs, rfl, ?_⟩⟩
      refine ⟨c0, hb, k32, hen, ha, hr, hf, ?_, hfi, hfi, by omega, by omega, Or.inr (Or.inr (Or.inr ⟨hd, pcE, l2, c0, ?_, ?_, o7, od7, rfl, hb, rfl, alt⟩))⟩
      · rw [hls, List.length_append] at hl; rw [List.length_append]; exact hl
      · rw [← hpc]; exact o8
      · rw [← hpc]; exact od
