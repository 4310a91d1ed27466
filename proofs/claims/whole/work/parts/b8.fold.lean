/-! THE CLASS'S NAMING: OVER THE ROLES ALONE -/
/-- a role, its token, its place in the code -/
abbrev EP : Type := Nat × Nat × Int32
def cs (B : List Int32) (x : EP) (M : NM) : Int32 × NM := nStep B ((tT B).getD x.2.1 (0, 0, 0, 0), rlW x.1, x.2.2) M
abbrev plL (M : NM) : Nat := M.2.2.2.2.2.2.1.length
abbrev pnL (M : NM) : Nat := M.2.2.2.2.1.length
def fC (B : List Int32) : List EP → NM → Int32 × Nat × NM
  | [], M => (0, 0, M)
  | x :: l, M => if (cs B x M).1 = 0 then fC B l (cs B x M).2 else ((cs B x M).1, x.2.1, (cs B x M).2)
def gC (B : List Int32) : List EP → NM → Prop
  | [], M => plL M - 1 ≤ pnL M
  | x :: l, M => plL M - 1 ≤ pnL M ∧ ((cs B x M).1 = 0 → gC B l (cs B x M).2)
def evP : Nat → ME → List EP
  | _, [] => []
  | i, x :: me => if x.1 = 0 then evP (i + 1) me else (x.1, i, x.2) :: evP (i + 1) me
theorem evP_O : ∀ (i : Nat) (me : ME), (evP i me).map (fun x => ((x.1, x.2.1, 0) : EVt)) = evO i me
  | _, [] => rfl
  | i, x :: me => by
    rw [evP, evO]
    by_cases c : x.1 = 0
    · rw [if_pos c, if_pos c]; exact evP_O (i + 1) me
    · rw [if_neg c, if_neg c, List.map_cons, evP_O (i + 1) me]
theorem evP_mem : ∀ {i : Nat} {me : ME} {x : EP}, x ∈ evP i me → ∃ t, t < me.length ∧ x.2.1 = i + t ∧ x.1 = (me.getD t (0, 0)).1 ∧ x.2.2 = (me.getD t (0, 0)).2 ∧ ¬ x.1 = 0
  | _, [], _, h => by cases h
  | i, y :: me, x, h => by
    rw [evP] at h
    have tl : x ∈ evP (i + 1) me → ∃ t, t < (y :: me).length ∧ x.2.1 = i + t ∧ x.1 = ((y :: me).getD t (0, 0)).1 ∧ x.2.2 = ((y :: me).getD t (0, 0)).2 ∧ ¬ x.1 = 0 := fun h => by
      obtain ⟨t, h1, h2, h3, h4, h5⟩ := evP_mem h
      exact ⟨t + 1, Nat.succ_lt_succ h1, by omega, h3, h4, h5⟩
    by_cases c : y.1 = 0
    · rw [if_pos c] at h; exact tl h
    · rw [if_neg c] at h
      rcases List.mem_cons.mp h with e | e
      · subst e; exact ⟨0, Nat.succ_pos _, rfl, rfl, rfl, c⟩
      · exact tl e
theorem evP_in : ∀ {i : Nat} {me : ME} {t : Nat}, t < me.length → ¬ (me.getD t (0, 0)).1 = 0 → ((me.getD t (0, 0)).1, i + t, (me.getD t (0, 0)).2) ∈ evP i me
  | _, [], _, h, _ => by cases h
  | i, y :: me, 0, h, hn => by
    have hn : ¬ y.1 = 0 := hn
    rw [evP, if_neg hn]
    exact List.mem_cons_self ..
  | i, y :: me, t + 1, h, hn => by
    have := evP_in (i := i + 1) (t := t) (me := me) (Nat.lt_of_succ_lt_succ h) hn
    rw [evP, show i + (t + 1) = i + 1 + t by omega]
    by_cases c : y.1 = 0
    · rw [if_pos c]; exact this
    · rw [if_neg c]; exact List.mem_cons_of_mem _ this
def sgm (B : List Int32) : Nat → ME → List TD
  | _, [] => []
  | i, x :: me => ((tT B).getD i (0, 0, 0, 0), rlW x.1, x.2) :: sgm B (i + 1) me
theorem sgm_app {B : List Int32} : ∀ (i : Nat) (m m' : ME), sgm B i (m ++ m') = sgm B i m ++ sgm B (i + m.length) m'
  | _, [], _ => rfl
  | i, x :: m, m' => by
    rw [List.cons_append, sgm, sgm, sgm_app (i + 1) m m', List.length_cons, show i + 1 + m.length = i + (m.length + 1) by omega]
    rfl
theorem sgm_zip {B : List Int32} : ∀ (i : Nat) (me : ME), i + me.length = (tT B).length → ((tT B).drop i).zip ((meR me).zip (meP me)) = sgm B i me
  | i, [], _ => by show ((tT B).drop i).zip [] = []; exact List.zip_nil_right
  | i, x :: me, h => by
    rw [List.length_cons] at h
    have hi : i < (tT B).length := by omega
    rw [sgm, ← sgm_zip (i + 1) me (by omega), getD_lt hi, List.drop_eq_getElem_cons hi]
    rfl
theorem nStep_0 {B : List Int32} {q : TK} {pl : Int32} {M : NM} (hk : q.1 < 50) (h : kOK q.1 0) : nStep B (q, 0, pl) M = (0, M) := by
  obtain ⟨h1, h2, h3⟩ := h.1 rfl
  obtain ⟨rn, df, dt, ds, pn, pr, pl', pw, pk, pd, tn, ts, od⟩ := M
  unfold nStep
  dsimp only
  rw [if_neg h1]
  have a8 : ¬ Int32.ofNat q.1 = 8 := by rw [show (8 : Int32) = Int32.ofNat 8 from rfl, i_ofeq (by omega) (by omega)]; exact h2
  have a9 : ¬ Int32.ofNat q.1 = 9 := by rw [show (9 : Int32) = Int32.ofNat 9 from rfl, i_ofeq (by omega) (by omega)]; exact h3
  show (0, nKD (Int32.ofNat q.1) (rn, df, dt, ds, pn, pr, pl', pw, pk, pd, tn, ts, od)) = _
  unfold nKD
  dsimp only
  rw [if_neg a8, if_neg a9]
theorem nChk_sgm {B : List Int32} {D : List TD} (hk : ∀ t, kdF B t < 50) : ∀ (me : ME) (i : Nat) (M : NM), (∀ t, t < me.length → kOK (kdF B (i + t)) (me.getD t (0, 0)).1) →
    nChk B (sgm B i me ++ D) i M = (if (fC B (evP i me) M).1 = 0 then nChk B D (i + me.length) (fC B (evP i me) M).2.2 else fC B (evP i me) M) ∧
    (gC B (evP i me) M → ((fC B (evP i me) M).1 = 0 → nGd B D (fC B (evP i me) M).2.2) → nGd B (sgm B i me ++ D) M)
  | [], i, M, _ => ⟨rfl, fun _ h => h rfl⟩
  | x :: me, i, M, h => by
    have h0 := h 0 (Nat.succ_pos _)
    have tl : ∀ t, t < me.length → kOK (kdF B (i + 1 + t)) (me.getD t (0, 0)).1 := fun t ht => by
      have := h (t + 1) (Nat.succ_lt_succ ht)
      rw [show i + 1 + t = i + (t + 1) by omega]
      exact this
    rw [sgm, List.cons_append, nChk, nGd, evP]
    by_cases c : x.1 = 0
    · have h0 : kOK (kdF B i) x.1 := h0
      rw [c] at h0
      have e : nStep B ((tT B).getD i (0, 0, 0, 0), rlW x.1, x.2) M = (0, M) := by
        rw [c]
        exact nStep_0 (hk i) h0
      obtain ⟨r1, r2⟩ := nChk_sgm (D := D) hk me (i + 1) M tl
      rw [e, if_pos c, if_pos rfl, r1, List.length_cons, show i + 1 + me.length = i + (me.length + 1) by omega]
      refine ⟨rfl, fun g z => ⟨?_, fun _ => r2 g z⟩⟩
      revert g
      cases evP (i + 1) me with
      | nil => exact fun g => g
      | cons y l => exact fun g => g.1
    · rw [if_neg c, fC, gC]
      have e : cs B (x.1, i, x.2) M = nStep B ((tT B).getD i (0, 0, 0, 0), rlW x.1, x.2) M := rfl
      rw [e]
      by_cases z : (nStep B ((tT B).getD i (0, 0, 0, 0), rlW x.1, x.2) M).1 = 0
      · obtain ⟨r1, r2⟩ := nChk_sgm (D := D) hk me (i + 1) (nStep B ((tT B).getD i (0, 0, 0, 0), rlW x.1, x.2) M).2 tl
        rw [if_pos z, if_pos z, r1, List.length_cons, show i + 1 + me.length = i + (me.length + 1) by omega]
        exact ⟨rfl, fun g q => ⟨g.1, fun _ => r2 (g.2 z) q⟩⟩
      · rw [if_neg z, if_neg z, if_neg z]
        exact ⟨rfl, fun g _ => ⟨g.1, fun y => absurd y z⟩⟩
theorem fC_app {B : List Int32} : ∀ (l l' : List EP) (M : NM), fC B (l ++ l') M = if (fC B l M).1 = 0 then fC B l' (fC B l M).2.2 else fC B l M
  | [], l', M => rfl
  | x :: l, l', M => by
    rw [List.cons_append, fC, fC]
    by_cases z : (cs B x M).1 = 0
    · rw [if_pos z, if_pos z]; exact fC_app l l' _
    · rw [if_neg z, if_neg z]; exact (if_neg z).symm
theorem gC_app {B : List Int32} : ∀ (l l' : List EP) (M : NM), gC B l M → ((fC B l M).1 = 0 → gC B l' (fC B l M).2.2) → gC B (l ++ l') M
  | [], l', M, _, h => h rfl
  | x :: l, l', M, g, h => by
    rw [List.cons_append, gC]
    rw [gC] at g
    refine ⟨g.1, fun z => gC_app l l' _ (g.2 z) (fun y => ?_)⟩
    have e : fC B (x :: l) M = fC B l (cs B x M).2 := by rw [fC]; exact if_pos z
    have h' := h (by rw [e]; exact y)
    rw [e] at h'
    exact h'
/-- an error once stays -/
def ERR (Q : TS) (c f : Int32) : Prop := Q.2.1.1 = c ∧ Q.2.1.2.1 = f ∧ ¬ c = 0
theorem sMn_e {X : PX} {s : RS} {i : Nat} {b : Bool} {n : Int32} (h : ¬ s.1 = 0) : sMn X s i b n = s := if_neg (fun z => h z.2)
theorem sNm_e {X : PX} {s : RS} {i : Nat} {x : Int32} (h : ¬ s.1 = 0) : (sNm X s i x).1 = s.1 ∧ (sNm X s i x).2.1 = s.2.1 := by
  unfold sNm
  rw [sMn_e (by exact h)]
  exact ⟨rfl, rfl⟩
theorem evR_e {X : PX} {s : RS} {ev : EVt} (h : ¬ s.1 = 0) : (evR X s ev).1 = s.1 ∧ (evR X s ev).2.1 = s.2.1 := by
  obtain ⟨r, i, j⟩ := ev
  unfold evR
  dsimp only
  repeat' split
  all_goals first
    | exact ⟨rfl, rfl⟩
    | exact sNm_e h
    | (rw [sMn_e h]; exact ⟨rfl, rfl⟩)
theorem evT_e {Q : TS} {ev : EVt} {c f : Int32} (h : ERR Q c f) : ERR (evT Q ev) c f := by
  obtain ⟨X, s, td, tp, tt, wo, ki, ne⟩ := Q
  obtain ⟨r, i, j⟩ := ev
  obtain ⟨h1, h2, h3⟩ := h
  dsimp only at h1 h2
  have hs : ¬ s.1 = 0 := by rw [h1]; exact h3
  subst h1 h2
  have nw : ∀ x f, (sNw X s i x f).1 = s.1 ∧ (sNw X s i x f).2.1 = s.2.1 := fun x f => by unfold sNw; rw [sMn_e hs, sMn_e hs]; exact ⟨rfl, rfl⟩
  have mm : ∀ x b n, (sMn X (sNm X s i x) i b n).1 = s.1 ∧ (sMn X (sNm X s i x) i b n).2.1 = s.2.1 := fun x b n => by
    rw [sMn_e (by rw [(sNm_e hs).1]; exact hs)]
    exact sNm_e hs
  have mo : ∀ b n, (sMn X s i b n).1 = s.1 ∧ (sMn X s i b n).2.1 = s.2.1 := fun b n => by rw [sMn_e hs]; exact ⟨rfl, rfl⟩
  by_cases c60 : r = 60
  · subst c60; exact ⟨(nw _ _).1, (nw _ _).2, h3⟩
  by_cases c61 : r = 61
  · subst c61; exact ⟨(mm _ _ _).1, (mm _ _ _).2, h3⟩
  by_cases c62 : r = 62
  · subst c62; exact ⟨(mm _ _ _).1, (mm _ _ _).2, h3⟩
  by_cases c70 : r = 70
  · subst c70; exact ⟨(mo _ _).1, (mo _ _).2, h3⟩
  by_cases c63 : r = 63
  · subst c63; exact ⟨(nw _ _).1, (nw _ _).2, h3⟩
  by_cases c64 : r = 64
  · subst c64; exact ⟨(sNm_e hs).1, (sNm_e hs).2, h3⟩
  by_cases c71 : r = 71
  · subst c71; exact ⟨(mo _ _).1, (mo _ _).2, h3⟩
  by_cases c65 : r = 65
  · subst c65; exact ⟨(sNm_e hs).1, (sNm_e hs).2, h3⟩
  by_cases c76 : r = 76
  · subst c76; exact ⟨rfl, rfl, h3⟩
  by_cases c72 : r = 72
  · subst c72; exact ⟨(mo _ _).1, (mo _ _).2, h3⟩
  by_cases c66 : r = 66
  · subst c66; exact ⟨(nw _ _).1, (nw _ _).2, h3⟩
  by_cases c1 : r = 1
  · subst c1
    rw [show evT (X, s, td, tp, tt, wo, ki, ne) (1, i, j) = (if s.1 = 0 then (adR (X.2.2.2.1 i) X, s, td, tp, tt, wo, ki, ne) else (X, s, td, tp, tt, wo, ki, ne)) from rfl, if_neg hs]
    exact ⟨rfl, rfl, h3⟩
  by_cases c2 : r = 2
  · subst c2
    rw [show evT (X, s, td, tp, tt, wo, ki, ne) (2, i, j) = (if s.1 = 0 then (adD X, s, cpF td (3 * X.2.2.2.2.2.2.2.2.2.2) 3 (fun q => s.2.2.1 (i + q)), tp, tt, wo, ki, ne) else (X, s, td, tp, tt, wo, ki, ne)) from rfl, if_neg hs]
    exact ⟨rfl, rfl, h3⟩
  by_cases c3 : r = 3
  · subst c3
    rw [show evT (X, s, td, tp, tt, wo, ki, ne) (3, i, j) = (if s.1 = 0 then (adP (X.2.2.2.1 i) X, s, td, cpF tp (5 * X.2.2.2.2.2.2.2.2.1) 5 (fun q => [s.2.2.1 (i + 2), s.2.2.1 (i + 3), wo, ki, ne].getD q 0), tt, wo, ki, ne) else (X, s, td, tp, tt, wo, ki, ne)) from rfl, if_neg hs]
    exact ⟨rfl, rfl, h3⟩
  by_cases c4 : r = 4
  · subst c4
    rw [show evT (X, s, td, tp, tt, wo, ki, ne) (4, i, j) = (if s.1 = 0 then (adT (X.2.2.2.1 i) X, s, td, tp, fun q => if q = X.2.2.2.2.2.2.2.2.2.1 then Int32.ofNat (i + 1) else tt q, wo, ki, ne) else (X, s, td, tp, tt, wo, ki, ne)) from rfl, if_neg hs]
    exact ⟨rfl, rfl, h3⟩
  rw [show evT (X, s, td, tp, tt, wo, ki, ne) (r, i, j) = (X, evR X s (r, i, j), td, tp, tt, wo, ki, ne) by unfold evT; dsimp only; rw [if_neg c60, if_neg c61, if_neg c62, if_neg c70, if_neg c63, if_neg c64, if_neg c71, if_neg c65, if_neg c76, if_neg c72, if_neg c66, if_neg c1, if_neg c2, if_neg c3, if_neg c4]]
  exact ⟨(evR_e hs).1, (evR_e hs).2, h3⟩
theorem evTs_e : ∀ {e : List EVt} {Q : TS} {c f : Int32}, ERR Q c f → ERR (evTs Q e) c f
  | [], _, _, _, h => h
  | ev :: e, Q, _, _, h => evTs_e (e := e) (Q := evT Q ev) (evT_e h)
