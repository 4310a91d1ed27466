/-! TEACHING (class) -/
theorem eR_Fr3 {W : List Nat} {h h' : mH} {t : Nat} {E : EV} (hX : eR h t E) (f : Fr W h h') (hW : ∀ a, a ∈ W → ¬ (225 ≤ a ∧ a ≤ 230) ∧ ¬ (t ≤ a ∧ a ≤ t + 28)) : eR h' t E := by
  have e : ∀ a, 225 ≤ a → a ≤ 229 → rL h' a = rL h a := fun a h0 h1 => Fr_L f (fun c => (hW _ c).1 (by omega)) (fun c => (hW _ c).1 (by omega))
  have e' : ∀ k, k ≤ 27 → rL h' (t + k) = rL h (t + k) := fun k h0 => Fr_L f (fun c => (hW _ c).2 (by omega)) (fun c => (hW _ c).2 (by omega))
  unfold eR cX pC pD at hX ⊢
  obtain ⟨⟨ht, hn, hc, hx, hd, h1, h2, h3, h4, h5⟩, h6⟩ := hX
  rw [Fr_V f]
  refine ⟨⟨ht, hn, ?_, hx, ?_⟩, ?_⟩
  · rw [e 225 (by decide) (by decide), e 227 (by decide) (by decide), e 229 (by decide) (by decide)]; exact hc
  · rw [e' 3 (by decide), e' 5 (by decide), e' 7 (by decide), e' 11 (by decide), e' 13 (by decide), e' 15 (by decide), e' 17 (by decide), e' 19 (by decide)]
    exact ⟨hd, h1, h2, h3, h4, h5⟩
  · rw [e' 25 (by decide), e' 27 (by decide), e' 23 (by decide)]; exact h6
theorem gR_Fr3 {W : List Nat} {h H : mH} {B' : List Int32} {ep' : Int32} {t : Nat} {E : EV} {rn pn tn : List (List Int32)} {B : List Int32} {ep : Int32} {vs : List (Int32 × Int32 × Int32)} {hv : Bool} {K : VK} {S : VS} {ea : Bool} {P : List Int32} (m : gR h (t, E, rn, pn, tn, B, ep, vs, hv, K, S, ea, P)) (hk : kS H) (f : Fr W h H) (hW : ∀ a, a ∈ W → ¬ (225 ≤ a ∧ a ≤ 232) ∧ ¬ (t ≤ a ∧ a ≤ t + 28) ∧ ¬ a = 224 ∧ ¬ (262 ≤ a ∧ a ≤ 286)) (b : rL H 201 = B') (e : mI H 200 13 = ep') : gR H (t, E, rn, pn, tn, B', ep', vs, hv, K, S, ea, P) := by
  obtain ⟨_, hE, hq, ⟨w1, w2, w3, n1, n2, n3⟩, hB, he, v1, v2, v3, hP, hV⟩ := m
  have n : ∀ a, 262 ≤ a → a ≤ 286 → a ∉ W := fun a h1 h2 c => (hW a c).2.2.2 ⟨h1, h2⟩
  have e' : ∀ k, k ≤ 27 → rL H (t + k) = rL h (t + k) := fun k h0 => Fr_L f (fun c => (hW _ c).2.1 (by omega)) (fun c => (hW _ c).2.1 (by omega))
  refine ⟨hk, eR_Fr3 hE f (fun a ha => ⟨fun z => (hW a ha).1 (by omega), (hW a ha).2.1⟩), ?_, ⟨w1, w2, w3, (e' 1 (by decide)).trans n1, (e' 9 (by decide)).trans n2, (e' 21 (by decide)).trans n3⟩, b, e, ?_, ?_, ?_, ?_, vL_Fr hV f (fun a ha z => (hW a ha).2.2.2 (by omega))⟩
  · rw [pQ_Fr f (fun c => (hW _ c).2.2.1 rfl) (fun c => (hW _ c).1 (by decide)) (fun c => (hW _ c).1 (by decide))]; exact hq
  · rw [Fr_L f (n _ (by decide) (by decide)) (n _ (by decide) (by decide))]; exact v1
  · rw [Fr_L f (n _ (by decide) (by decide)) (n _ (by decide) (by decide))]; exact v2
  · rw [Fr_L f (n _ (by decide) (by decide)) (n _ (by decide) (by decide))]; exact v3
  · rw [Fr_L f (n _ (by decide) (by decide)) (n _ (by decide) (by decide))]; exact hP
def tT (B : List Int32) : List TK := spl B (B.length + 1) 0 0
def tG (B : List Int32) : GM := gN ((tT B).map (·.1)) 100000 ([80], [], 0, 0, false, (tT B).map (fun _ => 0), (tT B).map (fun _ => 0), [], [])
theorem tG_eq {B : List Int32} : gN ((tT B).map (·.1)) 100000 ([80], [], 0, 0, false, (tT B).map (fun _ => 0), (tT B).map (fun _ => 0), [], []) = tG B := by
  unfold tG
  exact Eq.refl _
def tD (B : List Int32) : List TD := (tT B).zip ((tG B).2.2.2.2.2.1.zip (tG B).2.2.2.2.2.2.1)
def tM0 (B : List Int32) : NM := ([], [], [], [], [], [], [], [], [], [], [], [], (tG B).2.2.2.2.2.2.2.2)
def tM (B : List Int32) : Int32 × Nat × NM := nChk B (tD B) 0 (tM0 B)
theorem spl_ok {B : List Int32} (hl : B.length ≤ 2000) : ∀ (n i c : Nat), c ≤ 400 → i ≤ B.length → (spl B n i c).length + c ≤ 401 ∧ ∀ q, q ∈ spl B n i c → q.1 < 50 ∧ q.2.1 ≤ 2000 ∧ q.2.2.1 ≤ 2000 := by
  have hkd : ∀ j len, kdA B j len < 50 := by
    intro j len
    unfold kdA
    have w : ∀ n k, k + n ≤ 29 → kwF B j len n k < 50 := by
      intro n
      induction n with
      | zero => intro k h; rw [kwF]; omega
      | succ n ih => intro k h; rw [kwF]; split; omega; exact ih (k + 1) (by omega)
    have w2 : sy (B.getD j 0) sSy 31 < 50 := by
      rcases sy_ix (x := B.getD j 0) sSy 0 (by decide +kernel) with ⟨h1, h2⟩ | ⟨q, h1, h2, h3⟩
      · rw [h2]; decide
      · have : sSy.length = 15 := by decide +kernel
        rw [h3]; omega
    have w1 := w 29 0 (by omega)
    repeat' split
    all_goals omega
  intro n
  induction n with
  | zero => intro i c hc hi; rw [spl]; exact ⟨by simp only [List.length_nil]; omega, fun q hq => by cases hq⟩
  | succ n ih =>
    intro i c hc hi
    have hj := rn_le (p := isBl) (B := B) (B.length - i) i
    rw [spl]
    generalize rn isBl B (B.length - i) i = j at hj ⊢
    by_cases c2 : B.length ≤ j
    · rw [if_pos c2]
      refine ⟨by simp only [List.length_cons, List.length_nil]; omega, ?_⟩
      intro q hq
      rw [List.mem_singleton.mp hq]
      exact ⟨show 48 < 50 by decide, hl, show 0 ≤ 2000 by decide⟩
    · rw [if_neg c2]
      have he := tkEnd_le (B := B) (i := j) (by omega)
      dsimp only
      have hd : (if c < 400 then kdA B j (tkEnd B j - j) else 49) < 50 := by split; exact hkd _ _; omega
      generalize hk : (if c < 400 then kdA B j (tkEnd B j - j) else 49) = k at hd
      by_cases c3 : k = 49
      · rw [if_pos c3]
        refine ⟨by simp only [List.length_cons, List.length_nil]; omega, ?_⟩
        intro q hq
        rw [List.mem_singleton.mp hq]
        exact ⟨hd, by dsimp only; omega, by dsimp only; omega⟩
      · rw [if_neg c3]
        have c4 : c < 400 := by
          by_cases z : c < 400
          · exact z
          · rw [if_neg z] at hk; exact absurd hk.symm c3
        have i1 := ih (tkEnd B j) (c + 1) (by omega) he.2
        refine ⟨by rw [List.length_cons]; omega, ?_⟩
        intro q hq
        rcases List.mem_cons.mp hq with rfl | hq
        · exact ⟨hd, by dsimp only; omega, by dsimp only; omega⟩
        · exact i1.2 q hq
theorem gD_len {kd : List Nat} {g : Nat} {σ : GM} : (gD kd g σ).2.2.2.2.2.1.length = σ.2.2.2.2.2.1.length ∧ (gD kd g σ).2.2.2.2.2.2.1.length = σ.2.2.2.2.2.2.1.length := by
  obtain ⟨gs, hs, nx, dp, fl, ro, pc, os, od⟩ := σ
  unfold gD gAct gRole gTake
  dsimp only
  repeat' split
  all_goals first
    | exact ⟨rfl, rfl⟩
    | exact ⟨ls_len, ls_len⟩
theorem gN_len {kd : List Nat} : ∀ (n : Nat) (σ : GM), (gN kd n σ).2.2.2.2.2.1.length = σ.2.2.2.2.2.1.length ∧ (gN kd n σ).2.2.2.2.2.2.1.length = σ.2.2.2.2.2.2.1.length := by
  intro n
  induction n with
  | zero => intro σ; exact ⟨rfl, rfl⟩
  | succ n ih =>
    intro σ
    rw [gN]
    split
    · exact ⟨rfl, rfl⟩
    · next c =>
      obtain ⟨gs, r⟩ := σ
      cases gs with
      | nil => exact absurd (Or.inl rfl) c
      | cons g gs =>
        have i1 := ih (gS kd (g :: gs, r))
        have i2 := gD_len (kd := kd) (g := g) (σ := (gs, r))
        exact ⟨i1.1.trans i2.1, i1.2.trans i2.2⟩
theorem zip_maps {α β γ : Type} : ∀ (T : List α) (a : List β) (b : List γ), a.length = T.length → b.length = T.length → (T.zip (a.zip b)).map (·.1) = T ∧ (T.zip (a.zip b)).map (fun q => q.2.1) = a ∧ (T.zip (a.zip b)).map (fun q => q.2.2) = b ∧ (T.zip (a.zip b)).length = T.length := by
  intro T
  induction T with
  | nil =>
    intro a b ha hb
    rw [List.eq_nil_of_length_eq_zero ha, List.eq_nil_of_length_eq_zero hb]
    exact ⟨rfl, rfl, rfl, rfl⟩
  | cons x T ih =>
    intro a b ha hb
    cases a with
    | nil => cases ha
    | cons y a =>
      cases b with
      | nil => cases hb
      | cons z b =>
        have := ih a b (by simpa using ha) (by simpa using hb)
        simp only [List.zip_cons_cons, List.map_cons, List.length_cons, this.1, this.2.1, this.2.2.1, this.2.2.2, and_self]
theorem tD_ok {B : List Int32} (hl : B.length ≤ 2000) : (tT B).length ≤ 401 ∧ kdOK ((tT B).map (·.1)) ∧ (tD B).map (·.1) = tT B ∧ (tD B).map (fun q => q.2.1) = (tG B).2.2.2.2.2.1 ∧ (tD B).map (fun q => q.2.2) = (tG B).2.2.2.2.2.2.1 ∧ ((tD B).length ≤ 401 ∧ ∀ q, q ∈ tD B → q.1.1 < 1000 ∧ q.1.2.1 ≤ 2000 ∧ q.1.2.2.1 ≤ 2000) := by
  have h1 := spl_ok hl (B.length + 1) 0 0 (by omega) (by omega)
  have hlT : (tT B).length ≤ 401 := h1.1
  have h2 := gN_len (kd := (tT B).map (·.1)) 100000 ([80], [], 0, 0, false, (tT B).map (fun _ => 0), (tT B).map (fun _ => 0), [], [])
  rw [tG_eq] at h2
  dsimp only at h2
  rw [List.length_map] at h2
  have h3 := zip_maps (tT B) (tG B).2.2.2.2.2.1 (tG B).2.2.2.2.2.2.1 h2.1 h2.2
  refine ⟨hlT, ⟨?_, by rw [List.length_map]; exact hlT⟩, h3.1, h3.2.1, h3.2.2.1, by unfold tD; rw [h3.2.2.2]; exact hlT, ?_⟩
  · intro k hk
    obtain ⟨q, hq, rfl⟩ := List.mem_map.mp hk
    exact (h1.2 q hq).1
  · intro q hq
    have : q.1 ∈ tT B := (List.of_mem_zip hq).1
    have := h1.2 _ this
    omega
