theorem gmR_p {h : mH} {u : Nat} {kd : List Nat} {σ : GM} (m : gmR h u kd σ) : kS h ∧ mI h 216 3 = Int32.ofNat σ.2.2.1 ∧ rL h 212 = σ.2.2.2.2.2.1 ∧ rL h 214 = σ.2.2.2.2.2.2.1 ∧ rL h (u + 25) = σ.2.2.2.2.2.2.2.1 ∧ rL h (u + 27) = σ.2.2.2.2.2.2.2.2 := by
  obtain ⟨gs, hs, nx, dp, fl, ro, pc, os, od⟩ := σ
  obtain ⟨hk, k1, k2, k3, k4, k5, k6, k7, k8, k9, ka, kb⟩ := m
  exact ⟨hk, k5, k8, k9, ka, kb⟩
def tSt (B : List Int32) : List Int32 := (tT B).map (fun q => Int32.ofNat q.2.1)
def tRes (B : List Int32) : Int32 × Int32 :=
  if (tG B).2.2.2.2.1 = true then (1, lg (tSt B) (Int32.ofNat (tG B).2.2.1))
  else if (tM B).1 = 0 then (0, -1) else ((tM B).1, lg (tSt B) (Int32.ofNat (tM B).2.1))
/-- the reading: up to the grammar's end -/
theorem f_teachA {d u : Nat} {B : List Int32} {h : mH} (hu : u = 233 ∨ u = 287) (hb : bytes B) (hk : kS h) (hB : rL h 201 = B) :
    ∃ H1 H2 H3, mCall (d + 8) 54 [.ref 203, .ref 201] h = some (.inl none, H1) ∧ kS H1 ∧ mV H1 = mV h ∧ mCall (d + 8) 55 [.ref u] H1 = some (.inl none, H2) ∧ kS H2 ∧ mV H2 = mV h ∧ mCall (d + 8) 71 [.ref 216, .ref u] H2 = some (.inl (some (.int (bz (tG B).2.2.2.2.1))), H3) ∧ kS H3 ∧ mI H3 216 3 = Int32.ofNat (tG B).2.2.1 ∧ rL H3 (u + 25) = (tG B).2.2.2.2.2.2.2.1 ∧ rL H3 206 = tSt B ∧ nmR H3 u (tM0 B) ∧ tdR H3 B (tD B) ∧ Fr (Wq u) h H3 := by
  have hl : B.length ≤ 2000 := by have := rL_le hk kw_201; rw [hB, kn_201 hk] at this; exact this
  obtain ⟨q1, q2, q3, q4, q5, q6⟩ := tD_ok hl
  obtain ⟨H1, a1, a2, a3, a4⟩ := tk_split (d := d) hb hk hB
  have a3' : tkR H1 (tT B) := a3
  obtain ⟨H2, b1, b2, b3, b4, b5⟩ := t_clear2 (d := d + 6) (h := H1) a2 hu
  have nx : ∀ a, 200 ≤ a → a ≤ 232 → a ∉ Wx u := by
    intro a h0 h1 hc
    unfold Wx at hc
    simp only [List.mem_cons, List.not_mem_nil, or_false] at hc
    omega
  have T2 : tkR H2 (tT B) := by
    obtain ⟨t1, t2, t3, t4, t5, t6⟩ := a3'
    exact ⟨(Fr_L b5 (nx _ (by omega) (by omega)) (nx _ (by omega) (by omega))).trans t1, (Fr_L b5 (nx _ (by omega) (by omega)) (nx _ (by omega) (by omega))).trans t2, (Fr_L b5 (nx _ (by omega) (by omega)) (nx _ (by omega) (by omega))).trans t3, (Fr_L b5 (nx _ (by omega) (by omega)) (nx _ (by omega) (by omega))).trans t4, (Fr_L b5 (nx _ (by omega) (by omega)) (nx _ (by omega) (by omega))).trans t5, (Fr_L b5 (nx _ (by omega) (by omega)) (nx _ (by omega) (by omega))).trans t6⟩
  have hB2 : rL H2 201 = B := (Fr_L b5 (nx _ (by omega) (by omega)) (nx _ (by omega) (by omega))).trans ((Fr_L a4 (by decide) (by decide)).trans hB)
  have odE : rL H2 (u + 27) = [] := b3.2.2.2.2.2.2.2.2.2.2.2.2.2.2.2.2
  have key := g_read (d := d + 2) (kd := (tT B).map (·.1)) (ro := (tT B).map (fun _ => 0)) (pc := (tT B).map (fun _ => 0)) (os := []) (od := []) hu q2 b2 (by rw [T2.1, List.map_map]; rfl) T2.2.2.2.2.1 T2.2.2.2.2.2 b4 odE
  rw [tG_eq] at key
  obtain ⟨H3, c1, c2, c3⟩ := key
  obtain ⟨g1, g2, g3, g4, g5, g6⟩ := gmR_p c2
  have ng : ∀ a, 200 ≤ a → a ≤ 210 → a ∉ Wg u := by
    intro a h0 h1 hc
    unfold Wg at hc
    simp only [List.mem_cons, List.not_mem_nil, or_false] at hc
    omega
  have ng2 : ∀ k, 1 ≤ k → k ≤ 24 → u + k ∉ Wg u := by
    intro a h0 h1 hc
    unfold Wg at hc
    simp only [List.mem_cons, List.not_mem_nil, or_false] at hc
    omega
  have L3 : ∀ a, 200 ≤ a → a ≤ 209 → rL H3 a = rL H2 a := fun a h0 h1 => Fr_L c3 (ng a h0 (by omega)) (ng (a + 1) (by omega) (by omega))
  have N3 : ∀ k, 1 ≤ k → k ≤ 23 → rL H3 (u + k) = rL H2 (u + k) := fun k h0 h1 => Fr_L c3 (ng2 k h0 (by omega)) (ng2 (k + 1) (by omega) (by omega))
  have L210 : rL H3 210 = rL H2 210 := by
    refine Fr_L c3 (ng 210 (by omega) (by omega)) ?_
    intro hc
    unfold Wg at hc
    simp only [List.mem_cons, List.not_mem_nil, or_false] at hc
    omega
  refine ⟨H1, H2, H3, a1, a2, Fr_V a4, b1, b2, (Fr_V b5).trans (Fr_V a4), c1, g1, g2, g5, ?_, ?_, ?_, ?_⟩
  · rw [L3 206 (by omega) (by omega)]; exact T2.2.1
  · unfold tM0 nmR
    obtain ⟨_, w1, w2, w3, k1, k2, k3, k4, k5, k6, k7, k8, k9, ka, kb, kc, ke⟩ := b3
    exact ⟨g1, w1, w2, w3, (N3 1 (by omega) (by omega)).trans k1, (N3 3 (by omega) (by omega)).trans k2, (N3 5 (by omega) (by omega)).trans k3, (N3 7 (by omega) (by omega)).trans k4, (N3 9 (by omega) (by omega)).trans k5, (N3 11 (by omega) (by omega)).trans k6, (N3 13 (by omega) (by omega)).trans k7, (N3 15 (by omega) (by omega)).trans k8, (N3 17 (by omega) (by omega)).trans k9, (N3 19 (by omega) (by omega)).trans ka, (N3 21 (by omega) (by omega)).trans kb, (N3 23 (by omega) (by omega)).trans kc, g6⟩
  · have mm : ∀ (f : TK → Int32), (tD B).map (fun q => f q.1) = (tT B).map f := by
      intro f
      rw [← q3, List.map_map]; rfl
    unfold tdR
    rw [mm (fun q => Int32.ofNat q.1), mm (fun q => Int32.ofNat q.2.1), mm (fun q => Int32.ofNat q.2.2.1), mm (fun q => q.2.2.2), q4, q5]
    exact ⟨(L3 201 (by omega) (by omega)).trans hB2, (L3 204 (by omega) (by omega)).trans T2.1, (L3 206 (by omega) (by omega)).trans T2.2.1, (L3 208 (by omega) (by omega)).trans T2.2.2.1, L210.trans T2.2.2.2.1, g3, g4⟩
  · refine Fr_trans (Fr_mono a4 ?_) (Fr_trans (Fr_mono b5 Wx_q) (Fr_mono c3 Wg_q))
    intro a ha
    unfold Wq
    simp only [List.mem_cons, List.not_mem_nil, or_false] at ha ⊢
    omega
