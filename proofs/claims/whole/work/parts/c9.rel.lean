/-! BOTH SIDES BETWEEN CALLS -/
/-- alike in the class's cells -/
def CEQ (h H : mH) : Prop := (∀ a, 200 ≤ a → a < 316 → mI H a = mI h a ∧ mV H a = mV h a ∧ mK H a = mK h a) ∧ mN h ≤ mN H
theorem CEQ_L {h H : mH} (e : CEQ h H) {a : Nat} (h0 : 200 ≤ a) (h1 : a + 1 < 316) : rL H a = rL h a ∧ rN H a = rN h a := by
  have e1 := (e.1 a h0 (by omega)).1
  have e2 := (e.1 (a + 1) (by omega) h1).1
  have e3 := (e.1 (a + 1) (by omega) h1).2.2
  unfold rL rN
  rw [e1, e2, e3]
  exact ⟨rfl, rfl⟩
theorem isRow_in : ∀ a, a < 400 → isRow a = true → 200 ≤ a ∧ a + 1 < 316 := by decide +kernel
theorem isRow_b {a : Nat} (h : isRow a = true) : 200 ≤ a ∧ a + 1 < 316 := by
  have : a < 400 := by
    unfold isRow cIs at h
    rw [Bool.and_eq_true, decide_eq_true_iff] at h
    omega
  exact isRow_in a this h
theorem kS_Q {h H : mH} (hk : kS h) (e : CEQ h H) : kS H := by
  obtain ⟨k1, k2, k3, k4, k5⟩ := hk
  refine ⟨fun n hn => by rw [(e.1 (200 + n) (by omega) (by omega)).2.2]; exact k1 n hn, Nat.le_trans k2 e.2, fun q hq => ?_, fun a ha => ?_, ?_⟩
  · have b : ∀ q, q ∈ cRt → 200 ≤ q.1 ∧ q.1 < 316 := by decide +kernel
    rw [(e.1 q.1 (b q hq).1 (b q hq).2).2.1]
    exact k3 q hq
  · obtain ⟨b1, b2⟩ := isRow_b ha
    rw [(e.1 a b1 (by omega)).1, (CEQ_L e b1 b2).2]
    exact k4 a ha
  · rw [(e.1 224 (by omega) (by omega)).2.1, (e.1 200 (by omega) (by omega)).2.1]
    exact k5
theorem gR_C {h H : mH} {σ : CG} (m : gR h σ) (e : CEQ h H) : gR H σ := by
  obtain ⟨t, E, rn, pn, tn, B, ep, vs, hv, K, S, ea, P⟩ := σ
  obtain ⟨hk, ⟨⟨ht, d24, ⟨c1, c2, c3⟩, v6, ⟨e1, e2, e3⟩, e4, e5, e6, e7, e8⟩, dk, e9, ea', eb⟩, hq, ⟨w1, w2, w3, n1, n2, n3⟩, hB, he, v1, v2, v3, hP, hV⟩ := m
  have tb : 233 ≤ t ∧ t ≤ 287 := by rcases ht with e | e <;> omega
  have I : ∀ a, 200 ≤ a → a < 316 → mI H a = mI h a := fun a h0 h1 => (e.1 a h0 h1).1
  have L : ∀ a, 200 ≤ a → a + 1 < 316 → rL H a = rL h a := fun a h0 h1 => (CEQ_L e h0 h1).1
  have N : ∀ a, 200 ≤ a → a + 1 < 316 → rN H a = rN h a := fun a h0 h1 => (CEQ_L e h0 h1).2
  have T : ∀ k, k ≤ 27 → rL H (t + k) = rL h (t + k) := fun k hk => L _ (by omega) (by omega)
  refine ⟨kS_Q hk e, ⟨⟨ht, d24, ⟨(L 225 (by decide) (by decide)).trans c1, (L 227 (by decide) (by decide)).trans c2, (L 229 (by decide) (by decide)).trans c3⟩, ?_, ⟨(T 3 (by decide)).trans e1, (T 5 (by decide)).trans e2, (T 7 (by decide)).trans e3⟩, (T 11 (by decide)).trans e4, (T 13 (by decide)).trans e5, (T 15 (by decide)).trans e6, (T 17 (by decide)).trans e7, (T 19 (by decide)).trans e8⟩, dk, (T 25 (by decide)).trans e9, (T 27 (by decide)).trans ea', (T 23 (by decide)).trans eb⟩, ?_, ⟨w1, w2, w3, (T 1 (by decide)).trans n1, (T 9 (by decide)).trans n2, (T 21 (by decide)).trans n3⟩, (L 201 (by decide) (by decide)).trans hB, ?_, (L 262 (by decide) (by decide)).trans v1, (L 264 (by decide) (by decide)).trans v2, (L 266 (by decide) (by decide)).trans v3, (L 285 (by decide) (by decide)).trans hP, ?_⟩
  · rw [(e.1 224 (by decide) (by decide)).2.1]; exact v6
  · unfold pQ at hq ⊢
    rw [I 224 (by decide) (by decide), L 231 (by decide) (by decide)]
    exact hq
  · rw [I 200 (by decide) (by decide)]; exact he
  · unfold vL at hV ⊢
    rw [I 268 (by decide) (by decide), I 269 (by decide) (by decide), L 270 (by decide) (by decide)]
    by_cases c : hv = true
    · rw [if_pos c] at hV ⊢
      unfold vR at hV ⊢
      rw [I 268 (by decide) (by decide), I (268 + 1) (by decide) (by decide), L (268 + 2) (by decide) (by decide), N (268 + 2) (by decide) (by decide)]
      exact hV
    · rw [if_neg c] at hV ⊢
      exact hV
def VOK (vs : List (Int32 × Int32 × Int32)) : Prop := vsOK vs ∧ vsB vs ∧ vsP vs
/-- the law's state between calls -/
def REL (h : mH) : Prop := mIs h 360 101 = true ∧ (mK h 360).2 = 1 ∧ ∃ t E rn pn tn B ep vs hv K S ea P, gR h (t, E, rn, pn, tn, B, ep, vs, hv, K, S, ea, P) ∧ mG h (E, rn, pn, tn, B, ep, vs, hv, S, ea, P) ∧ ROK E rn pn tn ∧ VOK vs
/-- a class's call, its answer kept in the row: the class's cells and the row alone -/
def FW (h H : mH) : Prop := (∀ a j, ¬ (200 ≤ a ∧ a < 316) → mI H a j = mI h a j ∧ mV H a j = mV h a j) ∧ (∀ a, ¬ a = 360 → mL H a = mL h a) ∧ mK H = mK h ∧ mN H = mN h ∧ mX H = mX h ∧ mC H ≤ mC h + 1 ∧ mS H ≤ mS h + 6
def wH : Int32 ⊕ Nat → mH → mH
  | .inl v, H => mSL H 360 0 v.toInt64
  | .inr _, H => H
theorem FW_w {h H : mH} {r : Int32 ⊕ Nat} (f : FC h H) : FW h (wH r H) := by
  obtain ⟨f1, f2, f3, f4, f5, f6, f7⟩ := f
  cases r with
  | inl v =>
    refine ⟨f1, fun a ha => ?_, f3, f4, f5, f6, f7⟩
    funext j
    rw [← f2]
    show (if a = 360 ∧ j = 0 then _ else mL H a j) = _
    rw [if_neg (by omega)]
  | inr e => exact ⟨f1, fun a _ => congrFun f2 a, f3, f4, f5, f6, f7⟩
theorem FW_m {h H : mH} {σ : MGT} (f : FW h H) (m : mG h σ) : mG H σ := by
  obtain ⟨f1, f2, f3, f4, f5, f6, f7⟩ := f
  refine mG_eq ⟨fun a h0 h1 => ⟨fun j => Or.inr (f1 a j (by omega)).1, f2 a (by omega), ?_, by rw [f3]⟩, Nat.le_of_eq f4.symm⟩ m
  funext j
  exact (f1 a j (by omega)).2
theorem gR_w {h : mH} {σ : CG} {r : Int32 ⊕ Nat} (m : gR h σ) : gR (wH r h) σ := by
  refine gR_C m ?_
  cases r with
  | inl v => exact ⟨fun a _ _ => ⟨rfl, rfl, rfl⟩, Nat.le_refl _⟩
  | inr e => exact ⟨fun a _ _ => ⟨rfl, rfl, rfl⟩, Nat.le_refl _⟩
theorem FM_g {h H : mH} {σ : CG} (f : FM h H) (m : gR h σ) : gR H σ := by
  obtain ⟨f1, f2, _⟩ := f
  exact gR_C m ⟨fun a h0 h1 => ⟨(f1 a (Or.inl h1)).1, (f1 a (Or.inl h1)).2.2.1, (f1 a (Or.inl h1)).2.2.2⟩, f2⟩
/-- the law's row -/
def OUT (h : mH) : Prop := mIs h 360 101 = true ∧ (mK h 360).2 = 1
theorem OUT_C {h H : mH} (o : OUT h) (e1 : mK H 360 = mK h 360) (e2 : mN h ≤ mN H) : OUT H := by
  obtain ⟨o1, o2⟩ := o
  unfold OUT mIs at *
  rw [decide_eq_true_iff] at o1 ⊢
  rw [e1]
  exact ⟨⟨o1.1, by omega, o1.2.2⟩, o2⟩
/-- what a call of the law adds -/
def CNT (h H : mH) : Prop := mX H = mX h ∧ mC H ≤ mC h + 1001 ∧ mS H ≤ mS h + 14006
theorem CNT_2 {h H G : mH} (f : FW h H) (g : FM H G) : CNT h G := by
  obtain ⟨_, _, _, _, f5, f6, f7⟩ := f
  obtain ⟨_, _, g3, g4, g5⟩ := g
  exact ⟨g3.trans f5, by omega, by omega⟩
