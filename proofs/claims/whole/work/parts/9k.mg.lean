/-! THE REFERENCE'S STATE BETWEEN CALLS -/
abbrev MGT : Type := EV × List (List Int32) × List (List Int32) × List (List Int32) × List Int32 × Int32 × List (Int32 × Int32 × Int32) × Bool × VS × Bool × List Int32
/-- a name of the class, and its number -/
def nmOK (x : List Int32) (w : Int64) : Prop := ∃ l : List Int32, (∀ y, y ∈ l → isLD y = true) ∧ 1 ≤ l.length ∧ l.length ≤ 10 ∧ x = l ++ List.replicate (10 - l.length) 0 ∧ w = wdL l 0
def nmsOK (N : List (List Int32)) (W : Nat → Int64) : Prop := ∀ r, r < N.length → nmOK (N.getD r []) (W r)
def tkP (h : mH) (k : Nat → Nat) (n : Nat) (V L : Nat → Int32) : Prop := n ≤ 402 ∧ (∀ i, i < n → mI h (pt h + 1) i = kap (k i) ∧ mI h (pt h + 2) i = V i ∧ mI h (pt h + 4) i = L i) ∧ (∀ i, k i < 50) ∧ ∀ i, ¬ k i = 0 → k i < 48 → i + 1 < n
def mG (h : mH) : MGT → Prop
  | (E, rn, pn, tn, B, ep, vs, hv, S, ea, P) => 361 ≤ mN h ∧ wCx h E.1 E.2.1 E.2.2.1 vs ∧
    (mI h (pt h) 6 = Int32.ofNat rn.length ∧ rn.length ≤ 12 ∧ mI h (pt h) 9 = Int32.ofNat tn.length ∧ E.2.2.2.2.2.length = tn.length) ∧
    (nmsOK rn (mL h (pt h + 6)) ∧ nmsOK pn (mL h (pt h + 7)) ∧ pn.length = E.2.2.1.length) ∧
    (tpR h B ∧ bytes B) ∧ mI h 316 3 = ep ∧
    (mI h 316 5 = Int32.ofNat P.length ∧ P.length ≤ 1000 ∧ ∀ k, k < P.length → mI h 318 k = P.getD k 0) ∧
    (∃ k n V L T, tkP h k n V L ∧ (∀ q, q < tn.length → mI h (pt h + 11) q = Int32.ofNat (T q)) ∧ TOU k n V L E.2.2.1.length E tn.length T) ∧
    mI h 347 0 = bz hv ∧ (if hv = true then (∃ who lim, wS h 347 who lim S) ∧ mI h 347 11 = bz ea ∧ S.2.2.2.2.2.2.2.2.2.length ≤ 1800 else mI h 347 13 = 0 ∧ mI h 347 6 = 0)
/-- alike in the reference's cells -/
def EQM (h H : mH) : Prop := (∀ a, 316 ≤ a → a < 360 → (∀ j, a = 316 ∧ j = 0 ∨ mI H a j = mI h a j) ∧ mL H a = mL h a ∧ mV H a = mV h a ∧ mK H a = mK h a) ∧ mN h ≤ mN H
theorem EQM_I {h H : mH} (e : EQM h H) {a j : Nat} (h0 : 316 ≤ a) (h1 : a < 360) (hn : ¬ (a = 316 ∧ j = 0)) : mI H a j = mI h a j := ((e.1 a h0 h1).1 j).resolve_left hn
theorem EQM_k {h H : mH} (e : EQM h H) (hk : kM h) : kM H ∧ pt H = pt h := by
  have v : mV H 316 = mV h 316 := (e.1 316 (by omega) (by omega)).2.2.1
  have ept : pt H = pt h := by unfold pt; rw [v]
  obtain ⟨k1, k2, k3, k4⟩ := hk
  refine ⟨⟨fun n hn => by rw [(e.1 (316 + n) (by omega) (by omega)).2.2.2]; exact k1 n hn, Nat.le_trans k2 e.2, fun q hq => ?_, by rw [v]; exact k4⟩, ept⟩
  have b : ∀ q, q ∈ mmRt → 316 ≤ q.1 ∧ q.1 < 360 := by decide +kernel
  rw [(e.1 q.1 (b q hq).1 (b q hq).2).2.2.1]
  exact k3 q hq
theorem mG_eq {h H : mH} {σ : MGT} (e : EQM h H) (m : mG h σ) : mG H σ := by
  obtain ⟨E, rn, pn, tn, B, ep, vs, hv, S, ea, P⟩ := σ
  obtain ⟨g1, ⟨hk, d, mc, h12, pa, vi, vo⟩, ⟨r1, r2, r3, r4⟩, ⟨n1, n2, n3⟩, ⟨⟨t1, t2, t3⟩, hb⟩, hep, ⟨q1, q2, q3⟩, ⟨k, n, V, L, T, ⟨a1, a2, a3, a4⟩, b1, c1⟩, v1, v2⟩ := m
  obtain ⟨hkH, ept⟩ := EQM_k e hk
  have hp := pt_P hk
  have hpb : ∀ i, i ≤ 11 → 317 ≤ pt h + i ∧ pt h + i < 360 := fun i hi => by rcases hp with e | e <;> rw [e] <;> omega
  have hp0 := hpb 0 (by omega)
  have I : ∀ a j, 317 ≤ a → a < 360 → mI H a j = mI h a j := fun a j h0 h1 => EQM_I e (by omega) h1 (by omega)
  have Ip : ∀ i j, i ≤ 11 → mI H (pt h + i) j = mI h (pt h + i) j := fun i j hi => I _ _ (hpb i hi).1 (hpb i hi).2
  have Ip0 : ∀ j, mI H (pt h) j = mI h (pt h) j := fun j => I _ _ hp0.1 hp0.2
  have M : ∀ j, ¬ j = 0 → mI H 316 j = mI h 316 j := fun j hj => EQM_I e (by omega) (by omega) (by omega)
  have Lp : ∀ i, i ≤ 11 → mL H (pt h + i) = mL h (pt h + i) := fun i hi => (e.1 _ (by have := (hpb i hi).1; omega) (hpb i hi).2).2.1
  refine ⟨Nat.le_trans g1 e.2, ⟨hkH, ?_, ?_, h12, ?_, ?_, vo⟩, ?_, ?_, ⟨⟨(M 2 (by decide)).trans t1, t2, fun k hk => (I 317 k (by omega) (by omega)).trans (t3 k hk)⟩, hb⟩, (M 3 (by decide)).trans hep, ⟨(M 5 (by decide)).trans q1, q2, fun k hk => (I 318 k (by omega) (by omega)).trans (q3 k hk)⟩, ⟨k, n, V, L, T, ⟨a1, ?_, a3, a4⟩, ?_, c1⟩, (I 347 0 (by omega) (by omega)).trans v1, ?_⟩
  · obtain ⟨d1, d2, d3, d4⟩ := d
    rw [ept]
    exact ⟨(Ip0 7).trans d1, d2, d3, fun k hk => ⟨(Ip 9 _ (by omega)).trans (d4 k hk).1, (Ip 9 _ (by omega)).trans (d4 k hk).2.1, (Ip 9 _ (by omega)).trans (d4 k hk).2.2⟩⟩
  · intro r hr
    obtain ⟨x, y, z⟩ := mc r hr
    exact ⟨x, (I 320 r (by omega) (by omega)).trans y, fun k hk => ⟨(I 321 _ (by omega) (by omega)).trans (z k hk).1, (I 321 _ (by omega) (by omega)).trans (z k hk).2⟩⟩
  · obtain ⟨d1, d2, d3⟩ := pa
    rw [ept]
    refine ⟨(Ip0 8).trans d1, d2, fun p hp => ?_⟩
    obtain ⟨x0, x1, x2, x3, x4⟩ := d3 p hp
    exact ⟨(Ip 10 _ (by omega)).trans x0, (Ip 10 _ (by omega)).trans x1, (Ip 10 _ (by omega)).trans x2, (Ip 10 _ (by omega)).trans x3, (Ip 10 _ (by omega)).trans x4⟩
  · obtain ⟨d1, d2, d3⟩ := vi
    refine ⟨(M 6 (by decide)).trans d1, d2, fun p hp => ?_⟩
    obtain ⟨x0, x1, x2⟩ := d3 p hp
    exact ⟨(I 319 _ (by omega) (by omega)).trans x0, (I 319 _ (by omega) (by omega)).trans x1, (I 319 _ (by omega) (by omega)).trans x2⟩
  · rw [ept]; exact ⟨(Ip0 6).trans r1, r2, (Ip0 9).trans r3, r4⟩
  · rw [ept, Lp 6 (by omega), Lp 7 (by omega)]; exact ⟨n1, n2, n3⟩
  · rw [ept]; exact fun i hi => ⟨(Ip 1 _ (by omega)).trans (a2 i hi).1, (Ip 2 _ (by omega)).trans (a2 i hi).2.1, (Ip 4 _ (by omega)).trans (a2 i hi).2.2⟩
  · rw [ept]; exact fun q hq => (Ip 11 _ (by omega)).trans (b1 q hq)
  · by_cases c : hv = true
    · rw [if_pos c] at v2 ⊢
      obtain ⟨⟨who, lim, w1⟩, w2, w3⟩ := v2
      refine ⟨⟨who, lim, wS_KG (fun j _ => I 347 j (by omega) (by omega)) ?_ w1⟩, (I 347 11 (by omega) (by omega)).trans w2, w3⟩
      funext j
      exact I 348 j (by omega) (by omega)
    · rw [if_neg c] at v2 ⊢
      exact ⟨(I 347 13 (by omega) (by omega)).trans v2.1, (I 347 6 (by omega) (by omega)).trans v2.2⟩
theorem EQM_r {h : mH} : EQM h h := ⟨fun _ _ _ => ⟨fun _ => Or.inr rfl, rfl, rfl, rfl⟩, Nat.le_refl _⟩
theorem EQM_thr {h H : mH} {x : Int32} (e : EQM h H) : EQM h (mSI H 316 0 x) := by
  refine ⟨fun a h0 h1 => ⟨fun j => ?_, (e.1 a h0 h1).2⟩, e.2⟩
  by_cases c : a = 316 ∧ j = 0
  · exact Or.inl c
  · right
    rw [nI_SI, if_neg c]
    exact EQM_I e h0 h1 c
theorem EQM_new {h H : mH} {kd : Nat × Nat} {n : Nat} (e : EQM h H) (hN : 360 ≤ mN H) : EQM h (mNew H kd n) := by
  refine ⟨fun a h0 h1 => ⟨fun j => ?_, ?_, ?_, ?_⟩, Nat.le_trans e.2 (Nat.le_succ _)⟩
  · rw [nwI (by omega)]; exact (e.1 a h0 h1).1 j
  · rw [nwL (by omega)]; exact (e.1 a h0 h1).2.1
  · funext j
    show (if a = mN H then Value.null else mV H a j) = _
    rw [if_neg (by omega), (e.1 a h0 h1).2.2.1]
  · show (if a = mN H then kd else mK H a) = _
    rw [if_neg (by omega)]
    exact (e.1 a h0 h1).2.2.2
theorem EQM_out {h H : mH} {a k : Nat} {x : Int32} (e : EQM h H) (ha : 360 ≤ a) : EQM h (mSI H a k x) := by
  refine ⟨fun b h0 h1 => ⟨fun j => ?_, (e.1 b h0 h1).2⟩, e.2⟩
  rw [mI_SI_other (by omega)]
  exact (e.1 b h0 h1).1 j
/-- what a call of the reference leaves as it is -/
def FM (h H : mH) : Prop := (∀ a, a < 316 ∨ a = 360 → mI H a = mI h a ∧ mL H a = mL h a ∧ mV H a = mV h a ∧ mK H a = mK h a) ∧ mN h ≤ mN H ∧ mX H = mX h ∧ mC H ≤ mC h + 1000 ∧ mS H ≤ mS h + 14000
def FMc (c : Nat) (h H : mH) : Prop := (∀ a, a < 316 ∨ a = 360 → mI H a = mI h a ∧ mL H a = mL h a ∧ mV H a = mV h a ∧ mK H a = mK h a) ∧ mN h ≤ mN H ∧ mX H = mX h ∧ mC H ≤ mC h + c ∧ mS H ≤ mS h + 14 * c
theorem FMc_r {h : mH} : FMc 0 h h := ⟨fun _ _ => ⟨rfl, rfl, rfl, rfl⟩, Nat.le_refl _, rfl, Nat.le_refl _, Nat.le_refl _⟩
theorem FMc_SI {c a k : Nat} {x : Int32} {h H : mH} (f : FMc c h H) (ha : 316 ≤ a ∧ ¬ a = 360) : FMc c h (mSI H a k x) := by
  obtain ⟨f1, f2, f3, f4, f5⟩ := f
  refine ⟨fun b hb => ⟨?_, (f1 b hb).2⟩, f2, f3, f4, f5⟩
  rw [mI_SI_other (by omega)]; exact (f1 b hb).1
theorem FMc_new {c n : Nat} {kd : Nat × Nat} {h H : mH} (f : FMc c h H) (hN : 361 ≤ mN H) (hn : n ≤ 14) : FMc (c + 1) h (mNew H kd n) := by
  obtain ⟨f1, f2, f3, f4, f5⟩ := f
  refine ⟨fun b hb => ⟨?_, ?_, ?_, ?_⟩, Nat.le_trans f2 (Nat.le_succ _), f3, ?_, ?_⟩
  · rw [nwI (by omega)]; exact (f1 b hb).1
  · rw [nwL (by omega)]; exact (f1 b hb).2.1
  · funext j
    show (if b = mN H then Value.null else mV H b j) = _
    rw [if_neg (by omega), (f1 b hb).2.2.1]
  · show (if b = mN H then kd else mK H b) = _
    rw [if_neg (by omega)]; exact (f1 b hb).2.2.2
  · show mC H + 1 ≤ _
    omega
  · show mS H + n ≤ _
    omega
theorem FMc_Fr {W : List Nat} {c : Nat} {h H G : mH} (f : FMc c h H) (g : Fr W H G) (hW : ∀ a, a ∈ W → 316 ≤ a ∧ ¬ a = 360) : FMc c h G := by
  obtain ⟨f1, f2, f3, f4, f5⟩ := f
  refine ⟨fun b hb => ⟨?_, ?_, ?_, ?_⟩, ?_, ?_, ?_, ?_⟩
  · funext j
    rw [Fr_I g (fun z => by have := hW b z; omega)]
    exact congrFun (f1 b hb).1 j
  · have : mL G = mL H := congrArg (fun q => q.1) g.1
    rw [this]; exact (f1 b hb).2.1
  · rw [Fr_V g]; exact (f1 b hb).2.2.1
  · rw [Fr_K g]; exact (f1 b hb).2.2.2
  · rw [Fr_N g]; exact f2
  · have : mX G = mX H := congrArg (fun q => q.2.2.2.2.2.2) g.1
    rw [this]; exact f3
  · have : mC G = mC H := congrArg (fun q => q.2.2.2.2.1) g.1
    rw [this]; exact f4
  · have : mS G = mS H := congrArg (fun q => q.2.2.2.2.2.1) g.1
    rw [this]; exact f5
theorem FM_c {c : Nat} {h H : mH} (f : FMc c h H) (hc : c ≤ 1000) : FM h H := by
  obtain ⟨f1, f2, f3, f4, f5⟩ := f
  exact ⟨f1, f2, f3, by omega, by omega⟩
def vl : Int32 ⊕ Nat → Int32
  | .inl x => x
  | .inr _ => 0
def cdm (mm : Nat → Int32) : Int32 ⊕ Nat → Int32
  | .inl _ => 0
  | .inr e => mm e
/-- what a call of the reference gives -/
def MR (h : mH) (σ : MGT) (t : Option mO) (mm : Nat → Int32) (r : Int32 ⊕ Nat) : Prop := ∃ H, t = some (.inl (some (.int (vl r))), H) ∧ mI H 316 0 = cdm mm r ∧ mG H σ ∧ FM h H
/-- places among so many -/
theorem ixP {p : Int32} {n : Nat} (hn : n ≤ 100000) : (inR p 0 (Int32.ofNat n - 1) = true ∧ ∃ q, q < n ∧ p = Int32.ofNat q ∧ ¬ (p < 0 ∨ Int32.ofNat n ≤ p)) ∨ (inR p 0 (Int32.ofNat n - 1) = false ∧ (p < 0 ∨ Int32.ofNat n ≤ p)) := by
  unfold inR
  have e1 : (1 : Int32).toInt = 1 := by decide
  by_cases c : p < 0 ∨ Int32.ofNat n ≤ p
  · right
    refine ⟨?_, c⟩
    rcases c with c | c
    · rw [decide_eq_false (show ¬ (0 : Int32) ≤ p by rw [i_lt, i_z] at c; rw [i_le, i_z]; omega)]; rfl
    · rw [Bool.and_eq_false_iff]
      right
      rw [decide_eq_false_iff_not]
      cases n with
      | zero => rw [show Int32.ofNat 0 - 1 = -1 by decide, i_le]; rw [i_le, i_of_i (by omega)] at c; have e2 : (-1 : Int32).toInt = -1 := by decide
                omega
      | succ n =>
        rw [show Int32.ofNat (n + 1) - 1 = Int32.ofNat n by rw [show (1 : Int32) = Int32.ofNat 1 from rfl, i_subof (by omega)]; rfl, i_le, i_of_i (by omega)]
        rw [i_le, i_of_i (by omega)] at c
        omega
  · left
    have c1 : ¬ p < 0 := fun z => c (Or.inl z)
    have c2 : ¬ Int32.ofNat n ≤ p := fun z => c (Or.inr z)
    rw [i_lt, i_z] at c1
    rw [i_le, i_of_i (by omega)] at c2
    have ep : p = Int32.ofNat p.toInt.toNat := by
      have := i_to (x := p) (by rw [i_lt, i_z]; omega)
      rw [i_cl] at this; exact this.symm
    refine ⟨?_, p.toInt.toNat, by omega, ep, c⟩
    obtain ⟨m, rfl⟩ : ∃ m, n = m + 1 := ⟨n - 1, by omega⟩
    rw [show Int32.ofNat (m + 1) - 1 = Int32.ofNat m by rw [show (1 : Int32) = Int32.ofNat 1 from rfl, i_subof (by omega)]; rfl, Bool.and_eq_true, decide_eq_true_iff, decide_eq_true_iff, i_le, i_le, i_z, i_of_i (by omega)]
    omega
