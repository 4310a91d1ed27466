/-! BITS -/
theorem b_sh {p : Nat} (hp : p < 32) : (Int32.ofNat p &&& 31).toBitVec = BitVec.ofNat 32 p := by
  have : ∀ p, p < 32 → (Int32.ofNat p &&& 31).toBitVec = BitVec.ofNat 32 p := by decide +kernel
  exact this p hp
theorem b_smod {p : Nat} (hp : p < 32) : (BitVec.ofNat 32 p).smod 32 = BitVec.ofNat 32 p := by
  have : ∀ p, p < 32 → (BitVec.ofNat 32 p).smod 32 = BitVec.ofNat 32 p := by decide +kernel
  exact this p hp
theorem b_and1 {x : BitVec 32} : (x &&& 1#32 = 0#32) ↔ x.getLsbD 0 = false := by
  constructor
  · intro h
    have := congrArg (fun z => z.getLsbD 0) h
    simpa using this
  · intro h
    apply BitVec.eq_of_getLsbD_eq
    intro i hi
    rw [BitVec.getLsbD_and]
    by_cases c : i = 0
    · subst c; rw [h]; rfl
    · have : (1#32).getLsbD i = false := by
        rw [BitVec.getLsbD_one]; simp [c]
      rw [this, Bool.and_false]
      exact (BitVec.getLsbD_zero).symm
theorem bt_b {m : Int32} {p : Nat} (hp : p < 32) : bt m (Int32.ofNat p) = m.toBitVec.getLsbD p := by
  unfold bt
  have h1 : (m >>> (Int32.ofNat p &&& 31) &&& 1 = 0) ↔ m.toBitVec.getLsbD p = false := by
    rw [← Int32.toBitVec_inj, Int32.toBitVec_and, Int32.toBitVec_shiftRight, b_sh hp, b_smod hp]
    show (_ &&& 1#32 = 0#32) ↔ _
    rw [b_and1, BitVec.sshiftRight_eq', BitVec.getLsbD_sshiftRight]
    have : (BitVec.ofNat 32 p).toNat = p := by rw [BitVec.toNat_ofNat]; omega
    rw [this]
    simp [hp]
  cases h : m.toBitVec.getLsbD p
  · simp [h1, h]
  · have : ¬ (m >>> (Int32.ofNat p &&& 31) &&& 1 = 0) := by rw [h1, h]; decide
    simp [this]
theorem b_one {p : Nat} (hp : p < 32) : ((1 : Int32) <<< (Int32.ofNat p &&& 31)).toBitVec = BitVec.twoPow 32 p := by
  have : ∀ p, p < 32 → ((1 : Int32) <<< (Int32.ofNat p &&& 31)).toBitVec = BitVec.twoPow 32 p := by decide +kernel
  exact this p hp
theorem bt_or {m : Int32} {p q : Nat} (hp : p < 32) (hq : q < 32) : bt (m ||| 1 <<< (Int32.ofNat p &&& 31)) (Int32.ofNat q) = (bt m (Int32.ofNat q) || decide (q = p)) := by
  rw [bt_b hq, bt_b hq, Int32.toBitVec_or, BitVec.getLsbD_or, b_one hp, BitVec.getLsbD_twoPow]
  congr 1
  by_cases c : q = p
  · subst c; simp [hq]
  · have : ¬ p = q := fun e => c e.symm
    simp [c, this]
theorem bt_clr {m : Int32} {p q : Nat} (hp : p < 32) (hq : q < 32) : bt (m &&& (1 <<< (Int32.ofNat p &&& 31) ^^^ -1)) (Int32.ofNat q) = (bt m (Int32.ofNat q) && !decide (q = p)) := by
  rw [bt_b hq, bt_b hq, Int32.toBitVec_and, BitVec.getLsbD_and, Int32.toBitVec_xor, BitVec.getLsbD_xor, b_one hp, BitVec.getLsbD_twoPow]
  have : (Int32.toBitVec (-1)).getLsbD q = true := by
    have : ∀ q, q < 32 → (Int32.toBitVec (-1)).getLsbD q = true := by decide +kernel
    exact this q hq
  rw [this]
  congr 1
  by_cases c : q = p
  · subst c; simp [hq]
  · have : ¬ p = q := fun e => c e.symm
    simp [c, this]
theorem bt_zero {q : Nat} (hq : q < 32) : bt 0 (Int32.ofNat q) = false := by
  have : ∀ q, q < 32 → bt 0 (Int32.ofNat q) = false := by decide +kernel
  exact this q hq
theorem bt_4095 {q : Nat} (hq : q < 12) : bt 4095 (Int32.ofNat q) = true := by
  have : ∀ q, q < 12 → bt 4095 (Int32.ofNat q) = true := by decide +kernel
  exact this q hq
/-- open rooms, room by room -/
theorem cOpen_bt {s : Int32} {q : Nat} (hq : q < 12) : ∀ (cl : List CL) (o : Int32), (∀ x, x ∈ cl → ∃ p : Nat, p < 12 ∧ x.1 = Int32.ofNat p) → bt (cl.foldl (cOp1 s) o) (Int32.ofNat q) = (bt o (Int32.ofNat q) && cl.all (fun x => !(decide (x.1 = Int32.ofNat q) && decide (x.2.1 ≤ s) && decide (s < x.2.2)))) := by
  intro cl
  induction cl with
  | nil => intro o _; simp
  | cons x cl ih =>
    intro o h
    obtain ⟨p, hp, hx⟩ := h x (List.mem_cons_self ..)
    rw [List.foldl_cons, ih _ (fun y hy => h y (List.mem_cons_of_mem _ hy)), List.all_cons]
    have h1 : decide (x.1 = Int32.ofNat q) = decide (q = p) := by
      rw [hx]
      have := i_ofeq (m := p) (n := q) (by omega) (by omega)
      by_cases c : q = p
      · subst c; simp
      · simp [c, this, show ¬ p = q from fun e => c e.symm]
    rw [h1]
    unfold cOp1
    by_cases c : x.2.1 ≤ s ∧ s < x.2.2
    · rw [if_pos c, hx, bt_clr (by omega) (by omega)]
      simp [c.1, c.2, Bool.and_assoc]
    · rw [if_neg c]
      have h2 : (decide (x.2.1 ≤ s) && decide (s < x.2.2)) = false := by
        cases h : (decide (x.2.1 ≤ s) && decide (s < x.2.2))
        · rfl
        · rw [Bool.and_eq_true, decide_eq_true_iff, decide_eq_true_iff] at h; exact absurd h c
      rw [Bool.and_assoc (decide (q = p)), h2]
      simp
