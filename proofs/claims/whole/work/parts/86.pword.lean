/-! WORDS AS NUMBERS -/
/-- so many signs from a place -/
def chs (B : List Int32) : Nat → Nat → List Int32
  | 0, _ => []
  | m + 1, i => B.getD i 0 :: chs B m (i + 1)
theorem chs_len {B : List Int32} : ∀ (m i : Nat), (chs B m i).length = m
  | 0, _ => rfl
  | m + 1, i => by rw [chs, List.length_cons, chs_len m (i + 1)]
theorem chs_get {B : List Int32} {x : Int32} : ∀ (m i q : Nat), q < m → (chs B m i).getD q x = B.getD (i + q) 0
  | 0, _, _, h => by omega
  | m + 1, i, 0, _ => by rw [chs]; rfl
  | m + 1, i, q + 1, h => by
    rw [chs, List.getD_cons_succ, chs_get m (i + 1) q (by omega)]
    rw [show i + 1 + q = i + (q + 1) by omega]
theorem nmW_eq {B : List Int32} {f : Nat} : ∀ (n i : Nat) (a : Int64), rn isLD B n i ≤ f + 10 → nmW B f n i a = wdL (chs B (rn isLD B n i - i) i) a := by
  intro n
  induction n with
  | zero => intro i a _; rw [rn, nmW, Nat.sub_self]; rfl
  | succ n ih =>
    intro i a h
    rw [rn, nmW]
    rw [rn] at h
    by_cases c : isLD (B.getD i 0) = true
    · rw [if_pos c] at h
      have hj := rn_le (p := isLD) (B := B) n (i + 1)
      rw [if_pos c, if_pos c, if_pos (by omega), ih (i + 1) _ h, show rn isLD B n (i + 1) - i = (rn isLD B n (i + 1) - (i + 1)) + 1 by omega, chs]
      rfl
    · rw [if_neg c, if_neg c, Nat.sub_self]; rfl
theorem nmI_eq {B : List Int32} {f : Nat} : ∀ (n t : Nat) (a : Int32), rn isDg B n (f + t) ≤ f + 6 → nmI B f n (f + t) a = nmA B f (rn isDg B n (f + t) - (f + t)) t a := by
  intro n
  induction n with
  | zero => intro t a _; rw [rn, nmI, Nat.sub_self]; rfl
  | succ n ih =>
    intro t a h
    rw [rn, nmI]
    rw [rn] at h
    by_cases c : isDg (B.getD (f + t) 0) = true
    · rw [if_pos c] at h
      have hj := rn_le (p := isDg) (B := B) n (f + t + 1)
      rw [if_pos c, if_pos c, if_pos (by omega), show f + t + 1 = f + (t + 1) by omega, ih (t + 1) _ h, show rn isDg B n (f + (t + 1)) - (f + t) = (rn isDg B n (f + (t + 1)) - (f + (t + 1))) + 1 by have := (show f + t + 1 = f + (t + 1) by omega); rw [← this]; omega, nmA, Int32.mul_comm 10 a]
    · rw [if_neg c, if_neg c, Nat.sub_self]; rfl
/-- a sign's number -/
def cN (x : Int32) : Nat := (mcd x).toInt.toNat
def unC (c : Nat) : Int32 := if c ≤ 26 then Int32.ofNat (96 + c) else Int32.ofNat (c + 21)
theorem cN_ok {x : Int32} (h : isLD x = true) : 1 ≤ cN x ∧ cN x ≤ 36 ∧ (mcd x).toInt64 = Int64.ofNat (cN x) ∧ unC (cN x) = x := by
  have a : ∀ n, n < 128 → isLD (Int32.ofNat n) = true → 1 ≤ cN (Int32.ofNat n) ∧ cN (Int32.ofNat n) ≤ 36 ∧ (mcd (Int32.ofNat n)).toInt64 = Int64.ofNat (cN (Int32.ofNat n)) ∧ unC (cN (Int32.ofNat n)) = Int32.ofNat n := by decide +kernel
  have r : 0 ≤ x.toInt ∧ x.toInt < 128 := by
    have e97 : (97 : Int32).toInt = 97 := by decide
    have e122 : (122 : Int32).toInt = 122 := by decide
    have e48 : (48 : Int32).toInt = 48 := by decide
    have e57 : (57 : Int32).toInt = 57 := by decide
    unfold isLD isLt isDg at h
    rw [Bool.or_eq_true, Bool.and_eq_true, Bool.and_eq_true, decide_eq_true_iff, decide_eq_true_iff, decide_eq_true_iff, decide_eq_true_iff] at h
    rcases h with ⟨h1, h2⟩ | ⟨h1, h2⟩
    · rw [i_le] at h1 h2; omega
    · rw [i_le] at h1 h2; omega
  have ex : x = Int32.ofNat x.toInt.toNat := by
    have := i_to (x := x) (by rw [i_lt, i_z]; omega)
    rw [i_cl] at this; exact this.symm
  have h2 : x.toInt.toNat < 128 := by omega
  have := a _ h2
  rw [← ex] at this
  exact this h
def vWd : List Nat → Nat
  | [] => 0
  | c :: l => 37 * vWd l + c
theorem vWd_inj : ∀ {l l' : List Nat}, (∀ c, c ∈ l → 1 ≤ c ∧ c ≤ 36) → (∀ c, c ∈ l' → 1 ≤ c ∧ c ≤ 36) → vWd l = vWd l' → l = l'
  | [], [], _, _, _ => rfl
  | [], c :: l', _, h2, e => by have := h2 c (by simp); rw [vWd, vWd] at e; omega
  | c :: l, [], h1, _, e => by have := h1 c (by simp); rw [vWd, vWd] at e; omega
  | c :: l, c' :: l', h1, h2, e => by
    have a := h1 c (by simp)
    have b := h2 c' (by simp)
    rw [vWd, vWd] at e
    have e1 : c = c' := by omega
    have e2 : vWd l = vWd l' := by omega
    rw [e1, vWd_inj (fun x hx => h1 x (by simp [hx])) (fun x hx => h2 x (by simp [hx])) e2]
theorem vWd_lt : ∀ {l : List Nat}, (∀ c, c ∈ l → 1 ≤ c ∧ c ≤ 36) → vWd l < 37 ^ l.length
  | [], _ => by decide
  | c :: l, h => by
    have a := h c (by simp)
    have b := vWd_lt (l := l) (fun x hx => h x (by simp [hx]))
    rw [vWd, List.length_cons, Nat.pow_succ]
    omega
theorem wdL_v : ∀ (l : List Int32) (n : Nat), (∀ x, x ∈ l → isLD x = true) → wdL l (Int64.ofNat n) = Int64.ofNat ((l.map cN).foldl (fun a c => 37 * a + c) n)
  | [], n, _ => rfl
  | x :: l, n, h => by
    have a := cN_ok (h x (by simp))
    show wdL l (37 * Int64.ofNat n + (mcd x).toInt64) = Int64.ofNat ((l.map cN).foldl (fun a c => 37 * a + c) (37 * n + cN x))
    rw [← wdL_v l (37 * n + cN x) (fun y hy => h y (by simp [hy])), a.2.2.1, Int64.ofNat_add, Int64.ofNat_mul]
    rfl
theorem wdL_r (l : List Int32) (h : ∀ x, x ∈ l → isLD x = true) : wdL l 0 = Int64.ofNat (vWd (l.map cN).reverse) := by
  rw [show (0 : Int64) = Int64.ofNat 0 from rfl, wdL_v l 0 h, List.foldl_eq_foldr_reverse]
  congr 1
  generalize (l.map cN).reverse = m
  induction m with
  | nil => rfl
  | cons c m ih => rw [List.foldr_cons, ih, vWd]
theorem cN_mem {l : List Int32} (h : ∀ x, x ∈ l → isLD x = true) : ∀ c, c ∈ (l.map cN).reverse → 1 ≤ c ∧ c ≤ 36 := by
  intro c hc
  rw [List.mem_reverse, List.mem_map] at hc
  obtain ⟨x, hx, rfl⟩ := hc
  have := cN_ok (h x hx)
  exact ⟨this.1, this.2.1⟩
theorem cN_map {l l' : List Int32} : (∀ x, x ∈ l → isLD x = true) → (∀ x, x ∈ l' → isLD x = true) → l.map cN = l'.map cN → l = l' := by
  intro h h' e
  have a : ∀ (l : List Int32), (∀ x, x ∈ l → isLD x = true) → (l.map cN).map unC = l := by
    intro l
    induction l with
    | nil => intro _; rfl
    | cons x l ih =>
      intro h
      rw [List.map_cons, List.map_cons, ih (fun y hy => h y (by simp [hy])), (cN_ok (h x (by simp))).2.2.2]
  rw [← a l h, ← a l' h', e]
theorem i64_inj {a b : Nat} (ha : a < 2 ^ 63) (hb : b < 2 ^ 63) (e : Int64.ofNat a = Int64.ofNat b) : a = b := by
  have := congrArg Int64.toInt e
  rw [Int64.toInt_ofNat_of_lt ha, Int64.toInt_ofNat_of_lt hb] at this
  omega
/-- words of at most 10 signs, with one number, are one -/
theorem wd_inj {l l' : List Int32} (h : ∀ x, x ∈ l → isLD x = true) (h' : ∀ x, x ∈ l' → isLD x = true) (hl : l.length ≤ 10) (hl' : l'.length ≤ 10) : (wdL l 0 = wdL l' 0) = (l = l') := by
  apply propext
  refine ⟨fun e => ?_, fun e => by rw [e]⟩
  rw [wdL_r l h, wdL_r l' h'] at e
  have b : ∀ (l : List Int32), (∀ x, x ∈ l → isLD x = true) → l.length ≤ 10 → vWd (l.map cN).reverse < 2 ^ 63 := by
    intro l h hl
    have a := vWd_lt (cN_mem h)
    rw [List.length_reverse, List.length_map] at a
    have := Nat.pow_le_pow_right (n := 37) (by omega) hl
    have k : (37 : Nat) ^ 10 < 2 ^ 63 := by decide
    omega
  have e1 := i64_inj (b l h hl) (b l' h' hl') e
  have e2 := vWd_inj (cN_mem h) (cN_mem h') e1
  have e3 : l.map cN = l'.map cN := by
    have := congrArg List.reverse e2
    rw [List.reverse_reverse, List.reverse_reverse] at this
    exact this
  exact cN_map h h' e3
theorem kq_all {B : List Int32} {s len k : Nat} : ∀ (n i : Nat), kq B s len k n i = true ↔ ∀ q, i ≤ q → q < i + n → sKW.getD (k * 6 + q) 0 = (if q < len then B.getD (s + q) 0 else 32) := by
  intro n
  induction n with
  | zero => intro i; rw [kq]; exact ⟨fun _ q _ _ => by omega, fun _ => rfl⟩
  | succ n ih =>
    intro i
    rw [kq]
    by_cases c : sKW.getD (k * 6 + i) 0 = (if i < len then B.getD (s + i) 0 else 32)
    · rw [if_pos c, ih (i + 1)]
      constructor
      · intro h q h1 h2
        by_cases e : q = i
        · rw [e]; exact c
        · exact h q (by omega) (by omega)
      · intro h q h1 h2
        exact h q (by omega) (by omega)
    · rw [if_neg c]
      constructor
      · intro h; cases h
      · intro h; exact absurd (h i (by omega) (by omega)) c
theorem KW_tab : ∀ k, k < 29 → (KW.getD k []).length ≤ 6 ∧ (∀ x, x ∈ KW.getD k [] → isLD x = true) ∧ ∀ i, i < 6 → sKW.getD (k * 6 + i) 0 = (KW.getD k []).getD i 32 := by decide +kernel
theorem chs_LD {B : List Int32} : ∀ (m i : Nat), (∀ q, q < m → isLD (B.getD (i + q) 0) = true) → ∀ x, x ∈ chs B m i → isLD x = true
  | 0, _, _, _, h => by cases h
  | m + 1, i, hq, x, h => by
    rw [chs] at h
    rcases List.mem_cons.mp h with rfl | h
    · exact hq 0 (by omega)
    · exact chs_LD m (i + 1) (fun q h1 => by have := hq (q + 1) (by omega); rw [show i + (q + 1) = i + 1 + q by omega] at this; exact this) x h
theorem ext_getD {l l' : List Int32} {x : Int32} (h : l.length = l'.length) (e : ∀ i, i < l.length → l.getD i x = l'.getD i x) : l = l' := by
  apply List.ext_getElem h
  intro i h1 h2
  have := e i h1
  rw [List.getD_eq_getElem?_getD, List.getD_eq_getElem?_getD, List.getElem?_eq_getElem h1, List.getElem?_eq_getElem h2] at this
  exact this
/-- the class's keyword and the reference's -/
theorem kw_same {B : List Int32} {s len k : Nat} (hk : k < 29) (hl : ∀ q, q < len → isLD (B.getD (s + q) 0) = true) : kB B s len k = true ↔ KW.getD k [] = chs B len s := by
  obtain ⟨t1, t2, t3⟩ := KW_tab k hk
  generalize KW.getD k [] = l at *
  unfold kB
  rw [Bool.and_eq_true, decide_eq_true_iff, kq_all]
  have n32 : ¬ isLD 32 = true := by decide
  constructor
  · rintro ⟨h6, h⟩
    have g : ∀ i, i < 6 → l.getD i 32 = (if i < len then B.getD (s + i) 0 else 32) := fun i hi => (t3 i hi).symm.trans (h i (by omega) (by omega))
    have e : l.length = len := by
      rcases Nat.lt_trichotomy l.length len with c | c | c
      · have := g l.length (by omega)
        rw [if_pos c, List.getD_eq_getElem?_getD, List.getElem?_eq_none (by omega)] at this
        have h2 := hl l.length c
        rw [← this] at h2
        exact absurd h2 n32
      · exact c
      · have := g len (by omega)
        rw [if_neg (by omega)] at this
        have m : l.getD len 32 ∈ l := by rw [List.getD_eq_getElem?_getD, List.getElem?_eq_getElem c]; exact List.getElem_mem c
        have h2 := t2 _ m
        rw [this] at h2
        exact absurd h2 n32
    refine ext_getD (x := 32) (by rw [chs_len]; exact e) (fun i hi => ?_)
    rw [g i (by omega), if_pos (by omega), chs_get _ _ _ (by omega)]
  · intro e
    have el : l.length = len := by rw [e, chs_len]
    refine ⟨by omega, fun q _ h2 => ?_⟩
    rw [t3 q (by omega)]
    by_cases c : q < len
    · rw [if_pos c, e, chs_get _ _ _ c]
    · rw [if_neg c, List.getD_eq_getElem?_getD, List.getElem?_eq_none (by omega)]; rfl
theorem key_kw {B : List Int32} {s len : Nat} (h10 : len ≤ 10) (hl : ∀ q, q < len → isLD (B.getD (s + q) 0) = true) : ∀ (n k : Nat), k + n = 29 → keyF (wdL (chs B len s) 0) n k = kap (kwF B s len n k) := by
  intro n
  induction n with
  | zero => intro k e; rw [keyF, kwF, show k = 29 by omega]; rfl
  | succ n ih =>
    intro k e
    have t := KW_tab k (by omega)
    have w := wd_inj t.2.1 (chs_LD len s hl) (by omega) (by rw [chs_len]; exact h10)
    rw [keyF, kwF]
    by_cases c : kB B s len k = true
    · have c' := (kw_same (by omega) hl).mp c
      rw [if_pos c, if_pos (by rw [c'])]
      unfold kap
      rw [if_pos (by omega)]
    · rw [if_neg c, if_neg (by rw [w]; exact fun z => c ((kw_same (by omega) hl).mpr z)), ih (k + 1) (by omega)]
