/-! THE CLASS'S OBJECTS: their numbers in the constructors' order; the shape kS that every method keeps -/
def cKt : List (Nat × Nat) := [(10, 0), (4, 0), (100, 2000), (8, 0), (4, 0), (100, 401), (4, 0), (100, 401), (4, 0), (100, 401), (4, 0), (100, 401), (4, 0), (100, 401), (4, 0), (100, 401), (1, 0), (4, 0), (100, 200), (4, 0), (100, 10), (2, 0), (4, 0), (100, 10), (3, 0), (4, 0), (100, 48), (4, 0), (100, 48), (4, 0), (100, 48), (4, 0), (100, 144), (7, 0), (4, 0), (100, 120), (4, 0), (100, 24), (4, 0), (100, 24), (4, 0), (100, 24), (4, 0), (100, 160), (4, 0), (100, 16), (4, 0), (100, 16), (4, 0), (100, 16), (4, 0), (100, 16), (4, 0), (100, 16), (4, 0), (100, 60), (4, 0), (100, 6), (4, 0), (100, 400), (4, 0), (100, 400), (4, 0), (100, 8), (4, 0), (100, 8), (4, 0), (100, 8), (9, 0), (6, 0), (4, 0), (100, 1800), (9, 0), (6, 0), (4, 0), (100, 0), (5, 0), (4, 0), (100, 80), (4, 0), (100, 48), (4, 0), (100, 6), (0, 0), (6, 0), (4, 0), (100, 542), (7, 0), (4, 0), (100, 120), (4, 0), (100, 24), (4, 0), (100, 24), (4, 0), (100, 24), (4, 0), (100, 160), (4, 0), (100, 16), (4, 0), (100, 16), (4, 0), (100, 16), (4, 0), (100, 16), (4, 0), (100, 16), (4, 0), (100, 60), (4, 0), (100, 6), (4, 0), (100, 400), (4, 0), (100, 400)]
def cIs (n kd : Nat) : Bool := decide (200 ≤ n ∧ n < 316) && decide ((cKt.getD (n - 200) (0, 0)).1 = kd)
def isRow (n : Nat) : Bool := cIs n 4
def isFld (n : Nat) : Bool := decide (200 ≤ n ∧ n < 316) && !cIs n 4 && !cIs n 100
def cRt : List (Nat × Nat × Nat) := [(200, 0, 201), (200, 1, 203), (200, 2, 216), (200, 3, 221), (200, 4, 224), (200, 5, 262), (200, 6, 264), (200, 7, 266), (200, 8, 268), (200, 9, 272), (200, 10, 276), (200, 11, 283), (203, 0, 204), (203, 1, 206), (203, 2, 208), (203, 3, 210), (203, 4, 212), (203, 5, 214), (216, 0, 203), (216, 1, 217), (216, 2, 219), (221, 0, 203), (221, 1, 201), (221, 3, 222), (224, 0, 225), (224, 1, 227), (224, 2, 229), (224, 3, 231), (233, 0, 234), (233, 1, 236), (233, 2, 238), (233, 3, 240), (233, 4, 242), (233, 5, 244), (233, 6, 246), (233, 7, 248), (233, 8, 250), (233, 9, 252), (233, 10, 254), (233, 11, 256), (233, 12, 258), (233, 13, 260), (268, 0, 269), (268, 1, 270), (268, 2, 224), (272, 0, 273), (272, 1, 274), (272, 2, 224), (276, 0, 224), (276, 1, 277), (276, 2, 279), (276, 3, 281), (283, 0, 284), (283, 1, 285), (283, 2, 224), (287, 0, 288), (287, 1, 290), (287, 2, 292), (287, 3, 294), (287, 4, 296), (287, 5, 298), (287, 6, 300), (287, 7, 302), (287, 8, 304), (287, 9, 306), (287, 10, 308), (287, 11, 310), (287, 12, 312), (287, 13, 314), (201, 0, 202), (204, 0, 205), (206, 0, 207), (208, 0, 209), (210, 0, 211), (212, 0, 213), (214, 0, 215), (217, 0, 218), (219, 0, 220), (222, 0, 223), (225, 0, 226), (227, 0, 228), (229, 0, 230), (231, 0, 232), (234, 0, 235), (236, 0, 237), (238, 0, 239), (240, 0, 241), (242, 0, 243), (244, 0, 245), (246, 0, 247), (248, 0, 249), (250, 0, 251), (252, 0, 253), (254, 0, 255), (256, 0, 257), (258, 0, 259), (260, 0, 261), (262, 0, 263), (264, 0, 265), (266, 0, 267), (270, 0, 271), (274, 0, 275), (277, 0, 278), (279, 0, 280), (281, 0, 282), (285, 0, 286), (288, 0, 289), (290, 0, 291), (292, 0, 293), (294, 0, 295), (296, 0, 297), (298, 0, 299), (300, 0, 301), (302, 0, 303), (304, 0, 305), (306, 0, 307), (308, 0, 309), (310, 0, 311), (312, 0, 313), (314, 0, 315)]
def tx (h : mH) : Nat := match mV h 224 6 with | .ref t => t | _ => 0
def kS (h : mH) : Prop := (∀ n, n < 116 → mK h (200 + n) = cKt.getD n (0, 0)) ∧ 316 ≤ mN h ∧ (∀ q, q ∈ cRt → mV h q.1 q.2.1 = .ref q.2.2) ∧ (∀ a, isRow a = true → ¬ mI h a 1 < 0 ∧ (mI h a 1).toNatClampNeg ≤ rN h a) ∧ ((mV h 224 6 = .ref 233 ∧ mV h 200 12 = .ref 287) ∨ (mV h 224 6 = .ref 287 ∧ mV h 200 12 = .ref 233))
theorem kS_k {h : mH} {n : Nat} {q : Nat × Nat} (hk : kS h) (h0 : 200 ≤ n) (h1 : n < 316) (hq : cKt.getD (n - 200) (0, 0) = q) : mK h n = q := by
  have := hk.1 (n - 200) (by omega)
  rw [show 200 + (n - 200) = n by omega] at this
  rw [this, hq]
theorem kS_is {h : mH} {n kd : Nat} (hk : kS h) (hc : cIs n kd = true) : mIs h n kd = true := by
  unfold cIs at hc
  rw [Bool.and_eq_true, decide_eq_true_iff, decide_eq_true_iff] at hc
  unfold mIs
  rw [decide_eq_true_iff]
  refine ⟨?_, Nat.lt_of_lt_of_le hc.1.2 hk.2.1, ?_⟩
  · show 200 ≤ n
    exact hc.1.1
  · rw [kS_k hk hc.1.1 hc.1.2 rfl]; exact hc.2
theorem kS_r4 {h : mH} {a : Nat} (hk : kS h) (ha : isRow a = true) : mIs h a 4 = true := kS_is hk ha
theorem isRow_all {P : Nat → Prop} (h : ∀ a, a ∈ [201, 204, 206, 208, 210, 212, 214, 217, 219, 222, 225, 227, 229, 231, 234, 236, 238, 240, 242, 244, 246, 248, 250, 252, 254, 256, 258, 260, 262, 264, 266, 270, 274, 277, 279, 281, 285, 288, 290, 292, 294, 296, 298, 300, 302, 304, 306, 308, 310, 312, 314] → P a) : ∀ a, isRow a = true → P a := by
  intro a ha
  have h1 : ∀ n, n < 116 → isRow (200 + n) = true → (200 + n) ∈ [201, 204, 206, 208, 210, 212, 214, 217, 219, 222, 225, 227, 229, 231, 234, 236, 238, 240, 242, 244, 246, 248, 250, 252, 254, 256, 258, 260, 262, 264, 266, 270, 274, 277, 279, 281, 285, 288, 290, 292, 294, 296, 298, 300, 302, 304, 306, 308, 310, 312, 314] := by decide +kernel
  have h2 : 200 ≤ a ∧ a < 316 := by
    unfold isRow cIs at ha
    rw [Bool.and_eq_true, decide_eq_true_iff] at ha
    exact ha.1
  have h3 := h1 (a - 200) (by omega)
  rw [show 200 + (a - 200) = a by omega] at h3
  exact h a (h3 ha)
theorem kS_row {h : mH} {a : Nat} (hk : kS h) (ha : isRow a = true) : rOK h a := by
  have hc : cIs (a + 1) 100 = true ∧ (a, 0, a + 1) ∈ cRt ∧ (cKt.getD (a + 1 - 200) (0, 0)).2 ≤ 100000 ∧ 200 ≤ a ∧ a + 1 < 316 := isRow_all (P := fun a => cIs (a + 1) 100 = true ∧ (a, 0, a + 1) ∈ cRt ∧ (cKt.getD (a + 1 - 200) (0, 0)).2 ≤ 100000 ∧ 200 ≤ a ∧ a + 1 < 316) (by decide +kernel) a ha
  have h4 := hk.2.2.2.1 a ha
  refine ⟨kS_is hk ha, hk.2.2.1 _ hc.2.1, kS_is hk hc.1, ?_, h4.1, h4.2⟩
  unfold rN
  rw [kS_k hk (by omega) hc.2.2.2.2 rfl]
  exact hc.2.2.1
theorem isRow_ne {a b : Nat} (ha : isRow a = true) (hb : isRow b = true) : ¬ b = a + 1 := by
  have : isRow (a + 1) = false := isRow_all (P := fun a => isRow (a + 1) = false) (by decide +kernel) a ha
  intro e; rw [e, this] at hb; cases hb
theorem isFld_ne {a b : Nat} (ha : isRow a = true) (hb : isFld b = true) : ¬ b = a ∧ ¬ b = a + 1 := by
  have : isFld a = false ∧ isFld (a + 1) = false := isRow_all (P := fun a => isFld a = false ∧ isFld (a + 1) = false) (by decide +kernel) a ha
  constructor <;> intro e
  · rw [e, this.1] at hb; cases hb
  · rw [e, this.2] at hb; cases hb
theorem rN_W {h : mH} {a b : Nat} {l : List Int32} : rN (rW h a l) b = rN h b := rfl
theorem mI_Wz {h : mH} {a : Nat} {l : List Int32} (hl : l.length ≤ 100000) : ¬ mI (rW h a l) a 1 < 0 ∧ (mI (rW h a l) a 1).toNatClampNeg = l.length := by
  rw [mI_W, if_pos ⟨rfl, rfl⟩, i_lt, i_of_i (by omega), i_of_n (by omega), i_z]
  exact ⟨by omega, rfl⟩
theorem kS_W {h : mH} {a : Nat} {l : List Int32} (hk : kS h) (ha : isRow a = true) (hl : l.length ≤ rN h a) : kS (rW h a l) := by
  have hr := kS_row hk ha
  refine ⟨hk.1, hk.2.1, hk.2.2.1, ?_, hk.2.2.2.2⟩
  intro b hb
  by_cases e : b = a
  · rw [e]
    have h3 := mI_Wz (h := h) (a := a) (l := l) (Nat.le_trans hl hr.2.2.2.1)
    rw [h3.2]
    exact ⟨h3.1, hl⟩
  · rw [mI_W, if_neg (fun c => e c.1), if_neg (fun c => isRow_ne ha hb c.1)]
    exact hk.2.2.2.1 b hb
theorem rL_le {h : mH} {a : Nat} (hk : kS h) (ha : isRow a = true) : (rL h a).length ≤ rN h a := by
  rw [rL_len]; exact (hk.2.2.2.1 a ha).2
theorem rL_W {h : mH} {a : Nat} {l : List Int32} (hl : l.length ≤ 100000) : rL (rW h a l) a = l := by
  have h3 := mI_Wz (h := h) (a := a) (l := l) hl
  unfold rL
  rw [h3.2]
  apply List.ext_getElem?
  intro k
  by_cases c : k < l.length
  · rw [List.getElem?_map, List.getElem?_range c, List.getElem?_eq_getElem c]
    show some (mI (rW h a l) (a + 1) k) = _
    rw [mI_W, if_neg (by omega), if_pos ⟨rfl, c⟩, List.getD_eq_getElem?_getD, List.getElem?_eq_getElem c]; rfl
  · rw [List.getElem?_eq_none (by rw [List.length_map, List.length_range]; omega), List.getElem?_eq_none (by omega)]
theorem rL_Wn {h : mH} {a b : Nat} {l : List Int32} (ha : isRow a = true) (hb : isRow b = true) (hn : ¬ b = a) : rL (rW h a l) b = rL h b := by
  have h1 := isRow_ne ha hb
  have h2 := isRow_ne hb ha
  unfold rL
  have e1 : mI (rW h a l) b 1 = mI h b 1 := by rw [mI_W, if_neg (fun c => hn c.1), if_neg (fun c => h1 c.1)]
  rw [e1]
  apply List.map_congr_left
  intro k _
  rw [mI_W, if_neg (fun c => h2 c.1.symm), if_neg (fun c => hn (by omega))]
theorem mI_Wn {h : mH} {a b j : Nat} {l : List Int32} (ha : isRow a = true) (hb : isFld b = true) : mI (rW h a l) b j = mI h b j := by
  have h1 := isFld_ne ha hb
  rw [mI_W, if_neg (fun c => h1.1 c.1), if_neg (fun c => h1.2 c.1)]
theorem kS_SI {h : mH} {a k : Nat} {x : Int32} (hk : kS h) (ha : isFld a = true) : kS (mSI h a k x) := by
  refine ⟨hk.1, hk.2.1, hk.2.2.1, ?_, hk.2.2.2.2⟩
  intro b hb
  have h1 := isFld_ne hb ha
  rw [mI_SI, if_neg (fun c => h1.1 c.1.symm)]
  exact hk.2.2.2.1 b hb
theorem rL_SI {h : mH} {a k b : Nat} {x : Int32} (hb : isRow b = true) (ha : isFld a = true) : rL (mSI h a k x) b = rL h b := by
  have h1 := isFld_ne hb ha
  unfold rL
  rw [mI_SI, if_neg (fun c => h1.1 c.1.symm)]
  apply List.map_congr_left
  intro j _
  rw [mI_SI, if_neg (fun c => h1.2 c.1.symm)]
theorem tx_kS {h : mH} (hk : kS h) : tx h = 233 ∨ tx h = 287 := by
  unfold tx
  rcases hk.2.2.2.2 with e | e
  · left; rw [e.1]
  · right; rw [e.1]
theorem tx_v {h : mH} (hk : kS h) : mV h 224 6 = .ref (tx h) := by
  unfold tx
  rcases hk.2.2.2.2 with e | e <;> rw [e.1]
theorem tx_w {h : mH} (hk : kS h) : mV h 200 12 = .ref (520 - tx h) := by
  unfold tx
  rcases hk.2.2.2.2 with e | e <;> (rw [e.1, e.2]; rfl)
theorem tx_SI {h : mH} {a k : Nat} {x : Int32} : tx (mSI h a k x) = tx h := Eq.trans rfl rfl
theorem nI_SI {h : mH} {a k : Nat} {x : Int32} {b j : Nat} : mI (mSI h a k x) b j = if b = a ∧ j = k then x else mI h b j := Eq.trans rfl rfl
theorem nV_SI {h : mH} {a k : Nat} {x : Int32} : mV (mSI h a k x) = mV h := Eq.trans rfl rfl
theorem nK_SI {h : mH} {a k : Nat} {x : Int32} : mK (mSI h a k x) = mK h := Eq.trans rfl rfl
theorem nN_SI {h : mH} {a k : Nat} {x : Int32} : mN (mSI h a k x) = mN h := Eq.trans rfl rfl
theorem nL_SI {h : mH} {a k : Nat} {x : Int32} : mL (mSI h a k x) = mL h := Eq.trans rfl rfl
theorem nIs_SI {h : mH} {a k : Nat} {x : Int32} {b c : Nat} : mIs (mSI h a k x) b c = mIs h b c := Eq.trans rfl rfl
theorem mS_n : mSum [] = 0 := Eq.trans rfl rfl
theorem mS_i {x : Int32} {st : List Value} : mSum (.int x :: st) = 1 + mSum st := by simp [mSum, Value.category]
theorem mS_r {x : Nat} {st : List Value} : mSum (.ref x :: st) = 1 + mSum st := by simp [mSum, Value.category]
theorem mS_l {x : Int64} {st : List Value} : mSum (.long x :: st) = 2 + mSum st := by simp [mSum, Value.category]
theorem mS_d {x : UInt64} {st : List Value} : mSum (.double x :: st) = 2 + mSum st := by simp [mSum, Value.category]
theorem kS_A {h : mH} {a : Nat} {x : Int32} (hk : kS h) (ha : isRow a = true) : kS (rA h a x) := kS_W hk ha (la_len (rL_le hk ha))
theorem rL_A {h : mH} {a : Nat} {x : Int32} (hk : kS h) (ha : isRow a = true) : rL (rA h a x) a = la (rN h a) (rL h a) x := rL_W (Nat.le_trans (la_len (rL_le hk ha)) (kS_row hk ha).2.2.2.1)
theorem rL_An {h : mH} {a b : Nat} {x : Int32} (ha : isRow a = true) (hb : isRow b = true) (hn : ¬ b = a) : rL (rA h a x) b = rL h b := rL_Wn ha hb hn
theorem mI_A {h : mH} {a b k : Nat} {x : Int32} (ha : isRow a = true) (hb : isFld b = true) : mI (rA h a x) b k = mI h b k := mI_Wn ha hb
theorem mV_A {h : mH} {a : Nat} {x : Int32} : mV (rA h a x) = mV h := Eq.trans rfl rfl
theorem mK_A {h : mH} {a : Nat} {x : Int32} : mK (rA h a x) = mK h := Eq.trans rfl rfl
theorem mN_A {h : mH} {a : Nat} {x : Int32} : mN (rA h a x) = mN h := Eq.trans rfl rfl
theorem mL_A {h : mH} {a : Nat} {x : Int32} : mL (rA h a x) = mL h := Eq.trans rfl rfl
theorem tx_A {h : mH} {a : Nat} {x : Int32} : tx (rA h a x) = tx h := Eq.trans rfl rfl
theorem rN_A {h : mH} {a b : Nat} {x : Int32} : rN (rA h a x) b = rN h b := Eq.trans rfl rfl
theorem mIs_A {h : mH} {a b c : Nat} {x : Int32} : mIs (rA h a x) b c = mIs h b c := Eq.trans rfl rfl
theorem kS_S {h : mH} {a : Nat} {j x : Int32} (hk : kS h) (ha : isRow a = true) : kS (rS h a j x) := kS_W hk ha ((by rw [ls_len]; exact rL_le hk ha))
theorem rL_S {h : mH} {a : Nat} {j x : Int32} (hk : kS h) (ha : isRow a = true) : rL (rS h a j x) a = ls (rL h a) j x := rL_W (Nat.le_trans ((by rw [ls_len]; exact rL_le hk ha)) (kS_row hk ha).2.2.2.1)
theorem rL_Sn {h : mH} {a b : Nat} {j x : Int32} (ha : isRow a = true) (hb : isRow b = true) (hn : ¬ b = a) : rL (rS h a j x) b = rL h b := rL_Wn ha hb hn
theorem mI_S {h : mH} {a b k : Nat} {j x : Int32} (ha : isRow a = true) (hb : isFld b = true) : mI (rS h a j x) b k = mI h b k := mI_Wn ha hb
theorem mV_S {h : mH} {a : Nat} {j x : Int32} : mV (rS h a j x) = mV h := Eq.trans rfl rfl
theorem mK_S {h : mH} {a : Nat} {j x : Int32} : mK (rS h a j x) = mK h := Eq.trans rfl rfl
theorem mN_S {h : mH} {a : Nat} {j x : Int32} : mN (rS h a j x) = mN h := Eq.trans rfl rfl
theorem mL_S {h : mH} {a : Nat} {j x : Int32} : mL (rS h a j x) = mL h := Eq.trans rfl rfl
theorem tx_S {h : mH} {a : Nat} {j x : Int32} : tx (rS h a j x) = tx h := Eq.trans rfl rfl
theorem rN_S {h : mH} {a b : Nat} {j x : Int32} : rN (rS h a j x) b = rN h b := Eq.trans rfl rfl
theorem mIs_S {h : mH} {a b c : Nat} {j x : Int32} : mIs (rS h a j x) b c = mIs h b c := Eq.trans rfl rfl
theorem kS_C {h : mH} {a : Nat} {j : Int32} (hk : kS h) (ha : isRow a = true) : kS (rC h a j) := kS_W hk ha ((Nat.le_trans lc_len (rL_le hk ha)))
theorem rL_C {h : mH} {a : Nat} {j : Int32} (hk : kS h) (ha : isRow a = true) : rL (rC h a j) a = lc (rL h a) j := rL_W (Nat.le_trans ((Nat.le_trans lc_len (rL_le hk ha))) (kS_row hk ha).2.2.2.1)
theorem rL_Cn {h : mH} {a b : Nat} {j : Int32} (ha : isRow a = true) (hb : isRow b = true) (hn : ¬ b = a) : rL (rC h a j) b = rL h b := rL_Wn ha hb hn
theorem mI_C {h : mH} {a b k : Nat} {j : Int32} (ha : isRow a = true) (hb : isFld b = true) : mI (rC h a j) b k = mI h b k := mI_Wn ha hb
theorem mV_C {h : mH} {a : Nat} {j : Int32} : mV (rC h a j) = mV h := Eq.trans rfl rfl
theorem mK_C {h : mH} {a : Nat} {j : Int32} : mK (rC h a j) = mK h := Eq.trans rfl rfl
theorem mN_C {h : mH} {a : Nat} {j : Int32} : mN (rC h a j) = mN h := Eq.trans rfl rfl
theorem mL_C {h : mH} {a : Nat} {j : Int32} : mL (rC h a j) = mL h := Eq.trans rfl rfl
theorem tx_C {h : mH} {a : Nat} {j : Int32} : tx (rC h a j) = tx h := Eq.trans rfl rfl
theorem rN_C {h : mH} {a b : Nat} {j : Int32} : rN (rC h a j) b = rN h b := Eq.trans rfl rfl
theorem mIs_C {h : mH} {a b c : Nat} {j : Int32} : mIs (rC h a j) b c = mIs h b c := Eq.trans rfl rfl
theorem kw_201 : isRow 201 = true := by decide +kernel
theorem kn_201 {h : mH} (hk : kS h) : rN h 201 = 2000 := by unfold rN; rw [kS_k hk (by omega) (by omega) (show _ = (100, 2000) from by decide +kernel)]
theorem kw_204 : isRow 204 = true := by decide +kernel
theorem kn_204 {h : mH} (hk : kS h) : rN h 204 = 401 := by unfold rN; rw [kS_k hk (by omega) (by omega) (show _ = (100, 401) from by decide +kernel)]
theorem kw_206 : isRow 206 = true := by decide +kernel
theorem kn_206 {h : mH} (hk : kS h) : rN h 206 = 401 := by unfold rN; rw [kS_k hk (by omega) (by omega) (show _ = (100, 401) from by decide +kernel)]
theorem kw_208 : isRow 208 = true := by decide +kernel
theorem kn_208 {h : mH} (hk : kS h) : rN h 208 = 401 := by unfold rN; rw [kS_k hk (by omega) (by omega) (show _ = (100, 401) from by decide +kernel)]
theorem kw_210 : isRow 210 = true := by decide +kernel
theorem kn_210 {h : mH} (hk : kS h) : rN h 210 = 401 := by unfold rN; rw [kS_k hk (by omega) (by omega) (show _ = (100, 401) from by decide +kernel)]
theorem kw_212 : isRow 212 = true := by decide +kernel
theorem kn_212 {h : mH} (hk : kS h) : rN h 212 = 401 := by unfold rN; rw [kS_k hk (by omega) (by omega) (show _ = (100, 401) from by decide +kernel)]
theorem kw_214 : isRow 214 = true := by decide +kernel
theorem kn_214 {h : mH} (hk : kS h) : rN h 214 = 401 := by unfold rN; rw [kS_k hk (by omega) (by omega) (show _ = (100, 401) from by decide +kernel)]
theorem kw_217 : isRow 217 = true := by decide +kernel
theorem kn_217 {h : mH} (hk : kS h) : rN h 217 = 200 := by unfold rN; rw [kS_k hk (by omega) (by omega) (show _ = (100, 200) from by decide +kernel)]
theorem kw_219 : isRow 219 = true := by decide +kernel
theorem kn_219 {h : mH} (hk : kS h) : rN h 219 = 10 := by unfold rN; rw [kS_k hk (by omega) (by omega) (show _ = (100, 10) from by decide +kernel)]
theorem kw_222 : isRow 222 = true := by decide +kernel
theorem kn_222 {h : mH} (hk : kS h) : rN h 222 = 10 := by unfold rN; rw [kS_k hk (by omega) (by omega) (show _ = (100, 10) from by decide +kernel)]
theorem kw_225 : isRow 225 = true := by decide +kernel
theorem kn_225 {h : mH} (hk : kS h) : rN h 225 = 48 := by unfold rN; rw [kS_k hk (by omega) (by omega) (show _ = (100, 48) from by decide +kernel)]
theorem kw_227 : isRow 227 = true := by decide +kernel
theorem kn_227 {h : mH} (hk : kS h) : rN h 227 = 48 := by unfold rN; rw [kS_k hk (by omega) (by omega) (show _ = (100, 48) from by decide +kernel)]
theorem kw_229 : isRow 229 = true := by decide +kernel
theorem kn_229 {h : mH} (hk : kS h) : rN h 229 = 48 := by unfold rN; rw [kS_k hk (by omega) (by omega) (show _ = (100, 48) from by decide +kernel)]
theorem kw_231 : isRow 231 = true := by decide +kernel
theorem kn_231 {h : mH} (hk : kS h) : rN h 231 = 144 := by unfold rN; rw [kS_k hk (by omega) (by omega) (show _ = (100, 144) from by decide +kernel)]
theorem kw_234 : isRow 234 = true := by decide +kernel
theorem kn_234 {h : mH} (hk : kS h) : rN h 234 = 120 := by unfold rN; rw [kS_k hk (by omega) (by omega) (show _ = (100, 120) from by decide +kernel)]
theorem kw_236 : isRow 236 = true := by decide +kernel
theorem kn_236 {h : mH} (hk : kS h) : rN h 236 = 24 := by unfold rN; rw [kS_k hk (by omega) (by omega) (show _ = (100, 24) from by decide +kernel)]
theorem kw_238 : isRow 238 = true := by decide +kernel
theorem kn_238 {h : mH} (hk : kS h) : rN h 238 = 24 := by unfold rN; rw [kS_k hk (by omega) (by omega) (show _ = (100, 24) from by decide +kernel)]
theorem kw_240 : isRow 240 = true := by decide +kernel
theorem kn_240 {h : mH} (hk : kS h) : rN h 240 = 24 := by unfold rN; rw [kS_k hk (by omega) (by omega) (show _ = (100, 24) from by decide +kernel)]
theorem kw_242 : isRow 242 = true := by decide +kernel
theorem kn_242 {h : mH} (hk : kS h) : rN h 242 = 160 := by unfold rN; rw [kS_k hk (by omega) (by omega) (show _ = (100, 160) from by decide +kernel)]
theorem kw_244 : isRow 244 = true := by decide +kernel
theorem kn_244 {h : mH} (hk : kS h) : rN h 244 = 16 := by unfold rN; rw [kS_k hk (by omega) (by omega) (show _ = (100, 16) from by decide +kernel)]
theorem kw_246 : isRow 246 = true := by decide +kernel
theorem kn_246 {h : mH} (hk : kS h) : rN h 246 = 16 := by unfold rN; rw [kS_k hk (by omega) (by omega) (show _ = (100, 16) from by decide +kernel)]
theorem kw_248 : isRow 248 = true := by decide +kernel
theorem kn_248 {h : mH} (hk : kS h) : rN h 248 = 16 := by unfold rN; rw [kS_k hk (by omega) (by omega) (show _ = (100, 16) from by decide +kernel)]
theorem kw_250 : isRow 250 = true := by decide +kernel
theorem kn_250 {h : mH} (hk : kS h) : rN h 250 = 16 := by unfold rN; rw [kS_k hk (by omega) (by omega) (show _ = (100, 16) from by decide +kernel)]
theorem kw_252 : isRow 252 = true := by decide +kernel
theorem kn_252 {h : mH} (hk : kS h) : rN h 252 = 16 := by unfold rN; rw [kS_k hk (by omega) (by omega) (show _ = (100, 16) from by decide +kernel)]
theorem kw_254 : isRow 254 = true := by decide +kernel
theorem kn_254 {h : mH} (hk : kS h) : rN h 254 = 60 := by unfold rN; rw [kS_k hk (by omega) (by omega) (show _ = (100, 60) from by decide +kernel)]
theorem kw_256 : isRow 256 = true := by decide +kernel
theorem kn_256 {h : mH} (hk : kS h) : rN h 256 = 6 := by unfold rN; rw [kS_k hk (by omega) (by omega) (show _ = (100, 6) from by decide +kernel)]
theorem kw_258 : isRow 258 = true := by decide +kernel
theorem kn_258 {h : mH} (hk : kS h) : rN h 258 = 400 := by unfold rN; rw [kS_k hk (by omega) (by omega) (show _ = (100, 400) from by decide +kernel)]
theorem kw_260 : isRow 260 = true := by decide +kernel
theorem kn_260 {h : mH} (hk : kS h) : rN h 260 = 400 := by unfold rN; rw [kS_k hk (by omega) (by omega) (show _ = (100, 400) from by decide +kernel)]
theorem kw_262 : isRow 262 = true := by decide +kernel
theorem kn_262 {h : mH} (hk : kS h) : rN h 262 = 8 := by unfold rN; rw [kS_k hk (by omega) (by omega) (show _ = (100, 8) from by decide +kernel)]
theorem kw_264 : isRow 264 = true := by decide +kernel
theorem kn_264 {h : mH} (hk : kS h) : rN h 264 = 8 := by unfold rN; rw [kS_k hk (by omega) (by omega) (show _ = (100, 8) from by decide +kernel)]
theorem kw_266 : isRow 266 = true := by decide +kernel
theorem kn_266 {h : mH} (hk : kS h) : rN h 266 = 8 := by unfold rN; rw [kS_k hk (by omega) (by omega) (show _ = (100, 8) from by decide +kernel)]
theorem kw_270 : isRow 270 = true := by decide +kernel
theorem kn_270 {h : mH} (hk : kS h) : rN h 270 = 1800 := by unfold rN; rw [kS_k hk (by omega) (by omega) (show _ = (100, 1800) from by decide +kernel)]
theorem kw_274 : isRow 274 = true := by decide +kernel
theorem kn_274 {h : mH} (hk : kS h) : rN h 274 = 0 := by unfold rN; rw [kS_k hk (by omega) (by omega) (show _ = (100, 0) from by decide +kernel)]
theorem kw_277 : isRow 277 = true := by decide +kernel
theorem kn_277 {h : mH} (hk : kS h) : rN h 277 = 80 := by unfold rN; rw [kS_k hk (by omega) (by omega) (show _ = (100, 80) from by decide +kernel)]
theorem kw_279 : isRow 279 = true := by decide +kernel
theorem kn_279 {h : mH} (hk : kS h) : rN h 279 = 48 := by unfold rN; rw [kS_k hk (by omega) (by omega) (show _ = (100, 48) from by decide +kernel)]
theorem kw_281 : isRow 281 = true := by decide +kernel
theorem kn_281 {h : mH} (hk : kS h) : rN h 281 = 6 := by unfold rN; rw [kS_k hk (by omega) (by omega) (show _ = (100, 6) from by decide +kernel)]
theorem kw_285 : isRow 285 = true := by decide +kernel
theorem kn_285 {h : mH} (hk : kS h) : rN h 285 = 542 := by unfold rN; rw [kS_k hk (by omega) (by omega) (show _ = (100, 542) from by decide +kernel)]
theorem kw_288 : isRow 288 = true := by decide +kernel
theorem kn_288 {h : mH} (hk : kS h) : rN h 288 = 120 := by unfold rN; rw [kS_k hk (by omega) (by omega) (show _ = (100, 120) from by decide +kernel)]
theorem kw_290 : isRow 290 = true := by decide +kernel
theorem kn_290 {h : mH} (hk : kS h) : rN h 290 = 24 := by unfold rN; rw [kS_k hk (by omega) (by omega) (show _ = (100, 24) from by decide +kernel)]
theorem kw_292 : isRow 292 = true := by decide +kernel
theorem kn_292 {h : mH} (hk : kS h) : rN h 292 = 24 := by unfold rN; rw [kS_k hk (by omega) (by omega) (show _ = (100, 24) from by decide +kernel)]
theorem kw_294 : isRow 294 = true := by decide +kernel
theorem kn_294 {h : mH} (hk : kS h) : rN h 294 = 24 := by unfold rN; rw [kS_k hk (by omega) (by omega) (show _ = (100, 24) from by decide +kernel)]
theorem kw_296 : isRow 296 = true := by decide +kernel
theorem kn_296 {h : mH} (hk : kS h) : rN h 296 = 160 := by unfold rN; rw [kS_k hk (by omega) (by omega) (show _ = (100, 160) from by decide +kernel)]
theorem kw_298 : isRow 298 = true := by decide +kernel
theorem kn_298 {h : mH} (hk : kS h) : rN h 298 = 16 := by unfold rN; rw [kS_k hk (by omega) (by omega) (show _ = (100, 16) from by decide +kernel)]
theorem kw_300 : isRow 300 = true := by decide +kernel
theorem kn_300 {h : mH} (hk : kS h) : rN h 300 = 16 := by unfold rN; rw [kS_k hk (by omega) (by omega) (show _ = (100, 16) from by decide +kernel)]
theorem kw_302 : isRow 302 = true := by decide +kernel
theorem kn_302 {h : mH} (hk : kS h) : rN h 302 = 16 := by unfold rN; rw [kS_k hk (by omega) (by omega) (show _ = (100, 16) from by decide +kernel)]
theorem kw_304 : isRow 304 = true := by decide +kernel
theorem kn_304 {h : mH} (hk : kS h) : rN h 304 = 16 := by unfold rN; rw [kS_k hk (by omega) (by omega) (show _ = (100, 16) from by decide +kernel)]
theorem kw_306 : isRow 306 = true := by decide +kernel
theorem kn_306 {h : mH} (hk : kS h) : rN h 306 = 16 := by unfold rN; rw [kS_k hk (by omega) (by omega) (show _ = (100, 16) from by decide +kernel)]
theorem kw_308 : isRow 308 = true := by decide +kernel
theorem kn_308 {h : mH} (hk : kS h) : rN h 308 = 60 := by unfold rN; rw [kS_k hk (by omega) (by omega) (show _ = (100, 60) from by decide +kernel)]
theorem kw_310 : isRow 310 = true := by decide +kernel
theorem kn_310 {h : mH} (hk : kS h) : rN h 310 = 6 := by unfold rN; rw [kS_k hk (by omega) (by omega) (show _ = (100, 6) from by decide +kernel)]
theorem kw_312 : isRow 312 = true := by decide +kernel
theorem kn_312 {h : mH} (hk : kS h) : rN h 312 = 400 := by unfold rN; rw [kS_k hk (by omega) (by omega) (show _ = (100, 400) from by decide +kernel)]
theorem kw_314 : isRow 314 = true := by decide +kernel
theorem kn_314 {h : mH} (hk : kS h) : rN h 314 = 400 := by unfold rN; rw [kS_k hk (by omega) (by omega) (show _ = (100, 400) from by decide +kernel)]
theorem kf_200 : isFld 200 = true := by decide +kernel
theorem ki_200 {h : mH} (hk : kS h) : mIs h 200 10 = true := kS_is hk (by decide +kernel)
theorem kv_200_0 {h : mH} (hk : kS h) : mV h 200 0 = .ref 201 := hk.2.2.1 (200, 0, 201) (by decide +kernel)
theorem kv_200_1 {h : mH} (hk : kS h) : mV h 200 1 = .ref 203 := hk.2.2.1 (200, 1, 203) (by decide +kernel)
theorem kv_200_2 {h : mH} (hk : kS h) : mV h 200 2 = .ref 216 := hk.2.2.1 (200, 2, 216) (by decide +kernel)
theorem kv_200_3 {h : mH} (hk : kS h) : mV h 200 3 = .ref 221 := hk.2.2.1 (200, 3, 221) (by decide +kernel)
theorem kv_200_4 {h : mH} (hk : kS h) : mV h 200 4 = .ref 224 := hk.2.2.1 (200, 4, 224) (by decide +kernel)
theorem kv_200_5 {h : mH} (hk : kS h) : mV h 200 5 = .ref 262 := hk.2.2.1 (200, 5, 262) (by decide +kernel)
theorem kv_200_6 {h : mH} (hk : kS h) : mV h 200 6 = .ref 264 := hk.2.2.1 (200, 6, 264) (by decide +kernel)
theorem kv_200_7 {h : mH} (hk : kS h) : mV h 200 7 = .ref 266 := hk.2.2.1 (200, 7, 266) (by decide +kernel)
theorem kv_200_8 {h : mH} (hk : kS h) : mV h 200 8 = .ref 268 := hk.2.2.1 (200, 8, 268) (by decide +kernel)
theorem kv_200_9 {h : mH} (hk : kS h) : mV h 200 9 = .ref 272 := hk.2.2.1 (200, 9, 272) (by decide +kernel)
theorem kv_200_10 {h : mH} (hk : kS h) : mV h 200 10 = .ref 276 := hk.2.2.1 (200, 10, 276) (by decide +kernel)
theorem kv_200_11 {h : mH} (hk : kS h) : mV h 200 11 = .ref 283 := hk.2.2.1 (200, 11, 283) (by decide +kernel)
theorem kf_203 : isFld 203 = true := by decide +kernel
theorem ki_203 {h : mH} (hk : kS h) : mIs h 203 8 = true := kS_is hk (by decide +kernel)
theorem kv_203_0 {h : mH} (hk : kS h) : mV h 203 0 = .ref 204 := hk.2.2.1 (203, 0, 204) (by decide +kernel)
theorem kv_203_1 {h : mH} (hk : kS h) : mV h 203 1 = .ref 206 := hk.2.2.1 (203, 1, 206) (by decide +kernel)
theorem kv_203_2 {h : mH} (hk : kS h) : mV h 203 2 = .ref 208 := hk.2.2.1 (203, 2, 208) (by decide +kernel)
theorem kv_203_3 {h : mH} (hk : kS h) : mV h 203 3 = .ref 210 := hk.2.2.1 (203, 3, 210) (by decide +kernel)
theorem kv_203_4 {h : mH} (hk : kS h) : mV h 203 4 = .ref 212 := hk.2.2.1 (203, 4, 212) (by decide +kernel)
theorem kv_203_5 {h : mH} (hk : kS h) : mV h 203 5 = .ref 214 := hk.2.2.1 (203, 5, 214) (by decide +kernel)
theorem kf_216 : isFld 216 = true := by decide +kernel
theorem ki_216 {h : mH} (hk : kS h) : mIs h 216 1 = true := kS_is hk (by decide +kernel)
theorem kv_216_0 {h : mH} (hk : kS h) : mV h 216 0 = .ref 203 := hk.2.2.1 (216, 0, 203) (by decide +kernel)
theorem kv_216_1 {h : mH} (hk : kS h) : mV h 216 1 = .ref 217 := hk.2.2.1 (216, 1, 217) (by decide +kernel)
theorem kv_216_2 {h : mH} (hk : kS h) : mV h 216 2 = .ref 219 := hk.2.2.1 (216, 2, 219) (by decide +kernel)
theorem kf_221 : isFld 221 = true := by decide +kernel
theorem ki_221 {h : mH} (hk : kS h) : mIs h 221 2 = true := kS_is hk (by decide +kernel)
theorem kv_221_0 {h : mH} (hk : kS h) : mV h 221 0 = .ref 203 := hk.2.2.1 (221, 0, 203) (by decide +kernel)
theorem kv_221_1 {h : mH} (hk : kS h) : mV h 221 1 = .ref 201 := hk.2.2.1 (221, 1, 201) (by decide +kernel)
theorem kv_221_3 {h : mH} (hk : kS h) : mV h 221 3 = .ref 222 := hk.2.2.1 (221, 3, 222) (by decide +kernel)
theorem kf_224 : isFld 224 = true := by decide +kernel
theorem ki_224 {h : mH} (hk : kS h) : mIs h 224 3 = true := kS_is hk (by decide +kernel)
theorem kv_224_0 {h : mH} (hk : kS h) : mV h 224 0 = .ref 225 := hk.2.2.1 (224, 0, 225) (by decide +kernel)
theorem kv_224_1 {h : mH} (hk : kS h) : mV h 224 1 = .ref 227 := hk.2.2.1 (224, 1, 227) (by decide +kernel)
theorem kv_224_2 {h : mH} (hk : kS h) : mV h 224 2 = .ref 229 := hk.2.2.1 (224, 2, 229) (by decide +kernel)
theorem kv_224_3 {h : mH} (hk : kS h) : mV h 224 3 = .ref 231 := hk.2.2.1 (224, 3, 231) (by decide +kernel)
theorem kf_233 : isFld 233 = true := by decide +kernel
theorem ki_233 {h : mH} (hk : kS h) : mIs h 233 7 = true := kS_is hk (by decide +kernel)
theorem kv_233_0 {h : mH} (hk : kS h) : mV h 233 0 = .ref 234 := hk.2.2.1 (233, 0, 234) (by decide +kernel)
theorem kv_233_1 {h : mH} (hk : kS h) : mV h 233 1 = .ref 236 := hk.2.2.1 (233, 1, 236) (by decide +kernel)
theorem kv_233_2 {h : mH} (hk : kS h) : mV h 233 2 = .ref 238 := hk.2.2.1 (233, 2, 238) (by decide +kernel)
theorem kv_233_3 {h : mH} (hk : kS h) : mV h 233 3 = .ref 240 := hk.2.2.1 (233, 3, 240) (by decide +kernel)
theorem kv_233_4 {h : mH} (hk : kS h) : mV h 233 4 = .ref 242 := hk.2.2.1 (233, 4, 242) (by decide +kernel)
theorem kv_233_5 {h : mH} (hk : kS h) : mV h 233 5 = .ref 244 := hk.2.2.1 (233, 5, 244) (by decide +kernel)
theorem kv_233_6 {h : mH} (hk : kS h) : mV h 233 6 = .ref 246 := hk.2.2.1 (233, 6, 246) (by decide +kernel)
theorem kv_233_7 {h : mH} (hk : kS h) : mV h 233 7 = .ref 248 := hk.2.2.1 (233, 7, 248) (by decide +kernel)
theorem kv_233_8 {h : mH} (hk : kS h) : mV h 233 8 = .ref 250 := hk.2.2.1 (233, 8, 250) (by decide +kernel)
theorem kv_233_9 {h : mH} (hk : kS h) : mV h 233 9 = .ref 252 := hk.2.2.1 (233, 9, 252) (by decide +kernel)
theorem kv_233_10 {h : mH} (hk : kS h) : mV h 233 10 = .ref 254 := hk.2.2.1 (233, 10, 254) (by decide +kernel)
theorem kv_233_11 {h : mH} (hk : kS h) : mV h 233 11 = .ref 256 := hk.2.2.1 (233, 11, 256) (by decide +kernel)
theorem kv_233_12 {h : mH} (hk : kS h) : mV h 233 12 = .ref 258 := hk.2.2.1 (233, 12, 258) (by decide +kernel)
theorem kv_233_13 {h : mH} (hk : kS h) : mV h 233 13 = .ref 260 := hk.2.2.1 (233, 13, 260) (by decide +kernel)
theorem kf_268 : isFld 268 = true := by decide +kernel
theorem ki_268 {h : mH} (hk : kS h) : mIs h 268 9 = true := kS_is hk (by decide +kernel)
theorem kv_268_0 {h : mH} (hk : kS h) : mV h 268 0 = .ref 269 := hk.2.2.1 (268, 0, 269) (by decide +kernel)
theorem kv_268_1 {h : mH} (hk : kS h) : mV h 268 1 = .ref 270 := hk.2.2.1 (268, 1, 270) (by decide +kernel)
theorem kv_268_2 {h : mH} (hk : kS h) : mV h 268 2 = .ref 224 := hk.2.2.1 (268, 2, 224) (by decide +kernel)
theorem kf_269 : isFld 269 = true := by decide +kernel
theorem ki_269 {h : mH} (hk : kS h) : mIs h 269 6 = true := kS_is hk (by decide +kernel)
theorem kf_272 : isFld 272 = true := by decide +kernel
theorem ki_272 {h : mH} (hk : kS h) : mIs h 272 9 = true := kS_is hk (by decide +kernel)
theorem kv_272_0 {h : mH} (hk : kS h) : mV h 272 0 = .ref 273 := hk.2.2.1 (272, 0, 273) (by decide +kernel)
theorem kv_272_1 {h : mH} (hk : kS h) : mV h 272 1 = .ref 274 := hk.2.2.1 (272, 1, 274) (by decide +kernel)
theorem kv_272_2 {h : mH} (hk : kS h) : mV h 272 2 = .ref 224 := hk.2.2.1 (272, 2, 224) (by decide +kernel)
theorem kf_273 : isFld 273 = true := by decide +kernel
theorem ki_273 {h : mH} (hk : kS h) : mIs h 273 6 = true := kS_is hk (by decide +kernel)
theorem kf_276 : isFld 276 = true := by decide +kernel
theorem ki_276 {h : mH} (hk : kS h) : mIs h 276 5 = true := kS_is hk (by decide +kernel)
theorem kv_276_0 {h : mH} (hk : kS h) : mV h 276 0 = .ref 224 := hk.2.2.1 (276, 0, 224) (by decide +kernel)
theorem kv_276_1 {h : mH} (hk : kS h) : mV h 276 1 = .ref 277 := hk.2.2.1 (276, 1, 277) (by decide +kernel)
theorem kv_276_2 {h : mH} (hk : kS h) : mV h 276 2 = .ref 279 := hk.2.2.1 (276, 2, 279) (by decide +kernel)
theorem kv_276_3 {h : mH} (hk : kS h) : mV h 276 3 = .ref 281 := hk.2.2.1 (276, 3, 281) (by decide +kernel)
theorem kf_283 : isFld 283 = true := by decide +kernel
theorem ki_283 {h : mH} (hk : kS h) : mIs h 283 0 = true := kS_is hk (by decide +kernel)
theorem kv_283_0 {h : mH} (hk : kS h) : mV h 283 0 = .ref 284 := hk.2.2.1 (283, 0, 284) (by decide +kernel)
theorem kv_283_1 {h : mH} (hk : kS h) : mV h 283 1 = .ref 285 := hk.2.2.1 (283, 1, 285) (by decide +kernel)
theorem kv_283_2 {h : mH} (hk : kS h) : mV h 283 2 = .ref 224 := hk.2.2.1 (283, 2, 224) (by decide +kernel)
theorem kf_284 : isFld 284 = true := by decide +kernel
theorem ki_284 {h : mH} (hk : kS h) : mIs h 284 6 = true := kS_is hk (by decide +kernel)
theorem kf_287 : isFld 287 = true := by decide +kernel
theorem ki_287 {h : mH} (hk : kS h) : mIs h 287 7 = true := kS_is hk (by decide +kernel)
theorem kv_287_0 {h : mH} (hk : kS h) : mV h 287 0 = .ref 288 := hk.2.2.1 (287, 0, 288) (by decide +kernel)
theorem kv_287_1 {h : mH} (hk : kS h) : mV h 287 1 = .ref 290 := hk.2.2.1 (287, 1, 290) (by decide +kernel)
theorem kv_287_2 {h : mH} (hk : kS h) : mV h 287 2 = .ref 292 := hk.2.2.1 (287, 2, 292) (by decide +kernel)
theorem kv_287_3 {h : mH} (hk : kS h) : mV h 287 3 = .ref 294 := hk.2.2.1 (287, 3, 294) (by decide +kernel)
theorem kv_287_4 {h : mH} (hk : kS h) : mV h 287 4 = .ref 296 := hk.2.2.1 (287, 4, 296) (by decide +kernel)
theorem kv_287_5 {h : mH} (hk : kS h) : mV h 287 5 = .ref 298 := hk.2.2.1 (287, 5, 298) (by decide +kernel)
theorem kv_287_6 {h : mH} (hk : kS h) : mV h 287 6 = .ref 300 := hk.2.2.1 (287, 6, 300) (by decide +kernel)
theorem kv_287_7 {h : mH} (hk : kS h) : mV h 287 7 = .ref 302 := hk.2.2.1 (287, 7, 302) (by decide +kernel)
theorem kv_287_8 {h : mH} (hk : kS h) : mV h 287 8 = .ref 304 := hk.2.2.1 (287, 8, 304) (by decide +kernel)
theorem kv_287_9 {h : mH} (hk : kS h) : mV h 287 9 = .ref 306 := hk.2.2.1 (287, 9, 306) (by decide +kernel)
theorem kv_287_10 {h : mH} (hk : kS h) : mV h 287 10 = .ref 308 := hk.2.2.1 (287, 10, 308) (by decide +kernel)
theorem kv_287_11 {h : mH} (hk : kS h) : mV h 287 11 = .ref 310 := hk.2.2.1 (287, 11, 310) (by decide +kernel)
theorem kv_287_12 {h : mH} (hk : kS h) : mV h 287 12 = .ref 312 := hk.2.2.1 (287, 12, 312) (by decide +kernel)
theorem kv_287_13 {h : mH} (hk : kS h) : mV h 287 13 = .ref 314 := hk.2.2.1 (287, 13, 314) (by decide +kernel)
theorem rN_SI {h : mH} {a k b : Nat} {x : Int32} : rN (mSI h a k x) b = rN h b := Eq.trans rfl rfl
