/-! THE GRAMMAR (class): a stack of goals, over the tokens' sorts -/
def thgN (k : Nat) : Nat := if k = 0 then 6 else if k = 1 then 7 else if k = 2 then 8 else if k = 10 then 9 else 10
def sntN (k : Nat) : Nat := if k = 11 then 11 else if k = 12 then 12 else if k = 13 then 13 else if k = 17 then 14 else if k = 14 then 15 else if k = 16 then 16 else 17
def sglN (k : Nat) : Nat := if k = 24 then 18 else if k = 35 then 19 else if k = 18 then 20 else if k = 19 then 21 else 22
def cmpN (k : Nat) : Nat := if k = 43 then 23 else if k = 44 then 24 else if k = 45 then 25 else if k = 46 then 26 else 27
def valN (k : Nat) : Nat := if k = 20 then 28 else if k = 21 then 29 else if k = 22 then 30 else if k = 23 then 31 else if k = 6 then 32 else if k = 40 then 33 else if k = 33 then 34 else if k = 27 then 35 else if k = 28 then 36 else 37
def rfN (s k : Nat) : Nat :=
  if s = 80 then (thgN k)
  else if s = 81 then (if k = 4 then 38 else 17)
  else if s = 82 then (if k = 38 then 39 else 17)
  else if s = 83 then (if k = 5 then 40 else 17)
  else if s = 84 then (if k = 7 then 41 else if k = 8 then 42 else 43)
  else if s = 85 then (if k = 6 then 44 else 17)
  else if s = 86 then (45)
  else if s = 87 then (sntN k)
  else if s = 88 then (if k = 15 then 46 else 17)
  else if s = 89 then (47)
  else if s = 90 then (if k = 26 then 48 else 17)
  else if s = 91 then (if k = 25 then 49 else 17)
  else if s = 92 then (sglN k)
  else if s = 93 then (cmpN k)
  else if s = 94 then (50)
  else if s = 95 then (if k = 39 then 51 else if k = 40 then 52 else 17)
  else if s = 96 then (53)
  else if s = 97 then (if k = 41 then 54 else if k = 42 then 55 else 17)
  else if s = 98 then (valN k)
  else 56
def rowN (c : Nat) : List Nat :=
  if c = 6 then [0, 60, 37, 80]
  else if c = 7 then [1, 61, 62, 70, 37, 80]
  else if c = 8 then [2, 63, 3, 64, 71, 81, 83, 85, 37, 80]
  else if c = 9 then [10, 66, 86, 110, 80]
  else if c = 10 then [48]
  else if c = 11 then [111, 11, 112, 67, 37, 87]
  else if c = 12 then [111, 12, 113, 68, 37, 87]
  else if c = 13 then [111, 13, 114, 73, 37, 87]
  else if c = 14 then [111, 17, 115, 69, 37, 87]
  else if c = 15 then [111, 14, 89, 119, 102, 86, 88, 103, 87]
  else if c = 16 then [111, 16, 116, 74, 117, 102, 86, 104, 87]
  else if c = 17 then []
  else if c = 18 then [100, 24, 92, 101, 129]
  else if c = 19 then [100, 35, 89, 36, 101]
  else if c = 20 then [18, 126, 68]
  else if c = 21 then [19, 127, 67]
  else if c = 22 then [94, 93]
  else if c = 23 then [43, 94, 136]
  else if c = 24 then [44, 94, 137]
  else if c = 25 then [45, 94, 138]
  else if c = 26 then [46, 94, 139]
  else if c = 27 then [47, 94, 140]
  else if c = 28 then [20, 121]
  else if c = 29 then [21, 122]
  else if c = 30 then [22, 123]
  else if c = 31 then [23, 124]
  else if c = 32 then [6, 125]
  else if c = 33 then [100, 40, 98, 101, 128]
  else if c = 34 then [100, 33, 94, 34, 101]
  else if c = 35 then [27, 99, 134]
  else if c = 36 then [28, 99, 135]
  else if c = 37 then [120, 75]
  else if c = 38 then [4, 65, 82]
  else if c = 39 then [38, 65, 82]
  else if c = 40 then [5, 84]
  else if c = 41 then [7]
  else if c = 42 then [8]
  else if c = 43 then [9]
  else if c = 44 then [6, 72]
  else if c = 45 then [100, 31, 87, 32, 101]
  else if c = 46 then [15, 118, 103, 102, 86]
  else if c = 47 then [92, 91, 90]
  else if c = 48 then [26, 92, 91, 142, 90]
  else if c = 49 then [25, 92, 141, 91]
  else if c = 50 then [96, 95]
  else if c = 51 then [39, 96, 130, 95]
  else if c = 52 then [40, 96, 131, 95]
  else if c = 53 then [98, 97]
  else if c = 54 then [41, 98, 132, 97]
  else if c = 55 then [42, 98, 133, 97]
  else if c = 56 then [100, 33, 94, 38, 94, 34, 101]
  else []
def rlN (s k : Nat) : List Nat := rowN (rfN s k)
theorem rowN_tb (c : Nat) (h : c < 57) : c < 6 ∨ mCT.find? (fun q => q.1 == c) = some (c, .int, (rowN c).map (fun n => Value.int (Int32.ofNat n))) := by
  have : ∀ c : Fin 57, c.1 < 6 ∨ mCT.find? (fun q => q.1 == c.1) = some (c.1, .int, (rowN c.1).map (fun n => Value.int (Int32.ofNat n))) := by decide +kernel
  exact this ⟨c, h⟩
theorem rowN_tab (c : Nat) (h1 : c < 57) (h0 : 6 ≤ c) : mCT.find? (fun q => q.1 == c) = some (c, .int, (rowN c).map (fun n => Value.int (Int32.ofNat n))) := (rowN_tb c h1).resolve_left (by omega)
theorem rowN_len : ∀ c, c < 57 → (rowN c).length ≤ 10 ∧ ∀ g, g ∈ rowN c → g ≤ 142 := by decide +kernel
theorem rowN_ca {h : mH} {c : Nat} (h0 : 6 ≤ c) (h1 : c < 57) : mCA h c = some (.int, (rowN c).length, fun j => ((rowN c).map (fun n => Value.int (Int32.ofNat n))).getD j .null) := by
  unfold mCA
  rw [if_neg (by omega), rowN_tab c h1 h0]
  simp
theorem rfN_in : ∀ s, s < 100 → ∀ k, k < 50 → 6 ≤ rfN s k ∧ rfN s k < 57 := by decide +kernel
theorem ref_ite {c : Prop} [Decidable c] {a b : Nat} {h : mH} : (some (Sum.inl (some (Value.ref (if c then a else b))), h) : Option mO) = if c then some (Sum.inl (some (Value.ref a)), h) else some (Sum.inl (some (Value.ref b)), h) := by split <;> rfl
theorem ofn_c {k c : Nat} {x : Int32} (hk : k < 50) (hc : c < 1000) (e : x = Int32.ofNat c) : (Int32.ofNat k = x) = (k = c) := by
  rw [e, i_ofeq (by omega) (by omega)]
theorem g_thg {d : Nat} {k : Nat} {h : mH} (hk : k < 50) : mCall (d + 1) 61 [.int (Int32.ofNat k)] h = some (.inl (some (.ref (thgN k))), h) := by
  have z : ∀ k, k < 50 → ∀ x, x < 50 → (Int32.ofNat k = Int32.ofNat x) = (k = x) := fun k hk x hx => i_ofeq (by omega) (by omega)
  unfold thgN
  simp only [x_61_0, x_61_1, x_61_44, x_61_47, x_61_48, x_61_51, x_61_52, x_61_55, x_61_56, x_61_59, x_61_60, x_61_63, c_61]
  simp only [ref_ite]
  simp only [show (Int32.ofNat k = 0) = (k = 0) from ofn_c hk (by omega) rfl, show (Int32.ofNat k = 1) = (k = 1) from ofn_c hk (by omega) rfl, show (Int32.ofNat k = 2) = (k = 2) from ofn_c hk (by omega) rfl, show (Int32.ofNat k = 10) = (k = 10) from ofn_c hk (by omega) rfl]
  repeat' split
  all_goals first
    | rfl
    | (exfalso; omega)
theorem g_snt {d : Nat} {k : Nat} {h : mH} (hk : k < 50) : mCall (d + 1) 62 [.int (Int32.ofNat k)] h = some (.inl (some (.ref (sntN k))), h) := by
  have z : ∀ k, k < 50 → ∀ x, x < 50 → (Int32.ofNat k = Int32.ofNat x) = (k = x) := fun k hk x hx => i_ofeq (by omega) (by omega)
  unfold sntN
  simp only [x_62_0, x_62_1, x_62_44, x_62_47, x_62_48, x_62_51, x_62_52, x_62_55, x_62_56, x_62_59, x_62_60, x_62_63, x_62_64, x_62_67, x_62_68, x_62_71, c_62]
  simp only [ref_ite]
  simp only [show (Int32.ofNat k = 11) = (k = 11) from ofn_c hk (by omega) rfl, show (Int32.ofNat k = 12) = (k = 12) from ofn_c hk (by omega) rfl, show (Int32.ofNat k = 13) = (k = 13) from ofn_c hk (by omega) rfl, show (Int32.ofNat k = 14) = (k = 14) from ofn_c hk (by omega) rfl, show (Int32.ofNat k = 15) = (k = 15) from ofn_c hk (by omega) rfl, show (Int32.ofNat k = 16) = (k = 16) from ofn_c hk (by omega) rfl, show (Int32.ofNat k = 17) = (k = 17) from ofn_c hk (by omega) rfl]
  repeat' split
  all_goals first
    | rfl
    | (exfalso; omega)
theorem g_sgl {d : Nat} {k : Nat} {h : mH} (hk : k < 50) : mCall (d + 1) 63 [.int (Int32.ofNat k)] h = some (.inl (some (.ref (sglN k))), h) := by
  have z : ∀ k, k < 50 → ∀ x, x < 50 → (Int32.ofNat k = Int32.ofNat x) = (k = x) := fun k hk x hx => i_ofeq (by omega) (by omega)
  unfold sglN
  simp only [x_63_0, x_63_1, x_63_44, x_63_47, x_63_48, x_63_51, x_63_52, x_63_55, x_63_56, x_63_59, x_63_60, x_63_63, c_63]
  simp only [ref_ite]
  simp only [show (Int32.ofNat k = 18) = (k = 18) from ofn_c hk (by omega) rfl, show (Int32.ofNat k = 19) = (k = 19) from ofn_c hk (by omega) rfl, show (Int32.ofNat k = 20) = (k = 20) from ofn_c hk (by omega) rfl, show (Int32.ofNat k = 21) = (k = 21) from ofn_c hk (by omega) rfl, show (Int32.ofNat k = 22) = (k = 22) from ofn_c hk (by omega) rfl, show (Int32.ofNat k = 23) = (k = 23) from ofn_c hk (by omega) rfl, show (Int32.ofNat k = 24) = (k = 24) from ofn_c hk (by omega) rfl, show (Int32.ofNat k = 25) = (k = 25) from ofn_c hk (by omega) rfl, show (Int32.ofNat k = 26) = (k = 26) from ofn_c hk (by omega) rfl, show (Int32.ofNat k = 27) = (k = 27) from ofn_c hk (by omega) rfl, show (Int32.ofNat k = 28) = (k = 28) from ofn_c hk (by omega) rfl, show (Int32.ofNat k = 29) = (k = 29) from ofn_c hk (by omega) rfl, show (Int32.ofNat k = 30) = (k = 30) from ofn_c hk (by omega) rfl, show (Int32.ofNat k = 31) = (k = 31) from ofn_c hk (by omega) rfl, show (Int32.ofNat k = 32) = (k = 32) from ofn_c hk (by omega) rfl, show (Int32.ofNat k = 33) = (k = 33) from ofn_c hk (by omega) rfl, show (Int32.ofNat k = 34) = (k = 34) from ofn_c hk (by omega) rfl, show (Int32.ofNat k = 35) = (k = 35) from ofn_c hk (by omega) rfl]
  repeat' split
  all_goals first
    | rfl
    | (exfalso; omega)
theorem g_cmp {d : Nat} {k : Nat} {h : mH} (hk : k < 50) : mCall (d + 1) 64 [.int (Int32.ofNat k)] h = some (.inl (some (.ref (cmpN k))), h) := by
  have z : ∀ k, k < 50 → ∀ x, x < 50 → (Int32.ofNat k = Int32.ofNat x) = (k = x) := fun k hk x hx => i_ofeq (by omega) (by omega)
  unfold cmpN
  simp only [x_64_0, x_64_1, x_64_32, x_64_35, x_64_36, x_64_39, x_64_40, x_64_43, x_64_44, x_64_47, x_64_48, x_64_51, c_64]
  simp only [ref_ite]
  simp only [show (Int32.ofNat k = 43) = (k = 43) from ofn_c hk (by omega) rfl, show (Int32.ofNat k = 44) = (k = 44) from ofn_c hk (by omega) rfl, show (Int32.ofNat k = 45) = (k = 45) from ofn_c hk (by omega) rfl, show (Int32.ofNat k = 46) = (k = 46) from ofn_c hk (by omega) rfl]
  repeat' split
  all_goals first
    | rfl
    | (exfalso; omega)
theorem g_val {d : Nat} {h : mH} {k : Nat} (hk : k < 50) : mCall (d + 1) 65 [.int (Int32.ofNat k)] h = some (.inl (some (.ref (valN k))), h) := by
  have z : ∀ k, k < 50 → ∀ x, x < 50 → (Int32.ofNat k = Int32.ofNat x) = (k = x) := fun k hk x hx => i_ofeq (by omega) (by omega)
  unfold valN
  simp only [x_65_0, x_65_1, x_65_156, x_65_159, x_65_160, x_65_163, x_65_164, x_65_167, x_65_168, x_65_171, x_65_172, x_65_175, x_65_176, x_65_179, x_65_180, x_65_183, x_65_184, x_65_187, x_65_188, x_65_191, x_65_192, x_65_195, c_65]
  simp only [show (Int32.ofNat k = 6) = (k = 6) from ofn_c hk (by omega) rfl, show (Int32.ofNat k = 7) = (k = 7) from ofn_c hk (by omega) rfl, show (Int32.ofNat k = 8) = (k = 8) from ofn_c hk (by omega) rfl, show (Int32.ofNat k = 9) = (k = 9) from ofn_c hk (by omega) rfl, show (Int32.ofNat k = 10) = (k = 10) from ofn_c hk (by omega) rfl, show (Int32.ofNat k = 11) = (k = 11) from ofn_c hk (by omega) rfl, show (Int32.ofNat k = 12) = (k = 12) from ofn_c hk (by omega) rfl, show (Int32.ofNat k = 13) = (k = 13) from ofn_c hk (by omega) rfl, show (Int32.ofNat k = 14) = (k = 14) from ofn_c hk (by omega) rfl, show (Int32.ofNat k = 15) = (k = 15) from ofn_c hk (by omega) rfl, show (Int32.ofNat k = 16) = (k = 16) from ofn_c hk (by omega) rfl, show (Int32.ofNat k = 17) = (k = 17) from ofn_c hk (by omega) rfl, show (Int32.ofNat k = 18) = (k = 18) from ofn_c hk (by omega) rfl, show (Int32.ofNat k = 19) = (k = 19) from ofn_c hk (by omega) rfl, show (Int32.ofNat k = 20) = (k = 20) from ofn_c hk (by omega) rfl, show (Int32.ofNat k = 21) = (k = 21) from ofn_c hk (by omega) rfl, show (Int32.ofNat k = 22) = (k = 22) from ofn_c hk (by omega) rfl, show (Int32.ofNat k = 23) = (k = 23) from ofn_c hk (by omega) rfl, show (Int32.ofNat k = 24) = (k = 24) from ofn_c hk (by omega) rfl, show (Int32.ofNat k = 25) = (k = 25) from ofn_c hk (by omega) rfl, show (Int32.ofNat k = 26) = (k = 26) from ofn_c hk (by omega) rfl, show (Int32.ofNat k = 27) = (k = 27) from ofn_c hk (by omega) rfl, show (Int32.ofNat k = 28) = (k = 28) from ofn_c hk (by omega) rfl, show (Int32.ofNat k = 29) = (k = 29) from ofn_c hk (by omega) rfl, show (Int32.ofNat k = 30) = (k = 30) from ofn_c hk (by omega) rfl, show (Int32.ofNat k = 31) = (k = 31) from ofn_c hk (by omega) rfl, show (Int32.ofNat k = 32) = (k = 32) from ofn_c hk (by omega) rfl, show (Int32.ofNat k = 33) = (k = 33) from ofn_c hk (by omega) rfl, show (Int32.ofNat k = 34) = (k = 34) from ofn_c hk (by omega) rfl, show (Int32.ofNat k = 35) = (k = 35) from ofn_c hk (by omega) rfl, show (Int32.ofNat k = 36) = (k = 36) from ofn_c hk (by omega) rfl, show (Int32.ofNat k = 37) = (k = 37) from ofn_c hk (by omega) rfl, show (Int32.ofNat k = 38) = (k = 38) from ofn_c hk (by omega) rfl, show (Int32.ofNat k = 39) = (k = 39) from ofn_c hk (by omega) rfl, show (Int32.ofNat k = 40) = (k = 40) from ofn_c hk (by omega) rfl]
  simp only [← ref_ite]
  refine congrArg (fun r => (some (Sum.inl (some (Value.ref r)), h) : Option mO)) ?_
  clear z
  revert hk
  revert k
  decide +kernel
