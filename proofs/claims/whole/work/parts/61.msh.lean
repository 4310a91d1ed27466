/-! THE MODEL'S OBJECTS: 316 .. 359 in the constructors' order; the shape kM -/
def mmKt : List (Nat × Nat) := [(13, 0), (100, 2000), (100, 1000), (100, 24), (100, 12), (100, 96), (100, 12), (11, 0), (100, 402), (100, 402), (100, 402), (100, 402), (101, 402), (101, 12), (101, 16), (101, 6), (100, 72), (100, 80), (100, 6), (11, 0), (100, 402), (100, 402), (100, 402), (100, 402), (101, 402), (101, 12), (101, 16), (101, 6), (100, 72), (100, 80), (100, 6), (12, 0), (100, 1920), (100, 64), (100, 64), (100, 64), (100, 64), (12, 0), (100, 1920), (100, 64), (100, 64), (100, 64), (100, 64), (100, 72)]
def mmRt : List (Nat × Nat × Nat) := [(316, 1, 317), (316, 4, 318), (316, 7, 319), (316, 8, 320), (316, 9, 321), (316, 10, 322), (316, 13, 347), (316, 14, 353), (316, 15, 359), (323, 1, 324), (323, 2, 325), (323, 3, 326), (323, 4, 327), (323, 5, 328), (323, 10, 329), (323, 11, 330), (323, 12, 331), (323, 13, 332), (323, 14, 333), (323, 15, 334), (323, 20, 316), (335, 1, 336), (335, 2, 337), (335, 3, 338), (335, 4, 339), (335, 5, 340), (335, 10, 341), (335, 11, 342), (335, 12, 343), (335, 13, 344), (335, 14, 345), (335, 15, 346), (335, 20, 316), (347, 14, 348), (347, 15, 349), (347, 16, 350), (347, 17, 351), (347, 18, 352), (347, 21, 316), (353, 14, 354), (353, 15, 355), (353, 16, 356), (353, 17, 357), (353, 18, 358), (353, 21, 316)]
def kM (h : mH) : Prop := (∀ n, n < 44 → mK h (316 + n) = mmKt.getD n (0, 0)) ∧ 361 ≤ mN h ∧ (∀ q, q ∈ mmRt → mV h q.1 q.2.1 = .ref q.2.2) ∧ ((mV h 316 11 = .ref 323 ∧ mV h 316 12 = .ref 335) ∨ (mV h 316 11 = .ref 335 ∧ mV h 316 12 = .ref 323))
theorem kM_SI {h : mH} {a k : Nat} {x : Int32} : kM (mSI h a k x) = kM h := Eq.trans rfl rfl
theorem kM_SL {h : mH} {a k : Nat} {x : Int64} : kM (mSL h a k x) = kM h := Eq.trans rfl rfl
theorem lI_SL {h : mH} {a k : Nat} {x : Int64} : mI (mSL h a k x) = mI h := Eq.trans rfl rfl
theorem lV_SL {h : mH} {a k : Nat} {x : Int64} : mV (mSL h a k x) = mV h := Eq.trans rfl rfl
theorem lK_SL {h : mH} {a k : Nat} {x : Int64} : mK (mSL h a k x) = mK h := Eq.trans rfl rfl
theorem lN_SL {h : mH} {a k : Nat} {x : Int64} : mN (mSL h a k x) = mN h := Eq.trans rfl rfl
theorem lL_SL {h : mH} {a k : Nat} {x : Int64} {b j : Nat} : mL (mSL h a k x) b j = if b = a ∧ j = k then x else mL h b j := Eq.trans rfl rfl
theorem lIs_SL {h : mH} {a k : Nat} {x : Int64} {b c : Nat} : mIs (mSL h a k x) b c = mIs h b c := Eq.trans rfl rfl
theorem kM_k {h : mH} {n : Nat} {q : Nat × Nat} (hk : kM h) (h0 : 316 ≤ n) (h1 : n < 360) (hq : mmKt.getD (n - 316) (0, 0) = q) : mK h n = q := by
  have := hk.1 (n - 316) (by omega)
  rw [show 316 + (n - 316) = n by omega] at this
  rw [this, hq]
theorem kM_is {h : mH} {n kd : Nat} (hk : kM h) (h0 : 316 ≤ n) (h1 : n < 360) (hq : (mmKt.getD (n - 316) (0, 0)).1 = kd) : mIs h n kd = true := by
  unfold mIs
  rw [decide_eq_true_iff]
  refine ⟨?_, by have := hk.2.1; omega, ?_⟩
  · show 200 ≤ n
    omega
  · rw [kM_k hk h0 h1 rfl]; exact hq
def isP (p : Nat) : Prop := p = 323 ∨ p = 335
def isW (v : Nat) : Prop := v = 347 ∨ v = 353
theorem mi_316 {h : mH} (hk : kM h) : mIs h 316 13 = true := kM_is hk (by omega) (by omega) (by decide +kernel)
theorem mi_317 {h : mH} (hk : kM h) : mIs h 317 100 = true := kM_is hk (by omega) (by omega) (by decide +kernel)
theorem ml_317 {h : mH} (hk : kM h) : (mK h 317).2 = 2000 := by rw [kM_k hk (by omega) (by omega) (show _ = (100, 2000) from by decide +kernel)]
theorem mi_318 {h : mH} (hk : kM h) : mIs h 318 100 = true := kM_is hk (by omega) (by omega) (by decide +kernel)
theorem ml_318 {h : mH} (hk : kM h) : (mK h 318).2 = 1000 := by rw [kM_k hk (by omega) (by omega) (show _ = (100, 1000) from by decide +kernel)]
theorem mi_319 {h : mH} (hk : kM h) : mIs h 319 100 = true := kM_is hk (by omega) (by omega) (by decide +kernel)
theorem ml_319 {h : mH} (hk : kM h) : (mK h 319).2 = 24 := by rw [kM_k hk (by omega) (by omega) (show _ = (100, 24) from by decide +kernel)]
theorem mi_320 {h : mH} (hk : kM h) : mIs h 320 100 = true := kM_is hk (by omega) (by omega) (by decide +kernel)
theorem ml_320 {h : mH} (hk : kM h) : (mK h 320).2 = 12 := by rw [kM_k hk (by omega) (by omega) (show _ = (100, 12) from by decide +kernel)]
theorem mi_321 {h : mH} (hk : kM h) : mIs h 321 100 = true := kM_is hk (by omega) (by omega) (by decide +kernel)
theorem ml_321 {h : mH} (hk : kM h) : (mK h 321).2 = 96 := by rw [kM_k hk (by omega) (by omega) (show _ = (100, 96) from by decide +kernel)]
theorem mi_322 {h : mH} (hk : kM h) : mIs h 322 100 = true := kM_is hk (by omega) (by omega) (by decide +kernel)
theorem ml_322 {h : mH} (hk : kM h) : (mK h 322).2 = 12 := by rw [kM_k hk (by omega) (by omega) (show _ = (100, 12) from by decide +kernel)]
theorem mi_359 {h : mH} (hk : kM h) : mIs h 359 100 = true := kM_is hk (by omega) (by omega) (by decide +kernel)
theorem ml_359 {h : mH} (hk : kM h) : (mK h 359).2 = 72 := by rw [kM_k hk (by omega) (by omega) (show _ = (100, 72) from by decide +kernel)]
theorem mv_316_1 {h : mH} (hk : kM h) : mV h 316 1 = .ref 317 := hk.2.2.1 (316, 1, 317) (by decide +kernel)
theorem mv_316_4 {h : mH} (hk : kM h) : mV h 316 4 = .ref 318 := hk.2.2.1 (316, 4, 318) (by decide +kernel)
theorem mv_316_7 {h : mH} (hk : kM h) : mV h 316 7 = .ref 319 := hk.2.2.1 (316, 7, 319) (by decide +kernel)
theorem mv_316_8 {h : mH} (hk : kM h) : mV h 316 8 = .ref 320 := hk.2.2.1 (316, 8, 320) (by decide +kernel)
theorem mv_316_9 {h : mH} (hk : kM h) : mV h 316 9 = .ref 321 := hk.2.2.1 (316, 9, 321) (by decide +kernel)
theorem mv_316_10 {h : mH} (hk : kM h) : mV h 316 10 = .ref 322 := hk.2.2.1 (316, 10, 322) (by decide +kernel)
theorem mv_316_13 {h : mH} (hk : kM h) : mV h 316 13 = .ref 347 := hk.2.2.1 (316, 13, 347) (by decide +kernel)
theorem mv_316_14 {h : mH} (hk : kM h) : mV h 316 14 = .ref 353 := hk.2.2.1 (316, 14, 353) (by decide +kernel)
theorem mv_316_15 {h : mH} (hk : kM h) : mV h 316 15 = .ref 359 := hk.2.2.1 (316, 15, 359) (by decide +kernel)
theorem pi_0 {h : mH} {p : Nat} (hk : kM h) (hp : isP p) : mIs h p 11 = true := by rcases hp with rfl | rfl <;> exact kM_is hk (by omega) (by omega) (by decide +kernel)
theorem pi_1 {h : mH} {p : Nat} (hk : kM h) (hp : isP p) : mIs h (p + 1) 100 = true := by rcases hp with rfl | rfl <;> exact kM_is hk (by omega) (by omega) (by decide +kernel)
theorem pl_1 {h : mH} {p : Nat} (hk : kM h) (hp : isP p) : (mK h (p + 1)).2 = 402 := by rcases hp with rfl | rfl <;> (rw [kM_k hk (by omega) (by omega) (show _ = (100, 402) from by decide +kernel)])
theorem pv_1 {h : mH} {p : Nat} (hk : kM h) (hp : isP p) : mV h p 1 = .ref (p + 1) := by
  rcases hp with rfl | rfl
  · exact hk.2.2.1 (323, 1, 324) (by decide +kernel)
  · exact hk.2.2.1 (335, 1, 336) (by decide +kernel)
theorem pi_2 {h : mH} {p : Nat} (hk : kM h) (hp : isP p) : mIs h (p + 2) 100 = true := by rcases hp with rfl | rfl <;> exact kM_is hk (by omega) (by omega) (by decide +kernel)
theorem pl_2 {h : mH} {p : Nat} (hk : kM h) (hp : isP p) : (mK h (p + 2)).2 = 402 := by rcases hp with rfl | rfl <;> (rw [kM_k hk (by omega) (by omega) (show _ = (100, 402) from by decide +kernel)])
theorem pv_2 {h : mH} {p : Nat} (hk : kM h) (hp : isP p) : mV h p 2 = .ref (p + 2) := by
  rcases hp with rfl | rfl
  · exact hk.2.2.1 (323, 2, 325) (by decide +kernel)
  · exact hk.2.2.1 (335, 2, 337) (by decide +kernel)
theorem pi_3 {h : mH} {p : Nat} (hk : kM h) (hp : isP p) : mIs h (p + 3) 100 = true := by rcases hp with rfl | rfl <;> exact kM_is hk (by omega) (by omega) (by decide +kernel)
theorem pl_3 {h : mH} {p : Nat} (hk : kM h) (hp : isP p) : (mK h (p + 3)).2 = 402 := by rcases hp with rfl | rfl <;> (rw [kM_k hk (by omega) (by omega) (show _ = (100, 402) from by decide +kernel)])
theorem pv_3 {h : mH} {p : Nat} (hk : kM h) (hp : isP p) : mV h p 3 = .ref (p + 3) := by
  rcases hp with rfl | rfl
  · exact hk.2.2.1 (323, 3, 326) (by decide +kernel)
  · exact hk.2.2.1 (335, 3, 338) (by decide +kernel)
theorem pi_4 {h : mH} {p : Nat} (hk : kM h) (hp : isP p) : mIs h (p + 4) 100 = true := by rcases hp with rfl | rfl <;> exact kM_is hk (by omega) (by omega) (by decide +kernel)
theorem pl_4 {h : mH} {p : Nat} (hk : kM h) (hp : isP p) : (mK h (p + 4)).2 = 402 := by rcases hp with rfl | rfl <;> (rw [kM_k hk (by omega) (by omega) (show _ = (100, 402) from by decide +kernel)])
theorem pv_4 {h : mH} {p : Nat} (hk : kM h) (hp : isP p) : mV h p 4 = .ref (p + 4) := by
  rcases hp with rfl | rfl
  · exact hk.2.2.1 (323, 4, 327) (by decide +kernel)
  · exact hk.2.2.1 (335, 4, 339) (by decide +kernel)
theorem pi_5 {h : mH} {p : Nat} (hk : kM h) (hp : isP p) : mIs h (p + 5) 101 = true := by rcases hp with rfl | rfl <;> exact kM_is hk (by omega) (by omega) (by decide +kernel)
theorem pl_5 {h : mH} {p : Nat} (hk : kM h) (hp : isP p) : (mK h (p + 5)).2 = 402 := by rcases hp with rfl | rfl <;> (rw [kM_k hk (by omega) (by omega) (show _ = (101, 402) from by decide +kernel)])
theorem pv_5 {h : mH} {p : Nat} (hk : kM h) (hp : isP p) : mV h p 5 = .ref (p + 5) := by
  rcases hp with rfl | rfl
  · exact hk.2.2.1 (323, 5, 328) (by decide +kernel)
  · exact hk.2.2.1 (335, 5, 340) (by decide +kernel)
theorem pi_6 {h : mH} {p : Nat} (hk : kM h) (hp : isP p) : mIs h (p + 6) 101 = true := by rcases hp with rfl | rfl <;> exact kM_is hk (by omega) (by omega) (by decide +kernel)
theorem pl_6 {h : mH} {p : Nat} (hk : kM h) (hp : isP p) : (mK h (p + 6)).2 = 12 := by rcases hp with rfl | rfl <;> (rw [kM_k hk (by omega) (by omega) (show _ = (101, 12) from by decide +kernel)])
theorem pv_10 {h : mH} {p : Nat} (hk : kM h) (hp : isP p) : mV h p 10 = .ref (p + 6) := by
  rcases hp with rfl | rfl
  · exact hk.2.2.1 (323, 10, 329) (by decide +kernel)
  · exact hk.2.2.1 (335, 10, 341) (by decide +kernel)
theorem pi_7 {h : mH} {p : Nat} (hk : kM h) (hp : isP p) : mIs h (p + 7) 101 = true := by rcases hp with rfl | rfl <;> exact kM_is hk (by omega) (by omega) (by decide +kernel)
theorem pl_7 {h : mH} {p : Nat} (hk : kM h) (hp : isP p) : (mK h (p + 7)).2 = 16 := by rcases hp with rfl | rfl <;> (rw [kM_k hk (by omega) (by omega) (show _ = (101, 16) from by decide +kernel)])
theorem pv_11 {h : mH} {p : Nat} (hk : kM h) (hp : isP p) : mV h p 11 = .ref (p + 7) := by
  rcases hp with rfl | rfl
  · exact hk.2.2.1 (323, 11, 330) (by decide +kernel)
  · exact hk.2.2.1 (335, 11, 342) (by decide +kernel)
theorem pi_8 {h : mH} {p : Nat} (hk : kM h) (hp : isP p) : mIs h (p + 8) 101 = true := by rcases hp with rfl | rfl <;> exact kM_is hk (by omega) (by omega) (by decide +kernel)
theorem pl_8 {h : mH} {p : Nat} (hk : kM h) (hp : isP p) : (mK h (p + 8)).2 = 6 := by rcases hp with rfl | rfl <;> (rw [kM_k hk (by omega) (by omega) (show _ = (101, 6) from by decide +kernel)])
theorem pv_12 {h : mH} {p : Nat} (hk : kM h) (hp : isP p) : mV h p 12 = .ref (p + 8) := by
  rcases hp with rfl | rfl
  · exact hk.2.2.1 (323, 12, 331) (by decide +kernel)
  · exact hk.2.2.1 (335, 12, 343) (by decide +kernel)
theorem pi_9 {h : mH} {p : Nat} (hk : kM h) (hp : isP p) : mIs h (p + 9) 100 = true := by rcases hp with rfl | rfl <;> exact kM_is hk (by omega) (by omega) (by decide +kernel)
theorem pl_9 {h : mH} {p : Nat} (hk : kM h) (hp : isP p) : (mK h (p + 9)).2 = 72 := by rcases hp with rfl | rfl <;> (rw [kM_k hk (by omega) (by omega) (show _ = (100, 72) from by decide +kernel)])
theorem pv_13 {h : mH} {p : Nat} (hk : kM h) (hp : isP p) : mV h p 13 = .ref (p + 9) := by
  rcases hp with rfl | rfl
  · exact hk.2.2.1 (323, 13, 332) (by decide +kernel)
  · exact hk.2.2.1 (335, 13, 344) (by decide +kernel)
theorem pi_10 {h : mH} {p : Nat} (hk : kM h) (hp : isP p) : mIs h (p + 10) 100 = true := by rcases hp with rfl | rfl <;> exact kM_is hk (by omega) (by omega) (by decide +kernel)
theorem pl_10 {h : mH} {p : Nat} (hk : kM h) (hp : isP p) : (mK h (p + 10)).2 = 80 := by rcases hp with rfl | rfl <;> (rw [kM_k hk (by omega) (by omega) (show _ = (100, 80) from by decide +kernel)])
theorem pv_14 {h : mH} {p : Nat} (hk : kM h) (hp : isP p) : mV h p 14 = .ref (p + 10) := by
  rcases hp with rfl | rfl
  · exact hk.2.2.1 (323, 14, 333) (by decide +kernel)
  · exact hk.2.2.1 (335, 14, 345) (by decide +kernel)
theorem pi_11 {h : mH} {p : Nat} (hk : kM h) (hp : isP p) : mIs h (p + 11) 100 = true := by rcases hp with rfl | rfl <;> exact kM_is hk (by omega) (by omega) (by decide +kernel)
theorem pl_11 {h : mH} {p : Nat} (hk : kM h) (hp : isP p) : (mK h (p + 11)).2 = 6 := by rcases hp with rfl | rfl <;> (rw [kM_k hk (by omega) (by omega) (show _ = (100, 6) from by decide +kernel)])
theorem pv_15 {h : mH} {p : Nat} (hk : kM h) (hp : isP p) : mV h p 15 = .ref (p + 11) := by
  rcases hp with rfl | rfl
  · exact hk.2.2.1 (323, 15, 334) (by decide +kernel)
  · exact hk.2.2.1 (335, 15, 346) (by decide +kernel)
theorem pv_20 {h : mH} {p : Nat} (hk : kM h) (hp : isP p) : mV h p 20 = .ref 316 := by
  rcases hp with rfl | rfl
  · exact hk.2.2.1 (323, 20, 316) (by decide +kernel)
  · exact hk.2.2.1 (335, 20, 316) (by decide +kernel)
theorem wi_0 {h : mH} {v : Nat} (hk : kM h) (hv : isW v) : mIs h v 12 = true := by rcases hv with rfl | rfl <;> exact kM_is hk (by omega) (by omega) (by decide +kernel)
theorem wi_1 {h : mH} {v : Nat} (hk : kM h) (hv : isW v) : mIs h (v + 1) 100 = true := by rcases hv with rfl | rfl <;> exact kM_is hk (by omega) (by omega) (by decide +kernel)
theorem wl_1 {h : mH} {v : Nat} (hk : kM h) (hv : isW v) : (mK h (v + 1)).2 = 1920 := by rcases hv with rfl | rfl <;> (rw [kM_k hk (by omega) (by omega) (show _ = (100, 1920) from by decide +kernel)])
theorem wv_14 {h : mH} {v : Nat} (hk : kM h) (hv : isW v) : mV h v 14 = .ref (v + 1) := by
  rcases hv with rfl | rfl
  · exact hk.2.2.1 (347, 14, 348) (by decide +kernel)
  · exact hk.2.2.1 (353, 14, 354) (by decide +kernel)
theorem wi_2 {h : mH} {v : Nat} (hk : kM h) (hv : isW v) : mIs h (v + 2) 100 = true := by rcases hv with rfl | rfl <;> exact kM_is hk (by omega) (by omega) (by decide +kernel)
theorem wl_2 {h : mH} {v : Nat} (hk : kM h) (hv : isW v) : (mK h (v + 2)).2 = 64 := by rcases hv with rfl | rfl <;> (rw [kM_k hk (by omega) (by omega) (show _ = (100, 64) from by decide +kernel)])
theorem wv_15 {h : mH} {v : Nat} (hk : kM h) (hv : isW v) : mV h v 15 = .ref (v + 2) := by
  rcases hv with rfl | rfl
  · exact hk.2.2.1 (347, 15, 349) (by decide +kernel)
  · exact hk.2.2.1 (353, 15, 355) (by decide +kernel)
theorem wi_3 {h : mH} {v : Nat} (hk : kM h) (hv : isW v) : mIs h (v + 3) 100 = true := by rcases hv with rfl | rfl <;> exact kM_is hk (by omega) (by omega) (by decide +kernel)
theorem wl_3 {h : mH} {v : Nat} (hk : kM h) (hv : isW v) : (mK h (v + 3)).2 = 64 := by rcases hv with rfl | rfl <;> (rw [kM_k hk (by omega) (by omega) (show _ = (100, 64) from by decide +kernel)])
theorem wv_16 {h : mH} {v : Nat} (hk : kM h) (hv : isW v) : mV h v 16 = .ref (v + 3) := by
  rcases hv with rfl | rfl
  · exact hk.2.2.1 (347, 16, 350) (by decide +kernel)
  · exact hk.2.2.1 (353, 16, 356) (by decide +kernel)
theorem wi_4 {h : mH} {v : Nat} (hk : kM h) (hv : isW v) : mIs h (v + 4) 100 = true := by rcases hv with rfl | rfl <;> exact kM_is hk (by omega) (by omega) (by decide +kernel)
theorem wl_4 {h : mH} {v : Nat} (hk : kM h) (hv : isW v) : (mK h (v + 4)).2 = 64 := by rcases hv with rfl | rfl <;> (rw [kM_k hk (by omega) (by omega) (show _ = (100, 64) from by decide +kernel)])
theorem wv_17 {h : mH} {v : Nat} (hk : kM h) (hv : isW v) : mV h v 17 = .ref (v + 4) := by
  rcases hv with rfl | rfl
  · exact hk.2.2.1 (347, 17, 351) (by decide +kernel)
  · exact hk.2.2.1 (353, 17, 357) (by decide +kernel)
theorem wi_5 {h : mH} {v : Nat} (hk : kM h) (hv : isW v) : mIs h (v + 5) 100 = true := by rcases hv with rfl | rfl <;> exact kM_is hk (by omega) (by omega) (by decide +kernel)
theorem wl_5 {h : mH} {v : Nat} (hk : kM h) (hv : isW v) : (mK h (v + 5)).2 = 64 := by rcases hv with rfl | rfl <;> (rw [kM_k hk (by omega) (by omega) (show _ = (100, 64) from by decide +kernel)])
theorem wv_18 {h : mH} {v : Nat} (hk : kM h) (hv : isW v) : mV h v 18 = .ref (v + 5) := by
  rcases hv with rfl | rfl
  · exact hk.2.2.1 (347, 18, 352) (by decide +kernel)
  · exact hk.2.2.1 (353, 18, 358) (by decide +kernel)
theorem wv_21 {h : mH} {v : Nat} (hk : kM h) (hv : isW v) : mV h v 21 = .ref 316 := by
  rcases hv with rfl | rfl
  · exact hk.2.2.1 (347, 21, 316) (by decide +kernel)
  · exact hk.2.2.1 (353, 21, 316) (by decide +kernel)
def pt (h : mH) : Nat := match mV h 316 11 with | .ref t => t | _ => 0
theorem pt_P {h : mH} (hk : kM h) : isP (pt h) := by
  unfold pt
  rcases hk.2.2.2 with e | e
  · left; rw [e.1]
  · right; rw [e.1]
theorem pt_v {h : mH} (hk : kM h) : mV h 316 11 = .ref (pt h) := by
  unfold pt
  rcases hk.2.2.2 with e | e <;> rw [e.1]
theorem pt_w {h : mH} (hk : kM h) : mV h 316 12 = .ref (658 - pt h) := by
  unfold pt
  rcases hk.2.2.2 with e | e <;> (rw [e.1, e.2]; rfl)
theorem pt_SI {h : mH} {a k : Nat} {x : Int32} : pt (mSI h a k x) = pt h := Eq.trans rfl rfl
theorem pt_SL {h : mH} {a k : Nat} {x : Int64} : pt (mSL h a k x) = pt h := Eq.trans rfl rfl
