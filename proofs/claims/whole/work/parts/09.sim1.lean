/-! ONE INSTRUCTION OF THE SMALL MACHINE, OVER THE MACHINE: the stack and the locals -/
theorem mF_cat {cv : Nat → Value} {ad : Nat → Nat} (h : ∀ r, cv r = .null ∨ ∃ a, cv r = .ref a) (v : Value) : (mF cv ad v).category = v.category := by
  cases v with
  | ref r =>
    show (if r < mNC then cv r else Value.ref (ad r)).category = 1
    split
    · rcases h r with e | ⟨a, e⟩ <;> rw [e] <;> rfl
    · rfl
  | _ => rfl
theorem mF_ref {cv : Nat → Value} {ad : Nat → Nat} (h : ∀ r, cv r = .null ∨ ∃ a, cv r = .ref a) (r : Nat) : mF cv ad (.ref r) = .null ∨ ∃ a, mF cv ad (.ref r) = .ref a := by
  show (if r < mNC then cv r else Value.ref (ad r)) = .null ∨ ∃ a, (if r < mNC then cv r else Value.ref (ad r)) = .ref a
  split
  · exact h r
  · exact Or.inr ⟨_, rfl⟩
theorem mF_hi {cv : Nat → Value} {ad : Nat → Nat} {r : Nat} (h : mNC ≤ r) : mF cv ad (.ref r) = .ref (ad r) := by
  show (if r < mNC then cv r else Value.ref (ad r)) = .ref (ad r)
  rw [if_neg (by omega)]
theorem mF_lo {cv : Nat → Value} {ad : Nat → Nat} {r : Nat} (h : r < mNC) : mF cv ad (.ref r) = cv r := by
  show (if r < mNC then cv r else Value.ref (ad r)) = cv r
  rw [if_pos h]
theorem mBin_inv {f : Int32 → Int32 → Option Value} {st st' : List Value} (h : mBin f st = some st') : ∃ x y v t, st = .int y :: .int x :: t ∧ f x y = some v ∧ st' = v :: t := by
  unfold mBin at h
  split at h
  · rename_i y x t
    cases he : f x y with
    | none => rw [he] at h; cases h
    | some v => rw [he] at h; cases h; exact ⟨x, y, v, t, rfl, he, rfl⟩
  · cases h
theorem mBinL_inv {f : Int64 → Int64 → Option Value} {st st' : List Value} (h : mBinL f st = some st') : ∃ x y v t, st = .long y :: .long x :: t ∧ f x y = some v ∧ st' = v :: t := by
  unfold mBinL at h
  split at h
  · rename_i y x t
    cases he : f x y with
    | none => rw [he] at h; cases h
    | some v => rw [he] at h; cases h; exact ⟨x, y, v, t, rfl, he, rfl⟩
  · cases h
theorem mBinD_inv {f : UInt64 → UInt64 → Option Value} {st st' : List Value} (h : mBinD f st = some st') : ∃ x y v t, st = .double y :: .double x :: t ∧ f x y = some v ∧ st' = v :: t := by
  unfold mBinD at h
  split at h
  · rename_i y x t
    cases he : f x y with
    | none => rw [he] at h; cases h
    | some v => rw [he] at h; cases h; exact ⟨x, y, v, t, rfl, he, rfl⟩
  · cases h
theorem mUn_inv {f : Int32 → Value} {st st' : List Value} (h : mUn f st = some st') : ∃ x t, st = .int x :: t ∧ st' = f x :: t := by
  unfold mUn at h
  split at h
  · cases h; exact ⟨_, _, rfl, rfl⟩
  · cases h
theorem mUnL_inv {f : Int64 → Value} {st st' : List Value} (h : mUnL f st = some st') : ∃ x t, st = .long x :: t ∧ st' = f x :: t := by
  unfold mUnL at h
  split at h
  · cases h; exact ⟨_, _, rfl, rfl⟩
  · cases h
section MSIM
variable {p : Program} {l : Launch} {e : Env} {R : Room} {s : State} {m : MethodId} {args : Array Value} {below : List Frame} {meth : Method} {c : Code} {H : Heap} {locs : List Loc} {cells slots : Nat} {Q : State → Prop} {cc : ByteArray} {ls : Array Slot} {cv : Nat → Value} {ad : Nat → Nat}
theorem mSim_stk (hx : p.tables.exec = Jvm.exec) (hb : c.code = cc) (hcv : ∀ r, cv r = .null ∨ ∃ a, cv r = .ref a) {i : Instr} {pc len : Nat} {st st' : List Value} (hd : decode cc pc = .ok (i, len)) (hln : mLn i = len) (hs : mStk i st = some st')
    (k : W p l e R s m args below meth c H locs cells slots Q (F0 m (pc + len) ls (st'.map (mF cv ad)))) : W p l e R s m args below meth c H locs cells slots Q (F0 m pc ls (st.map (mF cv ad))) := by
  unfold mStk at hs
  split at hs
  all_goals subst hln
  · cases hs; exact lv_iconst hx hb hd rfl k
  · cases hs; exact lv_bipush hx hb hd rfl k
  · cases hs; exact lv_sipush hx hb hd rfl k
  · cases hs; exact lv_lconst hx hb hd rfl k
  · split at hs
    · rename_i h0
      subst h0
      cases hs
      exact lv_dconst0 hx hb hd k
    · cases hs
  · cases hs; exact lv_null hx hb hd k
  · obtain ⟨x, y, v, t, rfl, h1, rfl⟩ := mBin_inv hs; cases h1; exact lv_iadd hx hb hd k
  · obtain ⟨x, y, v, t, rfl, h1, rfl⟩ := mBin_inv hs; cases h1; exact lv_isub hx hb hd k
  · obtain ⟨x, y, v, t, rfl, h1, rfl⟩ := mBin_inv hs; cases h1; exact lv_imul hx hb hd k
  · obtain ⟨x, y, v, t, rfl, h1, rfl⟩ := mBin_inv hs
    split at h1
    · cases h1
    · rename_i h0; cases h1; exact lv_idiv hx hb hd h0 k
  · obtain ⟨x, y, v, t, rfl, h1, rfl⟩ := mBin_inv hs
    split at h1
    · cases h1
    · rename_i h0; cases h1; exact lv_irem hx hb hd h0 k
  · obtain ⟨x, y, v, t, rfl, h1, rfl⟩ := mBin_inv hs; cases h1; exact lv_iand hx hb hd k
  · obtain ⟨x, y, v, t, rfl, h1, rfl⟩ := mBin_inv hs; cases h1; exact lv_ior hx hb hd k
  · obtain ⟨x, y, v, t, rfl, h1, rfl⟩ := mBin_inv hs; cases h1; exact lv_ixor hx hb hd k
  · obtain ⟨x, y, v, t, rfl, h1, rfl⟩ := mBin_inv hs; cases h1; exact lv_ishl hx hb hd k
  · obtain ⟨x, y, v, t, rfl, h1, rfl⟩ := mBin_inv hs; cases h1; exact lv_ishr hx hb hd k
  · obtain ⟨x, y, v, t, rfl, h1, rfl⟩ := mBin_inv hs; cases h1; exact lv_iushr hx hb hd rfl k
  · obtain ⟨x, t, rfl, rfl⟩ := mUn_inv hs; exact lv_ineg hx hb hd k
  · obtain ⟨x, t, rfl, rfl⟩ := mUn_inv hs; exact lv_i2l hx hb hd rfl k
  · obtain ⟨x, t, rfl, rfl⟩ := mUn_inv hs; exact lv_i2d hx hb hd k
  · obtain ⟨x, t, rfl, rfl⟩ := mUn_inv hs; exact lv_i2c hx hb hd rfl k
  · obtain ⟨x, t, rfl, rfl⟩ := mUn_inv hs; exact lv_i2b hx hb hd rfl k
  · obtain ⟨x, t, rfl, rfl⟩ := mUnL_inv hs; exact lv_l2i hx hb hd rfl k
  · obtain ⟨x, y, v, t, rfl, h1, rfl⟩ := mBinL_inv hs; cases h1; exact lv_ladd hx hb hd k
  · obtain ⟨x, y, v, t, rfl, h1, rfl⟩ := mBinL_inv hs; cases h1; exact lv_lmul hx hb hd k
  · obtain ⟨x, y, v, t, rfl, h1, rfl⟩ := mBinL_inv hs
    split at h1
    · cases h1
    · rename_i h0; cases h1; exact lv_ldiv hx hb hd h0 k
  · obtain ⟨x, y, v, t, rfl, h1, rfl⟩ := mBinL_inv hs
    split at h1
    · cases h1
    · rename_i h0; cases h1; exact lv_lrem hx hb hd h0 k
  · obtain ⟨x, y, v, t, rfl, h1, rfl⟩ := mBinL_inv hs; cases h1; exact W.lcmp hx hb hd k
  · obtain ⟨x, y, v, t, rfl, h1, rfl⟩ := mBinD_inv hs
    split at h1
    · rename_i h0; cases h1; exact lv_ddiv hx hb hd (of_decide_eq_true (p := FP.ddiv x y &&& 0x7fffffffffffffff ≤ 0x7ff0000000000000) h0) k
    · cases h1
  · obtain ⟨x, y, v, t, rfl, h1, rfl⟩ := mBinD_inv hs; cases h1; exact lv_dcmp hx hb hd k
  · unfold mDup at hs
    split at hs
    · split at hs
      · rename_i h0; cases hs; exact lv_dup hx hb hd (by rw [mF_cat hcv]; exact h0) k
      · cases hs
    · cases hs
  · unfold mDup2 at hs
    split at hs
    · split at hs
      · rename_i h0; cases hs; exact lv_dup2_11 hx hb hd (by rw [mF_cat hcv]; exact h0.1) (by rw [mF_cat hcv]; exact h0.2) k
      · cases hs
    · cases hs
  · unfold mDupX1 at hs
    split at hs
    · split at hs
      · rename_i h0; cases hs; exact lv_dup_x1 hx hb hd (by rw [mF_cat hcv]; exact h0.1) (by rw [mF_cat hcv]; exact h0.2) k
      · cases hs
    · cases hs
  · unfold mPop at hs
    split at hs
    · split at hs
      · rename_i h0; cases hs; exact lv_pop hx hb hd (by rw [mF_cat hcv]; exact h0) k
      · cases hs
    · cases hs
  · cases hs
theorem mSim_ld (hx : p.tables.exec = Jvm.exec) (hb : c.code = cc) (hcv : ∀ r, cv r = .null ∨ ∃ a, cv r = .ref a) {i : Instr} {pc len n so nL : Nat} {lo : mLo} {st : List Value} {v : Value} (hd : decode cc pc = .ok (i, len)) (hln : mLn i = len) (hl : mLd i = some (n, so)) (hg : mGet lo n = some v) (hso : mSort v = so) (hls : lv_has ls nL (mLs (mF cv ad) lo))
    (k : W p l e R s m args below meth c H locs cells slots Q (F0 m (pc + len) ls ((v :: st).map (mF cv ad)))) : W p l e R s m args below meth c H locs cells slots Q (F0 m pc ls (st.map (mF cv ad))) := by
  have hsl := mLs_slot hls hg
  unfold mLd at hl
  split at hl
  all_goals first | (cases hl; done) | skip
  all_goals (obtain ⟨rfl, rfl⟩ := Prod.mk.inj (Option.some.inj hl); subst hln)
  · cases v <;> first | (cases hso; done) | exact lv_iload hx hb hd hsl k
  · cases v <;> first | (cases hso; done) | exact lv_iload_n hx hb hd rfl hsl k
  · cases v <;> first | (cases hso; done) | exact lv_lload hx hb hd hsl k
  · cases v <;> first | (cases hso; done) | exact lv_lload_n hx hb hd rfl hsl k
  · cases v with
    | ref r =>
      rw [List.map_cons] at k
      rcases mF_ref (ad := ad) hcv r with z | ⟨a, z⟩
      · rw [z] at hsl k; exact lv_aloadN hx hb hd hsl k
      · rw [z] at hsl k; exact lv_aload hx hb hd hsl k
    | null => exact lv_aloadN hx hb hd hsl k
    | _ => cases hso
  · cases v with
    | ref r =>
      rw [List.map_cons] at k
      rcases mF_ref (ad := ad) hcv r with z | ⟨a, z⟩
      · rw [z] at hsl k; exact lv_aload_nN hx hb hd rfl hsl k
      · rw [z] at hsl k; exact lv_aload_n hx hb hd rfl hsl k
    | null => exact lv_aload_nN hx hb hd rfl hsl k
    | _ => cases hso
  · cases v <;> first | (cases hso; done) | exact lv_dload hx hb hd hsl k
  · cases v <;> first | (cases hso; done) | exact lv_dload_n hx hb hd rfl hsl k
theorem mSim_st (hx : p.tables.exec = Jvm.exec) (hb : c.code = cc) (hcv : ∀ r, cv r = .null ∨ ∃ a, cv r = .ref a) {i : Instr} {pc len n so nL : Nat} {lo lo' : mLo} {st : List Value} {v : Value} (hd : decode cc pc = .ok (i, len)) (hln : mLn i = len) (hl : mSt i = some (n, so)) (hso : mSort v = so) (hp : mPut lo n v = some lo') (hls : lv_has ls nL (mLs (mF cv ad) lo)) (hlen : lo.length = nL)
    (k : ∀ ls' : Array Slot, lv_has ls' nL (mLs (mF cv ad) lo') → W p l e R s m args below meth c H locs cells slots Q (F0 m (pc + len) ls' (st.map (mF cv ad)))) : W p l e R s m args below meth c H locs cells slots Q (F0 m pc ls ((v :: st).map (mF cv ad))) := by
  have hF : ∀ v, (mF cv ad v).category = v.category := mF_cat hcv
  subst hlen
  have one : ¬ v.category = 2 → n < lo.length ∧ lo' = lo.set n (some v) := by
    intro hc
    unfold mPut at hp
    rw [if_neg hc] at hp
    split at hp
    · rename_i h0; cases hp; exact ⟨h0, rfl⟩
    · cases hp
  have two : v.category = 2 → n + 1 < lo.length ∧ lo' = (lo.set n (some v)).set (n + 1) none := by
    intro hc
    unfold mPut at hp
    rw [if_pos hc] at hp
    split at hp
    · rename_i h0; cases hp; exact ⟨h0, rfl⟩
    · cases hp
  unfold mSt at hl
  split at hl
  all_goals first | (cases hl; done) | skip
  all_goals (obtain ⟨rfl, rfl⟩ := Prod.mk.inj (Option.some.inj hl); subst hln)
  · cases v <;> first | (cases hso; done) | skip
    obtain ⟨h1, rfl⟩ := one (by show ¬ (1 : Nat) = 2; decide)
    exact lv_istore hx hb hd hls h1 rfl (fun ls' h' => k ls' (lv_less h' (mLs_put1 hF (by show ¬ (1 : Nat) = 2; decide) h1)))
  · cases v <;> first | (cases hso; done) | skip
    obtain ⟨h1, rfl⟩ := one (by show ¬ (1 : Nat) = 2; decide)
    exact lv_istore_n hx hb hd rfl hls h1 rfl (fun ls' h' => k ls' (lv_less h' (mLs_put1 hF (by show ¬ (1 : Nat) = 2; decide) h1)))
  · cases v <;> first | (cases hso; done) | skip
    obtain ⟨h1, rfl⟩ := two rfl
    exact lv_lstore hx hb hd hls h1 rfl (fun ls' h' => k ls' (lv_less h' (mLs_put2 hF h1)))
  · cases v <;> first | (cases hso; done) | skip
    obtain ⟨h1, rfl⟩ := two rfl
    exact lv_lstore_n hx hb hd rfl hls h1 rfl (fun ls' h' => k ls' (lv_less h' (mLs_put2 hF h1)))
  · cases v with
    | ref r =>
      obtain ⟨h1, rfl⟩ := one (by show ¬ (1 : Nat) = 2; decide)
      have h2 := mLs_put1 hF (v := Value.ref r) (by show ¬ (1 : Nat) = 2; decide) h1
      rw [List.map_cons]
      rcases mF_ref (ad := ad) hcv r with z | ⟨a, z⟩
      · rw [z] at h2 ⊢; exact lv_astoreN hx hb hd hls h1 rfl (fun ls' h' => k ls' (lv_less h' h2))
      · rw [z] at h2 ⊢; exact lv_astore hx hb hd hls h1 rfl (fun ls' h' => k ls' (lv_less h' h2))
    | null =>
      obtain ⟨h1, rfl⟩ := one (by show ¬ (1 : Nat) = 2; decide)
      exact lv_astoreN hx hb hd hls h1 rfl (fun ls' h' => k ls' (lv_less h' (mLs_put1 hF (by show ¬ (1 : Nat) = 2; decide) h1)))
    | _ => cases hso
  · cases v with
    | ref r =>
      obtain ⟨h1, rfl⟩ := one (by show ¬ (1 : Nat) = 2; decide)
      have h2 := mLs_put1 hF (v := Value.ref r) (by show ¬ (1 : Nat) = 2; decide) h1
      rw [List.map_cons]
      rcases mF_ref (ad := ad) hcv r with z | ⟨a, z⟩
      · rw [z] at h2 ⊢; exact lv_astore_nN hx hb hd rfl hls h1 rfl (fun ls' h' => k ls' (lv_less h' h2))
      · rw [z] at h2 ⊢; exact lv_astore_n hx hb hd rfl hls h1 rfl (fun ls' h' => k ls' (lv_less h' h2))
    | null =>
      obtain ⟨h1, rfl⟩ := one (by show ¬ (1 : Nat) = 2; decide)
      exact lv_astore_nN hx hb hd rfl hls h1 rfl (fun ls' h' => k ls' (lv_less h' (mLs_put1 hF (by show ¬ (1 : Nat) = 2; decide) h1)))
    | _ => cases hso
  · cases v <;> first | (cases hso; done) | skip
    obtain ⟨h1, rfl⟩ := two rfl
    exact lv_dstore hx hb hd hls h1 rfl (fun ls' h' => k ls' (lv_less h' (mLs_put2 hF h1)))
  · cases v <;> first | (cases hso; done) | skip
    obtain ⟨h1, rfl⟩ := two rfl
    exact lv_dstore_n hx hb hd rfl hls h1 rfl (fun ls' h' => k ls' (lv_less h' (mLs_put2 hF h1)))
end MSIM
