/-! THE TABLES' CHECK: method 263, in pieces -/
theorem mChk_cat {α : Type} {f : α → Bool} {l : List α} (n : Nat) (h1 : (l.take n).all f = true) (h2 : (l.drop n).all f = true) : l.all f = true := by
  rw [← List.take_append_drop n l, List.all_append, h1, h2]
  rfl
theorem mChkB_0 : (((mAll.getD 263 []).drop 0).take 50).all (fun q => mOkI 263 q.1 q.2.1 q.2.2.1 q.2.2.2) = true := by decide +kernel
theorem mChkB_50 : (((mAll.getD 263 []).drop 50).take 50).all (fun q => mOkI 263 q.1 q.2.1 q.2.2.1 q.2.2.2) = true := by decide +kernel
theorem mChkB_100 : (((mAll.getD 263 []).drop 100).take 50).all (fun q => mOkI 263 q.1 q.2.1 q.2.2.1 q.2.2.2) = true := by decide +kernel
theorem mChkB_150 : (((mAll.getD 263 []).drop 150).take 50).all (fun q => mOkI 263 q.1 q.2.1 q.2.2.1 q.2.2.2) = true := by decide +kernel
theorem mChkB_200 : (((mAll.getD 263 []).drop 200).take 50).all (fun q => mOkI 263 q.1 q.2.1 q.2.2.1 q.2.2.2) = true := by decide +kernel
theorem mChkB_250 : (((mAll.getD 263 []).drop 250).take 50).all (fun q => mOkI 263 q.1 q.2.1 q.2.2.1 q.2.2.2) = true := by decide +kernel
theorem mChkB_300 : (((mAll.getD 263 []).drop 300).take 50).all (fun q => mOkI 263 q.1 q.2.1 q.2.2.1 q.2.2.2) = true := by decide +kernel
theorem mChkB_350 : (((mAll.getD 263 []).drop 350).take 50).all (fun q => mOkI 263 q.1 q.2.1 q.2.2.1 q.2.2.2) = true := by decide +kernel
theorem mChkB_400 : (((mAll.getD 263 []).drop 400).take 50).all (fun q => mOkI 263 q.1 q.2.1 q.2.2.1 q.2.2.2) = true := by decide +kernel
theorem mChkB_450 : (((mAll.getD 263 []).drop 450).take 50).all (fun q => mOkI 263 q.1 q.2.1 q.2.2.1 q.2.2.2) = true := by decide +kernel
theorem mChkB_500 : (((mAll.getD 263 []).drop 500).take 50).all (fun q => mOkI 263 q.1 q.2.1 q.2.2.1 q.2.2.2) = true := by decide +kernel
theorem mChkB_550 : (((mAll.getD 263 []).drop 550).take 50).all (fun q => mOkI 263 q.1 q.2.1 q.2.2.1 q.2.2.2) = true := by decide +kernel
theorem mChkB_600 : (((mAll.getD 263 []).drop 600).take 50).all (fun q => mOkI 263 q.1 q.2.1 q.2.2.1 q.2.2.2) = true := by decide +kernel
theorem mChkB_650 : (((mAll.getD 263 []).drop 650).take 50).all (fun q => mOkI 263 q.1 q.2.1 q.2.2.1 q.2.2.2) = true := by decide +kernel
theorem mChkB_700 : (((mAll.getD 263 []).drop 700).take 50).all (fun q => mOkI 263 q.1 q.2.1 q.2.2.1 q.2.2.2) = true := by decide +kernel
theorem mChkB_750 : (((mAll.getD 263 []).drop 750).take 50).all (fun q => mOkI 263 q.1 q.2.1 q.2.2.1 q.2.2.2) = true := by decide +kernel
theorem mChkB_800 : (((mAll.getD 263 []).drop 800).take 50).all (fun q => mOkI 263 q.1 q.2.1 q.2.2.1 q.2.2.2) = true := by decide +kernel
theorem mChkB_850 : (((mAll.getD 263 []).drop 850).take 50).all (fun q => mOkI 263 q.1 q.2.1 q.2.2.1 q.2.2.2) = true := by decide +kernel
theorem mChkB_900 : (((mAll.getD 263 []).drop 900).take 50).all (fun q => mOkI 263 q.1 q.2.1 q.2.2.1 q.2.2.2) = true := by decide +kernel
theorem mChkB_950 : (((mAll.getD 263 []).drop 950).take 50).all (fun q => mOkI 263 q.1 q.2.1 q.2.2.1 q.2.2.2) = true := by decide +kernel
theorem mChkB_1000 : (((mAll.getD 263 []).drop 1000).take 50).all (fun q => mOkI 263 q.1 q.2.1 q.2.2.1 q.2.2.2) = true := by decide +kernel
theorem mChkB_1050 : (((mAll.getD 263 []).drop 1050).take 50).all (fun q => mOkI 263 q.1 q.2.1 q.2.2.1 q.2.2.2) = true := by decide +kernel
theorem mChkC_1050 : ((mAll.getD 263 []).drop 1050).all (fun q => mOkI 263 q.1 q.2.1 q.2.2.1 q.2.2.2) = true := mChk_cat 50 mChkB_1050 (by rw [List.drop_drop]; decide +kernel)
theorem mChkC_1000 : ((mAll.getD 263 []).drop 1000).all (fun q => mOkI 263 q.1 q.2.1 q.2.2.1 q.2.2.2) = true := mChk_cat 50 mChkB_1000 (by rw [List.drop_drop]; exact mChkC_1050)
theorem mChkC_950 : ((mAll.getD 263 []).drop 950).all (fun q => mOkI 263 q.1 q.2.1 q.2.2.1 q.2.2.2) = true := mChk_cat 50 mChkB_950 (by rw [List.drop_drop]; exact mChkC_1000)
theorem mChkC_900 : ((mAll.getD 263 []).drop 900).all (fun q => mOkI 263 q.1 q.2.1 q.2.2.1 q.2.2.2) = true := mChk_cat 50 mChkB_900 (by rw [List.drop_drop]; exact mChkC_950)
theorem mChkC_850 : ((mAll.getD 263 []).drop 850).all (fun q => mOkI 263 q.1 q.2.1 q.2.2.1 q.2.2.2) = true := mChk_cat 50 mChkB_850 (by rw [List.drop_drop]; exact mChkC_900)
theorem mChkC_800 : ((mAll.getD 263 []).drop 800).all (fun q => mOkI 263 q.1 q.2.1 q.2.2.1 q.2.2.2) = true := mChk_cat 50 mChkB_800 (by rw [List.drop_drop]; exact mChkC_850)
theorem mChkC_750 : ((mAll.getD 263 []).drop 750).all (fun q => mOkI 263 q.1 q.2.1 q.2.2.1 q.2.2.2) = true := mChk_cat 50 mChkB_750 (by rw [List.drop_drop]; exact mChkC_800)
theorem mChkC_700 : ((mAll.getD 263 []).drop 700).all (fun q => mOkI 263 q.1 q.2.1 q.2.2.1 q.2.2.2) = true := mChk_cat 50 mChkB_700 (by rw [List.drop_drop]; exact mChkC_750)
theorem mChkC_650 : ((mAll.getD 263 []).drop 650).all (fun q => mOkI 263 q.1 q.2.1 q.2.2.1 q.2.2.2) = true := mChk_cat 50 mChkB_650 (by rw [List.drop_drop]; exact mChkC_700)
theorem mChkC_600 : ((mAll.getD 263 []).drop 600).all (fun q => mOkI 263 q.1 q.2.1 q.2.2.1 q.2.2.2) = true := mChk_cat 50 mChkB_600 (by rw [List.drop_drop]; exact mChkC_650)
theorem mChkC_550 : ((mAll.getD 263 []).drop 550).all (fun q => mOkI 263 q.1 q.2.1 q.2.2.1 q.2.2.2) = true := mChk_cat 50 mChkB_550 (by rw [List.drop_drop]; exact mChkC_600)
theorem mChkC_500 : ((mAll.getD 263 []).drop 500).all (fun q => mOkI 263 q.1 q.2.1 q.2.2.1 q.2.2.2) = true := mChk_cat 50 mChkB_500 (by rw [List.drop_drop]; exact mChkC_550)
theorem mChkC_450 : ((mAll.getD 263 []).drop 450).all (fun q => mOkI 263 q.1 q.2.1 q.2.2.1 q.2.2.2) = true := mChk_cat 50 mChkB_450 (by rw [List.drop_drop]; exact mChkC_500)
theorem mChkC_400 : ((mAll.getD 263 []).drop 400).all (fun q => mOkI 263 q.1 q.2.1 q.2.2.1 q.2.2.2) = true := mChk_cat 50 mChkB_400 (by rw [List.drop_drop]; exact mChkC_450)
theorem mChkC_350 : ((mAll.getD 263 []).drop 350).all (fun q => mOkI 263 q.1 q.2.1 q.2.2.1 q.2.2.2) = true := mChk_cat 50 mChkB_350 (by rw [List.drop_drop]; exact mChkC_400)
theorem mChkC_300 : ((mAll.getD 263 []).drop 300).all (fun q => mOkI 263 q.1 q.2.1 q.2.2.1 q.2.2.2) = true := mChk_cat 50 mChkB_300 (by rw [List.drop_drop]; exact mChkC_350)
theorem mChkC_250 : ((mAll.getD 263 []).drop 250).all (fun q => mOkI 263 q.1 q.2.1 q.2.2.1 q.2.2.2) = true := mChk_cat 50 mChkB_250 (by rw [List.drop_drop]; exact mChkC_300)
theorem mChkC_200 : ((mAll.getD 263 []).drop 200).all (fun q => mOkI 263 q.1 q.2.1 q.2.2.1 q.2.2.2) = true := mChk_cat 50 mChkB_200 (by rw [List.drop_drop]; exact mChkC_250)
theorem mChkC_150 : ((mAll.getD 263 []).drop 150).all (fun q => mOkI 263 q.1 q.2.1 q.2.2.1 q.2.2.2) = true := mChk_cat 50 mChkB_150 (by rw [List.drop_drop]; exact mChkC_200)
theorem mChkC_100 : ((mAll.getD 263 []).drop 100).all (fun q => mOkI 263 q.1 q.2.1 q.2.2.1 q.2.2.2) = true := mChk_cat 50 mChkB_100 (by rw [List.drop_drop]; exact mChkC_150)
theorem mChkC_50 : ((mAll.getD 263 []).drop 50).all (fun q => mOkI 263 q.1 q.2.1 q.2.2.1 q.2.2.2) = true := mChk_cat 50 mChkB_50 (by rw [List.drop_drop]; exact mChkC_100)
theorem mChkC_0 : ((mAll.getD 263 []).drop 0).all (fun q => mOkI 263 q.1 q.2.1 q.2.2.1 q.2.2.2) = true := mChk_cat 50 mChkB_0 (by rw [List.drop_drop]; exact mChkC_50)
