theorem dk_split {b : ByteArray} {l : List (Nat × Instr × Nat)} (n : Nat) (h1 : dkB b (l.take n) = true) (h2 : dkB b (l.drop n) = true) : dkB b l = true := by
  unfold dkB at h1 h2 ⊢
  rw [← List.take_append_drop n l, List.all_append, h1, h2]
  rfl
set_option maxRecDepth 100000 in
theorem dkp_0 : dkB (mBs mL_law) (((mCd mL_law).drop 0).take 30) = true := by decide +kernel
set_option maxRecDepth 100000 in
theorem dkp_30 : dkB (mBs mL_law) (((mCd mL_law).drop 30).take 30) = true := by decide +kernel
set_option maxRecDepth 100000 in
theorem dkp_60 : dkB (mBs mL_law) (((mCd mL_law).drop 60).take 30) = true := by decide +kernel
set_option maxRecDepth 100000 in
theorem dkp_90 : dkB (mBs mL_law) (((mCd mL_law).drop 90).take 30) = true := by decide +kernel
set_option maxRecDepth 100000 in
theorem dkp_120 : dkB (mBs mL_law) (((mCd mL_law).drop 120).take 30) = true := by decide +kernel
set_option maxRecDepth 100000 in
theorem dkp_150 : dkB (mBs mL_law) (((mCd mL_law).drop 150).take 30) = true := by decide +kernel
set_option maxRecDepth 100000 in
theorem dkp_180 : dkB (mBs mL_law) (((mCd mL_law).drop 180).take 30) = true := by decide +kernel
set_option maxRecDepth 100000 in
theorem dkp_210 : dkB (mBs mL_law) (((mCd mL_law).drop 210).take 30) = true := by decide +kernel
set_option maxRecDepth 100000 in
theorem dkp_240 : dkB (mBs mL_law) (((mCd mL_law).drop 240).take 30) = true := by decide +kernel
set_option maxRecDepth 100000 in
theorem dkp_270 : dkB (mBs mL_law) (((mCd mL_law).drop 270).take 30) = true := by decide +kernel
set_option maxRecDepth 100000 in
theorem dkp_300 : dkB (mBs mL_law) (((mCd mL_law).drop 300).take 30) = true := by decide +kernel
set_option maxRecDepth 100000 in
theorem dkp_330 : dkB (mBs mL_law) (((mCd mL_law).drop 330).take 30) = true := by decide +kernel
set_option maxRecDepth 100000 in
theorem dkp_360 : dkB (mBs mL_law) (((mCd mL_law).drop 360).take 30) = true := by decide +kernel
set_option maxRecDepth 100000 in
theorem dkp_390 : dkB (mBs mL_law) (((mCd mL_law).drop 390).take 30) = true := by decide +kernel
set_option maxRecDepth 100000 in
theorem dkp_420 : dkB (mBs mL_law) (((mCd mL_law).drop 420).take 30) = true := by decide +kernel
set_option maxRecDepth 100000 in
theorem dkp_450 : dkB (mBs mL_law) (((mCd mL_law).drop 450).take 30) = true := by decide +kernel
set_option maxRecDepth 100000 in
theorem dkp_480 : dkB (mBs mL_law) (((mCd mL_law).drop 480).take 30) = true := by decide +kernel
set_option maxRecDepth 100000 in
theorem dkp_510 : dkB (mBs mL_law) (((mCd mL_law).drop 510).take 30) = true := by decide +kernel
set_option maxRecDepth 100000 in
theorem dkp_540 : dkB (mBs mL_law) (((mCd mL_law).drop 540).take 30) = true := by decide +kernel
set_option maxRecDepth 100000 in
theorem dkp_570 : dkB (mBs mL_law) (((mCd mL_law).drop 570).take 30) = true := by decide +kernel
set_option maxRecDepth 100000 in
theorem dkp_600 : dkB (mBs mL_law) (((mCd mL_law).drop 600).take 30) = true := by decide +kernel
set_option maxRecDepth 100000 in
theorem dkp_630 : dkB (mBs mL_law) (((mCd mL_law).drop 630).take 30) = true := by decide +kernel
set_option maxRecDepth 100000 in
theorem dkp_660 : dkB (mBs mL_law) (((mCd mL_law).drop 660).take 30) = true := by decide +kernel
set_option maxRecDepth 100000 in
theorem dkp_690 : dkB (mBs mL_law) (((mCd mL_law).drop 690).take 30) = true := by decide +kernel
set_option maxRecDepth 100000 in
theorem dkp_720 : dkB (mBs mL_law) (((mCd mL_law).drop 720).take 30) = true := by decide +kernel
set_option maxRecDepth 100000 in
theorem dkp_750 : dkB (mBs mL_law) (((mCd mL_law).drop 750).take 30) = true := by decide +kernel
set_option maxRecDepth 100000 in
theorem dkp_780 : dkB (mBs mL_law) (((mCd mL_law).drop 780).take 30) = true := by decide +kernel
set_option maxRecDepth 100000 in
theorem dkp_810 : dkB (mBs mL_law) (((mCd mL_law).drop 810).take 30) = true := by decide +kernel
set_option maxRecDepth 100000 in
theorem dkp_840 : dkB (mBs mL_law) (((mCd mL_law).drop 840).take 30) = true := by decide +kernel
set_option maxRecDepth 100000 in
theorem dkp_870 : dkB (mBs mL_law) (((mCd mL_law).drop 870).take 30) = true := by decide +kernel
set_option maxRecDepth 100000 in
theorem dkp_900 : dkB (mBs mL_law) (((mCd mL_law).drop 900).take 30) = true := by decide +kernel
set_option maxRecDepth 100000 in
theorem dkp_930 : dkB (mBs mL_law) (((mCd mL_law).drop 930).take 30) = true := by decide +kernel
set_option maxRecDepth 100000 in
theorem dkp_960 : dkB (mBs mL_law) (((mCd mL_law).drop 960).take 30) = true := by decide +kernel
set_option maxRecDepth 100000 in
theorem dkp_990 : dkB (mBs mL_law) (((mCd mL_law).drop 990).take 30) = true := by decide +kernel
set_option maxRecDepth 100000 in
theorem dkp_1020 : dkB (mBs mL_law) (((mCd mL_law).drop 1020).take 30) = true := by decide +kernel
set_option maxRecDepth 100000 in
theorem dkd_1050 : dkB (mBs mL_law) ((mCd mL_law).drop 1050) = true := by decide +kernel
theorem dkd_1020 : dkB (mBs mL_law) ((mCd mL_law).drop 1020) = true := dk_split 30 dkp_1020 (by rw [List.drop_drop]; exact dkd_1050)
theorem dkd_990 : dkB (mBs mL_law) ((mCd mL_law).drop 990) = true := dk_split 30 dkp_990 (by rw [List.drop_drop]; exact dkd_1020)
theorem dkd_960 : dkB (mBs mL_law) ((mCd mL_law).drop 960) = true := dk_split 30 dkp_960 (by rw [List.drop_drop]; exact dkd_990)
theorem dkd_930 : dkB (mBs mL_law) ((mCd mL_law).drop 930) = true := dk_split 30 dkp_930 (by rw [List.drop_drop]; exact dkd_960)
theorem dkd_900 : dkB (mBs mL_law) ((mCd mL_law).drop 900) = true := dk_split 30 dkp_900 (by rw [List.drop_drop]; exact dkd_930)
theorem dkd_870 : dkB (mBs mL_law) ((mCd mL_law).drop 870) = true := dk_split 30 dkp_870 (by rw [List.drop_drop]; exact dkd_900)
theorem dkd_840 : dkB (mBs mL_law) ((mCd mL_law).drop 840) = true := dk_split 30 dkp_840 (by rw [List.drop_drop]; exact dkd_870)
theorem dkd_810 : dkB (mBs mL_law) ((mCd mL_law).drop 810) = true := dk_split 30 dkp_810 (by rw [List.drop_drop]; exact dkd_840)
theorem dkd_780 : dkB (mBs mL_law) ((mCd mL_law).drop 780) = true := dk_split 30 dkp_780 (by rw [List.drop_drop]; exact dkd_810)
theorem dkd_750 : dkB (mBs mL_law) ((mCd mL_law).drop 750) = true := dk_split 30 dkp_750 (by rw [List.drop_drop]; exact dkd_780)
theorem dkd_720 : dkB (mBs mL_law) ((mCd mL_law).drop 720) = true := dk_split 30 dkp_720 (by rw [List.drop_drop]; exact dkd_750)
theorem dkd_690 : dkB (mBs mL_law) ((mCd mL_law).drop 690) = true := dk_split 30 dkp_690 (by rw [List.drop_drop]; exact dkd_720)
theorem dkd_660 : dkB (mBs mL_law) ((mCd mL_law).drop 660) = true := dk_split 30 dkp_660 (by rw [List.drop_drop]; exact dkd_690)
theorem dkd_630 : dkB (mBs mL_law) ((mCd mL_law).drop 630) = true := dk_split 30 dkp_630 (by rw [List.drop_drop]; exact dkd_660)
theorem dkd_600 : dkB (mBs mL_law) ((mCd mL_law).drop 600) = true := dk_split 30 dkp_600 (by rw [List.drop_drop]; exact dkd_630)
theorem dkd_570 : dkB (mBs mL_law) ((mCd mL_law).drop 570) = true := dk_split 30 dkp_570 (by rw [List.drop_drop]; exact dkd_600)
theorem dkd_540 : dkB (mBs mL_law) ((mCd mL_law).drop 540) = true := dk_split 30 dkp_540 (by rw [List.drop_drop]; exact dkd_570)
theorem dkd_510 : dkB (mBs mL_law) ((mCd mL_law).drop 510) = true := dk_split 30 dkp_510 (by rw [List.drop_drop]; exact dkd_540)
theorem dkd_480 : dkB (mBs mL_law) ((mCd mL_law).drop 480) = true := dk_split 30 dkp_480 (by rw [List.drop_drop]; exact dkd_510)
theorem dkd_450 : dkB (mBs mL_law) ((mCd mL_law).drop 450) = true := dk_split 30 dkp_450 (by rw [List.drop_drop]; exact dkd_480)
theorem dkd_420 : dkB (mBs mL_law) ((mCd mL_law).drop 420) = true := dk_split 30 dkp_420 (by rw [List.drop_drop]; exact dkd_450)
theorem dkd_390 : dkB (mBs mL_law) ((mCd mL_law).drop 390) = true := dk_split 30 dkp_390 (by rw [List.drop_drop]; exact dkd_420)
theorem dkd_360 : dkB (mBs mL_law) ((mCd mL_law).drop 360) = true := dk_split 30 dkp_360 (by rw [List.drop_drop]; exact dkd_390)
theorem dkd_330 : dkB (mBs mL_law) ((mCd mL_law).drop 330) = true := dk_split 30 dkp_330 (by rw [List.drop_drop]; exact dkd_360)
theorem dkd_300 : dkB (mBs mL_law) ((mCd mL_law).drop 300) = true := dk_split 30 dkp_300 (by rw [List.drop_drop]; exact dkd_330)
theorem dkd_270 : dkB (mBs mL_law) ((mCd mL_law).drop 270) = true := dk_split 30 dkp_270 (by rw [List.drop_drop]; exact dkd_300)
theorem dkd_240 : dkB (mBs mL_law) ((mCd mL_law).drop 240) = true := dk_split 30 dkp_240 (by rw [List.drop_drop]; exact dkd_270)
theorem dkd_210 : dkB (mBs mL_law) ((mCd mL_law).drop 210) = true := dk_split 30 dkp_210 (by rw [List.drop_drop]; exact dkd_240)
theorem dkd_180 : dkB (mBs mL_law) ((mCd mL_law).drop 180) = true := dk_split 30 dkp_180 (by rw [List.drop_drop]; exact dkd_210)
theorem dkd_150 : dkB (mBs mL_law) ((mCd mL_law).drop 150) = true := dk_split 30 dkp_150 (by rw [List.drop_drop]; exact dkd_180)
theorem dkd_120 : dkB (mBs mL_law) ((mCd mL_law).drop 120) = true := dk_split 30 dkp_120 (by rw [List.drop_drop]; exact dkd_150)
theorem dkd_90 : dkB (mBs mL_law) ((mCd mL_law).drop 90) = true := dk_split 30 dkp_90 (by rw [List.drop_drop]; exact dkd_120)
theorem dkd_60 : dkB (mBs mL_law) ((mCd mL_law).drop 60) = true := dk_split 30 dkp_60 (by rw [List.drop_drop]; exact dkd_90)
theorem dkd_30 : dkB (mBs mL_law) ((mCd mL_law).drop 30) = true := dk_split 30 dkp_30 (by rw [List.drop_drop]; exact dkd_60)
theorem dkd_0 : dkB (mBs mL_law) ((mCd mL_law).drop 0) = true := dk_split 30 dkp_0 (by rw [List.drop_drop]; exact dkd_30)
theorem dkL_law : DK mL_law := dk_of dkd_0
