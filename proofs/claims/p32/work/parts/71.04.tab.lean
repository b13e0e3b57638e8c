/-! the tables are right, by the kernel -/
theorem qk_237_420 : (((qCode 237).drop 420).take 60).all (qChk 237) = true := by decide +kernel
theorem qk_237_480 : (((qCode 237).drop 480).take 60).all (qChk 237) = true := by decide +kernel
theorem qk_237_540 : (((qCode 237).drop 540).take 60).all (qChk 237) = true := by decide +kernel
theorem qk_237_600 : (((qCode 237).drop 600).take 60).all (qChk 237) = true := by decide +kernel
theorem qk_237_660 : (((qCode 237).drop 660).take 60).all (qChk 237) = true := by decide +kernel
theorem qk_237_720 : (((qCode 237).drop 720).take 60).all (qChk 237) = true := by decide +kernel
theorem qk_237_780 : (((qCode 237).drop 780)).all (qChk 237) = true := by decide +kernel
