/-! the tables are right, by the kernel -/
theorem qk_237_0 : (((qCode 237).drop 0).take 60).all (qChk 237) = true := by decide +kernel
theorem qk_237_60 : (((qCode 237).drop 60).take 60).all (qChk 237) = true := by decide +kernel
theorem qk_237_120 : (((qCode 237).drop 120).take 60).all (qChk 237) = true := by decide +kernel
theorem qk_237_180 : (((qCode 237).drop 180).take 60).all (qChk 237) = true := by decide +kernel
theorem qk_237_240 : (((qCode 237).drop 240).take 60).all (qChk 237) = true := by decide +kernel
theorem qk_237_300 : (((qCode 237).drop 300).take 60).all (qChk 237) = true := by decide +kernel
theorem qk_237_360 : (((qCode 237).drop 360).take 60).all (qChk 237) = true := by decide +kernel
