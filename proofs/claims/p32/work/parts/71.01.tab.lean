/-! the tables are right, by the kernel -/
theorem qk_129_60 : (((qCode 129).drop 60).take 60).all (qChk 129) = true := by decide +kernel
theorem qk_129_120 : (((qCode 129).drop 120).take 60).all (qChk 129) = true := by decide +kernel
theorem qk_129_180 : (((qCode 129).drop 180).take 60).all (qChk 129) = true := by decide +kernel
theorem qk_129_240 : (((qCode 129).drop 240).take 60).all (qChk 129) = true := by decide +kernel
theorem qk_129_300 : (((qCode 129).drop 300).take 60).all (qChk 129) = true := by decide +kernel
theorem qk_129_360 : (((qCode 129).drop 360).take 60).all (qChk 129) = true := by decide +kernel
theorem qk_129_420 : (((qCode 129).drop 420)).all (qChk 129) = true := by decide +kernel
theorem qk_130 : (qCode 130).all (qChk 130) = true := by decide +kernel
theorem qk_131 : (qCode 131).all (qChk 131) = true := by decide +kernel
theorem qk_132 : (qCode 132).all (qChk 132) = true := by decide +kernel
theorem qk_133 : (qCode 133).all (qChk 133) = true := by decide +kernel
theorem qk_134 : (qCode 134).all (qChk 134) = true := by decide +kernel
theorem qk_135 : (qCode 135).all (qChk 135) = true := by decide +kernel
theorem qk_136 : (qCode 136).all (qChk 136) = true := by decide +kernel
theorem qk_137 : (qCode 137).all (qChk 137) = true := by decide +kernel
theorem qk_138 : (qCode 138).all (qChk 138) = true := by decide +kernel
theorem qk_139_0 : (((qCode 139).drop 0).take 60).all (qChk 139) = true := by decide +kernel
theorem qk_139_60 : (((qCode 139).drop 60).take 60).all (qChk 139) = true := by decide +kernel
theorem qk_139_120 : (((qCode 139).drop 120)).all (qChk 139) = true := by decide +kernel
theorem qk_140 : (qCode 140).all (qChk 140) = true := by decide +kernel
theorem qk_141 : (qCode 141).all (qChk 141) = true := by decide +kernel
theorem qk_142 : (qCode 142).all (qChk 142) = true := by decide +kernel
theorem qk_143 : (qCode 143).all (qChk 143) = true := by decide +kernel
theorem qk_144 : (qCode 144).all (qChk 144) = true := by decide +kernel
theorem qk_145 : (qCode 145).all (qChk 145) = true := by decide +kernel
theorem qk_146 : (qCode 146).all (qChk 146) = true := by decide +kernel
theorem qk_147_0 : (((qCode 147).drop 0).take 60).all (qChk 147) = true := by decide +kernel
theorem qk_147_60 : (((qCode 147).drop 60).take 60).all (qChk 147) = true := by decide +kernel
theorem qk_147_120 : (((qCode 147).drop 120)).all (qChk 147) = true := by decide +kernel
theorem qk_148 : (qCode 148).all (qChk 148) = true := by decide +kernel
theorem qk_149 : (qCode 149).all (qChk 149) = true := by decide +kernel
theorem qk_150_0 : (((qCode 150).drop 0).take 60).all (qChk 150) = true := by decide +kernel
theorem qk_150_60 : (((qCode 150).drop 60).take 60).all (qChk 150) = true := by decide +kernel
theorem qk_150_120 : (((qCode 150).drop 120).take 60).all (qChk 150) = true := by decide +kernel
theorem qk_150_180 : (((qCode 150).drop 180)).all (qChk 150) = true := by decide +kernel
theorem qk_151 : (qCode 151).all (qChk 151) = true := by decide +kernel
theorem qk_152 : (qCode 152).all (qChk 152) = true := by decide +kernel
theorem qk_153 : (qCode 153).all (qChk 153) = true := by decide +kernel
theorem qk_154 : (qCode 154).all (qChk 154) = true := by decide +kernel
theorem qk_155 : (qCode 155).all (qChk 155) = true := by decide +kernel
theorem qk_156 : (qCode 156).all (qChk 156) = true := by decide +kernel
