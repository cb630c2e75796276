set_option maxRecDepth 100000 in
theorem ok_129 : am_rw129.all (am_ok (am_mi 129)) = true := by decide +kernel
set_option maxRecDepth 100000 in
theorem ok_130 : am_rw130.all (am_ok (am_mi 130)) = true := by decide +kernel
set_option maxRecDepth 100000 in
theorem ok_131 : am_rw131.all (am_ok (am_mi 131)) = true := by decide +kernel
set_option maxRecDepth 100000 in
theorem ok_132 : am_rw132.all (am_ok (am_mi 132)) = true := by decide +kernel
set_option maxRecDepth 100000 in
theorem ok_133 : am_rw133.all (am_ok (am_mi 133)) = true := by decide +kernel
set_option maxRecDepth 100000 in
theorem ok_134 : am_rw134.all (am_ok (am_mi 134)) = true := by decide +kernel
set_option maxRecDepth 100000 in
theorem ok_135 : am_rw135.all (am_ok (am_mi 135)) = true := by decide +kernel
set_option maxRecDepth 100000 in
theorem ok_136 : am_rw136.all (am_ok (am_mi 136)) = true := by decide +kernel
set_option maxRecDepth 100000 in
theorem ok_137 : am_rw137.all (am_ok (am_mi 137)) = true := by decide +kernel
set_option maxRecDepth 100000 in
theorem ok_138 : am_rw138.all (am_ok (am_mi 138)) = true := by decide +kernel
set_option maxRecDepth 100000 in
theorem ok_139 : am_rw139.all (am_ok (am_mi 139)) = true := by decide +kernel
set_option maxRecDepth 100000 in
theorem ok_140 : am_rw140.all (am_ok (am_mi 140)) = true := by decide +kernel
set_option maxRecDepth 100000 in
theorem ok_141 : am_rw141.all (am_ok (am_mi 141)) = true := by decide +kernel
set_option maxRecDepth 100000 in
theorem ok_142 : am_rw142.all (am_ok (am_mi 142)) = true := by decide +kernel
set_option maxRecDepth 100000 in
theorem ok_143 : am_rw143.all (am_ok (am_mi 143)) = true := by decide +kernel
set_option maxRecDepth 100000 in
theorem ok_144 : am_rw144.all (am_ok (am_mi 144)) = true := by decide +kernel
set_option maxRecDepth 100000 in
theorem ok_145 : am_rw145.all (am_ok (am_mi 145)) = true := by decide +kernel
set_option maxRecDepth 100000 in
theorem ok_146 : am_rw146.all (am_ok (am_mi 146)) = true := by decide +kernel
set_option maxRecDepth 100000 in
theorem ok_147 : am_rw147.all (am_ok (am_mi 147)) = true := by decide +kernel
set_option maxRecDepth 100000 in
theorem ok_148 : am_rw148.all (am_ok (am_mi 148)) = true := by decide +kernel
set_option maxRecDepth 100000 in
theorem ok_149 : am_rw149.all (am_ok (am_mi 149)) = true := by decide +kernel
set_option maxRecDepth 100000 in
theorem ok_150 : am_rw150.all (am_ok (am_mi 150)) = true := by decide +kernel
set_option maxRecDepth 100000 in
theorem ok_151 : am_rw151.all (am_ok (am_mi 151)) = true := by decide +kernel
set_option maxRecDepth 100000 in
theorem ok_152 : am_rw152.all (am_ok (am_mi 152)) = true := by decide +kernel
set_option maxRecDepth 100000 in
theorem ok_153 : am_rw153.all (am_ok (am_mi 153)) = true := by decide +kernel
set_option maxRecDepth 100000 in
theorem ok_154 : am_rw154.all (am_ok (am_mi 154)) = true := by decide +kernel
set_option maxRecDepth 100000 in
theorem ok_155 : am_rw155.all (am_ok (am_mi 155)) = true := by decide +kernel
set_option maxRecDepth 100000 in
theorem ok_156 : am_rw156.all (am_ok (am_mi 156)) = true := by decide +kernel
set_option maxRecDepth 100000 in
theorem ok_157 : am_rw157.all (am_ok (am_mi 157)) = true := by decide +kernel
set_option maxRecDepth 100000 in
theorem ok_158 : am_rw158.all (am_ok (am_mi 158)) = true := by decide +kernel
set_option maxRecDepth 100000 in
theorem ok_159 : am_rw159.all (am_ok (am_mi 159)) = true := by decide +kernel
set_option maxRecDepth 100000 in
theorem ok_160 : am_rw160.all (am_ok (am_mi 160)) = true := by decide +kernel
