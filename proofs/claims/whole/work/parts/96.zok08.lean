set_option maxRecDepth 100000 in
theorem ok_175 : am_rw175.all (am_ok (am_mi 175)) = true := by decide +kernel
set_option maxRecDepth 100000 in
theorem ok_176 : am_rw176.all (am_ok (am_mi 176)) = true := by decide +kernel
set_option maxRecDepth 100000 in
theorem ok_177 : am_rw177.all (am_ok (am_mi 177)) = true := by decide +kernel
set_option maxRecDepth 100000 in
theorem ok_178 : am_rw178.all (am_ok (am_mi 178)) = true := by decide +kernel
set_option maxRecDepth 100000 in
theorem ok_179 : am_rw179.all (am_ok (am_mi 179)) = true := by decide +kernel
set_option maxRecDepth 100000 in
theorem ok_180 : am_rw180.all (am_ok (am_mi 180)) = true := by decide +kernel
set_option maxRecDepth 100000 in
theorem ok_181 : am_rw181.all (am_ok (am_mi 181)) = true := by decide +kernel
set_option maxRecDepth 100000 in
theorem ok_182 : am_rw182.all (am_ok (am_mi 182)) = true := by decide +kernel
set_option maxRecDepth 100000 in
theorem ok_183 : am_rw183.all (am_ok (am_mi 183)) = true := by decide +kernel
set_option maxRecDepth 100000 in
theorem ok_184 : am_rw184.all (am_ok (am_mi 184)) = true := by decide +kernel
set_option maxRecDepth 100000 in
theorem ok_185 : am_rw185.all (am_ok (am_mi 185)) = true := by decide +kernel
set_option maxRecDepth 100000 in
theorem ok_186 : am_rw186.all (am_ok (am_mi 186)) = true := by decide +kernel
set_option maxRecDepth 100000 in
theorem ok_187 : am_rw187.all (am_ok (am_mi 187)) = true := by decide +kernel
set_option maxRecDepth 100000 in
theorem ok_188 : am_rw188.all (am_ok (am_mi 188)) = true := by decide +kernel
