set_option maxRecDepth 100000 in
theorem ok_204 : am_rw204.all (am_ok (am_mi 204)) = true := by decide +kernel
set_option maxRecDepth 100000 in
theorem ok_205 : am_rw205.all (am_ok (am_mi 205)) = true := by decide +kernel
set_option maxRecDepth 100000 in
theorem ok_206 : am_rw206.all (am_ok (am_mi 206)) = true := by decide +kernel
set_option maxRecDepth 100000 in
theorem ok_207 : am_rw207.all (am_ok (am_mi 207)) = true := by decide +kernel
set_option maxRecDepth 100000 in
theorem ok_208 : am_rw208.all (am_ok (am_mi 208)) = true := by decide +kernel
set_option maxRecDepth 100000 in
theorem ok_209 : am_rw209.all (am_ok (am_mi 209)) = true := by decide +kernel
set_option maxRecDepth 100000 in
theorem ok_210 : am_rw210.all (am_ok (am_mi 210)) = true := by decide +kernel
set_option maxRecDepth 100000 in
theorem ok_211 : am_rw211.all (am_ok (am_mi 211)) = true := by decide +kernel
set_option maxRecDepth 100000 in
theorem ok_212 : am_rw212.all (am_ok (am_mi 212)) = true := by decide +kernel
set_option maxRecDepth 100000 in
theorem ok_213 : am_rw213.all (am_ok (am_mi 213)) = true := by decide +kernel
set_option maxRecDepth 100000 in
theorem ok_214 : am_rw214.all (am_ok (am_mi 214)) = true := by decide +kernel
set_option maxRecDepth 100000 in
theorem ok_215 : am_rw215.all (am_ok (am_mi 215)) = true := by decide +kernel
