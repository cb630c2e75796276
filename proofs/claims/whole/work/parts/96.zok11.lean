set_option maxRecDepth 100000 in
theorem ok_216 : am_rw216.all (am_ok (am_mi 216)) = true := by decide +kernel
set_option maxRecDepth 100000 in
theorem ok_217 : am_rw217.all (am_ok (am_mi 217)) = true := by decide +kernel
set_option maxRecDepth 100000 in
theorem ok_218 : am_rw218.all (am_ok (am_mi 218)) = true := by decide +kernel
set_option maxRecDepth 100000 in
theorem ok_219 : am_rw219.all (am_ok (am_mi 219)) = true := by decide +kernel
set_option maxRecDepth 100000 in
theorem ok_220 : am_rw220.all (am_ok (am_mi 220)) = true := by decide +kernel
set_option maxRecDepth 100000 in
theorem ok_221 : am_rw221.all (am_ok (am_mi 221)) = true := by decide +kernel
set_option maxRecDepth 100000 in
theorem ok_222 : am_rw222.all (am_ok (am_mi 222)) = true := by decide +kernel
set_option maxRecDepth 100000 in
theorem ok_223 : am_rw223.all (am_ok (am_mi 223)) = true := by decide +kernel
set_option maxRecDepth 100000 in
theorem ok_224 : am_rw224.all (am_ok (am_mi 224)) = true := by decide +kernel
