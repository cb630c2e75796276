set_option maxRecDepth 100000 in
theorem ok_189 : am_rw189.all (am_ok (am_mi 189)) = true := by decide +kernel
set_option maxRecDepth 100000 in
theorem ok_190 : am_rw190.all (am_ok (am_mi 190)) = true := by decide +kernel
set_option maxRecDepth 100000 in
theorem ok_191 : am_rw191.all (am_ok (am_mi 191)) = true := by decide +kernel
set_option maxRecDepth 100000 in
theorem ok_192 : am_rw192.all (am_ok (am_mi 192)) = true := by decide +kernel
set_option maxRecDepth 100000 in
theorem ok_193 : am_rw193.all (am_ok (am_mi 193)) = true := by decide +kernel
set_option maxRecDepth 100000 in
theorem ok_194 : am_rw194.all (am_ok (am_mi 194)) = true := by decide +kernel
set_option maxRecDepth 100000 in
theorem ok_195 : am_rw195.all (am_ok (am_mi 195)) = true := by decide +kernel
set_option maxRecDepth 100000 in
theorem ok_196 : am_rw196.all (am_ok (am_mi 196)) = true := by decide +kernel
set_option maxRecDepth 100000 in
theorem ok_197 : am_rw197.all (am_ok (am_mi 197)) = true := by decide +kernel
set_option maxRecDepth 100000 in
theorem ok_198 : am_rw198.all (am_ok (am_mi 198)) = true := by decide +kernel
set_option maxRecDepth 100000 in
theorem ok_199 : am_rw199.all (am_ok (am_mi 199)) = true := by decide +kernel
set_option maxRecDepth 100000 in
theorem ok_200 : am_rw200.all (am_ok (am_mi 200)) = true := by decide +kernel
set_option maxRecDepth 100000 in
theorem ok_201 : am_rw201.all (am_ok (am_mi 201)) = true := by decide +kernel
set_option maxRecDepth 100000 in
theorem ok_202 : am_rw202.all (am_ok (am_mi 202)) = true := by decide +kernel
set_option maxRecDepth 100000 in
theorem ok_203 : am_rw203.all (am_ok (am_mi 203)) = true := by decide +kernel
