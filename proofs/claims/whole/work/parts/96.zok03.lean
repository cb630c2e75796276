set_option maxRecDepth 100000 in
theorem ok_68 : am_rw68.all (am_ok (am_mi 68)) = true := by decide +kernel
set_option maxRecDepth 100000 in
theorem ok_69 : am_rw69.all (am_ok (am_mi 69)) = true := by decide +kernel
set_option maxRecDepth 100000 in
theorem ok_70 : am_rw70.all (am_ok (am_mi 70)) = true := by decide +kernel
set_option maxRecDepth 100000 in
theorem ok_71 : am_rw71.all (am_ok (am_mi 71)) = true := by decide +kernel
set_option maxRecDepth 100000 in
theorem ok_72 : am_rw72.all (am_ok (am_mi 72)) = true := by decide +kernel
set_option maxRecDepth 100000 in
theorem ok_73 : am_rw73.all (am_ok (am_mi 73)) = true := by decide +kernel
set_option maxRecDepth 100000 in
theorem ok_74 : am_rw74.all (am_ok (am_mi 74)) = true := by decide +kernel
set_option maxRecDepth 100000 in
theorem ok_75 : am_rw75.all (am_ok (am_mi 75)) = true := by decide +kernel
set_option maxRecDepth 100000 in
theorem ok_76 : am_rw76.all (am_ok (am_mi 76)) = true := by decide +kernel
set_option maxRecDepth 100000 in
theorem ok_77 : am_rw77.all (am_ok (am_mi 77)) = true := by decide +kernel
set_option maxRecDepth 100000 in
theorem ok_78 : am_rw78.all (am_ok (am_mi 78)) = true := by decide +kernel
set_option maxRecDepth 100000 in
theorem ok_79 : am_rw79.all (am_ok (am_mi 79)) = true := by decide +kernel
set_option maxRecDepth 100000 in
theorem ok_80 : am_rw80.all (am_ok (am_mi 80)) = true := by decide +kernel
