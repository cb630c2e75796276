set_option maxRecDepth 100000 in
theorem ok_29 : am_rw29.all (am_ok (am_mi 29)) = true := by decide +kernel
set_option maxRecDepth 100000 in
theorem ok_30 : am_rw30.all (am_ok (am_mi 30)) = true := by decide +kernel
set_option maxRecDepth 100000 in
theorem ok_31 : am_rw31.all (am_ok (am_mi 31)) = true := by decide +kernel
set_option maxRecDepth 100000 in
theorem ok_32 : am_rw32.all (am_ok (am_mi 32)) = true := by decide +kernel
set_option maxRecDepth 100000 in
theorem ok_33 : am_rw33.all (am_ok (am_mi 33)) = true := by decide +kernel
set_option maxRecDepth 100000 in
theorem ok_34 : am_rw34.all (am_ok (am_mi 34)) = true := by decide +kernel
set_option maxRecDepth 100000 in
theorem ok_35 : am_rw35.all (am_ok (am_mi 35)) = true := by decide +kernel
set_option maxRecDepth 100000 in
theorem ok_36 : am_rw36.all (am_ok (am_mi 36)) = true := by decide +kernel
set_option maxRecDepth 100000 in
theorem ok_37 : am_rw37.all (am_ok (am_mi 37)) = true := by decide +kernel
set_option maxRecDepth 100000 in
theorem ok_38 : am_rw38.all (am_ok (am_mi 38)) = true := by decide +kernel
set_option maxRecDepth 100000 in
theorem ok_39 : am_rw39.all (am_ok (am_mi 39)) = true := by decide +kernel
set_option maxRecDepth 100000 in
theorem ok_40 : am_rw40.all (am_ok (am_mi 40)) = true := by decide +kernel
set_option maxRecDepth 100000 in
theorem ok_41 : am_rw41.all (am_ok (am_mi 41)) = true := by decide +kernel
set_option maxRecDepth 100000 in
theorem ok_42 : am_rw42.all (am_ok (am_mi 42)) = true := by decide +kernel
set_option maxRecDepth 100000 in
theorem ok_43 : am_rw43.all (am_ok (am_mi 43)) = true := by decide +kernel
set_option maxRecDepth 100000 in
theorem ok_44 : am_rw44.all (am_ok (am_mi 44)) = true := by decide +kernel
set_option maxRecDepth 100000 in
theorem ok_45 : am_rw45.all (am_ok (am_mi 45)) = true := by decide +kernel
