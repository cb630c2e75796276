set_option maxRecDepth 100000 in
theorem ok_46 : am_rw46.all (am_ok (am_mi 46)) = true := by decide +kernel
set_option maxRecDepth 100000 in
theorem ok_47 : am_rw47.all (am_ok (am_mi 47)) = true := by decide +kernel
set_option maxRecDepth 100000 in
theorem ok_48 : am_rw48.all (am_ok (am_mi 48)) = true := by decide +kernel
set_option maxRecDepth 100000 in
theorem ok_49 : am_rw49.all (am_ok (am_mi 49)) = true := by decide +kernel
set_option maxRecDepth 100000 in
theorem ok_50 : am_rw50.all (am_ok (am_mi 50)) = true := by decide +kernel
set_option maxRecDepth 100000 in
theorem ok_51 : am_rw51.all (am_ok (am_mi 51)) = true := by decide +kernel
set_option maxRecDepth 100000 in
theorem ok_52 : am_rw52.all (am_ok (am_mi 52)) = true := by decide +kernel
set_option maxRecDepth 100000 in
theorem ok_53 : am_rw53.all (am_ok (am_mi 53)) = true := by decide +kernel
set_option maxRecDepth 100000 in
theorem ok_54 : am_rw54.all (am_ok (am_mi 54)) = true := by decide +kernel
set_option maxRecDepth 100000 in
theorem ok_55 : am_rw55.all (am_ok (am_mi 55)) = true := by decide +kernel
set_option maxRecDepth 100000 in
theorem ok_56 : am_rw56.all (am_ok (am_mi 56)) = true := by decide +kernel
set_option maxRecDepth 100000 in
theorem ok_57 : am_rw57.all (am_ok (am_mi 57)) = true := by decide +kernel
set_option maxRecDepth 100000 in
theorem ok_58 : am_rw58.all (am_ok (am_mi 58)) = true := by decide +kernel
set_option maxRecDepth 100000 in
theorem ok_59 : am_rw59.all (am_ok (am_mi 59)) = true := by decide +kernel
set_option maxRecDepth 100000 in
theorem ok_60 : am_rw60.all (am_ok (am_mi 60)) = true := by decide +kernel
set_option maxRecDepth 100000 in
theorem ok_61 : am_rw61.all (am_ok (am_mi 61)) = true := by decide +kernel
set_option maxRecDepth 100000 in
theorem ok_62 : am_rw62.all (am_ok (am_mi 62)) = true := by decide +kernel
set_option maxRecDepth 100000 in
theorem ok_63 : am_rw63.all (am_ok (am_mi 63)) = true := by decide +kernel
set_option maxRecDepth 100000 in
theorem ok_64 : am_rw64.all (am_ok (am_mi 64)) = true := by decide +kernel
set_option maxRecDepth 100000 in
theorem ok_65 : am_rw65.all (am_ok (am_mi 65)) = true := by decide +kernel
set_option maxRecDepth 100000 in
theorem ok_66 : am_rw66.all (am_ok (am_mi 66)) = true := by decide +kernel
set_option maxRecDepth 100000 in
theorem ok_67 : am_rw67.all (am_ok (am_mi 67)) = true := by decide +kernel
