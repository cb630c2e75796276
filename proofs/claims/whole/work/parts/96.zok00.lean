set_option maxRecDepth 100000 in
theorem ok_0 : am_rw0.all (am_ok (am_mi 0)) = true := by decide +kernel
set_option maxRecDepth 100000 in
theorem ok_1 : am_rw1.all (am_ok (am_mi 1)) = true := by decide +kernel
set_option maxRecDepth 100000 in
theorem ok_2 : am_rw2.all (am_ok (am_mi 2)) = true := by decide +kernel
set_option maxRecDepth 100000 in
theorem ok_3 : am_rw3.all (am_ok (am_mi 3)) = true := by decide +kernel
set_option maxRecDepth 100000 in
theorem ok_4 : am_rw4.all (am_ok (am_mi 4)) = true := by decide +kernel
set_option maxRecDepth 100000 in
theorem ok_5 : am_rw5.all (am_ok (am_mi 5)) = true := by decide +kernel
set_option maxRecDepth 100000 in
theorem ok_6 : am_rw6.all (am_ok (am_mi 6)) = true := by decide +kernel
set_option maxRecDepth 100000 in
theorem ok_7 : am_rw7.all (am_ok (am_mi 7)) = true := by decide +kernel
set_option maxRecDepth 100000 in
theorem ok_8 : am_rw8.all (am_ok (am_mi 8)) = true := by decide +kernel
set_option maxRecDepth 100000 in
theorem ok_9 : am_rw9.all (am_ok (am_mi 9)) = true := by decide +kernel
set_option maxRecDepth 100000 in
theorem ok_10 : am_rw10.all (am_ok (am_mi 10)) = true := by decide +kernel
set_option maxRecDepth 100000 in
theorem ok_11 : am_rw11.all (am_ok (am_mi 11)) = true := by decide +kernel
set_option maxRecDepth 100000 in
theorem ok_12 : am_rw12.all (am_ok (am_mi 12)) = true := by decide +kernel
set_option maxRecDepth 100000 in
theorem ok_13 : am_rw13.all (am_ok (am_mi 13)) = true := by decide +kernel
set_option maxRecDepth 100000 in
theorem ok_14 : am_rw14.all (am_ok (am_mi 14)) = true := by decide +kernel
set_option maxRecDepth 100000 in
theorem ok_15 : am_rw15.all (am_ok (am_mi 15)) = true := by decide +kernel
set_option maxRecDepth 100000 in
theorem ok_16 : am_rw16.all (am_ok (am_mi 16)) = true := by decide +kernel
set_option maxRecDepth 100000 in
theorem ok_17 : am_rw17.all (am_ok (am_mi 17)) = true := by decide +kernel
set_option maxRecDepth 100000 in
theorem ok_18 : am_rw18.all (am_ok (am_mi 18)) = true := by decide +kernel
set_option maxRecDepth 100000 in
theorem ok_19 : am_rw19.all (am_ok (am_mi 19)) = true := by decide +kernel
set_option maxRecDepth 100000 in
theorem ok_20 : am_rw20.all (am_ok (am_mi 20)) = true := by decide +kernel
set_option maxRecDepth 100000 in
theorem ok_21 : am_rw21.all (am_ok (am_mi 21)) = true := by decide +kernel
set_option maxRecDepth 100000 in
theorem ok_22 : am_rw22.all (am_ok (am_mi 22)) = true := by decide +kernel
set_option maxRecDepth 100000 in
theorem ok_23 : am_rw23.all (am_ok (am_mi 23)) = true := by decide +kernel
set_option maxRecDepth 100000 in
theorem ok_24 : am_rw24.all (am_ok (am_mi 24)) = true := by decide +kernel
set_option maxRecDepth 100000 in
theorem ok_25 : am_rw25.all (am_ok (am_mi 25)) = true := by decide +kernel
set_option maxRecDepth 100000 in
theorem ok_26 : am_rw26.all (am_ok (am_mi 26)) = true := by decide +kernel
set_option maxRecDepth 100000 in
theorem ok_27 : am_rw27.all (am_ok (am_mi 27)) = true := by decide +kernel
set_option maxRecDepth 100000 in
theorem ok_28 : am_rw28.all (am_ok (am_mi 28)) = true := by decide +kernel
