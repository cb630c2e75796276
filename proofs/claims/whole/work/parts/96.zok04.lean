set_option maxRecDepth 100000 in
theorem ok_81 : am_rw81.all (am_ok (am_mi 81)) = true := by decide +kernel
set_option maxRecDepth 100000 in
theorem ok_82 : am_rw82.all (am_ok (am_mi 82)) = true := by decide +kernel
set_option maxRecDepth 100000 in
theorem ok_83 : am_rw83.all (am_ok (am_mi 83)) = true := by decide +kernel
set_option maxRecDepth 100000 in
theorem ok_84 : am_rw84.all (am_ok (am_mi 84)) = true := by decide +kernel
set_option maxRecDepth 100000 in
theorem ok_85 : am_rw85.all (am_ok (am_mi 85)) = true := by decide +kernel
set_option maxRecDepth 100000 in
theorem ok_86 : am_rw86.all (am_ok (am_mi 86)) = true := by decide +kernel
set_option maxRecDepth 100000 in
theorem ok_87 : am_rw87.all (am_ok (am_mi 87)) = true := by decide +kernel
set_option maxRecDepth 100000 in
theorem ok_88 : am_rw88.all (am_ok (am_mi 88)) = true := by decide +kernel
set_option maxRecDepth 100000 in
theorem ok_89 : am_rw89.all (am_ok (am_mi 89)) = true := by decide +kernel
set_option maxRecDepth 100000 in
theorem ok_90 : am_rw90.all (am_ok (am_mi 90)) = true := by decide +kernel
set_option maxRecDepth 100000 in
theorem ok_91 : am_rw91.all (am_ok (am_mi 91)) = true := by decide +kernel
set_option maxRecDepth 100000 in
theorem ok_92 : am_rw92.all (am_ok (am_mi 92)) = true := by decide +kernel
set_option maxRecDepth 100000 in
theorem ok_93 : am_rw93.all (am_ok (am_mi 93)) = true := by decide +kernel
set_option maxRecDepth 100000 in
theorem ok_94 : am_rw94.all (am_ok (am_mi 94)) = true := by decide +kernel
set_option maxRecDepth 100000 in
theorem ok_95 : am_rw95.all (am_ok (am_mi 95)) = true := by decide +kernel
set_option maxRecDepth 100000 in
theorem ok_96 : am_rw96.all (am_ok (am_mi 96)) = true := by decide +kernel
set_option maxRecDepth 100000 in
theorem ok_97 : am_rw97.all (am_ok (am_mi 97)) = true := by decide +kernel
set_option maxRecDepth 100000 in
theorem ok_98 : am_rw98.all (am_ok (am_mi 98)) = true := by decide +kernel
set_option maxRecDepth 100000 in
theorem ok_99 : am_rw99.all (am_ok (am_mi 99)) = true := by decide +kernel
