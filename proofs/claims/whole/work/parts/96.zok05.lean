set_option maxRecDepth 100000 in
theorem ok_100 : am_rw100.all (am_ok (am_mi 100)) = true := by decide +kernel
set_option maxRecDepth 100000 in
theorem ok_101 : am_rw101.all (am_ok (am_mi 101)) = true := by decide +kernel
set_option maxRecDepth 100000 in
theorem ok_102 : am_rw102.all (am_ok (am_mi 102)) = true := by decide +kernel
set_option maxRecDepth 100000 in
theorem ok_103 : am_rw103.all (am_ok (am_mi 103)) = true := by decide +kernel
set_option maxRecDepth 100000 in
theorem ok_104 : am_rw104.all (am_ok (am_mi 104)) = true := by decide +kernel
set_option maxRecDepth 100000 in
theorem ok_105 : am_rw105.all (am_ok (am_mi 105)) = true := by decide +kernel
set_option maxRecDepth 100000 in
theorem ok_106 : am_rw106.all (am_ok (am_mi 106)) = true := by decide +kernel
set_option maxRecDepth 100000 in
theorem ok_107 : am_rw107.all (am_ok (am_mi 107)) = true := by decide +kernel
set_option maxRecDepth 100000 in
theorem ok_108 : am_rw108.all (am_ok (am_mi 108)) = true := by decide +kernel
set_option maxRecDepth 100000 in
theorem ok_109 : am_rw109.all (am_ok (am_mi 109)) = true := by decide +kernel
set_option maxRecDepth 100000 in
theorem ok_110 : am_rw110.all (am_ok (am_mi 110)) = true := by decide +kernel
set_option maxRecDepth 100000 in
theorem ok_111 : am_rw111.all (am_ok (am_mi 111)) = true := by decide +kernel
set_option maxRecDepth 100000 in
theorem ok_112 : am_rw112.all (am_ok (am_mi 112)) = true := by decide +kernel
set_option maxRecDepth 100000 in
theorem ok_113 : am_rw113.all (am_ok (am_mi 113)) = true := by decide +kernel
set_option maxRecDepth 100000 in
theorem ok_114 : am_rw114.all (am_ok (am_mi 114)) = true := by decide +kernel
set_option maxRecDepth 100000 in
theorem ok_115 : am_rw115.all (am_ok (am_mi 115)) = true := by decide +kernel
set_option maxRecDepth 100000 in
theorem ok_116 : am_rw116.all (am_ok (am_mi 116)) = true := by decide +kernel
set_option maxRecDepth 100000 in
theorem ok_117 : am_rw117.all (am_ok (am_mi 117)) = true := by decide +kernel
set_option maxRecDepth 100000 in
theorem ok_118 : am_rw118.all (am_ok (am_mi 118)) = true := by decide +kernel
set_option maxRecDepth 100000 in
theorem ok_119 : am_rw119.all (am_ok (am_mi 119)) = true := by decide +kernel
set_option maxRecDepth 100000 in
theorem ok_120 : am_rw120.all (am_ok (am_mi 120)) = true := by decide +kernel
set_option maxRecDepth 100000 in
theorem ok_121 : am_rw121.all (am_ok (am_mi 121)) = true := by decide +kernel
set_option maxRecDepth 100000 in
theorem ok_122 : am_rw122.all (am_ok (am_mi 122)) = true := by decide +kernel
set_option maxRecDepth 100000 in
theorem ok_123 : am_rw123.all (am_ok (am_mi 123)) = true := by decide +kernel
set_option maxRecDepth 100000 in
theorem ok_124 : am_rw124.all (am_ok (am_mi 124)) = true := by decide +kernel
set_option maxRecDepth 100000 in
theorem ok_125 : am_rw125.all (am_ok (am_mi 125)) = true := by decide +kernel
set_option maxRecDepth 100000 in
theorem ok_126 : am_rw126.all (am_ok (am_mi 126)) = true := by decide +kernel
set_option maxRecDepth 100000 in
theorem ok_127 : am_rw127.all (am_ok (am_mi 127)) = true := by decide +kernel
set_option maxRecDepth 100000 in
theorem ok_128 : am_rw128.all (am_ok (am_mi 128)) = true := by decide +kernel
