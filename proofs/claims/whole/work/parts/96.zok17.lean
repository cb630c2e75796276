set_option maxRecDepth 100000 in
theorem okm_a0 : (List.range' 0 15).all am_okm = true := by decide +kernel
set_option maxRecDepth 100000 in
theorem okm_a15 : (List.range' 15 15).all am_okm = true := by decide +kernel
set_option maxRecDepth 100000 in
theorem okm_a30 : (List.range' 30 15).all am_okm = true := by decide +kernel
set_option maxRecDepth 100000 in
theorem okm_a45 : (List.range' 45 15).all am_okm = true := by decide +kernel
set_option maxRecDepth 100000 in
theorem okm_a60 : (List.range' 60 15).all am_okm = true := by decide +kernel
set_option maxRecDepth 100000 in
theorem okm_a75 : (List.range' 75 15).all am_okm = true := by decide +kernel
set_option maxRecDepth 100000 in
theorem okm_a90 : (List.range' 90 15).all am_okm = true := by decide +kernel
set_option maxRecDepth 100000 in
theorem okm_a105 : (List.range' 105 15).all am_okm = true := by decide +kernel
set_option maxRecDepth 100000 in
theorem okm_a120 : (List.range' 120 15).all am_okm = true := by decide +kernel
set_option maxRecDepth 100000 in
theorem okm_a135 : (List.range' 135 15).all am_okm = true := by decide +kernel
set_option maxRecDepth 100000 in
theorem okm_a150 : (List.range' 150 15).all am_okm = true := by decide +kernel
set_option maxRecDepth 100000 in
theorem okm_a165 : (List.range' 165 15).all am_okm = true := by decide +kernel
set_option maxRecDepth 100000 in
theorem okm_a180 : (List.range' 180 15).all am_okm = true := by decide +kernel
set_option maxRecDepth 100000 in
theorem okm_a195 : (List.range' 195 15).all am_okm = true := by decide +kernel
set_option maxRecDepth 100000 in
theorem okm_a210 : (List.range' 210 15).all am_okm = true := by decide +kernel
