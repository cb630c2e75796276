set_option maxRecDepth 100000 in
theorem ok_161 : am_rw161.all (am_ok (am_mi 161)) = true := by decide +kernel
set_option maxRecDepth 100000 in
theorem ok_162 : am_rw162.all (am_ok (am_mi 162)) = true := by decide +kernel
set_option maxRecDepth 100000 in
theorem ok_163 : am_rw163.all (am_ok (am_mi 163)) = true := by decide +kernel
set_option maxRecDepth 100000 in
theorem ok_164 : am_rw164.all (am_ok (am_mi 164)) = true := by decide +kernel
set_option maxRecDepth 100000 in
theorem ok_165 : am_rw165.all (am_ok (am_mi 165)) = true := by decide +kernel
set_option maxRecDepth 100000 in
theorem ok_166 : am_rw166.all (am_ok (am_mi 166)) = true := by decide +kernel
set_option maxRecDepth 100000 in
theorem ok_167 : am_rw167.all (am_ok (am_mi 167)) = true := by decide +kernel
set_option maxRecDepth 100000 in
theorem ok_168 : am_rw168.all (am_ok (am_mi 168)) = true := by decide +kernel
set_option maxRecDepth 100000 in
theorem ok_169 : am_rw169.all (am_ok (am_mi 169)) = true := by decide +kernel
set_option maxRecDepth 100000 in
theorem ok_170 : am_rw170.all (am_ok (am_mi 170)) = true := by decide +kernel
set_option maxRecDepth 100000 in
theorem ok_171 : am_rw171.all (am_ok (am_mi 171)) = true := by decide +kernel
set_option maxRecDepth 100000 in
theorem ok_172 : am_rw172.all (am_ok (am_mi 172)) = true := by decide +kernel
set_option maxRecDepth 100000 in
theorem ok_173 : am_rw173.all (am_ok (am_mi 173)) = true := by decide +kernel
set_option maxRecDepth 100000 in
theorem ok_174 : am_rw174.all (am_ok (am_mi 174)) = true := by decide +kernel
