set_option maxRecDepth 100000 in
theorem ok_225_0 : ((am_rw225.drop 0).take 220).all (am_ok (am_mi 225)) = true := by decide +kernel
