set_option maxRecDepth 100000 in
theorem ok_225_2 : ((am_rw225.drop 440).take 220).all (am_ok (am_mi 225)) = true := by decide +kernel
