set_option maxRecDepth 100000 in
theorem ok_225 : am_rw225.all (am_ok (am_mi 225)) = true := by
  have e : ∀ (l : List (Nat × am_R)) (k : Nat), l.all (am_ok (am_mi 225)) = ((l.take k).all (am_ok (am_mi 225)) && (l.drop k).all (am_ok (am_mi 225))) := fun l k => by rw [← List.all_append, List.take_append_drop]
  rw [e _ 220, show (am_rw225.take 220).all _ = true from ok_225_0, Bool.true_and]
  rw [e _ 220, show ((am_rw225.drop 220).take 220).all _ = true from ok_225_1, Bool.true_and]
  rw [e _ 220, List.drop_drop, show ((am_rw225.drop 440).take 220).all _ = true from ok_225_2, Bool.true_and]
  rw [e _ 220, List.drop_drop, show ((am_rw225.drop 660).take 220).all _ = true from ok_225_3, Bool.true_and]
  decide +kernel
