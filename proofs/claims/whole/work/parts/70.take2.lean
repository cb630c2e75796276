/-! Ship.take -/
theorem ShV.keep {m m' : am_M} {b : Nat} {S : Nat → Int32} {L : Int64} (v : ShV m b S L) (hm : ∀ x, b ≤ x → x < b + 66 → mI m' x = mI m x) (hl : mL m' b = mL m b) : ShV m' b S L :=
  ⟨fun i hi => (v.la hi).mem (hm _ (by omega) (by omega)) (hm _ (by omega) (by omega)), v.lo.mem fun k hk => hm _ (by omega) (by omega), v.ac.mem fun k hk => hm _ (by omega) (by omega), v.pl.mem fun k hk => hm _ (by omega) (by omega), v.ash.mem (hm _ (by omega) (by omega)) (hm _ (by omega) (by omega)), v.dep.mem (hm _ (by omega) (by omega)) (hm _ (by omega) (by omega)), v.sc.mem (hm _ (by omega) (by omega)) hl⟩
theorem LoV.copy {m m' : am_M} {o p : Nat} {S : Nat → Int32} (v : LoV m p S) (hN : NmOk S) (h1 : ∀ r, 1 ≤ r → r ≤ 9 → ∀ j, j < nm S → mI m' (o + r) j = mI m (p + r) j) (h2 : mI m' o 9 = nI (nm S)) : LoV m' o S := by
  refine ⟨by rw [h2]; exact hN.1.symm, fun l hl => ?_⟩
  rw [h1 1 (by omega) (by omega) l hl, h1 2 (by omega) (by omega) l hl, h1 3 (by omega) (by omega) l hl, h1 4 (by omega) (by omega) l hl, h1 5 (by omega) (by omega) l hl, h1 6 (by omega) (by omega) l hl, h1 7 (by omega) (by omega) l hl, h1 8 (by omega) (by omega) l hl, h1 9 (by omega) (by omega) l hl]
  exact v.2 l hl
theorem rgI_lt (t n j : Nat) : rgI t n j < 100 := by unfold rgI; omega
theorem AcV.copy {m m' : am_M} {o p : Nat} {S : Nat → Int32} (v : AcV m p S) (h1 : ∀ r, 1 ≤ r → r ≤ 4 → ∀ j, j < 100 → mI m' (o + r) j = mI m (p + r) j) (h2 : mI m' o 4 = mI m p 4) (h3 : mI m' o 5 = mI m p 5) : AcV m' o S := by
  obtain ⟨v1, t, t1, t2, v4⟩ := v
  refine ⟨by rw [h2]; exact v1, t, t1, by rw [h3]; exact t2, fun j hj => ?_⟩
  have hr := rgI_lt t (ak S) j
  rw [h1 1 (by omega) (by omega) _ hr, h1 2 (by omega) (by omega) _ hr, h1 3 (by omega) (by omega) _ hr, h1 4 (by omega) (by omega) _ hr]
  exact v4 j hj
theorem fstR_congr {f g : Nat → Bool} : ∀ r k, (∀ p, k ≤ p → p < k + r → f p = g p) → fstR f r k = fstR g r k := by
  intro r
  induction r with
  | zero => intro k _; rfl
  | succ r ih =>
    intro k h
    rw [fstR, fstR, h k (by omega) (by omega), ih (k + 1) (fun p a b => h p (by omega) (by omega))]
theorem PlV.copy {m m' : am_M} {o p : Nat} {S : Nat → Int32} (v : PlV m p S) (h1 : ∀ r, 1 ≤ r → r ≤ 3 → ∀ j, j < 6 → mI m' (o + r) j = mI m (p + r) j) (h2 : mI m' o 3 = mI m p 3) : PlV m' o S := by
  obtain ⟨n, n1, n2, n3, n4⟩ := v
  refine ⟨n, n1, by rw [h2]; exact n2, fun j hj => by rw [h1 1 (by omega) (by omega) j (by omega)]; exact n3 j hj, fun l hl => ?_⟩
  have := n4 l hl
  have e : fstR (fun j => decide (mI m' (o + 1) j = nI l)) n 0 = fstR (fun j => decide (mI m (p + 1) j = nI l)) n 0 := fstR_congr _ _ fun j _ hj => by rw [h1 1 (by omega) (by omega) j (by omega)]
  rw [e]
  cases hf : fstR (fun j => decide (mI m (p + 1) j = nI l)) n 0 with
  | none => rw [hf] at this; exact this
  | some j =>
    rw [hf] at this
    have hj := (fstR_some _ _ _ hf).2.1
    show S (5300 + l) = mI m' (o + 2) j ∧ S (5700 + l) = mI m' (o + 3) j
    rw [h1 2 (by omega) (by omega) j (by omega), h1 3 (by omega) (by omega) j (by omega)]
    exact this
theorem RwV.copy {m m' : am_M} {o p b c : Nat} {S : Nat → Int32} (v : RwV m p S b c) (hM : MvOk S c) (h1 : ∀ j, j < (S c).toNatClampNeg → mI m' (o + 1) j = mI m (p + 1) j) (h2 : mI m' o 1 = nI (S c).toNatClampNeg) : RwV m' o S b c :=
  ⟨by rw [h2]; exact hM.1.symm, fun j hj => by rw [h1 j hj]; exact v.2 j hj⟩
theorem sp_64 {d a b : Nat} {m : am_M} {S : Nat → Int32} {L : Int64} (k : ShK m a) (kb : ShK m b) (v : ShV m b S L) (W : Wf S) (hab : a + 66 ≤ b ∨ b + 66 ≤ a) : ∃ m', cal (d + 2) 64 [.ref a, .ref b] m = some (none, m') ∧ Fr a m m' ∧ ShV m' a S L := by
  have n2 := W.nm.2
  obtain ⟨m1, e1, c1, l1⟩ := sp_64_loop (d := d) hab W.ln v 20 0 m rfl k kb (Ch.refl _ m) (fun j hj => by omega)
  have C1 : Ch (fun x => a ≤ x ∧ x < a + 66) m m1 := c1.mono (fun x hx => by omega)
  have ka1 := k.fr C1.fr
  have kb1 := kb.fr C1.fr
  have v1 : ShV m1 b S L := v.keep (fun x x1 x2 => C1.i (by omega)) (by rw [C1.2.2.2.2.1])
  -- loads
  obtain ⟨m2, e2, c2, l2, l2'⟩ := sp_29 (d := d + 1) ka1.lo kb1.lo (by omega) (n := nm S) (by rw [v1.lo.1]; exact W.nm.1) n2
  have C2 : Ch (fun x => a ≤ x ∧ x < a + 66) m1 m2 := c2.mono (fun x hx => by omega)
  have ka2 := ka1.fr C2.fr
  have kb2 := kb1.fr C2.fr
  have v2 : ShV m2 b S L := v1.keep (fun x x1 x2 => C2.i (by omega)) (by rw [C2.2.2.2.2.1])
  have lo2 : LoV m2 (a + 2) S := v1.lo.copy W.nm l2 l2'
  -- acts
  obtain ⟨m3, e3, c3, l3, l3', l3''⟩ := sp_4 (d := d + 1) ka2.ac kb2.ac (by omega)
  have C3 : Ch (fun x => a ≤ x ∧ x < a + 66) m2 m3 := c3.mono (fun x hx => by omega)
  have ka3 := ka2.fr C3.fr
  have kb3 := kb2.fr C3.fr
  have v3 : ShV m3 b S L := v2.keep (fun x x1 x2 => C3.i (by omega)) (by rw [C3.2.2.2.2.1])
  have ac3 : AcV m3 (a + 12) S := v2.ac.copy l3 l3' l3''
  -- plan
  obtain ⟨m4, e4, c4, l4, l4'⟩ := sp_36 (d := d + 1) ka3.pl kb3.pl (by omega)
  have C4 : Ch (fun x => a ≤ x ∧ x < a + 66) m3 m4 := c4.mono (fun x hx => by omega)
  have ka4 := ka3.fr C4.fr
  have kb4 := kb3.fr C4.fr
  have v4 : ShV m4 b S L := v3.keep (fun x x1 x2 => C4.i (by omega)) (by rw [C4.2.2.2.2.1])
  have pl4 : PlV m4 (a + 17) S := v3.pl.copy l4 l4'
  -- rows
  obtain ⟨m5, e5, c5, l5, l5'⟩ := sp_62 (d := d + 1) ka4.ash kb4.ash (by omega) (n := (S 6505).toNatClampNeg) (by rw [v4.ash.1]; exact W.m1.1) W.m1.2
  have C5 : Ch (fun x => a ≤ x ∧ x < a + 66) m4 m5 := c5.mono (fun x hx => by omega)
  have ka5 := ka4.fr C5.fr
  have kb5 := kb4.fr C5.fr
  have v5 : ShV m5 b S L := v4.keep (fun x x1 x2 => C5.i (by omega)) (by rw [C5.2.2.2.2.1])
  have as5 : RwV m5 (a + 21) S 4500 6505 := v4.ash.copy W.m1 l5 l5'
  obtain ⟨m6, e6, c6, l6, l6'⟩ := sp_62 (d := d + 1) ka5.dep kb5.dep (by omega) (n := (S 6506).toNatClampNeg) (by rw [v5.dep.1]; exact W.m2.1) W.m2.2
  have C6 : Ch (fun x => a ≤ x ∧ x < a + 66) m5 m6 := c6.mono (fun x hx => by omega)
  have ka6 := ka5.fr C6.fr
  have kb6 := kb5.fr C6.fr
  have v6 : ShV m6 b S L := v5.keep (fun x x1 x2 => C6.i (by omega)) (by rw [C6.2.2.2.2.1])
  have de6 : RwV m6 (a + 23) S 4900 6506 := v5.dep.copy W.m2 l6 l6'
  obtain ⟨s1, s2, s3, s4⟩ := v6.sc
  have F6 : Fr a m m6 := ((((C1.fr.trans C2.fr).trans C3.fr).trans C4.fr).trans C5.fr).trans C6.fr
  have hne : ¬ b = a := by omega
  have hI : ∀ f, mI (sA m6 a f) b = mI m6 b := fun f => I_sA' _ _ hne
  refine ⟨sL (sA m6 a (up1 (up1 (up1 (mI m6 a) 6 (S 6504)) 7 (S 6503)) 9 (S 6502))) a 8 L, ?_, (F6.sA (by omega) (by omega)).sL (by omega) (by omega), ?_⟩
  · simp only [c64, e64_0, e64_1, e64_3, e64_5, e64_8, e64_9, e64_12, e64_13, e64_14, e64_15, e64_18, e64_19, e64_20, e64_23, e64_26, e64_30, e64_33, e64_34, e64_37, e64_40, e64_41, e64_44, e64_45, e64_48, e64_51, e64_52, e64_55, e64_56, e64_59, e64_62, e64_63, e64_66, e64_67, e64_70, e64_73, e64_74, e64_77, e64_78, e64_81, e64_84, e64_85, e64_86, e64_89, e64_92, e64_93, e64_94, e64_97, e64_100, e64_101, e64_102, e64_105, e64_108, e64_109, e64_110, e64_113, e64_116, am_k_some, va_rf_some, va_rf_none, tl_some, tl_none, am_clr_int, am_clr_ref, am_clr_none, am_clr_long, am_w_nil, am_w_int, am_w_ref, am_w_long, am_w_null, am_bb_0, am_bb_1, am_bb_bI, xK_sI, xR_sI, xS_sI, xN_sI, xK_sL, xR_sL, xS_sL, xN_sL, xK_sR, xR_sR, xS_sR, xN_sR, xK_sA, xR_sA, xS_sA, xN_sA, Nat.reduceAdd, Nat.reduceLeDiff, sI_sA, I_sA', sA_sA, I_sA, I_sA', nI_add, mul_nI, bI_0, bI_1]
    rw [e1]
    simp (disch := first | (simp (disch := omega) only [am_k_some, va_rf_some, va_rf_none, tl_some, tl_none, am_clr_int, am_clr_ref, am_clr_none, am_clr_long, am_w_nil, am_w_int, am_w_ref, am_w_long, am_w_null, am_bb_0, am_bb_1, am_bb_bI, xK_sI, xR_sI, xS_sI, xN_sI, xK_sL, xR_sL, xS_sL, xN_sL, xK_sR, xR_sR, xS_sR, xN_sR, xK_sA, xR_sA, xS_sA, xN_sA, Nat.reduceAdd, Nat.reduceLeDiff, sI_sA, I_sA', sA_sA, I_sA, I_sA', nI_add, mul_nI, bI_0, bI_1, ka1.k, ka1.r1, ka1.lo.k, kb1.k, kb1.r1, kb1.lo.k, ka2.k, ka2.r2, ka2.ac.k, kb2.k, kb2.r2, kb2.ac.k, ka3.k, ka3.r3, ka3.pl.k, kb3.k, kb3.r3, kb3.pl.k, ka4.k, ka4.r4, ka4.ash.k, kb4.k, kb4.r4, kb4.ash.k, ka5.k, ka5.r5, ka5.dep.k, kb5.k, kb5.r5, kb5.dep.k, ka6.k, kb6.k, ix_nI, cl_nI]; done) | omega | assumption) only [e64_0, e64_1, e64_3, e64_5, e64_8, e64_9, e64_12, e64_13, e64_14, e64_15, e64_18, e64_19, e64_20, e64_23, e64_26, e64_29, e64_30, e64_33, e64_34, e64_37, e64_40, e64_41, e64_44, e64_45, e64_48, e64_51, e64_52, e64_55, e64_56, e64_59, e64_62, e64_63, e64_66, e64_67, e64_70, e64_73, e64_74, e64_77, e64_78, e64_81, e64_84, e64_85, e64_86, e64_89, e64_92, e64_93, e64_94, e64_97, e64_100, e64_101, e64_102, e64_105, e64_108, e64_109, e64_110, e64_113, e64_116, am_k_some, va_rf_some, va_rf_none, tl_some, tl_none, am_clr_int, am_clr_ref, am_clr_none, am_clr_long, am_w_nil, am_w_int, am_w_ref, am_w_long, am_w_null, am_bb_0, am_bb_1, am_bb_bI, xK_sI, xR_sI, xS_sI, xN_sI, xK_sL, xR_sL, xS_sL, xN_sL, xK_sR, xR_sR, xS_sR, xN_sR, xK_sA, xR_sA, xS_sA, xN_sA, Nat.reduceAdd, Nat.reduceLeDiff, sI_sA, I_sA', sA_sA, I_sA, I_sA', nI_add, mul_nI, bI_0, bI_1, ka1.k, ka1.r1, kb1.k, kb1.r1, ka2.k, ka2.r2, kb2.k, kb2.r2, ka3.k, ka3.r3, kb3.k, kb3.r3, ka4.k, ka4.r4, kb4.k, kb4.r4, ka5.k, ka5.r5, kb5.k, kb5.r5, ka6.k, kb6.k, e2, e3, e4, e5, e6, s1, s2, s3, s4, hI, xL_sA, xL_sL, mI_sL, sA_sL, hne, false_and, if_false]
  · have hm : ∀ x, x ≠ a → mI (sL (sA m6 a (up1 (up1 (up1 (mI m6 a) 6 (S 6504)) 7 (S 6503)) 9 (S 6502))) a 8 L) x = mI m6 x := fun x hx => by rw [mI_sL, I_sA' _ _ hx]
    refine ⟨fun i hi => ?_, ?_, ?_, ?_, ?_, ?_, ?_⟩
    · refine (l1 i hi).mem ?_ ?_
      · rw [hm _ (by omega), c6.i (by omega), c5.i (by omega), c4.i (by omega), c3.i (by omega), c2.i (by omega)]
      · rw [hm _ (by omega), c6.i (by omega), c5.i (by omega), c4.i (by omega), c3.i (by omega), c2.i (by omega)]
    · refine lo2.mem fun j hj => ?_
      rw [hm _ (by omega), c6.i (by omega), c5.i (by omega), c4.i (by omega), c3.i (by omega)]
    · refine ac3.mem fun j hj => ?_
      rw [hm _ (by omega), c6.i (by omega), c5.i (by omega), c4.i (by omega)]
    · refine pl4.mem fun j hj => ?_
      rw [hm _ (by omega), c6.i (by omega), c5.i (by omega)]
    · refine as5.mem ?_ ?_
      · rw [hm _ (by omega), c6.i (by omega)]
      · rw [hm _ (by omega), c6.i (by omega)]
    · exact de6.mem (hm _ (by omega)) (hm _ (by omega))
    · unfold ScV
      rw [mI_sL, I_sA, xL_sL, if_pos ⟨rfl, rfl⟩]
      exact ⟨by simp [up1], by simp [up1], rfl, by simp [up1]⟩
