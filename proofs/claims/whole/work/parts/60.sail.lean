/-! setSail and what it looks at -/
def reM (m : am_M) (R : Nat) (a b c e : Int64) : am_M := sL (sL (sL (sL m R 0 a) R 1 b) R 2 c) R 3 e
theorem sp_57 {d R : Nat} {a b c e : Int64} {m : am_M} (kr : mK m R = (1, 6, 0)) : cal d 57 [.ref R, .long a, .long b, .long c, .long e] m = some (none, reM m R a b c e) := by
  unfold reM
  simp (disch := first | (simp (disch := omega) only [am_k_some, va_rf_some, va_rf_none, tl_some, tl_none, am_clr_int, am_clr_ref, am_clr_none, am_clr_long, am_w_nil, am_w_int, am_w_ref, am_w_long, am_w_null, am_bb_0, am_bb_1, am_bb_bI, xK_sI, xR_sI, xS_sI, xN_sI, xK_sL, xR_sL, xS_sL, xN_sL, xK_sR, xR_sR, xS_sR, xN_sR, xK_sA, xR_sA, xS_sA, xN_sA, Nat.reduceAdd, Nat.reduceLeDiff, sI_sA, I_sA', sA_sA, I_sA, I_sA', nI_add, mul_nI, bI_0, bI_1, kr]; done) | omega) only [c57, e57_0, e57_1, e57_2, e57_5, e57_6, e57_7, e57_10, e57_11, e57_13, e57_16, e57_17, e57_19, e57_22, am_k_some, va_rf_some, va_rf_none, tl_some, tl_none, am_clr_int, am_clr_ref, am_clr_none, am_clr_long, am_w_nil, am_w_int, am_w_ref, am_w_long, am_w_null, am_bb_0, am_bb_1, am_bb_bI, xK_sI, xR_sI, xS_sI, xN_sI, xK_sL, xR_sL, xS_sL, xN_sL, xK_sR, xR_sR, xS_sR, xN_sR, xK_sA, xR_sA, xS_sA, xN_sA, Nat.reduceAdd, Nat.reduceLeDiff, sI_sA, I_sA', sA_sA, I_sA, I_sA', nI_add, mul_nI, bI_0, bI_1, kr]
theorem reM_I (m : am_M) (R : Nat) (a b c e : Int64) : mI (reM m R a b c e) = mI m := rfl
theorem reM_0 (m : am_M) (R : Nat) (a b c e : Int64) : mL (reM m R a b c e) R 0 = a := by unfold reM; simp [xL_sL]
theorem reM_1 (m : am_M) (R : Nat) (a b c e : Int64) : mL (reM m R a b c e) R 1 = b := by unfold reM; simp [xL_sL]
theorem reM_2 (m : am_M) (R : Nat) (a b c e : Int64) : mL (reM m R a b c e) R 2 = c := by unfold reM; simp [xL_sL]
theorem reM_3 (m : am_M) (R : Nat) (a b c e : Int64) : mL (reM m R a b c e) R 3 = e := by unfold reM; simp [xL_sL]
theorem reM_off (m : am_M) {R x : Nat} (a b c e : Int64) (h : x ≠ R) : mL (reM m R a b c e) x = mL m x := by
  funext y
  unfold reM
  simp only [xL_sL, h, false_and, if_false]
/-- a ship's cells and a reason's -/
def FrR (a R : Nat) (m m' : am_M) : Prop := mS m' = mS m ∧ mN m' = mN m ∧ mK m' = mK m ∧ mR m' = mR m ∧ ∀ x, (x < a ∨ a + 66 ≤ x) → x ≠ R → mI m' x = mI m x ∧ mL m' x = mL m x
theorem FrR.refl (a R : Nat) (m : am_M) : FrR a R m m := ⟨rfl, rfl, rfl, rfl, fun _ _ _ => ⟨rfl, rfl⟩⟩
theorem FrR.trans {a R : Nat} {m1 m2 m3 : am_M} (h : FrR a R m1 m2) (g : FrR a R m2 m3) : FrR a R m1 m3 := ⟨g.1.trans h.1, g.2.1.trans h.2.1, g.2.2.1.trans h.2.2.1, g.2.2.2.1.trans h.2.2.2.1, fun x hx hR => ⟨(g.2.2.2.2 x hx hR).1.trans (h.2.2.2.2 x hx hR).1, (g.2.2.2.2 x hx hR).2.trans (h.2.2.2.2 x hx hR).2⟩⟩
theorem FrR.re {a R : Nat} (m : am_M) (x b c e : Int64) : FrR a R m (reM m R x b c e) := ⟨rfl, rfl, rfl, rfl, fun _ _ hR => ⟨rfl, reM_off m x b c e hR⟩⟩
theorem Fr.r {a : Nat} {m m' : am_M} (h : Fr a m m') (R : Nat) : FrR a R m m' := ⟨h.1, h.2.1, h.2.2.1, h.2.2.2.1, fun x hx _ => h.2.2.2.2 x hx⟩
theorem ShK.frR {a b R : Nat} {m m' : am_M} (k : ShK m a) (h : FrR b R m m') : ShK m' a := by
  obtain ⟨-, -, h1, h2, -⟩ := h
  simpa only [ShK, LaK, LoK, AcK, PlK, RoK, h1, h2] using k
theorem ShV.re {a R : Nat} {m : am_M} {S : Nat → Int32} {L : Int64} (v : ShV m a S L) (hR : R < a ∨ a + 66 ≤ R) (x b c e : Int64) : ShV (reM m R x b c e) a S L := by
  refine ⟨v.1, v.2.1, v.2.2.1, v.2.2.2.1, v.2.2.2.2.1, v.2.2.2.2.2.1, v.sc.mem rfl ?_⟩
  exact reM_off _ _ _ _ _ (by omega)
theorem ShV.gate {a : Nat} {m : am_M} {S F : Nat → Int32} {L : Int64} (v : ShV m a S L) : ShV (sA m (a + 25) F) a S L := by
  have hm : ∀ x, x ≠ a + 25 → mI (sA m (a + 25) F) x = mI m x := fun x hx => I_sA' _ _ hx
  exact ⟨fun i hi => (v.la hi).mem (hm _ (by omega)) (hm _ (by omega)), v.lo.mem fun k hk => hm _ (by omega), v.ac.mem fun k hk => hm _ (by omega), v.pl.mem fun k hk => hm _ (by omega), v.ash.mem (hm _ (by omega)) (hm _ (by omega)), v.dep.mem (hm _ (by omega)) (hm _ (by omega)), v.sc.mem (hm _ (by omega)) rfl⟩
theorem dy_ok {S : Nat → Int32} (hY : DyOk S) : S 6503 = nI (S 6503).toNatClampNeg ∧ 1 ≤ (S 6503).toNatClampNeg ∧ (S 6503).toNatClampNeg ≤ 12 := by
  obtain ⟨⟨n, y1, y2, y3⟩, -⟩ := hY
  rw [y1, cl_nI (by omega)]
  exact ⟨rfl, y2, y3⟩
theorem sp_77_loop {d a : Nat} {g : Int32} {m : am_M} {S : Nat → Int32} {L : Int64} (k : ShK m a) (v : ShV m a S L) (W : Wf S) : ∀ r j, j + r = nm S →
    ev (d + 2) 77 5 [some (.ref a), some (.int g), some (.long (ltS S g j)), none, some (.int (nI j))] [] m = some (some (.long (ltS S g (nm S))), m) := by
  have n2 := W.nm.2
  have ko := k.lo
  have hc : mI m (a + 2) 9 = nI (nm S) := by rw [v.lo.1]; exact W.nm.1
  intro r
  induction r with
  | zero =>
    intro j hj
    have hj' : j = nm S := by omega
    have hnl : ¬ j < nm S := by omega
    rw [e77_5]
    simp (disch := first | (simp (disch := omega) only [am_k_some, va_rf_some, va_rf_none, tl_some, tl_none, am_clr_int, am_clr_ref, am_clr_none, am_clr_long, am_w_nil, am_w_int, am_w_ref, am_w_long, am_w_null, am_bb_0, am_bb_1, am_bb_bI, xK_sI, xR_sI, xS_sI, xN_sI, xK_sL, xR_sL, xS_sL, xN_sL, xK_sR, xR_sR, xS_sR, xN_sR, xK_sA, xR_sA, xS_sA, xN_sA, Nat.reduceAdd, Nat.reduceLeDiff, sI_sA, I_sA', sA_sA, I_sA, I_sA', nI_add, mul_nI, bI_0, bI_1, k.k, k.r0, k.k0, k.rl, k.r1, ko.k, ko.r2, ko.k2, ko.r3, ko.k3, ko.r7, ko.k7, ix_nI, cl_nI]; done) | omega | assumption) only [e77_0, e77_1, e77_2, e77_3, e77_7, e77_8, e77_11, e77_14, e77_17, e77_18, e77_21, e77_23, e77_26, e77_29, e77_30, e77_33, e77_36, e77_38, e77_39, e77_40, e77_43, e77_44, e77_45, e77_48, e77_51, e77_53, e77_54, e77_55, e77_56, e77_59, e77_60, e77_63, e77_66, e77_68, e77_69, e77_70, e77_73, e77_74, e77_75, e77_76, e77_77, e77_80, e77_83, e77_84, am_k_some, va_rf_some, va_rf_none, tl_some, tl_none, am_clr_int, am_clr_ref, am_clr_none, am_clr_long, am_w_nil, am_w_int, am_w_ref, am_w_long, am_w_null, am_bb_0, am_bb_1, am_bb_bI, xK_sI, xR_sI, xS_sI, xN_sI, xK_sL, xR_sL, xS_sL, xN_sL, xK_sR, xR_sR, xS_sR, xN_sR, xK_sA, xR_sA, xS_sA, xN_sA, Nat.reduceAdd, Nat.reduceLeDiff, sI_sA, I_sA', sA_sA, I_sA, I_sA', nI_add, mul_nI, bI_0, bI_1, k.k, k.r0, k.k0, k.rl, k.r1, ko.k, ko.r2, ko.k2, ko.r3, ko.k3, ko.r7, ko.k7, ix_nI, cl_nI, lt_nI, eq_nI, sub_nI, Nat.reduceEqDiff, Nat.one_ne_zero, Nat.not_lt_zero, ↓reduceIte, hc, hnl]
    rw [hj']
  | succ r ih =>
    intro j hj
    have hnl : j < nm S := by omega
    have ih := ih (j + 1) (by omega)
    rw [ltS] at ih
    obtain ⟨w1, w2, w3, w4, w5, w6, w7, w8, w9⟩ := v.lo.2 j hnl
    have ab := sp_30v (d := d) ko hc n2 hnl
    rw [w7] at ab
    rw [e77_5]
    by_cases h1 : S (3300 + j) = nI 1
    · rw [decide_eq_true h1] at ab
      by_cases h2 : S (2100 + j) < g
      · simp only [h1, h2, not_true_eq_false, and_false, if_false] at ih
        simp (disch := first | (simp (disch := omega) only [am_k_some, va_rf_some, va_rf_none, tl_some, tl_none, am_clr_int, am_clr_ref, am_clr_none, am_clr_long, am_w_nil, am_w_int, am_w_ref, am_w_long, am_w_null, am_bb_0, am_bb_1, am_bb_bI, xK_sI, xR_sI, xS_sI, xN_sI, xK_sL, xR_sL, xS_sL, xN_sL, xK_sR, xR_sR, xS_sR, xN_sR, xK_sA, xR_sA, xS_sA, xN_sA, Nat.reduceAdd, Nat.reduceLeDiff, sI_sA, I_sA', sA_sA, I_sA, I_sA', nI_add, mul_nI, bI_0, bI_1, k.k, k.r0, k.k0, k.rl, k.r1, ko.k, ko.r2, ko.k2, ko.r3, ko.k3, ko.r7, ko.k7, ix_nI, cl_nI]; done) | omega | assumption) only [e77_0, e77_1, e77_2, e77_3, e77_7, e77_8, e77_11, e77_14, e77_17, e77_18, e77_21, e77_23, e77_26, e77_29, e77_30, e77_33, e77_36, e77_38, e77_39, e77_40, e77_43, e77_44, e77_45, e77_48, e77_51, e77_53, e77_54, e77_55, e77_56, e77_59, e77_60, e77_63, e77_66, e77_68, e77_69, e77_70, e77_73, e77_74, e77_75, e77_76, e77_77, e77_80, e77_83, e77_84, am_k_some, va_rf_some, va_rf_none, tl_some, tl_none, am_clr_int, am_clr_ref, am_clr_none, am_clr_long, am_w_nil, am_w_int, am_w_ref, am_w_long, am_w_null, am_bb_0, am_bb_1, am_bb_bI, xK_sI, xR_sI, xS_sI, xN_sI, xK_sL, xR_sL, xS_sL, xN_sL, xK_sR, xR_sR, xS_sR, xN_sR, xK_sA, xR_sA, xS_sA, xN_sA, Nat.reduceAdd, Nat.reduceLeDiff, sI_sA, I_sA', sA_sA, I_sA, I_sA', nI_add, mul_nI, bI_0, bI_1, k.k, k.r0, k.k0, k.rl, k.r1, ko.k, ko.r2, ko.k2, ko.r3, ko.k3, ko.r7, ko.k7, ix_nI, cl_nI, lt_nI, eq_nI, sub_nI, Nat.reduceEqDiff, Nat.one_ne_zero, Nat.not_lt_zero, ↓reduceIte, k1, k2, k3, k4, k5, k6, k7, k8, k9, n10, n01, if_true, if_false, decide_true, decide_false, Bool.true_eq_false, Bool.false_eq_true, not_true_eq_false, not_false_eq_true, and_true, true_and, and_false, false_and, hc, hnl, ab, bI_t, w4, h2, ih]
      · rcases W.w j hnl with ⟨z, -⟩ | ⟨i, q, hs⟩
        · rw [h1] at z; exfalso; revert z; decide
        obtain ⟨s1, s2, s3, hi, s5, -⟩ := hs
        have kl := k.la i hi
        have hof := ((v.la hi).2.1 s5).2.1
        rw [s2] at w8
        rw [s2, cl_nI (by omega)] at ih
        simp only [h1, h2, not_false_eq_true, and_self, if_true] at ih
        simp (disch := first | (simp (disch := omega) only [am_k_some, va_rf_some, va_rf_none, tl_some, tl_none, am_clr_int, am_clr_ref, am_clr_none, am_clr_long, am_w_nil, am_w_int, am_w_ref, am_w_long, am_w_null, am_bb_0, am_bb_1, am_bb_bI, xK_sI, xR_sI, xS_sI, xN_sI, xK_sL, xR_sL, xS_sL, xN_sL, xK_sR, xR_sR, xS_sR, xN_sR, xK_sA, xR_sA, xS_sA, xN_sA, Nat.reduceAdd, Nat.reduceLeDiff, sI_sA, I_sA', sA_sA, I_sA, I_sA', nI_add, mul_nI, bI_0, bI_1, k.k, k.r0, k.k0, k.rl, k.r1, ko.k, ko.r2, ko.k2, ko.r3, ko.k3, ko.r7, ko.k7, kl.k, ix_nI, cl_nI]; done) | omega | assumption) only [e77_0, e77_1, e77_2, e77_3, e77_7, e77_8, e77_11, e77_14, e77_17, e77_18, e77_21, e77_23, e77_26, e77_29, e77_30, e77_33, e77_36, e77_38, e77_39, e77_40, e77_43, e77_44, e77_45, e77_48, e77_51, e77_53, e77_54, e77_55, e77_56, e77_59, e77_60, e77_63, e77_66, e77_68, e77_69, e77_70, e77_73, e77_74, e77_75, e77_76, e77_77, e77_80, e77_83, e77_84, am_k_some, va_rf_some, va_rf_none, tl_some, tl_none, am_clr_int, am_clr_ref, am_clr_none, am_clr_long, am_w_nil, am_w_int, am_w_ref, am_w_long, am_w_null, am_bb_0, am_bb_1, am_bb_bI, xK_sI, xR_sI, xS_sI, xN_sI, xK_sL, xR_sL, xS_sL, xN_sL, xK_sR, xR_sR, xS_sR, xN_sR, xK_sA, xR_sA, xS_sA, xN_sA, Nat.reduceAdd, Nat.reduceLeDiff, sI_sA, I_sA', sA_sA, I_sA, I_sA', nI_add, mul_nI, bI_0, bI_1, k.k, k.r0, k.k0, k.rl, k.r1, ko.k, ko.r2, ko.k2, ko.r3, ko.k3, ko.r7, ko.k7, ix_nI, cl_nI, lt_nI, eq_nI, sub_nI, Nat.reduceEqDiff, Nat.one_ne_zero, Nat.not_lt_zero, ↓reduceIte, k1, k2, k3, k4, k5, k6, k7, k8, k9, n10, n01, if_true, if_false, decide_true, decide_false, Bool.true_eq_false, Bool.false_eq_true, not_true_eq_false, not_false_eq_true, and_true, true_and, and_false, false_and, hc, hnl, ab, bI_t, w3, w4, h2, w8, kl.k, hof, ih]
    · rw [decide_eq_false h1] at ab
      simp only [h1, false_and, if_false] at ih
      simp (disch := first | (simp (disch := omega) only [am_k_some, va_rf_some, va_rf_none, tl_some, tl_none, am_clr_int, am_clr_ref, am_clr_none, am_clr_long, am_w_nil, am_w_int, am_w_ref, am_w_long, am_w_null, am_bb_0, am_bb_1, am_bb_bI, xK_sI, xR_sI, xS_sI, xN_sI, xK_sL, xR_sL, xS_sL, xN_sL, xK_sR, xR_sR, xS_sR, xN_sR, xK_sA, xR_sA, xS_sA, xN_sA, Nat.reduceAdd, Nat.reduceLeDiff, sI_sA, I_sA', sA_sA, I_sA, I_sA', nI_add, mul_nI, bI_0, bI_1, k.k, k.r0, k.k0, k.rl, k.r1, ko.k, ko.r2, ko.k2, ko.r3, ko.k3, ko.r7, ko.k7, ix_nI, cl_nI]; done) | omega | assumption) only [e77_0, e77_1, e77_2, e77_3, e77_7, e77_8, e77_11, e77_14, e77_17, e77_18, e77_21, e77_23, e77_26, e77_29, e77_30, e77_33, e77_36, e77_38, e77_39, e77_40, e77_43, e77_44, e77_45, e77_48, e77_51, e77_53, e77_54, e77_55, e77_56, e77_59, e77_60, e77_63, e77_66, e77_68, e77_69, e77_70, e77_73, e77_74, e77_75, e77_76, e77_77, e77_80, e77_83, e77_84, am_k_some, va_rf_some, va_rf_none, tl_some, tl_none, am_clr_int, am_clr_ref, am_clr_none, am_clr_long, am_w_nil, am_w_int, am_w_ref, am_w_long, am_w_null, am_bb_0, am_bb_1, am_bb_bI, xK_sI, xR_sI, xS_sI, xN_sI, xK_sL, xR_sL, xS_sL, xN_sL, xK_sR, xR_sR, xS_sR, xN_sR, xK_sA, xR_sA, xS_sA, xN_sA, Nat.reduceAdd, Nat.reduceLeDiff, sI_sA, I_sA', sA_sA, I_sA, I_sA', nI_add, mul_nI, bI_0, bI_1, k.k, k.r0, k.k0, k.rl, k.r1, ko.k, ko.r2, ko.k2, ko.r3, ko.k3, ko.r7, ko.k7, ix_nI, cl_nI, lt_nI, eq_nI, sub_nI, Nat.reduceEqDiff, Nat.one_ne_zero, Nat.not_lt_zero, ↓reduceIte, k1, k2, k3, k4, k5, k6, k7, k8, k9, n10, n01, if_true, if_false, decide_true, decide_false, Bool.true_eq_false, Bool.false_eq_true, not_true_eq_false, not_false_eq_true, and_true, true_and, and_false, false_and, hc, hnl, ab, bI_f, ih]
theorem sp_77 {d a : Nat} {g : Int32} {m : am_M} {S : Nat → Int32} {L : Int64} (k : ShK m a) (v : ShV m a S L) (W : Wf S) : cal (d + 2) 77 [.ref a, .int g] m = some (some (.long (ltS S g (nm S))), m) := by
  have e := sp_77_loop (d := d) (g := g) k v W _ 0 (Nat.zero_add _)
  rw [ltS] at e
  simp only [c77, e77_0, e77_1, e77_2, e77_3, e77_7, e77_8, e77_11, e77_14, e77_17, e77_18, e77_21, e77_23, e77_26, e77_29, e77_30, e77_33, e77_36, e77_38, e77_39, e77_40, e77_43, e77_44, e77_45, e77_48, e77_51, e77_53, e77_54, e77_55, e77_56, e77_59, e77_60, e77_63, e77_66, e77_68, e77_69, e77_70, e77_73, e77_74, e77_75, e77_76, e77_77, e77_80, e77_83, e77_84, am_k_some, va_rf_some, va_rf_none, tl_some, tl_none, am_clr_int, am_clr_ref, am_clr_none, am_clr_long, am_w_nil, am_w_int, am_w_ref, am_w_long, am_w_null, am_bb_0, am_bb_1, am_bb_bI, xK_sI, xR_sI, xS_sI, xN_sI, xK_sL, xR_sL, xS_sL, xN_sL, xK_sR, xR_sR, xS_sR, xN_sR, xK_sA, xR_sA, xS_sA, xN_sA, Nat.reduceAdd, Nat.reduceLeDiff, sI_sA, I_sA', sA_sA, I_sA, I_sA', nI_add, mul_nI, bI_0, bI_1]
  exact e
theorem sp_79_loop {d a R : Nat} {m : am_M} {S : Nat → Int32} {L : Int64} (k : ShK m a) (v : ShV m a S L) (W : Wf S) (kr : mK m R = (1, 6, 0)) : ∀ r j, j + r = nm S →
    ev (d + 2) 79 2 [some (.ref a), some (.ref R), some (.int (nI j))] [] m = match fstR (farB S) r j with | some x => some (some (.int (nI 1)), reM m R (nI x).toInt64 0 0 (-1)) | none => some (some (.int (nI 0)), m) := by
  have n2 := W.nm.2
  have ko := k.lo
  have hc : mI m (a + 2) 9 = nI (nm S) := by rw [v.lo.1]; exact W.nm.1
  have hp : mI m a 7 = S 6503 := v.sc.2.1
  have st := fun x b c e => sp_57 (d := d + 1) (a := x) (b := b) (c := c) (e := e) kr
  intro r
  induction r with
  | zero =>
    intro j hj
    have hnl : ¬ j < nm S := by omega
    rw [e79_2]
    simp (disch := first | (simp (disch := omega) only [am_k_some, va_rf_some, va_rf_none, tl_some, tl_none, am_clr_int, am_clr_ref, am_clr_none, am_clr_long, am_w_nil, am_w_int, am_w_ref, am_w_long, am_w_null, am_bb_0, am_bb_1, am_bb_bI, xK_sI, xR_sI, xS_sI, xN_sI, xK_sL, xR_sL, xS_sL, xN_sL, xK_sR, xR_sR, xS_sR, xN_sR, xK_sA, xR_sA, xS_sA, xN_sA, Nat.reduceAdd, Nat.reduceLeDiff, sI_sA, I_sA', sA_sA, I_sA, I_sA', nI_add, mul_nI, bI_0, bI_1, k.k, k.r0, k.k0, k.rl, k.r1, ko.k, ko.r2, ko.k2, ko.r3, ko.k3, ko.r7, ko.k7, ix_nI, cl_nI]; done) | omega | assumption) only [e79_0, e79_1, e79_3, e79_4, e79_7, e79_10, e79_13, e79_14, e79_17, e79_18, e79_21, e79_24, e79_25, e79_28, e79_31, e79_32, e79_33, e79_34, e79_37, e79_40, e79_41, e79_42, e79_43, e79_44, e79_45, e79_48, e79_51, e79_52, e79_53, e79_56, e79_59, e79_60, am_k_some, va_rf_some, va_rf_none, tl_some, tl_none, am_clr_int, am_clr_ref, am_clr_none, am_clr_long, am_w_nil, am_w_int, am_w_ref, am_w_long, am_w_null, am_bb_0, am_bb_1, am_bb_bI, xK_sI, xR_sI, xS_sI, xN_sI, xK_sL, xR_sL, xS_sL, xN_sL, xK_sR, xR_sR, xS_sR, xN_sR, xK_sA, xR_sA, xS_sA, xN_sA, Nat.reduceAdd, Nat.reduceLeDiff, sI_sA, I_sA', sA_sA, I_sA, I_sA', nI_add, mul_nI, bI_0, bI_1, k.k, k.r0, k.k0, k.rl, k.r1, ko.k, ko.r2, ko.k2, ko.r3, ko.k3, ko.r7, ko.k7, ix_nI, cl_nI, lt_nI, eq_nI, sub_nI, Nat.reduceEqDiff, Nat.one_ne_zero, Nat.not_lt_zero, ↓reduceIte, hc, hnl, fstR]
  | succ r ih =>
    intro j hj
    have hnl : j < nm S := by omega
    have ih := ih (j + 1) (by omega)
    obtain ⟨w1, w2, w3, w4, w5, w6, w7, w8, w9⟩ := v.lo.2 j hnl
    have ab := sp_30v (d := d) ko hc n2 hnl
    rw [w7] at ab
    rw [e79_2, fstR]
    by_cases h1 : S (3300 + j) = nI 1
    · rw [decide_eq_true h1] at ab
      by_cases h2 : S (2100 + j) < S 6503
      · have hf : farB S j = false := by simp [farB, h2]
        rw [hf, if_neg (by decide)]
        simp (disch := first | (simp (disch := omega) only [am_k_some, va_rf_some, va_rf_none, tl_some, tl_none, am_clr_int, am_clr_ref, am_clr_none, am_clr_long, am_w_nil, am_w_int, am_w_ref, am_w_long, am_w_null, am_bb_0, am_bb_1, am_bb_bI, xK_sI, xR_sI, xS_sI, xN_sI, xK_sL, xR_sL, xS_sL, xN_sL, xK_sR, xR_sR, xS_sR, xN_sR, xK_sA, xR_sA, xS_sA, xN_sA, Nat.reduceAdd, Nat.reduceLeDiff, sI_sA, I_sA', sA_sA, I_sA, I_sA', nI_add, mul_nI, bI_0, bI_1, k.k, k.r0, k.k0, k.rl, k.r1, ko.k, ko.r2, ko.k2, ko.r3, ko.k3, ko.r7, ko.k7, ix_nI, cl_nI]; done) | omega | assumption) only [e79_0, e79_1, e79_3, e79_4, e79_7, e79_10, e79_13, e79_14, e79_17, e79_18, e79_21, e79_24, e79_25, e79_28, e79_31, e79_32, e79_33, e79_34, e79_37, e79_40, e79_41, e79_42, e79_43, e79_44, e79_45, e79_48, e79_51, e79_52, e79_53, e79_56, e79_59, e79_60, am_k_some, va_rf_some, va_rf_none, tl_some, tl_none, am_clr_int, am_clr_ref, am_clr_none, am_clr_long, am_w_nil, am_w_int, am_w_ref, am_w_long, am_w_null, am_bb_0, am_bb_1, am_bb_bI, xK_sI, xR_sI, xS_sI, xN_sI, xK_sL, xR_sL, xS_sL, xN_sL, xK_sR, xR_sR, xS_sR, xN_sR, xK_sA, xR_sA, xS_sA, xN_sA, Nat.reduceAdd, Nat.reduceLeDiff, sI_sA, I_sA', sA_sA, I_sA, I_sA', nI_add, mul_nI, bI_0, bI_1, k.k, k.r0, k.k0, k.rl, k.r1, ko.k, ko.r2, ko.k2, ko.r3, ko.k3, ko.r7, ko.k7, ix_nI, cl_nI, lt_nI, eq_nI, sub_nI, Nat.reduceEqDiff, Nat.one_ne_zero, Nat.not_lt_zero, ↓reduceIte, k1, k2, k3, k4, k5, k6, k7, k8, k9, n10, n01, if_true, if_false, decide_true, decide_false, Bool.true_eq_false, Bool.false_eq_true, not_true_eq_false, not_false_eq_true, and_true, true_and, and_false, false_and, hc, hnl, ab, bI_t, w4, hp, h2, ih]
      · have hf : farB S j = true := by simp [farB, h1, h2]
        rw [hf, if_pos rfl]
        simp (disch := first | (simp (disch := omega) only [am_k_some, va_rf_some, va_rf_none, tl_some, tl_none, am_clr_int, am_clr_ref, am_clr_none, am_clr_long, am_w_nil, am_w_int, am_w_ref, am_w_long, am_w_null, am_bb_0, am_bb_1, am_bb_bI, xK_sI, xR_sI, xS_sI, xN_sI, xK_sL, xR_sL, xS_sL, xN_sL, xK_sR, xR_sR, xS_sR, xN_sR, xK_sA, xR_sA, xS_sA, xN_sA, Nat.reduceAdd, Nat.reduceLeDiff, sI_sA, I_sA', sA_sA, I_sA, I_sA', nI_add, mul_nI, bI_0, bI_1, k.k, k.r0, k.k0, k.rl, k.r1, ko.k, ko.r2, ko.k2, ko.r3, ko.k3, ko.r7, ko.k7, kr, ix_nI, cl_nI]; done) | omega | assumption) only [e79_0, e79_1, e79_3, e79_4, e79_7, e79_10, e79_13, e79_14, e79_17, e79_18, e79_21, e79_24, e79_25, e79_28, e79_31, e79_32, e79_33, e79_34, e79_37, e79_40, e79_41, e79_42, e79_43, e79_44, e79_45, e79_48, e79_51, e79_52, e79_53, e79_56, e79_59, e79_60, am_k_some, va_rf_some, va_rf_none, tl_some, tl_none, am_clr_int, am_clr_ref, am_clr_none, am_clr_long, am_w_nil, am_w_int, am_w_ref, am_w_long, am_w_null, am_bb_0, am_bb_1, am_bb_bI, xK_sI, xR_sI, xS_sI, xN_sI, xK_sL, xR_sL, xS_sL, xN_sL, xK_sR, xR_sR, xS_sR, xN_sR, xK_sA, xR_sA, xS_sA, xN_sA, Nat.reduceAdd, Nat.reduceLeDiff, sI_sA, I_sA', sA_sA, I_sA, I_sA', nI_add, mul_nI, bI_0, bI_1, k.k, k.r0, k.k0, k.rl, k.r1, ko.k, ko.r2, ko.k2, ko.r3, ko.k3, ko.r7, ko.k7, ix_nI, cl_nI, lt_nI, eq_nI, sub_nI, Nat.reduceEqDiff, Nat.one_ne_zero, Nat.not_lt_zero, ↓reduceIte, k1, k2, k3, k4, k5, k6, k7, k8, k9, n10, n01, if_true, if_false, decide_true, decide_false, Bool.true_eq_false, Bool.false_eq_true, not_true_eq_false, not_false_eq_true, and_true, true_and, and_false, false_and, hc, hnl, ab, bI_t, w4, hp, h2, st]
    · have hf : farB S j = false := by simp [farB, h1]
      rw [decide_eq_false h1] at ab
      rw [hf, if_neg (by decide)]
      simp (disch := first | (simp (disch := omega) only [am_k_some, va_rf_some, va_rf_none, tl_some, tl_none, am_clr_int, am_clr_ref, am_clr_none, am_clr_long, am_w_nil, am_w_int, am_w_ref, am_w_long, am_w_null, am_bb_0, am_bb_1, am_bb_bI, xK_sI, xR_sI, xS_sI, xN_sI, xK_sL, xR_sL, xS_sL, xN_sL, xK_sR, xR_sR, xS_sR, xN_sR, xK_sA, xR_sA, xS_sA, xN_sA, Nat.reduceAdd, Nat.reduceLeDiff, sI_sA, I_sA', sA_sA, I_sA, I_sA', nI_add, mul_nI, bI_0, bI_1, k.k, k.r0, k.k0, k.rl, k.r1, ko.k, ko.r2, ko.k2, ko.r3, ko.k3, ko.r7, ko.k7, ix_nI, cl_nI]; done) | omega | assumption) only [e79_0, e79_1, e79_3, e79_4, e79_7, e79_10, e79_13, e79_14, e79_17, e79_18, e79_21, e79_24, e79_25, e79_28, e79_31, e79_32, e79_33, e79_34, e79_37, e79_40, e79_41, e79_42, e79_43, e79_44, e79_45, e79_48, e79_51, e79_52, e79_53, e79_56, e79_59, e79_60, am_k_some, va_rf_some, va_rf_none, tl_some, tl_none, am_clr_int, am_clr_ref, am_clr_none, am_clr_long, am_w_nil, am_w_int, am_w_ref, am_w_long, am_w_null, am_bb_0, am_bb_1, am_bb_bI, xK_sI, xR_sI, xS_sI, xN_sI, xK_sL, xR_sL, xS_sL, xN_sL, xK_sR, xR_sR, xS_sR, xN_sR, xK_sA, xR_sA, xS_sA, xN_sA, Nat.reduceAdd, Nat.reduceLeDiff, sI_sA, I_sA', sA_sA, I_sA, I_sA', nI_add, mul_nI, bI_0, bI_1, k.k, k.r0, k.k0, k.rl, k.r1, ko.k, ko.r2, ko.k2, ko.r3, ko.k3, ko.r7, ko.k7, ix_nI, cl_nI, lt_nI, eq_nI, sub_nI, Nat.reduceEqDiff, Nat.one_ne_zero, Nat.not_lt_zero, ↓reduceIte, k1, k2, k3, k4, k5, k6, k7, k8, k9, n10, n01, if_true, if_false, decide_true, decide_false, Bool.true_eq_false, Bool.false_eq_true, not_true_eq_false, not_false_eq_true, and_true, true_and, and_false, false_and, hc, hnl, ab, bI_f, ih]
theorem sp_79 {d a R : Nat} {m : am_M} {S : Nat → Int32} {L : Int64} (k : ShK m a) (v : ShV m a S L) (W : Wf S) (kr : mK m R = (1, 6, 0)) : cal (d + 2) 79 [.ref a, .ref R] m = match fstR (farB S) (nm S) 0 with | some x => some (some (.int (nI 1)), reM m R (nI x).toInt64 0 0 (-1)) | none => some (some (.int (nI 0)), m) := by
  have e := sp_79_loop (d := d) k v W kr _ 0 (Nat.zero_add _)
  simp only [c79, e79_0, e79_1, e79_3, e79_4, e79_7, e79_10, e79_13, e79_14, e79_17, e79_18, e79_21, e79_24, e79_25, e79_28, e79_31, e79_32, e79_33, e79_34, e79_37, e79_40, e79_41, e79_42, e79_43, e79_44, e79_45, e79_48, e79_51, e79_52, e79_53, e79_56, e79_59, e79_60, am_k_some, va_rf_some, va_rf_none, tl_some, tl_none, am_clr_int, am_clr_ref, am_clr_none, am_clr_long, am_w_nil, am_w_int, am_w_ref, am_w_long, am_w_null, am_bb_0, am_bb_1, am_bb_bI, xK_sI, xR_sI, xS_sI, xN_sI, xK_sL, xR_sL, xS_sL, xN_sL, xK_sR, xR_sR, xS_sR, xN_sR, xK_sA, xR_sA, xS_sA, xN_sA, Nat.reduceAdd, Nat.reduceLeDiff, sI_sA, I_sA', sA_sA, I_sA, I_sA', nI_add, mul_nI, bI_0, bI_1]
  exact e
/-- the lean of a leg at the quay -/
theorem lean_q {S : Nat → Int32} (hY : DyOk S) (hs : ¬ S 6501 = nI 1) {j : Nat} (hj : j < (S 6503).toNatClampNeg) : leanA S (nI j) = ltS S (nI j) (nm S) := by
  obtain ⟨d1, d2, d3⟩ := dy_ok hY
  unfold leanA
  rw [if_neg (by rw [lt_nI (by omega) (by omega)]; omega), if_pos (by rw [d1, lt_nI (by omega) (by omega)]; exact hj), if_neg (fun q => hs q.1)]
def lwM (m : am_M) (R j : Nat) (S : Nat → Int32) (L : Int64) : am_M := if L < leanA S (nI j) then reM m R (nI j).toInt64 1 (leanA S (nI j) - L) (-1) else reM m R (nI j).toInt64 (-1) (-L - leanA S (nI j)) (-1)
theorem sp_80_loop {d a R : Nat} {m : am_M} {S : Nat → Int32} {L : Int64} (k : ShK m a) (v : ShV m a S L) (W : Wf S) (kr : mK m R = (1, 6, 0)) (hs : ¬ S 6501 = nI 1) : ∀ r j (x3 x4 : Option Value), j + r = (S 6503).toNatClampNeg →
    ev (d + 3) 80 2 [some (.ref a), some (.ref R), some (.int (nI j)), x3, x4] [] m = match fstR (leB S L) r j with | some x => some (some (.int (nI 1)), lwM m R x S L) | none => some (some (.int (nI 0)), m) := by
  obtain ⟨d1, d2, d3⟩ := dy_ok W.y
  have hp : mI m a 7 = nI (S 6503).toNatClampNeg := by rw [v.sc.2.1]; exact d1
  have hl : mL m a 8 = L := v.sc.2.2.1
  have st := fun x b c e => sp_57 (d := d + 2) (a := x) (b := b) (c := c) (e := e) kr
  intro r
  induction r with
  | zero =>
    intro j x3 x4 hj
    have hnl : ¬ j < (S 6503).toNatClampNeg := by omega
    rw [e80_2]
    simp (disch := first | (simp (disch := omega) only [am_k_some, va_rf_some, va_rf_none, tl_some, tl_none, am_clr_int, am_clr_ref, am_clr_none, am_clr_long, am_w_nil, am_w_int, am_w_ref, am_w_long, am_w_null, am_bb_0, am_bb_1, am_bb_bI, xK_sI, xR_sI, xS_sI, xN_sI, xK_sL, xR_sL, xS_sL, xN_sL, xK_sR, xR_sR, xS_sR, xN_sR, xK_sA, xR_sA, xS_sA, xN_sA, Nat.reduceAdd, Nat.reduceLeDiff, sI_sA, I_sA', sA_sA, I_sA, I_sA', nI_add, mul_nI, bI_0, bI_1, k.k, kr, ix_nI, cl_nI]; done) | omega | assumption) only [e80_0, e80_1, e80_3, e80_4, e80_7, e80_10, e80_11, e80_12, e80_15, e80_16, e80_17, e80_18, e80_21, e80_22, e80_25, e80_26, e80_27, e80_28, e80_29, e80_30, e80_31, e80_34, e80_35, e80_38, e80_41, e80_42, e80_43, e80_44, e80_45, e80_48, e80_49, e80_50, e80_53, e80_54, e80_55, e80_56, e80_59, e80_60, e80_63, e80_64, e80_65, e80_66, e80_69, e80_72, e80_73, e80_74, e80_77, e80_80, e80_81, am_k_some, va_rf_some, va_rf_none, tl_some, tl_none, am_clr_int, am_clr_ref, am_clr_none, am_clr_long, am_w_nil, am_w_int, am_w_ref, am_w_long, am_w_null, am_bb_0, am_bb_1, am_bb_bI, xK_sI, xR_sI, xS_sI, xN_sI, xK_sL, xR_sL, xS_sL, xN_sL, xK_sR, xR_sR, xS_sR, xN_sR, xK_sA, xR_sA, xS_sA, xN_sA, Nat.reduceAdd, Nat.reduceLeDiff, sI_sA, I_sA', sA_sA, I_sA, I_sA', nI_add, mul_nI, bI_0, bI_1, k.k, ix_nI, cl_nI, lt_nI, eq_nI, sub_nI, Nat.reduceEqDiff, Nat.one_ne_zero, Nat.not_lt_zero, ↓reduceIte, hp, hnl, fstR]
  | succ r ih =>
    intro j x3 x4 hj
    have hnl : j < (S 6503).toNatClampNeg := by omega
    have ih := fun x3 x4 => ih (j + 1) x3 x4 (by omega)
    have le := sp_77 (d := d) (g := nI j) k v W
    rw [← lean_q W.y hs hnl] at le
    rw [e80_2, fstR]
    unfold leB lwM
    by_cases h1 : L < leanA S (nI j)
    · simp (disch := first | (simp (disch := omega) only [am_k_some, va_rf_some, va_rf_none, tl_some, tl_none, am_clr_int, am_clr_ref, am_clr_none, am_clr_long, am_w_nil, am_w_int, am_w_ref, am_w_long, am_w_null, am_bb_0, am_bb_1, am_bb_bI, xK_sI, xR_sI, xS_sI, xN_sI, xK_sL, xR_sL, xS_sL, xN_sL, xK_sR, xR_sR, xS_sR, xN_sR, xK_sA, xR_sA, xS_sA, xN_sA, Nat.reduceAdd, Nat.reduceLeDiff, sI_sA, I_sA', sA_sA, I_sA, I_sA', nI_add, mul_nI, bI_0, bI_1, k.k, kr, ix_nI, cl_nI]; done) | omega | assumption) only [e80_0, e80_1, e80_3, e80_4, e80_7, e80_10, e80_11, e80_12, e80_15, e80_16, e80_17, e80_18, e80_21, e80_22, e80_25, e80_26, e80_27, e80_28, e80_29, e80_30, e80_31, e80_34, e80_35, e80_38, e80_41, e80_42, e80_43, e80_44, e80_45, e80_48, e80_49, e80_50, e80_53, e80_54, e80_55, e80_56, e80_59, e80_60, e80_63, e80_64, e80_65, e80_66, e80_69, e80_72, e80_73, e80_74, e80_77, e80_80, e80_81, am_k_some, va_rf_some, va_rf_none, tl_some, tl_none, am_clr_int, am_clr_ref, am_clr_none, am_clr_long, am_w_nil, am_w_int, am_w_ref, am_w_long, am_w_null, am_bb_0, am_bb_1, am_bb_bI, xK_sI, xR_sI, xS_sI, xN_sI, xK_sL, xR_sL, xS_sL, xN_sL, xK_sR, xR_sR, xS_sR, xN_sR, xK_sA, xR_sA, xS_sA, xN_sA, Nat.reduceAdd, Nat.reduceLeDiff, sI_sA, I_sA', sA_sA, I_sA, I_sA', nI_add, mul_nI, bI_0, bI_1, k.k, ix_nI, cl_nI, lt_nI, eq_nI, sub_nI, Nat.reduceEqDiff, Nat.one_ne_zero, Nat.not_lt_zero, ↓reduceIte, k1, k2, k3, k4, k5, k6, k7, k8, k9, n10, n01, if_true, if_false, decide_true, decide_false, Bool.true_eq_false, Bool.false_eq_true, not_true_eq_false, not_false_eq_true, and_true, true_and, and_false, false_and, hp, hnl, le, hl, lc_lt, lc_gt, st, Bool.true_or, Bool.or_true, Bool.or_self, h1]
    · by_cases h2 : leanA S (nI j) < -L
      · simp (disch := first | (simp (disch := omega) only [am_k_some, va_rf_some, va_rf_none, tl_some, tl_none, am_clr_int, am_clr_ref, am_clr_none, am_clr_long, am_w_nil, am_w_int, am_w_ref, am_w_long, am_w_null, am_bb_0, am_bb_1, am_bb_bI, xK_sI, xR_sI, xS_sI, xN_sI, xK_sL, xR_sL, xS_sL, xN_sL, xK_sR, xR_sR, xS_sR, xN_sR, xK_sA, xR_sA, xS_sA, xN_sA, Nat.reduceAdd, Nat.reduceLeDiff, sI_sA, I_sA', sA_sA, I_sA, I_sA', nI_add, mul_nI, bI_0, bI_1, k.k, kr, ix_nI, cl_nI]; done) | omega | assumption) only [e80_0, e80_1, e80_3, e80_4, e80_7, e80_10, e80_11, e80_12, e80_15, e80_16, e80_17, e80_18, e80_21, e80_22, e80_25, e80_26, e80_27, e80_28, e80_29, e80_30, e80_31, e80_34, e80_35, e80_38, e80_41, e80_42, e80_43, e80_44, e80_45, e80_48, e80_49, e80_50, e80_53, e80_54, e80_55, e80_56, e80_59, e80_60, e80_63, e80_64, e80_65, e80_66, e80_69, e80_72, e80_73, e80_74, e80_77, e80_80, e80_81, am_k_some, va_rf_some, va_rf_none, tl_some, tl_none, am_clr_int, am_clr_ref, am_clr_none, am_clr_long, am_w_nil, am_w_int, am_w_ref, am_w_long, am_w_null, am_bb_0, am_bb_1, am_bb_bI, xK_sI, xR_sI, xS_sI, xN_sI, xK_sL, xR_sL, xS_sL, xN_sL, xK_sR, xR_sR, xS_sR, xN_sR, xK_sA, xR_sA, xS_sA, xN_sA, Nat.reduceAdd, Nat.reduceLeDiff, sI_sA, I_sA', sA_sA, I_sA, I_sA', nI_add, mul_nI, bI_0, bI_1, k.k, ix_nI, cl_nI, lt_nI, eq_nI, sub_nI, Nat.reduceEqDiff, Nat.one_ne_zero, Nat.not_lt_zero, ↓reduceIte, k1, k2, k3, k4, k5, k6, k7, k8, k9, n10, n01, if_true, if_false, decide_true, decide_false, Bool.true_eq_false, Bool.false_eq_true, not_true_eq_false, not_false_eq_true, and_true, true_and, and_false, false_and, hp, hnl, le, hl, lc_lt, lc_gt, st, Bool.true_or, Bool.or_true, Bool.or_self, h1, h2]
      · simp (disch := first | (simp (disch := omega) only [am_k_some, va_rf_some, va_rf_none, tl_some, tl_none, am_clr_int, am_clr_ref, am_clr_none, am_clr_long, am_w_nil, am_w_int, am_w_ref, am_w_long, am_w_null, am_bb_0, am_bb_1, am_bb_bI, xK_sI, xR_sI, xS_sI, xN_sI, xK_sL, xR_sL, xS_sL, xN_sL, xK_sR, xR_sR, xS_sR, xN_sR, xK_sA, xR_sA, xS_sA, xN_sA, Nat.reduceAdd, Nat.reduceLeDiff, sI_sA, I_sA', sA_sA, I_sA, I_sA', nI_add, mul_nI, bI_0, bI_1, k.k, kr, ix_nI, cl_nI]; done) | omega | assumption) only [e80_0, e80_1, e80_3, e80_4, e80_7, e80_10, e80_11, e80_12, e80_15, e80_16, e80_17, e80_18, e80_21, e80_22, e80_25, e80_26, e80_27, e80_28, e80_29, e80_30, e80_31, e80_34, e80_35, e80_38, e80_41, e80_42, e80_43, e80_44, e80_45, e80_48, e80_49, e80_50, e80_53, e80_54, e80_55, e80_56, e80_59, e80_60, e80_63, e80_64, e80_65, e80_66, e80_69, e80_72, e80_73, e80_74, e80_77, e80_80, e80_81, am_k_some, va_rf_some, va_rf_none, tl_some, tl_none, am_clr_int, am_clr_ref, am_clr_none, am_clr_long, am_w_nil, am_w_int, am_w_ref, am_w_long, am_w_null, am_bb_0, am_bb_1, am_bb_bI, xK_sI, xR_sI, xS_sI, xN_sI, xK_sL, xR_sL, xS_sL, xN_sL, xK_sR, xR_sR, xS_sR, xN_sR, xK_sA, xR_sA, xS_sA, xN_sA, Nat.reduceAdd, Nat.reduceLeDiff, sI_sA, I_sA', sA_sA, I_sA, I_sA', nI_add, mul_nI, bI_0, bI_1, k.k, ix_nI, cl_nI, lt_nI, eq_nI, sub_nI, Nat.reduceEqDiff, Nat.one_ne_zero, Nat.not_lt_zero, ↓reduceIte, k1, k2, k3, k4, k5, k6, k7, k8, k9, n10, n01, if_true, if_false, decide_true, decide_false, Bool.true_eq_false, Bool.false_eq_true, not_true_eq_false, not_false_eq_true, and_true, true_and, and_false, false_and, hp, hnl, le, hl, lc_lt, lc_gt, st, Bool.true_or, Bool.or_true, Bool.or_self, h1, h2, ih]
        rfl
theorem sp_80 {d a R : Nat} {m : am_M} {S : Nat → Int32} {L : Int64} (k : ShK m a) (v : ShV m a S L) (W : Wf S) (kr : mK m R = (1, 6, 0)) (hs : ¬ S 6501 = nI 1) : cal (d + 3) 80 [.ref a, .ref R] m = match fstR (leB S L) (S 6503).toNatClampNeg 0 with | some x => some (some (.int (nI 1)), lwM m R x S L) | none => some (some (.int (nI 0)), m) := by
  have e := sp_80_loop (d := d) k v W kr hs _ 0 none none (Nat.zero_add _)
  simp only [c80, e80_0, e80_1, e80_3, e80_4, e80_7, e80_10, e80_11, e80_12, e80_15, e80_16, e80_17, e80_18, e80_21, e80_22, e80_25, e80_26, e80_27, e80_28, e80_29, e80_30, e80_31, e80_34, e80_35, e80_38, e80_41, e80_42, e80_43, e80_44, e80_45, e80_48, e80_49, e80_50, e80_53, e80_54, e80_55, e80_56, e80_59, e80_60, e80_63, e80_64, e80_65, e80_66, e80_69, e80_72, e80_73, e80_74, e80_77, e80_80, e80_81, am_k_some, va_rf_some, va_rf_none, tl_some, tl_none, am_clr_int, am_clr_ref, am_clr_none, am_clr_long, am_w_nil, am_w_int, am_w_ref, am_w_long, am_w_null, am_bb_0, am_bb_1, am_bb_bI, xK_sI, xR_sI, xS_sI, xN_sI, xK_sL, xR_sL, xS_sL, xN_sL, xK_sR, xR_sR, xS_sR, xN_sR, xK_sA, xR_sA, xS_sA, xN_sA, Nat.reduceAdd, Nat.reduceLeDiff, sI_sA, I_sA', sA_sA, I_sA, I_sA', nI_add, mul_nI, bI_0, bI_1]
  exact e
/-! the first stuck lane -/
def skL (S : Nat → Int32) (g : Int32) (i : Nat) : Bool := decide (efA S i g = -1)
theorem fstR_last (f : Nat → Bool) : ∀ r k, fstR f (r + 1) k = match fstR f r k with | some j => some j | none => if f (k + r) = true then some (k + r) else none := by
  intro r
  induction r with
  | zero => intro k; simp only [fstR, Nat.add_zero]
  | succ r ih =>
    intro k
    rw [fstR]
    by_cases h : f k = true
    · rw [if_pos h]
      conv => rhs; rw [fstR, if_pos h]
    · rw [if_neg h, ih (k + 1)]
      conv => rhs; rw [fstR, if_neg h]
      rw [show k + 1 + r = k + (r + 1) by omega]
theorem stR_eq (S : Nat → Int32) (g : Int32) : ∀ k r, stR S g k r = match fstR (skL S g) k 0 with | some j => nI j | none => r := by
  intro k
  induction k with
  | zero => intro r; rfl
  | succ k ih =>
    intro r
    rw [stR, ih, fstR_last]
    cases h : fstR (skL S g) k 0 with
    | some j => rfl
    | none =>
      dsimp only
      rw [Nat.zero_add]
      unfold skL
      by_cases q : efA S k g = -1
      · rw [if_pos q, if_pos (decide_eq_true q)]
      · rw [if_neg q, if_neg (by rw [decide_eq_false q]; decide)]
theorem fstR_some {f : Nat → Bool} : ∀ r k j, fstR f r k = some j → k ≤ j ∧ j < k + r ∧ f j = true ∧ ∀ p, k ≤ p → p < j → f p = false := by
  intro r
  induction r with
  | zero => intro k j h; cases h
  | succ r ih =>
    intro k j h
    rw [fstR] at h
    cases hf : f k with
    | true =>
      rw [hf, if_pos rfl] at h
      cases h
      exact ⟨by omega, by omega, hf, fun p a b => by omega⟩
    | false =>
      rw [hf, if_neg (by decide)] at h
      obtain ⟨a, b, c, e⟩ := ih (k + 1) j h
      refine ⟨by omega, by omega, c, fun p p1 p2 => ?_⟩
      by_cases hp : p = k
      · rw [hp]; exact hf
      · exact e p (by omega) p2
theorem fstR_none {f : Nat → Bool} : ∀ r k, fstR f r k = none ↔ ∀ p, k ≤ p → p < k + r → f p = false := by
  intro r
  induction r with
  | zero => intro k; exact ⟨fun _ p a b => by omega, fun _ => rfl⟩
  | succ r ih =>
    intro k
    rw [fstR]
    cases hf : f k with
    | true =>
      rw [if_pos rfl]
      refine ⟨fun h => (by cases h), fun h => ?_⟩
      rw [h k (by omega) (by omega)] at hf
      cases hf
    | false =>
      rw [if_neg (by decide), ih]
      refine ⟨fun h p p1 p2 => ?_, fun h p p1 p2 => h p (by omega) (by omega)⟩
      by_cases hp : p = k
      · rw [hp]; exact hf
      · exact h p (by omega) (by omega)
theorem skA_some {S : Nat → Int32} {g : Int32} {j : Nat} (h : fstR (skL S g) 20 0 = some j) : skA S g = nI j ∧ j < 20 := by
  unfold skA
  rw [stR_eq, h]
  exact ⟨rfl, by have := fstR_some _ _ _ h; omega⟩
theorem skA_none {S : Nat → Int32} {g : Int32} (h : fstR (skL S g) 20 0 = none) : skA S g = -1 := by
  unfold skA
  rw [stR_eq, h]
