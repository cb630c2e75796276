/-! takeOut, undoLatest -/
theorem out_eqU {S : Nat → Int32} {l i q : Nat} (hN : NmOk S) (hL : LnOk S) (hl : l < nm S) (hs : StA S l i q) : EqU S (putS (takeS S l (nI 0) i q) l i q) := by
  have n2 := hN.2
  have hi := hs.2.2.2.1
  have l2 := (hL i hi).2
  have hq := hs.2.2.2.2.2.1
  have ag := takeS_ag (S := S) (l := l) (i := i) (q := q) (w := nI 0) (by omega) hi (by omega)
  have sp := ag.span (l := l) (by omega)
  have ag2 := putS_ag (S := takeS S l (nI 0) i q) (l := l) (i := i) (q := q) (by omega) hi (by rw [sp]; omega)
  refine ⟨by rw [ag2.nmE, ag.nmE]; exact Nat.le_refl _, fun y hy => ?_⟩
  by_cases e1 : y = 3300 + l
  · rw [e1, putS_1 (by omega), hs.1]
  by_cases e2 : y = 3700 + l
  · rw [e2, putS_2 (by omega), hs.2.1]
  by_cases e3 : y = 4100 + l
  · rw [e3, putS_3, hs.2.2.1]
  by_cases hr : 40 * i + q ≤ y ∧ y < 40 * i + q + spanS S l
  · rw [putS_in (by omega) (by rw [sp]; exact hr)]
    have := hs.2.2.2.2.2.2 (y - (40 * i + q)) (by omega)
    rw [show 40 * i + q + (y - (40 * i + q)) = y by omega] at this
    exact this.symm
  · rw [putS_off e1 e2 e3 (by rw [sp]; omega), takeS_off e1 e2 e3 (by omega)]
theorem wf_out {S : Nat → Int32} {l i q : Nat} (W : Wf S) (hl : l < nm S) (hs : StA S l i q) (hsea : ¬ S 6501 = nI 1) : Wf (actS (takeS S l (nI 0) i q) (nI 2) (nI l) (nI i) (nI q)) := by
  have n2 := W.nm.2
  have hi := hs.2.2.2.1
  have l2 := (W.ln i hi).2
  have hq := hs.2.2.2.2.2.1
  have ag := takeS_ag (S := S) (l := l) (i := i) (q := q) (w := nI 0) (by omega) hi (by omega)
  have sp := ag.span (l := l) (by omega)
  refine W.act ag (take_W W.nm W.ln W.w hl hs (Or.inl rfl)) (take_C W.nm W.ln W.c hl hs) ?_ ?_ hsea
  · refine Or.inr (Or.inl ⟨rfl, l, i, q, by rw [ag.nmE]; exact hl, rfl, rfl, rfl, hi, takeS_1 (by omega), by rw [ag.th hi]; exact hs.2.2.2.2.1, by rw [sp, ag.lnE hi]; exact hq, fun k hk => ?_⟩)
    rw [sp] at hk
    exact takeS_in (by omega) (by omega)
  · rw [unS_2, cl_nI (by omega), cl_nI (by omega), cl_nI (by omega)]
    exact out_eqU W.nm W.ln hl hs
theorem sp_75b {d a : Nat} {x e : Int32} {m : am_M} {S : Nat → Int32} {L : Int64} (k : ShK m a) (v : ShV m a S L) (hN : NmOk S) (hb : (x < nI 0 ∨ ¬ x < nI (nm S)) ∨ (e < nI 0 ∨ nI 1 < e)) : cal (d + 4) 75 [.ref a, .int x, .int e] m = some (some (.int (-1)), m) := by
  have n2 := hN.2
  have ko := k.lo
  have hc : mI m (a + 2) 9 = nI (nm S) := by rw [v.lo.1]; exact hN.1
  by_cases h0 : x < nI 0 ∨ ¬ x < nI (nm S)
  · have h := sp_26b (d := d + 3) ko hc h0
    simp (disch := first | (simp (disch := omega) only [am_k_some, va_rf_some, va_rf_none, tl_some, tl_none, am_clr_int, am_clr_ref, am_clr_none, am_clr_long, am_w_nil, am_w_int, am_w_ref, am_w_long, am_w_null, am_bb_0, am_bb_1, am_bb_bI, xK_sI, xR_sI, xS_sI, xN_sI, xK_sL, xR_sL, xS_sL, xN_sL, xK_sR, xR_sR, xS_sR, xN_sR, xK_sA, xR_sA, xS_sA, xN_sA, Nat.reduceAdd, Nat.reduceLeDiff, sI_sA, I_sA', sA_sA, I_sA, I_sA', nI_add, mul_nI, bI_0, bI_1, k.k, k.r0, k.k0, k.rl, k.r1, k.r2, k.ac.k, ko.k, ko.r5, ko.k5, ko.r6, ko.k6, ko.r7, ko.k7, ko.r8, ko.k8, ix_nI, cl_nI]; done) | omega | assumption) only [c75, e75_0, e75_1, e75_4, e75_5, e75_8, e75_18, e75_19, am_k_some, va_rf_some, va_rf_none, tl_some, tl_none, am_clr_int, am_clr_ref, am_clr_none, am_clr_long, am_w_nil, am_w_int, am_w_ref, am_w_long, am_w_null, am_bb_0, am_bb_1, am_bb_bI, xK_sI, xR_sI, xS_sI, xN_sI, xK_sL, xR_sL, xS_sL, xN_sL, xK_sR, xR_sR, xS_sR, xN_sR, xK_sA, xR_sA, xS_sA, xN_sA, Nat.reduceAdd, Nat.reduceLeDiff, sI_sA, I_sA', sA_sA, I_sA, I_sA', nI_add, mul_nI, bI_0, bI_1, k.k, k.r0, k.k0, k.rl, k.r1, k.r2, k.ac.k, ko.k, ko.r5, ko.k5, ko.r6, ko.k6, ko.r7, ko.k7, ko.r8, ko.k8, ix_nI, cl_nI, lt_nI, eq_nI, sub_nI, Nat.reduceEqDiff, Nat.one_ne_zero, Nat.not_lt_zero, ↓reduceIte, k1, k2, k3, k4, k5, k6, k7, k8, k9, n10, n01, if_true, if_false, decide_true, decide_false, Bool.true_eq_false, Bool.false_eq_true, not_true_eq_false, not_false_eq_true, and_true, true_and, and_false, false_and, h]
  rcases rng x (nm S) (by omega) with q | ⟨l, hl, rfl⟩
  · exact absurd q h0
  have h := sp_26v (d := d + 3) ko hc n2 hl
  have h2 : e < nI 0 ∨ nI 1 < e := by
    rcases hb with q | q
    · exact absurd q h0
    · exact q
  have g := sp_132b (d := d + 3) (m := m) h2
  simp (disch := first | (simp (disch := omega) only [am_k_some, va_rf_some, va_rf_none, tl_some, tl_none, am_clr_int, am_clr_ref, am_clr_none, am_clr_long, am_w_nil, am_w_int, am_w_ref, am_w_long, am_w_null, am_bb_0, am_bb_1, am_bb_bI, xK_sI, xR_sI, xS_sI, xN_sI, xK_sL, xR_sL, xS_sL, xN_sL, xK_sR, xR_sR, xS_sR, xN_sR, xK_sA, xR_sA, xS_sA, xN_sA, Nat.reduceAdd, Nat.reduceLeDiff, sI_sA, I_sA', sA_sA, I_sA, I_sA', nI_add, mul_nI, bI_0, bI_1, k.k, k.r0, k.k0, k.rl, k.r1, k.r2, k.ac.k, ko.k, ko.r5, ko.k5, ko.r6, ko.k6, ko.r7, ko.k7, ko.r8, ko.k8, ix_nI, cl_nI]; done) | omega | assumption) only [c75, e75_0, e75_1, e75_4, e75_5, e75_8, e75_11, e75_12, e75_15, e75_18, e75_19, am_k_some, va_rf_some, va_rf_none, tl_some, tl_none, am_clr_int, am_clr_ref, am_clr_none, am_clr_long, am_w_nil, am_w_int, am_w_ref, am_w_long, am_w_null, am_bb_0, am_bb_1, am_bb_bI, xK_sI, xR_sI, xS_sI, xN_sI, xK_sL, xR_sL, xS_sL, xN_sL, xK_sR, xR_sR, xS_sR, xN_sR, xK_sA, xR_sA, xS_sA, xN_sA, Nat.reduceAdd, Nat.reduceLeDiff, sI_sA, I_sA', sA_sA, I_sA, I_sA', nI_add, mul_nI, bI_0, bI_1, k.k, k.r0, k.k0, k.rl, k.r1, k.r2, k.ac.k, ko.k, ko.r5, ko.k5, ko.r6, ko.k6, ko.r7, ko.k7, ko.r8, ko.k8, ix_nI, cl_nI, lt_nI, eq_nI, sub_nI, Nat.reduceEqDiff, Nat.one_ne_zero, Nat.not_lt_zero, ↓reduceIte, k1, k2, k3, k4, k5, k6, k7, k8, k9, n10, n01, if_true, if_false, decide_true, decide_false, Bool.true_eq_false, Bool.false_eq_true, not_true_eq_false, not_false_eq_true, and_true, true_and, and_false, false_and, h, g]
theorem sp_75 {d a l : Nat} {e : Int32} {m : am_M} {S : Nat → Int32} {L : Int64} (k : ShK m a) (v : ShV m a S L) (W : Wf S) (hl : l < nm S) (he : okE e) :
    ∃ m', cal (d + 4) 75 [.ref a, .int (nI l), .int e] m = some (some (.int (outA S l e)), m') ∧ Fr a m m' ∧ ShV m' a (if outA S l e = nI 1 then outE S l else S) L ∧ Wf (if outA S l e = nI 1 then outE S l else S) := by
  have n2 := W.nm.2
  have ko := k.lo
  have hc : mI m (a + 2) 9 = nI (nm S) := by rw [v.lo.1]; exact W.nm.1
  obtain ⟨w1, w2, w3, w4, w5, w6, w7, w8, w9⟩ := v.lo.2 l hl
  have h := sp_26v (d := d + 3) ko hc n2 hl
  have g := sp_132v (d := d + 3) (m := m) he
  have q := sp_65w (d := d + 3) k v W.y
  have pb := sp_32 (d := d + 2) ko (show l < 400 by omega)
  unfold outA
  by_cases a1 : S 6501 = nI 1
  · rw [if_pos a1, if_neg (by decide)]
    rw [decide_eq_true a1] at q
    refine ⟨m, ?_, Fr.refl a m, v, W⟩
    simp (disch := first | (simp (disch := omega) only [am_k_some, va_rf_some, va_rf_none, tl_some, tl_none, am_clr_int, am_clr_ref, am_clr_none, am_clr_long, am_w_nil, am_w_int, am_w_ref, am_w_long, am_w_null, am_bb_0, am_bb_1, am_bb_bI, xK_sI, xR_sI, xS_sI, xN_sI, xK_sL, xR_sL, xS_sL, xN_sL, xK_sR, xR_sR, xS_sR, xN_sR, xK_sA, xR_sA, xS_sA, xN_sA, Nat.reduceAdd, Nat.reduceLeDiff, sI_sA, I_sA', sA_sA, I_sA, I_sA', nI_add, mul_nI, bI_0, bI_1, k.k, k.r0, k.k0, k.rl, k.r1, k.r2, k.ac.k, ko.k, ko.r5, ko.k5, ko.r6, ko.k6, ko.r7, ko.k7, ko.r8, ko.k8, ix_nI, cl_nI]; done) | omega | assumption) only [c75, e75_0, e75_1, e75_4, e75_5, e75_8, e75_11, e75_12, e75_15, e75_18, e75_19, e75_20, e75_21, e75_24, e75_27, e75_29, e75_30, e75_31, e75_34, e75_37, e75_38, e75_39, e75_40, e75_43, e75_45, e75_46, e75_47, e75_50, e75_53, e75_54, e75_55, e75_56, e75_57, e75_60, e75_63, e75_64, e75_65, e75_67, e75_68, e75_71, e75_72, e75_73, e75_74, e75_77, e75_80, e75_82, e75_83, e75_84, e75_87, e75_89, e75_92, e75_93, e75_96, e75_97, e75_98, e75_101, e75_102, e75_105, e75_106, e75_109, e75_110, e75_112, e75_113, e75_116, e75_117, e75_118, e75_119, e75_122, e75_124, e75_127, e75_129, e75_130, e75_131, e75_134, e75_135, e75_138, e75_141, e75_142, e75_143, e75_146, e75_149, e75_151, e75_152, e75_153, e75_154, e75_155, e75_158, e75_159, e75_162, e75_163, e75_164, e75_165, e75_167, e75_170, e75_171, am_k_some, va_rf_some, va_rf_none, tl_some, tl_none, am_clr_int, am_clr_ref, am_clr_none, am_clr_long, am_w_nil, am_w_int, am_w_ref, am_w_long, am_w_null, am_bb_0, am_bb_1, am_bb_bI, xK_sI, xR_sI, xS_sI, xN_sI, xK_sL, xR_sL, xS_sL, xN_sL, xK_sR, xR_sR, xS_sR, xN_sR, xK_sA, xR_sA, xS_sA, xN_sA, Nat.reduceAdd, Nat.reduceLeDiff, sI_sA, I_sA', sA_sA, I_sA, I_sA', nI_add, mul_nI, bI_0, bI_1, k.k, k.r0, k.k0, k.rl, k.r1, k.r2, k.ac.k, ko.k, ko.r5, ko.k5, ko.r6, ko.k6, ko.r7, ko.k7, ko.r8, ko.k8, ix_nI, cl_nI, lt_nI, eq_nI, sub_nI, Nat.reduceEqDiff, Nat.one_ne_zero, Nat.not_lt_zero, ↓reduceIte, k1, k2, k3, k4, k5, k6, k7, k8, k9, n10, n01, if_true, if_false, decide_true, decide_false, Bool.true_eq_false, Bool.false_eq_true, not_true_eq_false, not_false_eq_true, and_true, true_and, and_false, false_and, h, g, q, w6, w7, w8, w9, Bool.not_true, bI_f]
  rw [if_neg a1]
  rw [decide_eq_false a1] at q
  by_cases a2 : S (3300 + l) = nI 1
  · rw [if_pos a2]
    rcases W.w l hl with ⟨z, -⟩ | ⟨i, p, hs⟩
    · rw [a2] at z; exfalso; revert z; decide
    obtain ⟨s1, s2, s3, hi, s5, hp, s7⟩ := id hs
    obtain ⟨l1, l2⟩ := W.ln i hi
    have kl := k.la i hi
    have vl := v.la hi
    have hlen := lenS_t s5
    have sp := spanS_le S l
    have wl := wayS_le S i e
    have op := sh_open (d := d + 3) k v W.t hi s5 he
    have wy := sh_way (d := d + 2) (e := e) k v W.ln hi s5
    rw [s2, s3, cl_nI (by omega), cl_nI (by omega)]
    rw [s2] at w8
    rw [s3] at w9
    rw [w9, w1, show (if S (900 + l) = nI 3 then 3 else 1) = spanS S l from rfl, nI_add] at pb
    have hln : mI m (a + 26 + 2 * i) 1 = nI (ln S i) := by rw [vl.1, hlen]
    cases a3 : opS S i e with
    | false =>
      rw [a3] at op
      rw [if_neg (by decide), if_neg (by decide)]
      refine ⟨m, ?_, Fr.refl a m, v, W⟩
      simp (disch := first | (simp (disch := omega) only [am_k_some, va_rf_some, va_rf_none, tl_some, tl_none, am_clr_int, am_clr_ref, am_clr_none, am_clr_long, am_w_nil, am_w_int, am_w_ref, am_w_long, am_w_null, am_bb_0, am_bb_1, am_bb_bI, xK_sI, xR_sI, xS_sI, xN_sI, xK_sL, xR_sL, xS_sL, xN_sL, xK_sR, xR_sR, xS_sR, xN_sR, xK_sA, xR_sA, xS_sA, xN_sA, Nat.reduceAdd, Nat.reduceLeDiff, sI_sA, I_sA', sA_sA, I_sA, I_sA', nI_add, mul_nI, bI_0, bI_1, k.k, k.r0, k.k0, k.rl, k.r1, k.r2, k.ac.k, ko.k, ko.r5, ko.k5, ko.r6, ko.k6, ko.r7, ko.k7, ko.r8, ko.k8, kl.k, ix_nI, cl_nI]; done) | omega | assumption) only [c75, e75_0, e75_1, e75_4, e75_5, e75_8, e75_11, e75_12, e75_15, e75_18, e75_19, e75_20, e75_21, e75_24, e75_27, e75_29, e75_30, e75_31, e75_34, e75_37, e75_38, e75_39, e75_40, e75_43, e75_45, e75_46, e75_47, e75_50, e75_53, e75_54, e75_55, e75_56, e75_57, e75_60, e75_63, e75_64, e75_65, e75_67, e75_68, e75_71, e75_72, e75_73, e75_74, e75_77, e75_80, e75_82, e75_83, e75_84, e75_87, e75_89, e75_92, e75_93, e75_96, e75_97, e75_98, e75_101, e75_102, e75_105, e75_106, e75_109, e75_110, e75_112, e75_113, e75_116, e75_117, e75_118, e75_119, e75_122, e75_124, e75_127, e75_129, e75_130, e75_131, e75_134, e75_135, e75_138, e75_141, e75_142, e75_143, e75_146, e75_149, e75_151, e75_152, e75_153, e75_154, e75_155, e75_158, e75_159, e75_162, e75_163, e75_164, e75_165, e75_167, e75_170, e75_171, am_k_some, va_rf_some, va_rf_none, tl_some, tl_none, am_clr_int, am_clr_ref, am_clr_none, am_clr_long, am_w_nil, am_w_int, am_w_ref, am_w_long, am_w_null, am_bb_0, am_bb_1, am_bb_bI, xK_sI, xR_sI, xS_sI, xN_sI, xK_sL, xR_sL, xS_sL, xN_sL, xK_sR, xR_sR, xS_sR, xN_sR, xK_sA, xR_sA, xS_sA, xN_sA, Nat.reduceAdd, Nat.reduceLeDiff, sI_sA, I_sA', sA_sA, I_sA, I_sA', nI_add, mul_nI, bI_0, bI_1, k.k, k.r0, k.k0, k.rl, k.r1, k.r2, k.ac.k, ko.k, ko.r5, ko.k5, ko.r6, ko.k6, ko.r7, ko.k7, ko.r8, ko.k8, ix_nI, cl_nI, lt_nI, eq_nI, sub_nI, Nat.reduceEqDiff, Nat.one_ne_zero, Nat.not_lt_zero, ↓reduceIte, k1, k2, k3, k4, k5, k6, k7, k8, k9, n10, n01, if_true, if_false, decide_true, decide_false, Bool.true_eq_false, Bool.false_eq_true, not_true_eq_false, not_false_eq_true, and_true, true_and, and_false, false_and, h, g, q, w6, w7, w8, w9, Bool.not_false, bI_t, bI_f, a2, op]
    | true =>
      rw [a3] at op
      rw [if_pos rfl]
      have hgo : cal (d + 4) 75 [.ref a, .int (nI l), .int e] m = ev (d + 4) 75 112 [some (.ref a), some (.int (nI l)), some (.int e), some (.int (nI i)), some (.int (nI p)), some (.int (nI (clS S l i p e)))] [] m := by
        unfold clS
        by_cases hz : e = nI 0
        · subst hz
          simp (disch := first | (simp (disch := omega) only [am_k_some, va_rf_some, va_rf_none, tl_some, tl_none, am_clr_int, am_clr_ref, am_clr_none, am_clr_long, am_w_nil, am_w_int, am_w_ref, am_w_long, am_w_null, am_bb_0, am_bb_1, am_bb_bI, xK_sI, xR_sI, xS_sI, xN_sI, xK_sL, xR_sL, xS_sL, xN_sL, xK_sR, xR_sR, xS_sR, xN_sR, xK_sA, xR_sA, xS_sA, xN_sA, Nat.reduceAdd, Nat.reduceLeDiff, sI_sA, I_sA', sA_sA, I_sA, I_sA', nI_add, mul_nI, bI_0, bI_1, k.k, k.r0, k.k0, k.rl, k.r1, k.r2, k.ac.k, ko.k, ko.r5, ko.k5, ko.r6, ko.k6, ko.r7, ko.k7, ko.r8, ko.k8, kl.k, ix_nI, cl_nI]; done) | omega | assumption) only [c75, e75_0, e75_1, e75_4, e75_5, e75_8, e75_11, e75_12, e75_15, e75_18, e75_19, e75_20, e75_21, e75_24, e75_27, e75_29, e75_30, e75_31, e75_34, e75_37, e75_38, e75_39, e75_40, e75_43, e75_45, e75_46, e75_47, e75_50, e75_53, e75_54, e75_55, e75_56, e75_57, e75_60, e75_63, e75_64, e75_65, e75_67, e75_68, e75_71, e75_72, e75_73, e75_74, e75_77, e75_80, e75_82, e75_83, e75_84, e75_87, e75_89, e75_92, e75_93, e75_96, e75_97, e75_98, e75_101, e75_102, e75_105, e75_106, e75_109, e75_110, e75_113, e75_116, e75_117, e75_118, e75_119, e75_122, e75_124, e75_127, e75_129, e75_130, e75_131, e75_134, e75_135, e75_138, e75_141, e75_142, e75_143, e75_146, e75_149, e75_151, e75_152, e75_153, e75_154, e75_155, e75_158, e75_159, e75_162, e75_163, e75_164, e75_165, e75_167, e75_170, e75_171, am_k_some, va_rf_some, va_rf_none, tl_some, tl_none, am_clr_int, am_clr_ref, am_clr_none, am_clr_long, am_w_nil, am_w_int, am_w_ref, am_w_long, am_w_null, am_bb_0, am_bb_1, am_bb_bI, xK_sI, xR_sI, xS_sI, xN_sI, xK_sL, xR_sL, xS_sL, xN_sL, xK_sR, xR_sR, xS_sR, xN_sR, xK_sA, xR_sA, xS_sA, xN_sA, Nat.reduceAdd, Nat.reduceLeDiff, sI_sA, I_sA', sA_sA, I_sA, I_sA', nI_add, mul_nI, bI_0, bI_1, k.k, k.r0, k.k0, k.rl, k.r1, k.r2, k.ac.k, ko.k, ko.r5, ko.k5, ko.r6, ko.k6, ko.r7, ko.k7, ko.r8, ko.k8, ix_nI, cl_nI, lt_nI, eq_nI, sub_nI, Nat.reduceEqDiff, Nat.one_ne_zero, Nat.not_lt_zero, ↓reduceIte, k1, k2, k3, k4, k5, k6, k7, k8, k9, n10, n01, if_true, if_false, decide_true, decide_false, Bool.true_eq_false, Bool.false_eq_true, not_true_eq_false, not_false_eq_true, and_true, true_and, and_false, false_and, h, g, q, w6, w7, w8, w9, Bool.not_false, bI_t, a2, op]
        · have e1 : ln S i - (p + spanS S l) = ln S i - p - spanS S l := by omega
          simp (disch := first | (simp (disch := omega) only [am_k_some, va_rf_some, va_rf_none, tl_some, tl_none, am_clr_int, am_clr_ref, am_clr_none, am_clr_long, am_w_nil, am_w_int, am_w_ref, am_w_long, am_w_null, am_bb_0, am_bb_1, am_bb_bI, xK_sI, xR_sI, xS_sI, xN_sI, xK_sL, xR_sL, xS_sL, xN_sL, xK_sR, xR_sR, xS_sR, xN_sR, xK_sA, xR_sA, xS_sA, xN_sA, Nat.reduceAdd, Nat.reduceLeDiff, sI_sA, I_sA', sA_sA, I_sA, I_sA', nI_add, mul_nI, bI_0, bI_1, k.k, k.r0, k.k0, k.rl, k.r1, k.r2, k.ac.k, ko.k, ko.r5, ko.k5, ko.r6, ko.k6, ko.r7, ko.k7, ko.r8, ko.k8, kl.k, ix_nI, cl_nI]; done) | omega | assumption) only [c75, e75_0, e75_1, e75_4, e75_5, e75_8, e75_11, e75_12, e75_15, e75_18, e75_19, e75_20, e75_21, e75_24, e75_27, e75_29, e75_30, e75_31, e75_34, e75_37, e75_38, e75_39, e75_40, e75_43, e75_45, e75_46, e75_47, e75_50, e75_53, e75_54, e75_55, e75_56, e75_57, e75_60, e75_63, e75_64, e75_65, e75_67, e75_68, e75_71, e75_72, e75_73, e75_74, e75_77, e75_80, e75_82, e75_83, e75_84, e75_87, e75_89, e75_92, e75_93, e75_96, e75_97, e75_98, e75_101, e75_102, e75_105, e75_106, e75_109, e75_110, e75_113, e75_116, e75_117, e75_118, e75_119, e75_122, e75_124, e75_127, e75_129, e75_130, e75_131, e75_134, e75_135, e75_138, e75_141, e75_142, e75_143, e75_146, e75_149, e75_151, e75_152, e75_153, e75_154, e75_155, e75_158, e75_159, e75_162, e75_163, e75_164, e75_165, e75_167, e75_170, e75_171, am_k_some, va_rf_some, va_rf_none, tl_some, tl_none, am_clr_int, am_clr_ref, am_clr_none, am_clr_long, am_w_nil, am_w_int, am_w_ref, am_w_long, am_w_null, am_bb_0, am_bb_1, am_bb_bI, xK_sI, xR_sI, xS_sI, xN_sI, xK_sL, xR_sL, xS_sL, xN_sL, xK_sR, xR_sR, xS_sR, xN_sR, xK_sA, xR_sA, xS_sA, xN_sA, Nat.reduceAdd, Nat.reduceLeDiff, sI_sA, I_sA', sA_sA, I_sA, I_sA', nI_add, mul_nI, bI_0, bI_1, k.k, k.r0, k.k0, k.rl, k.r1, k.r2, k.ac.k, ko.k, ko.r5, ko.k5, ko.r6, ko.k6, ko.r7, ko.k7, ko.r8, ko.k8, ix_nI, cl_nI, lt_nI, eq_nI, sub_nI, Nat.reduceEqDiff, Nat.one_ne_zero, Nat.not_lt_zero, ↓reduceIte, k1, k2, k3, k4, k5, k6, k7, k8, k9, n10, n01, if_true, if_false, decide_true, decide_false, Bool.true_eq_false, Bool.false_eq_true, not_true_eq_false, not_false_eq_true, and_true, true_and, and_false, false_and, h, g, q, w6, w7, w8, w9, Bool.not_false, bI_t, a2, op, hz, hln, pb, e1]
      have cl2 : clS S l i p e ≤ 40 := by unfold clS; split <;> omega
      by_cases a4 : wayS S i e < clS S l i p e
      · rw [if_pos a4, if_neg (by decide)]
        refine ⟨m, ?_, Fr.refl a m, v, W⟩
        rw [hgo]
        simp (disch := first | (simp (disch := omega) only [am_k_some, va_rf_some, va_rf_none, tl_some, tl_none, am_clr_int, am_clr_ref, am_clr_none, am_clr_long, am_w_nil, am_w_int, am_w_ref, am_w_long, am_w_null, am_bb_0, am_bb_1, am_bb_bI, xK_sI, xR_sI, xS_sI, xN_sI, xK_sL, xR_sL, xS_sL, xN_sL, xK_sR, xR_sR, xS_sR, xN_sR, xK_sA, xR_sA, xS_sA, xN_sA, Nat.reduceAdd, Nat.reduceLeDiff, sI_sA, I_sA', sA_sA, I_sA, I_sA', nI_add, mul_nI, bI_0, bI_1, k.k, k.r0, k.k0, k.rl, k.r1, k.r2, k.ac.k, ko.k, ko.r5, ko.k5, ko.r6, ko.k6, ko.r7, ko.k7, ko.r8, ko.k8, kl.k, ix_nI, cl_nI]; done) | omega | assumption) only [e75_0, e75_1, e75_4, e75_5, e75_8, e75_11, e75_12, e75_15, e75_18, e75_19, e75_20, e75_21, e75_24, e75_27, e75_29, e75_30, e75_31, e75_34, e75_37, e75_38, e75_39, e75_40, e75_43, e75_45, e75_46, e75_47, e75_50, e75_53, e75_54, e75_55, e75_56, e75_57, e75_60, e75_63, e75_64, e75_65, e75_67, e75_68, e75_71, e75_72, e75_73, e75_74, e75_77, e75_80, e75_82, e75_83, e75_84, e75_87, e75_89, e75_92, e75_93, e75_96, e75_97, e75_98, e75_101, e75_102, e75_105, e75_106, e75_109, e75_110, e75_112, e75_113, e75_116, e75_117, e75_118, e75_119, e75_122, e75_124, e75_127, e75_129, e75_130, e75_131, e75_134, e75_135, e75_138, e75_141, e75_142, e75_143, e75_146, e75_149, e75_151, e75_152, e75_153, e75_154, e75_155, e75_158, e75_159, e75_162, e75_163, e75_164, e75_165, e75_167, e75_170, e75_171, am_k_some, va_rf_some, va_rf_none, tl_some, tl_none, am_clr_int, am_clr_ref, am_clr_none, am_clr_long, am_w_nil, am_w_int, am_w_ref, am_w_long, am_w_null, am_bb_0, am_bb_1, am_bb_bI, xK_sI, xR_sI, xS_sI, xN_sI, xK_sL, xR_sL, xS_sL, xN_sL, xK_sR, xR_sR, xS_sR, xN_sR, xK_sA, xR_sA, xS_sA, xN_sA, Nat.reduceAdd, Nat.reduceLeDiff, sI_sA, I_sA', sA_sA, I_sA, I_sA', nI_add, mul_nI, bI_0, bI_1, k.k, k.r0, k.k0, k.rl, k.r1, k.r2, k.ac.k, ko.k, ko.r5, ko.k5, ko.r6, ko.k6, ko.r7, ko.k7, ko.r8, ko.k8, ix_nI, cl_nI, lt_nI, eq_nI, sub_nI, Nat.reduceEqDiff, Nat.one_ne_zero, Nat.not_lt_zero, ↓reduceIte, k1, k2, k3, k4, k5, k6, k7, k8, k9, n10, n01, if_true, if_false, decide_true, decide_false, Bool.true_eq_false, Bool.false_eq_true, not_true_eq_false, not_false_eq_true, and_true, true_and, and_false, false_and, wy, a4]
      rw [if_neg a4]
      have dw : cal (d + 3) 30 [.ref (a + 2), .int (S (2900 + l))] m = some (some (.int (bI (dwS S l))), m) := by
        unfold dwS
        rcases (W.d l hl).2.2 with hx | ⟨r, hr, hx⟩
        · rw [hx, sp_30b ko hc (Or.inl u1), decide_eq_true u1]
          rfl
        · have z : ¬ nI r < nI 0 := by rw [lt_nI (by omega) (by omega)]; omega
          rw [hx, sp_30v ko hc n2 hr, cl_nI (by omega), (v.lo.2 r hr).2.2.2.2.2.2.1, decide_eq_false z]
          rfl
      cases a5 : dwS S l with
      | true =>
        rw [a5] at dw
        rw [if_pos rfl, if_neg (by decide)]
        refine ⟨m, ?_, Fr.refl a m, v, W⟩
        rw [hgo]
        simp (disch := first | (simp (disch := omega) only [am_k_some, va_rf_some, va_rf_none, tl_some, tl_none, am_clr_int, am_clr_ref, am_clr_none, am_clr_long, am_w_nil, am_w_int, am_w_ref, am_w_long, am_w_null, am_bb_0, am_bb_1, am_bb_bI, xK_sI, xR_sI, xS_sI, xN_sI, xK_sL, xR_sL, xS_sL, xN_sL, xK_sR, xR_sR, xS_sR, xN_sR, xK_sA, xR_sA, xS_sA, xN_sA, Nat.reduceAdd, Nat.reduceLeDiff, sI_sA, I_sA', sA_sA, I_sA, I_sA', nI_add, mul_nI, bI_0, bI_1, k.k, k.r0, k.k0, k.rl, k.r1, k.r2, k.ac.k, ko.k, ko.r5, ko.k5, ko.r6, ko.k6, ko.r7, ko.k7, ko.r8, ko.k8, kl.k, ix_nI, cl_nI]; done) | omega | assumption) only [e75_0, e75_1, e75_4, e75_5, e75_8, e75_11, e75_12, e75_15, e75_18, e75_19, e75_20, e75_21, e75_24, e75_27, e75_29, e75_30, e75_31, e75_34, e75_37, e75_38, e75_39, e75_40, e75_43, e75_45, e75_46, e75_47, e75_50, e75_53, e75_54, e75_55, e75_56, e75_57, e75_60, e75_63, e75_64, e75_65, e75_67, e75_68, e75_71, e75_72, e75_73, e75_74, e75_77, e75_80, e75_82, e75_83, e75_84, e75_87, e75_89, e75_92, e75_93, e75_96, e75_97, e75_98, e75_101, e75_102, e75_105, e75_106, e75_109, e75_110, e75_112, e75_113, e75_116, e75_117, e75_118, e75_119, e75_122, e75_124, e75_127, e75_129, e75_130, e75_131, e75_134, e75_135, e75_138, e75_141, e75_142, e75_143, e75_146, e75_149, e75_151, e75_152, e75_153, e75_154, e75_155, e75_158, e75_159, e75_162, e75_163, e75_164, e75_165, e75_167, e75_170, e75_171, am_k_some, va_rf_some, va_rf_none, tl_some, tl_none, am_clr_int, am_clr_ref, am_clr_none, am_clr_long, am_w_nil, am_w_int, am_w_ref, am_w_long, am_w_null, am_bb_0, am_bb_1, am_bb_bI, xK_sI, xR_sI, xS_sI, xN_sI, xK_sL, xR_sL, xS_sL, xN_sL, xK_sR, xR_sR, xS_sR, xN_sR, xK_sA, xR_sA, xS_sA, xN_sA, Nat.reduceAdd, Nat.reduceLeDiff, sI_sA, I_sA', sA_sA, I_sA, I_sA', nI_add, mul_nI, bI_0, bI_1, k.k, k.r0, k.k0, k.rl, k.r1, k.r2, k.ac.k, ko.k, ko.r5, ko.k5, ko.r6, ko.k6, ko.r7, ko.k7, ko.r8, ko.k8, ix_nI, cl_nI, lt_nI, eq_nI, sub_nI, Nat.reduceEqDiff, Nat.one_ne_zero, Nat.not_lt_zero, ↓reduceIte, k1, k2, k3, k4, k5, k6, k7, k8, k9, n10, n01, if_true, if_false, decide_true, decide_false, Bool.true_eq_false, Bool.false_eq_true, not_true_eq_false, not_false_eq_true, and_true, true_and, and_false, false_and, wy, a4, w6, dw, bI_t]
      | false =>
        rw [a5] at dw
        rw [if_neg (by decide), if_pos rfl]
        have ag := takeS_ag (S := S) (l := l) (i := i) (q := p) (w := nI 0) (by omega) hi (by omega)
        obtain ⟨m1, e1, f1, v1⟩ := sp_74 (d := d + 1) k v W.ln W.nm W.a W.m1 W.m2 hl hs (Or.inl rfl)
        have kf := k.fr f1
        obtain ⟨m2, e2, f2, v2⟩ := v1.push (p := nI 2) (a := nI l) (b := nI i) (c := nI p) kf (ag.lnok W.ln) (ag.nmok W.nm) (ag.akok W.a) (ag.mv (by omega) W.m1) (ag.mv (by omega) W.m2) (Or.inl ⟨Or.inr rfl, rfl, rfl, rfl⟩)
        unfold outE
        rw [s2, s3, cl_nI (by omega), cl_nI (by omega)]
        refine ⟨m2, ?_, f1.trans f2, v2, wf_out W hl hs a1⟩
        rw [hgo]
        simp (disch := first | (simp (disch := omega) only [am_k_some, va_rf_some, va_rf_none, tl_some, tl_none, am_clr_int, am_clr_ref, am_clr_none, am_clr_long, am_w_nil, am_w_int, am_w_ref, am_w_long, am_w_null, am_bb_0, am_bb_1, am_bb_bI, xK_sI, xR_sI, xS_sI, xN_sI, xK_sL, xR_sL, xS_sL, xN_sL, xK_sR, xR_sR, xS_sR, xN_sR, xK_sA, xR_sA, xS_sA, xN_sA, Nat.reduceAdd, Nat.reduceLeDiff, sI_sA, I_sA', sA_sA, I_sA, I_sA', nI_add, mul_nI, bI_0, bI_1, k.k, k.r0, k.k0, k.rl, k.r1, k.r2, k.ac.k, ko.k, ko.r5, ko.k5, ko.r6, ko.k6, ko.r7, ko.k7, ko.r8, ko.k8, kl.k, kf.k, kf.r2, kf.ac.k, ix_nI, cl_nI]; done) | omega | assumption) only [e75_0, e75_1, e75_4, e75_5, e75_8, e75_11, e75_12, e75_15, e75_18, e75_19, e75_20, e75_21, e75_24, e75_27, e75_29, e75_30, e75_31, e75_34, e75_37, e75_38, e75_39, e75_40, e75_43, e75_45, e75_46, e75_47, e75_50, e75_53, e75_54, e75_55, e75_56, e75_57, e75_60, e75_63, e75_64, e75_65, e75_67, e75_68, e75_71, e75_72, e75_73, e75_74, e75_77, e75_80, e75_82, e75_83, e75_84, e75_87, e75_89, e75_92, e75_93, e75_96, e75_97, e75_98, e75_101, e75_102, e75_105, e75_106, e75_109, e75_110, e75_112, e75_113, e75_116, e75_117, e75_118, e75_119, e75_122, e75_124, e75_127, e75_129, e75_130, e75_131, e75_134, e75_135, e75_138, e75_141, e75_142, e75_143, e75_146, e75_149, e75_151, e75_152, e75_153, e75_154, e75_155, e75_158, e75_159, e75_162, e75_163, e75_164, e75_165, e75_167, e75_170, e75_171, am_k_some, va_rf_some, va_rf_none, tl_some, tl_none, am_clr_int, am_clr_ref, am_clr_none, am_clr_long, am_w_nil, am_w_int, am_w_ref, am_w_long, am_w_null, am_bb_0, am_bb_1, am_bb_bI, xK_sI, xR_sI, xS_sI, xN_sI, xK_sL, xR_sL, xS_sL, xN_sL, xK_sR, xR_sR, xS_sR, xN_sR, xK_sA, xR_sA, xS_sA, xN_sA, Nat.reduceAdd, Nat.reduceLeDiff, sI_sA, I_sA', sA_sA, I_sA, I_sA', nI_add, mul_nI, bI_0, bI_1, k.k, k.r0, k.k0, k.rl, k.r1, k.r2, k.ac.k, ko.k, ko.r5, ko.k5, ko.r6, ko.k6, ko.r7, ko.k7, ko.r8, ko.k8, ix_nI, cl_nI, lt_nI, eq_nI, sub_nI, Nat.reduceEqDiff, Nat.one_ne_zero, Nat.not_lt_zero, ↓reduceIte, k1, k2, k3, k4, k5, k6, k7, k8, k9, n10, n01, if_true, if_false, decide_true, decide_false, Bool.true_eq_false, Bool.false_eq_true, not_true_eq_false, not_false_eq_true, and_true, true_and, and_false, false_and, wy, a4, w6, dw, bI_f, e1, kf.k, kf.r2, kf.ac.k, e2]
  · rw [if_neg a2, if_neg (by decide)]
    refine ⟨m, ?_, Fr.refl a m, v, W⟩
    simp (disch := first | (simp (disch := omega) only [am_k_some, va_rf_some, va_rf_none, tl_some, tl_none, am_clr_int, am_clr_ref, am_clr_none, am_clr_long, am_w_nil, am_w_int, am_w_ref, am_w_long, am_w_null, am_bb_0, am_bb_1, am_bb_bI, xK_sI, xR_sI, xS_sI, xN_sI, xK_sL, xR_sL, xS_sL, xN_sL, xK_sR, xR_sR, xS_sR, xN_sR, xK_sA, xR_sA, xS_sA, xN_sA, Nat.reduceAdd, Nat.reduceLeDiff, sI_sA, I_sA', sA_sA, I_sA, I_sA', nI_add, mul_nI, bI_0, bI_1, k.k, k.r0, k.k0, k.rl, k.r1, k.r2, k.ac.k, ko.k, ko.r5, ko.k5, ko.r6, ko.k6, ko.r7, ko.k7, ko.r8, ko.k8, ix_nI, cl_nI]; done) | omega | assumption) only [c75, e75_0, e75_1, e75_4, e75_5, e75_8, e75_11, e75_12, e75_15, e75_18, e75_19, e75_20, e75_21, e75_24, e75_27, e75_29, e75_30, e75_31, e75_34, e75_37, e75_38, e75_39, e75_40, e75_43, e75_45, e75_46, e75_47, e75_50, e75_53, e75_54, e75_55, e75_56, e75_57, e75_60, e75_63, e75_64, e75_65, e75_67, e75_68, e75_71, e75_72, e75_73, e75_74, e75_77, e75_80, e75_82, e75_83, e75_84, e75_87, e75_89, e75_92, e75_93, e75_96, e75_97, e75_98, e75_101, e75_102, e75_105, e75_106, e75_109, e75_110, e75_112, e75_113, e75_116, e75_117, e75_118, e75_119, e75_122, e75_124, e75_127, e75_129, e75_130, e75_131, e75_134, e75_135, e75_138, e75_141, e75_142, e75_143, e75_146, e75_149, e75_151, e75_152, e75_153, e75_154, e75_155, e75_158, e75_159, e75_162, e75_163, e75_164, e75_165, e75_167, e75_170, e75_171, am_k_some, va_rf_some, va_rf_none, tl_some, tl_none, am_clr_int, am_clr_ref, am_clr_none, am_clr_long, am_w_nil, am_w_int, am_w_ref, am_w_long, am_w_null, am_bb_0, am_bb_1, am_bb_bI, xK_sI, xR_sI, xS_sI, xN_sI, xK_sL, xR_sL, xS_sL, xN_sL, xK_sR, xR_sR, xS_sR, xN_sR, xK_sA, xR_sA, xS_sA, xN_sA, Nat.reduceAdd, Nat.reduceLeDiff, sI_sA, I_sA', sA_sA, I_sA, I_sA', nI_add, mul_nI, bI_0, bI_1, k.k, k.r0, k.k0, k.rl, k.r1, k.r2, k.ac.k, ko.k, ko.r5, ko.k5, ko.r6, ko.k6, ko.r7, ko.k7, ko.r8, ko.k8, ix_nI, cl_nI, lt_nI, eq_nI, sub_nI, Nat.reduceEqDiff, Nat.one_ne_zero, Nat.not_lt_zero, ↓reduceIte, k1, k2, k3, k4, k5, k6, k7, k8, k9, n10, n01, if_true, if_false, decide_true, decide_false, Bool.true_eq_false, Bool.false_eq_true, not_true_eq_false, not_false_eq_true, and_true, true_and, and_false, false_and, h, g, q, w6, w7, w8, w9, Bool.not_false, bI_t, a2]
