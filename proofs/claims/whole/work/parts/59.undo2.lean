/-! undoLatest, and the model's undo in the same words -/
theorem k_agl {S : Nat → Int32} {y : Nat} {v : Int32} (h : 4500 ≤ y) (h2 : y ≠ 6500) : AgL S (up1 S y v) := ⟨fun z hz => up1_ne (by omega), up1_ne (fun q => h2 q.symm)⟩
theorem sp_186_1g {d M k l i q : Nat} {m : am_M} {S1 : Nat → Int32} (h : Mo m M) (a1 : ¬ mI m (M + 1) 6501 = nI 1) (a2 : mI m (M + 1) 6507 = nI (k + 1)) (hk : k < 100) (hS : S1 = up1 (mI m (M + 1)) 6507 (nI k))
    (o0 : mI m (M + 1) (6100 + 4 * k) = nI 1) (o1 : mI m (M + 1) (6100 + 4 * k + 1) = nI l) (hl : l < 400) (hi : i < 20) (hq : q + spanS S1 l ≤ 40) (b1 : S1 (3700 + l) = nI i) (b2 : S1 (4100 + l) = nI q) :
    cal (d + 3) 186 [.ref M] m = some (some (.int (nI 1)), sA m (M + 1) (takeS S1 l (nI 0) i q)) := by
  have k0 : ¬ k + 1 = 0 := by omega
  have e1 : nI (k + 1) - nI 1 = nI k := by rw [sub_nI (by omega)]; rfl
  have e2 : S1 6507 = nI k := by rw [hS]; simp [up1]
  have x0 : S1 (6100 + 4 * k) = nI 1 := by rw [hS, up1_at, if_neg (by omega), o0]
  have x1 : S1 (6100 + 4 * k + 1) = nI l := by rw [hS, up1_at, if_neg (by omega), o1]
  have tk := sp_157 (d := d) (w := nI 0) (m := sA m (M + 1) S1) (h.sA _ _) hl hi (by rw [I_sA]; exact hq) (by rw [I_sA]; exact b1) (by rw [I_sA]; exact b2)
  rw [I_sA, sA_sA] at tk
  simp (disch := first | (simp (disch := omega) only [am_k_some, va_rf_some, va_rf_none, tl_some, tl_none, am_clr_int, am_clr_ref, am_clr_none, am_clr_long, am_w_nil, am_w_int, am_w_ref, am_w_long, am_w_null, am_bb_0, am_bb_1, am_bb_bI, xK_sI, xR_sI, xS_sI, xN_sI, xK_sL, xR_sL, xS_sL, xN_sL, xK_sR, xR_sR, xS_sR, xN_sR, xK_sA, xR_sA, xS_sA, xN_sA, Nat.reduceAdd, Nat.reduceLeDiff, sI_sA, I_sA', sA_sA, I_sA, I_sA', nI_add, mul_nI, bI_0, bI_1, h.k, h.r0, h.k0, h.r1, h.k1, h.r2, h.k2, h.r3, h.k3, h.r4, h.k4, h.r5, h.k5, h.r6, h.k6, h.r8, h.k8, h.r9, h.k9, h.r15, h.k15, h.r17, h.k17, h.r19, h.k19, h.r20, h.k20, h.r21, h.k21, h.r22, h.k22, h, Mo_sA, Mo_sL, ix_nI, cl_nI]; done) | omega | (simp only [I_sA]; assumption)) only [c186, e186_0, e186_1, e186_4, e186_7, e186_9, e186_10, e186_11, e186_14, e186_17, e186_18, e186_21, e186_22, e186_23, e186_24, e186_27, e186_30, e186_31, e186_32, e186_33, e186_34, e186_35, e186_38, e186_39, e186_40, e186_43, e186_46, e186_47, e186_48, e186_49, e186_50, e186_51, e186_54, e186_55, e186_56, e186_57, e186_58, e186_59, e186_60, e186_63, e186_64, e186_65, e186_66, e186_67, e186_68, e186_69, e186_72, e186_73, e186_74_1, e186_74_2, e186_74_3, e186_100, e186_101, e186_102, e186_103, e186_106, e186_109, e186_110, e186_111, e186_112, e186_113, e186_116, e186_117, e186_118, e186_119, e186_120, e186_123, e186_126, e186_127, e186_130, e186_132, e186_133, e186_134, e186_135, e186_136, e186_137, e186_138, e186_141, e186_142, e186_145, e186_147, e186_148, e186_149, e186_150, e186_151, e186_153, e186_154, e186_155, am_k_some, va_rf_some, va_rf_none, tl_some, tl_none, am_clr_int, am_clr_ref, am_clr_none, am_clr_long, am_w_nil, am_w_int, am_w_ref, am_w_long, am_w_null, am_bb_0, am_bb_1, am_bb_bI, xK_sI, xR_sI, xS_sI, xN_sI, xK_sL, xR_sL, xS_sL, xN_sL, xK_sR, xR_sR, xS_sR, xN_sR, xK_sA, xR_sA, xS_sA, xN_sA, Nat.reduceAdd, Nat.reduceLeDiff, sI_sA, I_sA', sA_sA, I_sA, I_sA', nI_add, mul_nI, bI_0, bI_1, h.k, h.r0, h.k0, h.r1, h.k1, h.r2, h.k2, h.r3, h.k3, h.r4, h.k4, h.r5, h.k5, h.r6, h.k6, h.r8, h.k8, h.r9, h.k9, h.r15, h.k15, h.r17, h.k17, h.r19, h.k19, h.r20, h.k20, h.r21, h.k21, h.r22, h.k22, ix_nI, cl_nI, lt_nI, eq_nI, sub_nI, Nat.reduceEqDiff, Nat.one_ne_zero, Nat.not_lt_zero, ↓reduceIte, k1, k2, k3, k4, k5, k6, k7, k8, k9, n10, n01, if_true, if_false, decide_true, decide_false, Bool.true_eq_false, Bool.false_eq_true, not_true_eq_false, not_false_eq_true, and_true, true_and, and_false, false_and, sp_148, a1, a2, k0, e1, x0, x1, ← hS, e2, tk]
theorem sp_186u {d M k : Nat} {m : am_M} {S : Nat → Int32} (h : Mo m M) (hS : mI m (M + 1) = S) (W : Wf S) (a1 : ¬ S 6501 = nI 1) (hk : ak S = k + 1) : cal (d + 3) 186 [.ref M] m = some (some (.int (nI 1)), sA m (M + 1) (unS (up1 S 6507 (nI k)) (S (6100 + 4 * k)) (S (6100 + 4 * k + 1)) (S (6100 + 4 * k + 2)) (S (6100 + 4 * k + 3)))) := by
  have n2 := W.nm.2
  have ak2 := W.a.2
  have a2 : S 6507 = nI (k + 1) := by rw [← hk]; exact W.a.1
  obtain ⟨hv, -, -⟩ := UV_pop W.ln W.nm W.a hk W.u
  have al := k_agl (S := S) (y := 6507) (v := nI k) (by omega) (by omega)
  subst hS
  rcases hv with ⟨e, l, i, q, x1, x2, x3⟩ | ⟨e, l, i, q, x1, x2, x3, x4, x5, x6, x7, x8, x9⟩ | ⟨e, i, p, x1, x2, x3, x4, x5, x6⟩ | ⟨e, i, p, x1, x2, x3, x4, x5, x6⟩
  · obtain ⟨y1, y2, y3, y4, y5, y6, y7⟩ := x3
    rw [al.nmE] at x1
    have := (al.lnok W.ln i y4).2
    rw [e, x2, unS_1, cl_nI (by omega), y2, y3, cl_nI (by omega), cl_nI (by omega)]
    exact sp_186_1g h a1 a2 (by omega) rfl e x2 (by omega) y4 (by omega) y2 y3
  · rw [al.nmE] at x1
    have := (al.lnok W.ln i x5).2
    rw [e, x2, x3, x4, unS_2, cl_nI (by omega), cl_nI (by omega), cl_nI (by omega)]
    exact sp_186_2 h a1 a2 (by omega) rfl e x2 x3 x4 (by omega) x5 (by omega)
  · have := (al.lnok W.ln i x1).2
    rw [e, x2, x3, unS_3, cl_nI (by omega), cl_nI (by omega)]
    exact sp_186_3 h a1 a2 (by omega) rfl e x2 x3 x1 (by omega)
  · have := (al.lnok W.ln i x1).2
    rw [e, x2, x3, unS_4, cl_nI (by omega), cl_nI (by omega)]
    exact sp_186_4 h a1 a2 (by omega) rfl e x2 x3 x1 (by omega)
theorem AcV.pop {m : am_M} {o k : Nat} {S : Nat → Int32} (v : AcV m o S) (hA : AkOk S) (hk : ak S = k + 1) : ∃ t u, t < 100 ∧ mI m o 5 = nI t ∧ u = (if 0 < t then t - 1 else 99) ∧ AcV (sA m o (up1 (up1 (mI m o) 5 (nI u)) 4 (nI k))) o (up1 S 6507 (nI k)) ∧ mI m (o + 1) u = S (6100 + 4 * k) ∧
    ((S (6100 + 4 * k) = nI 1 ∨ S (6100 + 4 * k) = nI 2) → mI m (o + 2) u = S (6100 + 4 * k + 1) ∧ mI m (o + 3) u = S (6100 + 4 * k + 2) ∧ mI m (o + 4) u = S (6100 + 4 * k + 3)) ∧ ((S (6100 + 4 * k) = nI 3 ∨ S (6100 + 4 * k) = nI 4) → mI m (o + 3) u = S (6100 + 4 * k + 1) ∧ mI m (o + 4) u = S (6100 + 4 * k + 2)) := by
  have a2 := hA.2
  obtain ⟨v1, t, t1, t2, v4⟩ := v
  rw [hk] at v4
  have hu : rgI t (k + 1) k = (if 0 < t then t - 1 else 99) := by
    unfold rgI
    split <;> omega
  have last := v4 k (by omega)
  rw [hu] at last
  refine ⟨t, _, t1, t2, rfl, ?_, last⟩
  have e : ak (up1 S 6507 (nI k)) = k := by
    unfold ak
    rw [up1_eq, cl_nI (by omega)]
  unfold AcV
  rw [e, I_sA, I_sA' _ _ (by omega), I_sA' _ _ (by omega), I_sA' _ _ (by omega), I_sA' _ _ (by omega), up1_eq, up1_eq]
  refine ⟨rfl, (if 0 < t then t - 1 else 99), by split <;> omega, by rw [up1_ne (by omega), up1_eq], fun j hj => ?_⟩
  have hr : rgI (if 0 < t then t - 1 else 99) k j = rgI t (k + 1) j := by
    unfold rgI
    split <;> omega
  rw [hr, up1_ne (by omega), up1_ne (by omega), up1_ne (by omega), up1_ne (by omega)]
  exact v4 j (by omega)
/-- the array's cell 6507 and the ring alone change -/
theorem ShV.acts {m m' : am_M} {a : Nat} {S S' : Nat → Int32} {L : Int64} (v : ShV m a S L) (hL : LnOk S) (hN : NmOk S) (h5 : MvOk S 6505) (h6 : MvOk S 6506) (hS : ∀ y, y ≠ 6507 → S' y = S y) (hm : ∀ x, x ≠ a + 12 → mI m' x = mI m x) (hLm : mL m' a = mL m a) (va : AcV m' (a + 12) S') : ShV m' a S' L := by
  have al : AgL S S' := ⟨fun y hy => hS y (by omega), hS _ (by omega)⟩
  refine ⟨fun i hi => al.la hN hL hi ((v.la hi).mem (hm _ (by omega)) (hm _ (by omega))), al.lo hN (v.lo.mem fun k hk => hm _ (by omega)), va, ?_, ?_, ?_, ?_⟩
  · exact (v.pl.mem (fun k hk => hm _ (by omega))).arr (fun y y1 y2 => hS _ (by omega))
  · exact (v.ash.mem (hm _ (by omega)) (hm _ (by omega))).arr h5 (hS _ (by omega)) (fun j hj => hS _ (by omega))
  · exact (v.dep.mem (hm _ (by omega)) (hm _ (by omega))).arr h6 (hS _ (by omega)) (fun j hj => hS _ (by omega))
  · exact (v.sc.mem (hm _ (by omega)) hLm).arr (fun y y1 y2 => hS _ (by omega))
theorem wf_undo {S : Nat → Int32} {k : Nat} (W : Wf S) (a1 : ¬ S 6501 = nI 1) (hk : ak S = k + 1) : Wf (unS (up1 S 6507 (nI k)) (S (6100 + 4 * k)) (S (6100 + 4 * k + 1)) (S (6100 + 4 * k + 2)) (S (6100 + 4 * k + 3))) := by
  have n2 := W.nm.2
  have ak2 := W.a.2
  obtain ⟨hv, ag, hu⟩ := UV_pop W.ln W.nm W.a hk W.u
  have al := k_agl (S := S) (y := 6507) (v := nI k) (by omega) (by omega)
  have e : ak (up1 S 6507 (nI k)) = k := by
    unfold ak
    rw [up1_eq, cl_nI (by omega)]
  have hL1 := al.lnok W.ln
  have hN1 := al.nmok W.nm
  have hW1 := al.w W.nm W.ln W.w
  have hC1 := al.c W.nm W.ln W.c
  have hA1 : AkOk (up1 S 6507 (nI k)) := by unfold AkOk; rw [e, up1_eq]; exact ⟨rfl, by omega⟩
  have hWC : WfW (unS (up1 S 6507 (nI k)) (S (6100 + 4 * k)) (S (6100 + 4 * k + 1)) (S (6100 + 4 * k + 2)) (S (6100 + 4 * k + 3))) ∧ WfC (unS (up1 S 6507 (nI k)) (S (6100 + 4 * k)) (S (6100 + 4 * k + 1)) (S (6100 + 4 * k + 2)) (S (6100 + 4 * k + 3))) := by
    have n2' := hN1.2
    rcases hv with ⟨e, l, i, q, x1, x2, x3⟩ | ⟨e, l, i, q, x1, x2, x3, x4, x5, x6, x7, x8, x9⟩ | ⟨e, i, p, x1, x2, x3, x4, x5, x6⟩ | ⟨e, i, p, x1, x2, x3, x4, x5, x6⟩
    · obtain ⟨y1, y2, y3, y4, y5, y6, y7⟩ := id x3
      have := (hL1 i y4).2
      rw [e, x2, unS_1, cl_nI (by omega), y2, y3, cl_nI (by omega), cl_nI (by omega)]
      exact ⟨take_W hN1 hL1 hW1 x1 x3 (Or.inl rfl), take_C hN1 hL1 hC1 x1 x3⟩
    · have := (hL1 i x5).2
      rw [e, x2, x3, x4, unS_2, cl_nI (by omega), cl_nI (by omega), cl_nI (by omega)]
      exact ⟨put_W hN1 hL1 hW1 x1 x5 x7 x8 x9, put_C hN1 hL1 hC1 x1 (by rw [x6]; decide) x5 x7 x8 x9⟩
    · have := (hL1 i x1).2
      rw [e, x2, x3, unS_3, cl_nI (by omega), cl_nI (by omega)]
      exact ⟨up_W hN1 hL1 hW1 x1 (by omega) (Or.inr x6), up_C hN1 hL1 hC1 x1 (by rw [lenS_t x4]; exact x5) (Or.inr x6) (Or.inl rfl)⟩
    · have := (hL1 i x1).2
      rw [e, x2, x3, unS_4, cl_nI (by omega), cl_nI (by omega)]
      exact ⟨up_W hN1 hL1 hW1 x1 (by omega) (Or.inl x6), up_C hN1 hL1 hC1 x1 (by rw [lenS_t x4]; exact x5) (Or.inl x6) (Or.inr rfl)⟩
  refine ⟨ag.lnok hL1, ag.nmok hN1, ag.t (al.t W.t), ag.d hN1 (al.d W.nm W.d), hWC.1, hWC.2, ag.y (W.y.of (up1_ne (by omega)) (up1_ne (by omega)) (up1_ne (by omega))), ag.akok hA1, by rw [ag.akE, e]; exact hu, ag.mv (by omega) (W.m1.of (up1_ne (by omega))), ag.mv (by omega) (W.m2.of (up1_ne (by omega))), fun q => ?_, fun q => ?_⟩
  all_goals
    rw [ag _ (by omega) (by omega), up1_ne (by omega)] at q
    exact absurd q a1
theorem sp_76s {d a : Nat} {m : am_M} {S : Nat → Int32} {L : Int64} (k : ShK m a) (v : ShV m a S L) (W : Wf S) (a1 : S 6501 = nI 1) : cal (d + 3) 76 [.ref a] m = some (some (.int (-2)), m) := by
  have kc := k.ac
  have q := sp_65w (d := d + 2) k v W.y
  rw [decide_eq_true a1] at q
  simp (disch := first | (simp (disch := omega) only [am_k_some, va_rf_some, va_rf_none, tl_some, tl_none, am_clr_int, am_clr_ref, am_clr_none, am_clr_long, am_w_nil, am_w_int, am_w_ref, am_w_long, am_w_null, am_bb_0, am_bb_1, am_bb_bI, xK_sI, xR_sI, xS_sI, xN_sI, xK_sL, xR_sL, xS_sL, xN_sL, xK_sR, xR_sR, xS_sR, xN_sR, xK_sA, xR_sA, xS_sA, xN_sA, Nat.reduceAdd, Nat.reduceLeDiff, sI_sA, I_sA', sA_sA, I_sA, I_sA', nI_add, mul_nI, bI_0, bI_1, k.k, k.r0, k.k0, k.rl, k.r2, kc.k, kc.r0, kc.k0, kc.r1, kc.k1, kc.r2, kc.k2, kc.r3, kc.k3, ix_nI, cl_nI]; done) | omega | assumption) only [c76, e76_0, e76_1, e76_4, e76_7, e76_9, e76_10, e76_11, e76_14, e76_17, e76_20, e76_21, e76_22, e76_23, e76_26, e76_29, e76_30, e76_31, e76_34, e76_37, e76_38, e76_39_1, e76_39_2, e76_39_3, e76_64, e76_65, e76_66, e76_69, e76_72, e76_73, e76_74, e76_75, e76_78, e76_81, e76_82, e76_83, e76_86, e76_89, e76_90, e76_91, e76_92, e76_95, e76_98, e76_99, e76_100, e76_101, e76_104, e76_107, e76_108, e76_109, e76_112, e76_115, e76_116, e76_119, e76_120, e76_123, e76_126, e76_127, e76_128, e76_129, e76_130, e76_133, e76_136, e76_137, e76_138, e76_141, e76_144, e76_145, e76_148, e76_149, e76_152, e76_155, e76_156, e76_157, e76_158, e76_159, e76_162, e76_165, e76_166, e76_167, e76_170, e76_171, am_k_some, va_rf_some, va_rf_none, tl_some, tl_none, am_clr_int, am_clr_ref, am_clr_none, am_clr_long, am_w_nil, am_w_int, am_w_ref, am_w_long, am_w_null, am_bb_0, am_bb_1, am_bb_bI, xK_sI, xR_sI, xS_sI, xN_sI, xK_sL, xR_sL, xS_sL, xN_sL, xK_sR, xR_sR, xS_sR, xN_sR, xK_sA, xR_sA, xS_sA, xN_sA, Nat.reduceAdd, Nat.reduceLeDiff, sI_sA, I_sA', sA_sA, I_sA, I_sA', nI_add, mul_nI, bI_0, bI_1, k.k, k.r0, k.k0, k.rl, k.r2, kc.k, kc.r0, kc.k0, kc.r1, kc.k1, kc.r2, kc.k2, kc.r3, kc.k3, ix_nI, cl_nI, lt_nI, eq_nI, sub_nI, Nat.reduceEqDiff, Nat.one_ne_zero, Nat.not_lt_zero, ↓reduceIte, k1, k2, k3, k4, k5, k6, k7, k8, k9, n10, n01, if_true, if_false, decide_true, decide_false, Bool.true_eq_false, Bool.false_eq_true, not_true_eq_false, not_false_eq_true, and_true, true_and, and_false, false_and, q, Bool.not_true, bI_f]
theorem sp_76z {d a : Nat} {m : am_M} {S : Nat → Int32} {L : Int64} (k : ShK m a) (v : ShV m a S L) (W : Wf S) (a1 : ¬ S 6501 = nI 1) (hk : S 6507 = nI 0) : cal (d + 3) 76 [.ref a] m = some (some (.int (-1)), m) := by
  have kc := k.ac
  have q := sp_65w (d := d + 2) k v W.y
  rw [decide_eq_false a1] at q
  have h4 : mI m (a + 12) 4 = nI 0 := by rw [v.ac.1]; exact hk
  simp (disch := first | (simp (disch := omega) only [am_k_some, va_rf_some, va_rf_none, tl_some, tl_none, am_clr_int, am_clr_ref, am_clr_none, am_clr_long, am_w_nil, am_w_int, am_w_ref, am_w_long, am_w_null, am_bb_0, am_bb_1, am_bb_bI, xK_sI, xR_sI, xS_sI, xN_sI, xK_sL, xR_sL, xS_sL, xN_sL, xK_sR, xR_sR, xS_sR, xN_sR, xK_sA, xR_sA, xS_sA, xN_sA, Nat.reduceAdd, Nat.reduceLeDiff, sI_sA, I_sA', sA_sA, I_sA, I_sA', nI_add, mul_nI, bI_0, bI_1, k.k, k.r0, k.k0, k.rl, k.r2, kc.k, kc.r0, kc.k0, kc.r1, kc.k1, kc.r2, kc.k2, kc.r3, kc.k3, ix_nI, cl_nI]; done) | omega | assumption) only [c76, e76_0, e76_1, e76_4, e76_7, e76_9, e76_10, e76_11, e76_14, e76_17, e76_20, e76_21, e76_22, e76_23, e76_26, e76_29, e76_30, e76_31, e76_34, e76_37, e76_38, e76_39_1, e76_39_2, e76_39_3, e76_64, e76_65, e76_66, e76_69, e76_72, e76_73, e76_74, e76_75, e76_78, e76_81, e76_82, e76_83, e76_86, e76_89, e76_90, e76_91, e76_92, e76_95, e76_98, e76_99, e76_100, e76_101, e76_104, e76_107, e76_108, e76_109, e76_112, e76_115, e76_116, e76_119, e76_120, e76_123, e76_126, e76_127, e76_128, e76_129, e76_130, e76_133, e76_136, e76_137, e76_138, e76_141, e76_144, e76_145, e76_148, e76_149, e76_152, e76_155, e76_156, e76_157, e76_158, e76_159, e76_162, e76_165, e76_166, e76_167, e76_170, e76_171, am_k_some, va_rf_some, va_rf_none, tl_some, tl_none, am_clr_int, am_clr_ref, am_clr_none, am_clr_long, am_w_nil, am_w_int, am_w_ref, am_w_long, am_w_null, am_bb_0, am_bb_1, am_bb_bI, xK_sI, xR_sI, xS_sI, xN_sI, xK_sL, xR_sL, xS_sL, xN_sL, xK_sR, xR_sR, xS_sR, xN_sR, xK_sA, xR_sA, xS_sA, xN_sA, Nat.reduceAdd, Nat.reduceLeDiff, sI_sA, I_sA', sA_sA, I_sA, I_sA', nI_add, mul_nI, bI_0, bI_1, k.k, k.r0, k.k0, k.rl, k.r2, kc.k, kc.r0, kc.k0, kc.r1, kc.k1, kc.r2, kc.k2, kc.r3, kc.k3, ix_nI, cl_nI, lt_nI, eq_nI, sub_nI, Nat.reduceEqDiff, Nat.one_ne_zero, Nat.not_lt_zero, ↓reduceIte, k1, k2, k3, k4, k5, k6, k7, k8, k9, n10, n01, if_true, if_false, decide_true, decide_false, Bool.true_eq_false, Bool.false_eq_true, not_true_eq_false, not_false_eq_true, and_true, true_and, and_false, false_and, q, h4, Bool.not_false, bI_t]
theorem sp_76 {d a n : Nat} {m : am_M} {S : Nat → Int32} {L : Int64} (k : ShK m a) (v : ShV m a S L) (W : Wf S) (a1 : ¬ S 6501 = nI 1) (hk : ak S = n + 1) :
    ∃ m', cal (d + 3) 76 [.ref a] m = some (some (.int (nI 1)), m') ∧ Fr a m m' ∧ ShV m' a (unS (up1 S 6507 (nI n)) (S (6100 + 4 * n)) (S (6100 + 4 * n + 1)) (S (6100 + 4 * n + 2)) (S (6100 + 4 * n + 3))) L := by
  have n2 := W.nm.2
  have ak2 := W.a.2
  have kc := k.ac
  have q := sp_65w (d := d + 2) k v W.y
  rw [decide_eq_false a1] at q
  have h4 : mI m (a + 12) 4 = nI (n + 1) := by rw [v.ac.1, ← hk]; exact W.a.1
  have z4 : ¬ n + 1 = 0 := by omega
  obtain ⟨t, u, t1, t2, tu, va, o0, o12, o34⟩ := v.ac.pop W.a hk
  have u2 : u < 100 := by rw [tu]; split <;> omega
  have pp := sp_3 (d := d + 2) kc t2 t1 h4
  rw [← tu] at pp
  obtain ⟨hv, ag, hu⟩ := UV_pop W.ln W.nm W.a hk W.u
  have al := k_agl (S := S) (y := 6507) (v := nI n) (by omega) (by omega)
  have hL1 := al.lnok W.ln
  have hN1 := al.nmok W.nm
  have hA1 : AkOk (up1 S 6507 (nI n)) := by
    have e : ak (up1 S 6507 (nI n)) = n := by
      unfold ak
      rw [up1_eq, cl_nI (by omega)]
    unfold AkOk; rw [e, up1_eq]; exact ⟨rfl, by omega⟩
  have h51 : MvOk (up1 S 6507 (nI n)) 6505 := W.m1.of (up1_ne (by omega))
  have h61 : MvOk (up1 S 6507 (nI n)) 6506 := W.m2.of (up1_ne (by omega))
  generalize hm1 : sA m (a + 12) (up1 (up1 (mI m (a + 12)) 5 (nI u)) 4 (nI n)) = m1 at *
  have f1 : Fr a m m1 := by rw [← hm1]; exact (Fr.refl a m).sA (by omega) (by omega)
  have c1 := k.fr f1
  have kc1 := c1.ac
  have hm : ∀ x, x ≠ a + 12 → mI m1 x = mI m x := fun x hx => by rw [← hm1, I_sA' _ _ hx]
  have v1 : ShV m1 a (up1 S 6507 (nI n)) L := v.acts W.ln W.nm W.m1 W.m2 (fun y hy => up1_ne hy) hm (by rw [← hm1]; rfl) va
  rw [← hm _ (by omega)] at o0
  rw [← hm (a + 12 + 2) (by omega), ← hm (a + 12 + 3) (by omega), ← hm (a + 12 + 4) (by omega)] at o12
  rw [← hm (a + 12 + 3) (by omega), ← hm (a + 12 + 4) (by omega)] at o34
  have n2' := hN1.2
  rcases hv with ⟨e, l, i, p, x1, x2, x3⟩ | ⟨e, l, i, p, x1, x2, x3, x4, x5, x6, x7, x8, x9⟩ | ⟨e, i, p, x1, x2, x3, x4, x5, x6⟩ | ⟨e, i, p, x1, x2, x3, x4, x5, x6⟩
  · obtain ⟨y1, y2, y3, y4, y5, y6, y7⟩ := id x3
    have := (hL1 i y4).2
    obtain ⟨o1, -, -⟩ := o12 (Or.inl e)
    rw [x2] at o1
    rw [e] at o0
    obtain ⟨m2, e2, f2, v2⟩ := sp_74 (d := d) c1 v1 hL1 hN1 hA1 h51 h61 x1 x3 (Or.inl rfl)
    rw [e, x2, unS_1, cl_nI (by omega), y2, y3, cl_nI (by omega), cl_nI (by omega)]
    refine ⟨m2, ?_, f1.trans f2, v2⟩
    simp (disch := first | (simp (disch := omega) only [am_k_some, va_rf_some, va_rf_none, tl_some, tl_none, am_clr_int, am_clr_ref, am_clr_none, am_clr_long, am_w_nil, am_w_int, am_w_ref, am_w_long, am_w_null, am_bb_0, am_bb_1, am_bb_bI, xK_sI, xR_sI, xS_sI, xN_sI, xK_sL, xR_sL, xS_sL, xN_sL, xK_sR, xR_sR, xS_sR, xN_sR, xK_sA, xR_sA, xS_sA, xN_sA, Nat.reduceAdd, Nat.reduceLeDiff, sI_sA, I_sA', sA_sA, I_sA, I_sA', nI_add, mul_nI, bI_0, bI_1, k.k, k.r0, k.k0, k.rl, k.r2, kc.k, kc.r0, kc.k0, kc.r1, kc.k1, kc.r2, kc.k2, kc.r3, kc.k3, c1.k, c1.r0, c1.k0, c1.rl, c1.r2, kc1.k, kc1.r0, kc1.k0, kc1.r1, kc1.k1, kc1.r2, kc1.k2, kc1.r3, kc1.k3, ix_nI, cl_nI]; done) | omega | assumption) only [c76, e76_0, e76_1, e76_4, e76_7, e76_9, e76_10, e76_11, e76_14, e76_17, e76_20, e76_21, e76_22, e76_23, e76_26, e76_29, e76_30, e76_31, e76_34, e76_37, e76_38, e76_39_1, e76_39_2, e76_39_3, e76_64, e76_65, e76_66, e76_69, e76_72, e76_73, e76_74, e76_75, e76_78, e76_81, e76_82, e76_83, e76_86, e76_89, e76_90, e76_91, e76_92, e76_95, e76_98, e76_99, e76_100, e76_101, e76_104, e76_107, e76_108, e76_109, e76_112, e76_115, e76_116, e76_119, e76_120, e76_123, e76_126, e76_127, e76_128, e76_129, e76_130, e76_133, e76_136, e76_137, e76_138, e76_141, e76_144, e76_145, e76_148, e76_149, e76_152, e76_155, e76_156, e76_157, e76_158, e76_159, e76_162, e76_165, e76_166, e76_167, e76_170, e76_171, am_k_some, va_rf_some, va_rf_none, tl_some, tl_none, am_clr_int, am_clr_ref, am_clr_none, am_clr_long, am_w_nil, am_w_int, am_w_ref, am_w_long, am_w_null, am_bb_0, am_bb_1, am_bb_bI, xK_sI, xR_sI, xS_sI, xN_sI, xK_sL, xR_sL, xS_sL, xN_sL, xK_sR, xR_sR, xS_sR, xN_sR, xK_sA, xR_sA, xS_sA, xN_sA, Nat.reduceAdd, Nat.reduceLeDiff, sI_sA, I_sA', sA_sA, I_sA, I_sA', nI_add, mul_nI, bI_0, bI_1, k.k, k.r0, k.k0, k.rl, k.r2, kc.k, kc.r0, kc.k0, kc.r1, kc.k1, kc.r2, kc.k2, kc.r3, kc.k3, c1.k, c1.r0, c1.k0, c1.rl, c1.r2, kc1.k, kc1.r0, kc1.k0, kc1.r1, kc1.k1, kc1.r2, kc1.k2, kc1.r3, kc1.k3, ix_nI, cl_nI, lt_nI, eq_nI, sub_nI, Nat.reduceEqDiff, Nat.one_ne_zero, Nat.not_lt_zero, ↓reduceIte, k1, k2, k3, k4, k5, k6, k7, k8, k9, n10, n01, if_true, if_false, decide_true, decide_false, Bool.true_eq_false, Bool.false_eq_true, not_true_eq_false, not_false_eq_true, and_true, true_and, and_false, false_and, q, h4, z4, Bool.not_false, bI_t, pp, o0, o1, e2]
  · have := (hL1 i x5).2
    obtain ⟨o1, o2, o3⟩ := o12 (Or.inr e)
    rw [x2] at o1
    rw [x3] at o2
    rw [x4] at o3
    rw [e] at o0
    obtain ⟨m2, e2, f2, v2⟩ := sp_73 (d := d) c1 v1 hL1 hN1 hA1 h51 h61 x1 x5 (show p + spanS (up1 S 6507 (nI n)) l ≤ lenS (up1 S 6507 (nI n)) i by rw [lenS_t x7]; exact x8) (by rw [x6]; decide) x9
    rw [e, x2, x3, x4, unS_2, cl_nI (by omega), cl_nI (by omega), cl_nI (by omega)]
    refine ⟨m2, ?_, f1.trans f2, v2⟩
    simp (disch := first | (simp (disch := omega) only [am_k_some, va_rf_some, va_rf_none, tl_some, tl_none, am_clr_int, am_clr_ref, am_clr_none, am_clr_long, am_w_nil, am_w_int, am_w_ref, am_w_long, am_w_null, am_bb_0, am_bb_1, am_bb_bI, xK_sI, xR_sI, xS_sI, xN_sI, xK_sL, xR_sL, xS_sL, xN_sL, xK_sR, xR_sR, xS_sR, xN_sR, xK_sA, xR_sA, xS_sA, xN_sA, Nat.reduceAdd, Nat.reduceLeDiff, sI_sA, I_sA', sA_sA, I_sA, I_sA', nI_add, mul_nI, bI_0, bI_1, k.k, k.r0, k.k0, k.rl, k.r2, kc.k, kc.r0, kc.k0, kc.r1, kc.k1, kc.r2, kc.k2, kc.r3, kc.k3, c1.k, c1.r0, c1.k0, c1.rl, c1.r2, kc1.k, kc1.r0, kc1.k0, kc1.r1, kc1.k1, kc1.r2, kc1.k2, kc1.r3, kc1.k3, ix_nI, cl_nI]; done) | omega | assumption) only [c76, e76_0, e76_1, e76_4, e76_7, e76_9, e76_10, e76_11, e76_14, e76_17, e76_20, e76_21, e76_22, e76_23, e76_26, e76_29, e76_30, e76_31, e76_34, e76_37, e76_38, e76_39_1, e76_39_2, e76_39_3, e76_64, e76_65, e76_66, e76_69, e76_72, e76_73, e76_74, e76_75, e76_78, e76_81, e76_82, e76_83, e76_86, e76_89, e76_90, e76_91, e76_92, e76_95, e76_98, e76_99, e76_100, e76_101, e76_104, e76_107, e76_108, e76_109, e76_112, e76_115, e76_116, e76_119, e76_120, e76_123, e76_126, e76_127, e76_128, e76_129, e76_130, e76_133, e76_136, e76_137, e76_138, e76_141, e76_144, e76_145, e76_148, e76_149, e76_152, e76_155, e76_156, e76_157, e76_158, e76_159, e76_162, e76_165, e76_166, e76_167, e76_170, e76_171, am_k_some, va_rf_some, va_rf_none, tl_some, tl_none, am_clr_int, am_clr_ref, am_clr_none, am_clr_long, am_w_nil, am_w_int, am_w_ref, am_w_long, am_w_null, am_bb_0, am_bb_1, am_bb_bI, xK_sI, xR_sI, xS_sI, xN_sI, xK_sL, xR_sL, xS_sL, xN_sL, xK_sR, xR_sR, xS_sR, xN_sR, xK_sA, xR_sA, xS_sA, xN_sA, Nat.reduceAdd, Nat.reduceLeDiff, sI_sA, I_sA', sA_sA, I_sA, I_sA', nI_add, mul_nI, bI_0, bI_1, k.k, k.r0, k.k0, k.rl, k.r2, kc.k, kc.r0, kc.k0, kc.r1, kc.k1, kc.r2, kc.k2, kc.r3, kc.k3, c1.k, c1.r0, c1.k0, c1.rl, c1.r2, kc1.k, kc1.r0, kc1.k0, kc1.r1, kc1.k1, kc1.r2, kc1.k2, kc1.r3, kc1.k3, ix_nI, cl_nI, lt_nI, eq_nI, sub_nI, Nat.reduceEqDiff, Nat.one_ne_zero, Nat.not_lt_zero, ↓reduceIte, k1, k2, k3, k4, k5, k6, k7, k8, k9, n10, n01, if_true, if_false, decide_true, decide_false, Bool.true_eq_false, Bool.false_eq_true, not_true_eq_false, not_false_eq_true, and_true, true_and, and_false, false_and, q, h4, z4, Bool.not_false, bI_t, pp, o0, o1, o2, o3, e2]
  · have := (hL1 i x1).2
    obtain ⟨o2, o3⟩ := o34 (Or.inl e)
    rw [x2] at o2
    rw [x3] at o3
    rw [e] at o0
    have kl := c1.la i x1
    obtain ⟨m2, e2, f2, v2⟩ := sh_lift (d := d + 1) c1 v1 hL1 hN1 hA1 h51 h61 x1 (show p < lenS (up1 S 6507 (nI n)) i by rw [lenS_t x4]; exact x5) x6
    rw [e, x2, x3, unS_3, cl_nI (by omega), cl_nI (by omega)]
    refine ⟨m2, ?_, f1.trans f2, v2⟩
    simp (disch := first | (simp (disch := omega) only [am_k_some, va_rf_some, va_rf_none, tl_some, tl_none, am_clr_int, am_clr_ref, am_clr_none, am_clr_long, am_w_nil, am_w_int, am_w_ref, am_w_long, am_w_null, am_bb_0, am_bb_1, am_bb_bI, xK_sI, xR_sI, xS_sI, xN_sI, xK_sL, xR_sL, xS_sL, xN_sL, xK_sR, xR_sR, xS_sR, xN_sR, xK_sA, xR_sA, xS_sA, xN_sA, Nat.reduceAdd, Nat.reduceLeDiff, sI_sA, I_sA', sA_sA, I_sA, I_sA', nI_add, mul_nI, bI_0, bI_1, k.k, k.r0, k.k0, k.rl, k.r2, kc.k, kc.r0, kc.k0, kc.r1, kc.k1, kc.r2, kc.k2, kc.r3, kc.k3, c1.k, c1.r0, c1.k0, c1.rl, c1.r2, kc1.k, kc1.r0, kc1.k0, kc1.r1, kc1.k1, kc1.r2, kc1.k2, kc1.r3, kc1.k3, kl.k, ix_nI, cl_nI]; done) | omega | assumption) only [c76, e76_0, e76_1, e76_4, e76_7, e76_9, e76_10, e76_11, e76_14, e76_17, e76_20, e76_21, e76_22, e76_23, e76_26, e76_29, e76_30, e76_31, e76_34, e76_37, e76_38, e76_39_1, e76_39_2, e76_39_3, e76_64, e76_65, e76_66, e76_69, e76_72, e76_73, e76_74, e76_75, e76_78, e76_81, e76_82, e76_83, e76_86, e76_89, e76_90, e76_91, e76_92, e76_95, e76_98, e76_99, e76_100, e76_101, e76_104, e76_107, e76_108, e76_109, e76_112, e76_115, e76_116, e76_119, e76_120, e76_123, e76_126, e76_127, e76_128, e76_129, e76_130, e76_133, e76_136, e76_137, e76_138, e76_141, e76_144, e76_145, e76_148, e76_149, e76_152, e76_155, e76_156, e76_157, e76_158, e76_159, e76_162, e76_165, e76_166, e76_167, e76_170, e76_171, am_k_some, va_rf_some, va_rf_none, tl_some, tl_none, am_clr_int, am_clr_ref, am_clr_none, am_clr_long, am_w_nil, am_w_int, am_w_ref, am_w_long, am_w_null, am_bb_0, am_bb_1, am_bb_bI, xK_sI, xR_sI, xS_sI, xN_sI, xK_sL, xR_sL, xS_sL, xN_sL, xK_sR, xR_sR, xS_sR, xN_sR, xK_sA, xR_sA, xS_sA, xN_sA, Nat.reduceAdd, Nat.reduceLeDiff, sI_sA, I_sA', sA_sA, I_sA, I_sA', nI_add, mul_nI, bI_0, bI_1, k.k, k.r0, k.k0, k.rl, k.r2, kc.k, kc.r0, kc.k0, kc.r1, kc.k1, kc.r2, kc.k2, kc.r3, kc.k3, c1.k, c1.r0, c1.k0, c1.rl, c1.r2, kc1.k, kc1.r0, kc1.k0, kc1.r1, kc1.k1, kc1.r2, kc1.k2, kc1.r3, kc1.k3, ix_nI, cl_nI, lt_nI, eq_nI, sub_nI, Nat.reduceEqDiff, Nat.one_ne_zero, Nat.not_lt_zero, ↓reduceIte, k1, k2, k3, k4, k5, k6, k7, k8, k9, n10, n01, if_true, if_false, decide_true, decide_false, Bool.true_eq_false, Bool.false_eq_true, not_true_eq_false, not_false_eq_true, and_true, true_and, and_false, false_and, q, h4, z4, Bool.not_false, bI_t, pp, o0, o2, o3, kl.k, e2]
  · have := (hL1 i x1).2
    obtain ⟨o2, o3⟩ := o34 (Or.inr e)
    rw [x2] at o2
    rw [x3] at o3
    rw [e] at o0
    have kl := c1.la i x1
    have w4 : (nI 4).toInt < 1 ∨ 3 < (nI 4).toInt := Or.inr (by decide)
    obtain ⟨m2, e2, f2, v2⟩ := sh_lay (d := d + 1) c1 v1 hL1 hN1 hA1 h51 h61 x1 (show p < lenS (up1 S 6507 (nI n)) i by rw [lenS_t x4]; exact x5) x6
    rw [e, x2, x3, unS_4, cl_nI (by omega), cl_nI (by omega)]
    refine ⟨m2, ?_, f1.trans f2, v2⟩
    simp (disch := first | (simp (disch := omega) only [am_k_some, va_rf_some, va_rf_none, tl_some, tl_none, am_clr_int, am_clr_ref, am_clr_none, am_clr_long, am_w_nil, am_w_int, am_w_ref, am_w_long, am_w_null, am_bb_0, am_bb_1, am_bb_bI, xK_sI, xR_sI, xS_sI, xN_sI, xK_sL, xR_sL, xS_sL, xN_sL, xK_sR, xR_sR, xS_sR, xN_sR, xK_sA, xR_sA, xS_sA, xN_sA, Nat.reduceAdd, Nat.reduceLeDiff, sI_sA, I_sA', sA_sA, I_sA, I_sA', nI_add, mul_nI, bI_0, bI_1, k.k, k.r0, k.k0, k.rl, k.r2, kc.k, kc.r0, kc.k0, kc.r1, kc.k1, kc.r2, kc.k2, kc.r3, kc.k3, c1.k, c1.r0, c1.k0, c1.rl, c1.r2, kc1.k, kc1.r0, kc1.k0, kc1.r1, kc1.k1, kc1.r2, kc1.k2, kc1.r3, kc1.k3, kl.k, ix_nI, cl_nI]; done) | omega | assumption) only [c76, e76_0, e76_1, e76_4, e76_7, e76_9, e76_10, e76_11, e76_14, e76_17, e76_20, e76_21, e76_22, e76_23, e76_26, e76_29, e76_30, e76_31, e76_34, e76_37, e76_38, e76_39_1, e76_39_2, e76_39_3, e76_64, e76_65, e76_66, e76_69, e76_72, e76_73, e76_74, e76_75, e76_78, e76_81, e76_82, e76_83, e76_86, e76_89, e76_90, e76_91, e76_92, e76_95, e76_98, e76_99, e76_100, e76_101, e76_104, e76_107, e76_108, e76_109, e76_112, e76_115, e76_116, e76_119, e76_120, e76_123, e76_126, e76_127, e76_128, e76_129, e76_130, e76_133, e76_136, e76_137, e76_138, e76_141, e76_144, e76_145, e76_148, e76_149, e76_152, e76_155, e76_156, e76_157, e76_158, e76_159, e76_162, e76_165, e76_166, e76_167, e76_170, e76_171, am_k_some, va_rf_some, va_rf_none, tl_some, tl_none, am_clr_int, am_clr_ref, am_clr_none, am_clr_long, am_w_nil, am_w_int, am_w_ref, am_w_long, am_w_null, am_bb_0, am_bb_1, am_bb_bI, xK_sI, xR_sI, xS_sI, xN_sI, xK_sL, xR_sL, xS_sL, xN_sL, xK_sR, xR_sR, xS_sR, xN_sR, xK_sA, xR_sA, xS_sA, xN_sA, Nat.reduceAdd, Nat.reduceLeDiff, sI_sA, I_sA', sA_sA, I_sA, I_sA', nI_add, mul_nI, bI_0, bI_1, k.k, k.r0, k.k0, k.rl, k.r2, kc.k, kc.r0, kc.k0, kc.r1, kc.k1, kc.r2, kc.k2, kc.r3, kc.k3, c1.k, c1.r0, c1.k0, c1.rl, c1.r2, kc1.k, kc1.r0, kc1.k0, kc1.r1, kc1.k1, kc1.r2, kc1.k2, kc1.r3, kc1.k3, ix_nI, cl_nI, lt_nI, eq_nI, sub_nI, Nat.reduceEqDiff, Nat.one_ne_zero, Nat.not_lt_zero, ↓reduceIte, k1, k2, k3, k4, k5, k6, k7, k8, k9, n10, n01, if_true, if_false, decide_true, decide_false, Bool.true_eq_false, Bool.false_eq_true, not_true_eq_false, not_false_eq_true, and_true, true_and, and_false, false_and, q, h4, z4, Bool.not_false, bI_t, pp, o0, e76_39_x w4, o2, o3, kl.k, e2]
