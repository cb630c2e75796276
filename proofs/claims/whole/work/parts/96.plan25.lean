/-! THE PLANNER, 25: the class: gatherLoads, findLeast -/
section GL
variable {o a : Nat} {S : Nat → Int32} {L : Int64}
theorem qT_lt {S : Nat → Int32} {k : Nat} (h : k < qN S) : qT S k < nm S := (fL_get (quB S) h).1
theorem sp_40l {d : Nat} (W : Wf S) (ha : a + 66 ≤ o) (h6 : qN S ≤ 6) : ∀ r i (m : am_M) (pi : Nat → Nat), i + r = nm S → PB m o a S L → mI m o 9 = nI (fL (quB S) i).length → (∀ j, j < (fL (quB S) i).length → mI m (o + 1) j = nI (qT S j) ∧ mI m (o + 7) j = -1) → FpV (mI m (o + 2)) (ptS S (qT S)) (fL (quB S) i).length pi →
    ∃ m' pi', ev (d + 2) 40 7 [some (.ref o), some (.int (nI i))] [] m = some (none, m') ∧ FrP (fun x => x = o ∨ x = o + 1 ∨ x = o + 2 ∨ x = o + 7) m m' ∧ (∀ j, j ≠ 9 → mI m' o j = mI m o j) ∧ mI m' o 9 = nI (qN S) ∧ (∀ j, j < qN S → mI m' (o + 1) j = nI (qT S j) ∧ mI m' (o + 7) j = -1) ∧ FpV (mI m' (o + 2)) (ptS S (qT S)) (qN S) pi' := by
  have n2 := W.nm.2
  intro r
  induction r with
  | zero =>
    intro i m pi hi C hc hy fp
    obtain ⟨p, rs, k, la, lo, sc⟩ := id C; have ko := k.lo
    have hi' : i = nm S := by omega
    subst hi'
    have hnl : ¬ nm S < nm S := by omega
    have h9 : mI m (a + 2) 9 = nI (nm S) := by rw [lo.1]; exact W.nm.1
    refine ⟨m, pi, ?_, FrP.refl _ m, fun _ _ => rfl, hc, hy, fp⟩
    rw [e40_7]
    simp (disch := first | (simp (disch := omega) only [am_k_some, va_rf_some, va_rf_none, tl_some, tl_none, am_clr_int, am_clr_ref, am_clr_none, am_clr_long, am_w_nil, am_w_int, am_w_ref, am_w_long, am_w_null, am_bb_0, am_bb_1, am_bb_bI, xK_sI, xR_sI, xS_sI, xN_sI, xK_sL, xR_sL, xS_sL, xN_sL, xK_sR, xR_sR, xS_sR, xN_sR, xK_sA, xR_sA, xS_sA, xN_sA, Nat.reduceAdd, Nat.reduceLeDiff, sI_sA, I_sA', sA_sA, I_sA, I_sA', nI_add, mul_nI, bI_0, bI_1, p.k, rs, p.r1, p.k1, p.r2, p.k2, p.r3, p.k3, p.r4, p.k4, p.r5, p.k5, p.r6, p.k6, p.r7, p.k7, p.r8, p.k8, k.k, k.r0, k.k0, k.rl, k.r1, k.r3, ko.k, ko.r0, ko.k0, ko.r1, ko.k1, ko.r2, ko.k2, ko.r3, ko.k3, ko.r4, ko.k4, ko.r6, ko.k6, ix_nI, cl_nI]; done) | omega | assumption) only [e40_0, e40_1, e40_2, e40_5, e40_6, e40_8, e40_9, e40_12, e40_15, e40_18, e40_21, e40_22, e40_25, e40_27, e40_30, e40_31, e40_34, e40_37, e40_40, e40_41, e40_42, e40_45, e40_46, e40_49, e40_50, e40_53, e40_54, e40_55, e40_56, e40_59, e40_60, e40_63, e40_64, e40_65, e40_66, e40_67, e40_70, e40_73, e40_74, e40_74r, e40_75, e40_78, e40_79, e40_80, e40_83, e40_86, e40_89, am_k_some, va_rf_some, va_rf_none, tl_some, tl_none, am_clr_int, am_clr_ref, am_clr_none, am_clr_long, am_w_nil, am_w_int, am_w_ref, am_w_long, am_w_null, am_bb_0, am_bb_1, am_bb_bI, xK_sI, xR_sI, xS_sI, xN_sI, xK_sL, xR_sL, xS_sL, xN_sL, xK_sR, xR_sR, xS_sR, xN_sR, xK_sA, xR_sA, xS_sA, xN_sA, Nat.reduceAdd, Nat.reduceLeDiff, sI_sA, I_sA', sA_sA, I_sA, I_sA', nI_add, mul_nI, bI_0, bI_1, p.k, rs, p.r1, p.k1, p.r2, p.k2, p.r3, p.k3, p.r4, p.k4, p.r5, p.k5, p.r6, p.k6, p.r7, p.k7, p.r8, p.k8, k.k, k.r0, k.k0, k.rl, k.r1, k.r3, ko.k, ko.r0, ko.k0, ko.r1, ko.k1, ko.r2, ko.k2, ko.r3, ko.k3, ko.r4, ko.k4, ko.r6, ko.k6, ix_nI, cl_nI, lt_nI, eq_nI, sub_nI, Nat.reduceEqDiff, Nat.one_ne_zero, Nat.not_lt_zero, ↓reduceIte, h9, hnl]
  | succ r ih =>
    intro i m pi hi C hc hy fp
    obtain ⟨p, rs, k, la, lo, sc⟩ := id C; have ko := k.lo
    have hnl : i < nm S := by omega
    have h9 : mI m (a + 2) 9 = nI (nm S) := by rw [lo.1]; exact W.nm.1
    have le := fL_le (quB S) i
    have mo : (fL (quB S) i).length ≤ qN S := by
      have := fL_mono (quB S) (r + 1) i
      rw [hi] at this
      exact this
    obtain ⟨-, -, -, -, -, -, w7, -⟩ := lo.2 i hnl
    by_cases c3 : (fL (quB S) i).length < 6
    · cases q : quB S i with
      | false =>
        have nt : ¬ S (3300 + i) = nI 0 := of_decide_eq_false q
        obtain ⟨m', pi', e, F, O, y1, y2, y3⟩ := ih (i + 1) m pi (by omega) C (by rw [fL_n q]; exact hc) (by rw [fL_n q]; exact hy) (by rw [fL_n q]; exact fp)
        refine ⟨m', pi', ?_, F, O, y1, y2, y3⟩
        rw [← e, e40_7]
        simp (disch := first | (simp (disch := omega) only [am_k_some, va_rf_some, va_rf_none, tl_some, tl_none, am_clr_int, am_clr_ref, am_clr_none, am_clr_long, am_w_nil, am_w_int, am_w_ref, am_w_long, am_w_null, am_bb_0, am_bb_1, am_bb_bI, xK_sI, xR_sI, xS_sI, xN_sI, xK_sL, xR_sL, xS_sL, xN_sL, xK_sR, xR_sR, xS_sR, xN_sR, xK_sA, xR_sA, xS_sA, xN_sA, Nat.reduceAdd, Nat.reduceLeDiff, sI_sA, I_sA', sA_sA, I_sA, I_sA', nI_add, mul_nI, bI_0, bI_1, p.k, rs, p.r1, p.k1, p.r2, p.k2, p.r3, p.k3, p.r4, p.k4, p.r5, p.k5, p.r6, p.k6, p.r7, p.k7, p.r8, p.k8, k.k, k.r0, k.k0, k.rl, k.r1, k.r3, ko.k, ko.r0, ko.k0, ko.r1, ko.k1, ko.r2, ko.k2, ko.r3, ko.k3, ko.r4, ko.k4, ko.r6, ko.k6, ix_nI, cl_nI]; done) | omega | assumption) only [e40_0, e40_1, e40_2, e40_5, e40_6, e40_8, e40_9, e40_12, e40_15, e40_18, e40_21, e40_22, e40_25, e40_27, e40_30, e40_31, e40_34, e40_37, e40_40, e40_41, e40_42, e40_45, e40_46, e40_49, e40_50, e40_53, e40_54, e40_55, e40_56, e40_59, e40_60, e40_63, e40_64, e40_65, e40_66, e40_67, e40_70, e40_73, e40_74, e40_74r, e40_75, e40_78, e40_79, e40_80, e40_83, e40_86, e40_89, am_k_some, va_rf_some, va_rf_none, tl_some, tl_none, am_clr_int, am_clr_ref, am_clr_none, am_clr_long, am_w_nil, am_w_int, am_w_ref, am_w_long, am_w_null, am_bb_0, am_bb_1, am_bb_bI, xK_sI, xR_sI, xS_sI, xN_sI, xK_sL, xR_sL, xS_sL, xN_sL, xK_sR, xR_sR, xS_sR, xN_sR, xK_sA, xR_sA, xS_sA, xN_sA, Nat.reduceAdd, Nat.reduceLeDiff, sI_sA, I_sA', sA_sA, I_sA, I_sA', nI_add, mul_nI, bI_0, bI_1, p.k, rs, p.r1, p.k1, p.r2, p.k2, p.r3, p.k3, p.r4, p.k4, p.r5, p.k5, p.r6, p.k6, p.r7, p.k7, p.r8, p.k8, k.k, k.r0, k.k0, k.rl, k.r1, k.r3, ko.k, ko.r0, ko.k0, ko.r1, ko.k1, ko.r2, ko.k2, ko.r3, ko.k3, ko.r4, ko.k4, ko.r6, ko.k6, ix_nI, cl_nI, lt_nI, eq_nI, sub_nI, Nat.reduceEqDiff, Nat.one_ne_zero, Nat.not_lt_zero, ↓reduceIte, h9, hnl, hc, c3, w7, nt]
      | true =>
        have tt : S (3300 + i) = nI 0 := of_decide_eq_true q
        rw [tt] at w7
        have el : (fL (quB S) (i + 1)).length = (fL (quB S) i).length + 1 := by rw [fL_s q, List.length_append]; rfl
        have ed : qT S (fL (quB S) i).length = i := by
          have := (fL_pre (quB S) r (i + 1) (j := (fL (quB S) i).length) (by omega)).1
          rw [show i + 1 + r = nm S by omega] at this
          show (fL (quB S) (nm S)).getD _ 0 = i
          rw [this, fL_s q, getD_app2]
        have mo' : (fL (quB S) (i + 1)).length ≤ qN S := by
          have := fL_mono (quB S) r (i + 1)
          rw [show i + 1 + r = nm S by omega] at this
          exact this
        generalize hm1 : sA (sA m (o + 1) (up1 (mI m (o + 1)) (fL (quB S) i).length (nI i))) (o + 7) (up1 (mI m (o + 7)) (fL (quB S) i).length (-1)) = m1
        have F1 : FrP (fun x => x = o ∨ x = o + 1 ∨ x = o + 2 ∨ x = o + 7) m m1 := by
          rw [← hm1]
          exact ((FrP.refl _ m).sA (by omega)).sA (by omega)
        have i1 : mI m1 (o + 1) = up1 (mI m (o + 1)) (fL (quB S) i).length (nI i) := by rw [← hm1, I_sA' _ _ (by omega), I_sA]
        have i7 : mI m1 (o + 7) = up1 (mI m (o + 7)) (fL (quB S) i).length (-1) := by rw [← hm1, I_sA]
        have i2 : mI m1 (o + 2) = mI m (o + 2) := by rw [← hm1, I_sA' _ _ (by omega), I_sA' _ _ (by omega)]
        have i0 : mI m1 o = mI m o := by rw [← hm1, I_sA' _ _ (by omega), I_sA' _ _ (by omega)]
        have C1 := C.fr F1 (fun x h1 h2 h3 => by omega)
        obtain ⟨m2, pi2, e2, F2, f2⟩ := sp_41 (d := d) (q := (fL (quB S) i).length) (T := ptS S (qT S)) (lN := qT S) (pi := pi) W ha C1 c3 (fun x hx => by
          rw [i1]
          refine ⟨?_, qT_lt (by omega), rfl⟩
          by_cases z : x = (fL (quB S) i).length
          · rw [z, up1_eq, ed]
          · rw [up1_ne z]; exact (hy x (by omega)).1) (by rw [i2]; exact fp)
        generalize hm3 : sA m2 o (up1 (mI m2 o) 9 (nI ((fL (quB S) i).length + 1))) = m3
        have F3 : FrP (fun x => x = o) m2 m3 := by
          rw [← hm3]
          exact (FrP.refl (fun x => x = o) m2).sA rfl
        have j0 : mI m3 o = up1 (mI m o) 9 (nI ((fL (quB S) i).length + 1)) := by rw [← hm3, I_sA, F2.i (by omega), i0]
        have F13 : FrP (fun x => x = o ∨ x = o + 1 ∨ x = o + 2 ∨ x = o + 7) m m3 := (F1.trans (F2.mono (fun x hx => by omega))).trans (F3.mono (fun x hx => by omega))
        obtain ⟨m', pi', e, F, O, y1, y2, y3⟩ := ih (i + 1) m3 pi2 (by omega) (C.fr F13 (fun x h1 h2 h3 => by omega)) (by rw [j0, up1_eq, el]) (fun j hj => by
          rw [el] at hj
          rw [F3.i (by omega), F3.i (by omega), F2.i (by omega), F2.i (by omega), i1, i7]
          by_cases z : j = (fL (quB S) i).length
          · rw [z, up1_eq, up1_eq, ed]; exact ⟨rfl, rfl⟩
          · rw [up1_ne z, up1_ne z]; exact hy j (by omega)) (by rw [el, F3.i (by omega)]; exact f2)
        refine ⟨m', pi', ?_, F13.trans F, fun j hj => by rw [O j hj, j0, up1_ne hj], y1, y2, y3⟩
        have C2 := C1.fr F2 (fun x h1 h2 h3 => by omega)
        have p2 := C2.1.k
        have h92 : mI m2 o 9 = nI (fL (quB S) i).length := by rw [F2.i (by omega), i0]; exact hc
        have h91 : mI m1 o 9 = nI (fL (quB S) i).length := by rw [i0]; exact hc
        have p1 := C1.1.k
        have X1 : ev (d + 2) 40 7 [some (.ref o), some (.int (nI i))] [] m = ev (d + 2) 40 65 [some (.ref o), some (.int (nI i))] [] m1 := by
          rw [← hm1, e40_7]
          simp (disch := first | (simp (disch := omega) only [am_k_some, va_rf_some, va_rf_none, tl_some, tl_none, am_clr_int, am_clr_ref, am_clr_none, am_clr_long, am_w_nil, am_w_int, am_w_ref, am_w_long, am_w_null, am_bb_0, am_bb_1, am_bb_bI, xK_sI, xR_sI, xS_sI, xN_sI, xK_sL, xR_sL, xS_sL, xN_sL, xK_sR, xR_sR, xS_sR, xN_sR, xK_sA, xR_sA, xS_sA, xN_sA, Nat.reduceAdd, Nat.reduceLeDiff, sI_sA, I_sA', sA_sA, I_sA, I_sA', nI_add, mul_nI, bI_0, bI_1, p.k, rs, p.r1, p.k1, p.r2, p.k2, p.r3, p.k3, p.r4, p.k4, p.r5, p.k5, p.r6, p.k6, p.r7, p.k7, p.r8, p.k8, k.k, k.r0, k.k0, k.rl, k.r1, k.r3, ko.k, ko.r0, ko.k0, ko.r1, ko.k1, ko.r2, ko.k2, ko.r3, ko.k3, ko.r4, ko.k4, ko.r6, ko.k6, ix_nI, cl_nI]; done) | omega | assumption) only [e40_0, e40_1, e40_2, e40_5, e40_6, e40_8, e40_9, e40_12, e40_15, e40_18, e40_21, e40_22, e40_25, e40_27, e40_30, e40_31, e40_34, e40_37, e40_40, e40_41, e40_42, e40_45, e40_46, e40_49, e40_50, e40_53, e40_54, e40_55, e40_56, e40_59, e40_60, e40_63, e40_64, e40_66, e40_67, e40_70, e40_73, e40_74, e40_74r, e40_75, e40_78, e40_79, e40_80, e40_83, e40_86, e40_89, am_k_some, va_rf_some, va_rf_none, tl_some, tl_none, am_clr_int, am_clr_ref, am_clr_none, am_clr_long, am_w_nil, am_w_int, am_w_ref, am_w_long, am_w_null, am_bb_0, am_bb_1, am_bb_bI, xK_sI, xR_sI, xS_sI, xN_sI, xK_sL, xR_sL, xS_sL, xN_sL, xK_sR, xR_sR, xS_sR, xN_sR, xK_sA, xR_sA, xS_sA, xN_sA, Nat.reduceAdd, Nat.reduceLeDiff, sI_sA, I_sA', sA_sA, I_sA, I_sA', nI_add, mul_nI, bI_0, bI_1, p.k, rs, p.r1, p.k1, p.r2, p.k2, p.r3, p.k3, p.r4, p.k4, p.r5, p.k5, p.r6, p.k6, p.r7, p.k7, p.r8, p.k8, k.k, k.r0, k.k0, k.rl, k.r1, k.r3, ko.k, ko.r0, ko.k0, ko.r1, ko.k1, ko.r2, ko.k2, ko.r3, ko.k3, ko.r4, ko.k4, ko.r6, ko.k6, ix_nI, cl_nI, lt_nI, eq_nI, sub_nI, Nat.reduceEqDiff, Nat.one_ne_zero, Nat.not_lt_zero, ↓reduceIte, h9, hnl, hc, c3, w7]
        have X2 : ev (d + 2) 40 65 [some (.ref o), some (.int (nI i))] [] m1 = ev (d + 2) 40 7 [some (.ref o), some (.int (nI (i + 1)))] [] m3 := by
          rw [← hm3]
          simp (disch := first | (simp (disch := omega) only [am_k_some, va_rf_some, va_rf_none, tl_some, tl_none, am_clr_int, am_clr_ref, am_clr_none, am_clr_long, am_w_nil, am_w_int, am_w_ref, am_w_long, am_w_null, am_bb_0, am_bb_1, am_bb_bI, xK_sI, xR_sI, xS_sI, xN_sI, xK_sL, xR_sL, xS_sL, xN_sL, xK_sR, xR_sR, xS_sR, xN_sR, xK_sA, xR_sA, xS_sA, xN_sA, Nat.reduceAdd, Nat.reduceLeDiff, sI_sA, I_sA', sA_sA, I_sA, I_sA', nI_add, mul_nI, bI_0, bI_1, p1, p2, ix_nI, cl_nI]; done) | omega | assumption) only [e40_0, e40_1, e40_2, e40_5, e40_6, e40_8, e40_9, e40_12, e40_15, e40_18, e40_21, e40_22, e40_25, e40_27, e40_30, e40_31, e40_34, e40_37, e40_40, e40_41, e40_42, e40_45, e40_46, e40_49, e40_50, e40_53, e40_54, e40_55, e40_56, e40_59, e40_60, e40_63, e40_64, e40_65, e40_66, e40_67, e40_70, e40_73, e40_74, e40_74r, e40_75, e40_78, e40_79, e40_80, e40_83, e40_86, e40_89, am_k_some, va_rf_some, va_rf_none, tl_some, tl_none, am_clr_int, am_clr_ref, am_clr_none, am_clr_long, am_w_nil, am_w_int, am_w_ref, am_w_long, am_w_null, am_bb_0, am_bb_1, am_bb_bI, xK_sI, xR_sI, xS_sI, xN_sI, xK_sL, xR_sL, xS_sL, xN_sL, xK_sR, xR_sR, xS_sR, xN_sR, xK_sA, xR_sA, xS_sA, xN_sA, Nat.reduceAdd, Nat.reduceLeDiff, sI_sA, I_sA', sA_sA, I_sA, I_sA', nI_add, mul_nI, bI_0, bI_1, p1, p2, ix_nI, cl_nI, lt_nI, eq_nI, sub_nI, Nat.reduceEqDiff, Nat.one_ne_zero, Nat.not_lt_zero, ↓reduceIte, h91, h92, e2]
        rw [X1, X2, e]
    · have ed : (fL (quB S) i).length = qN S := by omega
      refine ⟨m, pi, ?_, FrP.refl _ m, fun _ _ => rfl, by rw [hc, ed], fun j hj => hy j (by omega), by rw [← ed]; exact fp⟩
      rw [e40_7]
      simp (disch := first | (simp (disch := omega) only [am_k_some, va_rf_some, va_rf_none, tl_some, tl_none, am_clr_int, am_clr_ref, am_clr_none, am_clr_long, am_w_nil, am_w_int, am_w_ref, am_w_long, am_w_null, am_bb_0, am_bb_1, am_bb_bI, xK_sI, xR_sI, xS_sI, xN_sI, xK_sL, xR_sL, xS_sL, xN_sL, xK_sR, xR_sR, xS_sR, xN_sR, xK_sA, xR_sA, xS_sA, xN_sA, Nat.reduceAdd, Nat.reduceLeDiff, sI_sA, I_sA', sA_sA, I_sA, I_sA', nI_add, mul_nI, bI_0, bI_1, p.k, rs, p.r1, p.k1, p.r2, p.k2, p.r3, p.k3, p.r4, p.k4, p.r5, p.k5, p.r6, p.k6, p.r7, p.k7, p.r8, p.k8, k.k, k.r0, k.k0, k.rl, k.r1, k.r3, ko.k, ko.r0, ko.k0, ko.r1, ko.k1, ko.r2, ko.k2, ko.r3, ko.k3, ko.r4, ko.k4, ko.r6, ko.k6, ix_nI, cl_nI]; done) | omega | assumption) only [e40_0, e40_1, e40_2, e40_5, e40_6, e40_8, e40_9, e40_12, e40_15, e40_18, e40_21, e40_22, e40_25, e40_27, e40_30, e40_31, e40_34, e40_37, e40_40, e40_41, e40_42, e40_45, e40_46, e40_49, e40_50, e40_53, e40_54, e40_55, e40_56, e40_59, e40_60, e40_63, e40_64, e40_65, e40_66, e40_67, e40_70, e40_73, e40_74, e40_74r, e40_75, e40_78, e40_79, e40_80, e40_83, e40_86, e40_89, am_k_some, va_rf_some, va_rf_none, tl_some, tl_none, am_clr_int, am_clr_ref, am_clr_none, am_clr_long, am_w_nil, am_w_int, am_w_ref, am_w_long, am_w_null, am_bb_0, am_bb_1, am_bb_bI, xK_sI, xR_sI, xS_sI, xN_sI, xK_sL, xR_sL, xS_sL, xN_sL, xK_sR, xR_sR, xS_sR, xN_sR, xK_sA, xR_sA, xS_sA, xN_sA, Nat.reduceAdd, Nat.reduceLeDiff, sI_sA, I_sA', sA_sA, I_sA, I_sA', nI_add, mul_nI, bI_0, bI_1, p.k, rs, p.r1, p.k1, p.r2, p.k2, p.r3, p.k3, p.r4, p.k4, p.r5, p.k5, p.r6, p.k6, p.r7, p.k7, p.r8, p.k8, k.k, k.r0, k.k0, k.rl, k.r1, k.r3, ko.k, ko.r0, ko.k0, ko.r1, ko.k1, ko.r2, ko.k2, ko.r3, ko.k3, ko.r4, ko.k4, ko.r6, ko.k6, ix_nI, cl_nI, lt_nI, eq_nI, sub_nI, Nat.reduceEqDiff, Nat.one_ne_zero, Nat.not_lt_zero, ↓reduceIte, h9, hnl, hc, c3]
theorem fp_0 (C T : Nat → Int32) : FpV C T 0 (fun x => x) := ⟨fun i hi => absurd hi (Nat.not_lt_zero _), fun i i' _ hi => absurd hi (Nat.not_lt_zero _), fun _ => rfl⟩
theorem sp_40 {d : Nat} {m : am_M} (W : Wf S) (ha : a + 66 ≤ o) (h6 : qN S ≤ 6) (C : PB m o a S L) : ∃ m' pi', cal (d + 2) 40 [.ref o] m = some (none, m') ∧ FrP (fun x => x = o ∨ x = o + 1 ∨ x = o + 2 ∨ x = o + 7) m m' ∧ (∀ j, j ≠ 9 → mI m' o j = mI m o j) ∧ mI m' o 9 = nI (qN S) ∧ (∀ j, j < qN S → mI m' (o + 1) j = nI (qT S j) ∧ mI m' (o + 7) j = -1) ∧ FpV (mI m' (o + 2)) (ptS S (qT S)) (qN S) pi' := by
  obtain ⟨p, rs, k, la, lo, sc⟩ := id C; have ko := k.lo
  have F0 : FrP (fun x => x = o ∨ x = o + 1 ∨ x = o + 2 ∨ x = o + 7) m (sA m o (up1 (mI m o) 9 (nI 0))) := (FrP.refl _ m).sA (Or.inl rfl)
  obtain ⟨m', pi', e, F, O, y1, y2, y3⟩ := sp_40l (d := d) (L := L) W ha h6 (nm S) 0 (sA m o (up1 (mI m o) 9 (nI 0))) (fun x => x) (Nat.zero_add _) (C.fr F0 (fun x h1 h2 h3 => by omega)) (by rw [I_sA, up1_eq]; rfl) (fun j hj => absurd hj (Nat.not_lt_zero _)) (fp_0 _ _)
  refine ⟨m', pi', ?_, F0.trans F, fun j hj => by rw [O j hj, I_sA, up1_ne hj], y1, y2, y3⟩
  rw [← e]
  simp (disch := first | (simp (disch := omega) only [am_k_some, va_rf_some, va_rf_none, tl_some, tl_none, am_clr_int, am_clr_ref, am_clr_none, am_clr_long, am_w_nil, am_w_int, am_w_ref, am_w_long, am_w_null, am_bb_0, am_bb_1, am_bb_bI, xK_sI, xR_sI, xS_sI, xN_sI, xK_sL, xR_sL, xS_sL, xN_sL, xK_sR, xR_sR, xS_sR, xN_sR, xK_sA, xR_sA, xS_sA, xN_sA, Nat.reduceAdd, Nat.reduceLeDiff, sI_sA, I_sA', sA_sA, I_sA, I_sA', nI_add, mul_nI, bI_0, bI_1, p.k, rs, p.r1, p.k1, p.r2, p.k2, p.r3, p.k3, p.r4, p.k4, p.r5, p.k5, p.r6, p.k6, p.r7, p.k7, p.r8, p.k8, k.k, k.r0, k.k0, k.rl, k.r1, k.r3, ko.k, ko.r0, ko.k0, ko.r1, ko.k1, ko.r2, ko.k2, ko.r3, ko.k3, ko.r4, ko.k4, ko.r6, ko.k6, ix_nI, cl_nI]; done) | omega | assumption) only [c40, e40_0, e40_1, e40_2, e40_5, e40_6, am_k_some, va_rf_some, va_rf_none, tl_some, tl_none, am_clr_int, am_clr_ref, am_clr_none, am_clr_long, am_w_nil, am_w_int, am_w_ref, am_w_long, am_w_null, am_bb_0, am_bb_1, am_bb_bI, xK_sI, xR_sI, xS_sI, xN_sI, xK_sL, xR_sL, xS_sL, xN_sL, xK_sR, xR_sR, xS_sR, xN_sR, xK_sA, xR_sA, xS_sA, xN_sA, Nat.reduceAdd, Nat.reduceLeDiff, sI_sA, I_sA', sA_sA, I_sA, I_sA', nI_add, mul_nI, bI_0, bI_1, p.k, rs, p.r1, p.k1, p.r2, p.k2, p.r3, p.k3, p.r4, p.k4, p.r5, p.k5, p.r6, p.k6, p.r7, p.k7, p.r8, p.k8, k.k, k.r0, k.k0, k.rl, k.r1, k.r3, ko.k, ko.r0, ko.k0, ko.r1, ko.k1, ko.r2, ko.k2, ko.r3, ko.k3, ko.r4, ko.k4, ko.r6, ko.k6, ix_nI, cl_nI, lt_nI, eq_nI, sub_nI, Nat.reduceEqDiff, Nat.one_ne_zero, Nat.not_lt_zero, ↓reduceIte]
/-- findLeast -/
theorem sp_38 {d : Nat} {m : am_M} {b : Bst} (H : PlH S (qN S) (dN S) (qT S) (dT S)) (ha : a + 66 ≤ o) (hL : LmOk L) (C : PB m o a S L) (hb : exA S L (qN S) (dN S) (qT S) (dT S) (qN S) [] 0 none = b) : ∃ m', cal (d + 20) 38 [.ref o] m = some (some (.int (lsV b)), m') ∧ FrP (fun x => (o ≤ x ∧ x ≤ o + 8) ∨ (a + 17 ≤ x ∧ x ≤ a + 20)) m m' ∧ BsC m' o a (qN S) (qT S) b := by
  have n6 := H.n6
  have n1 := H.n1
  have d3 := H.d3
  have d1 := H.d1
  obtain ⟨m1, e1, F1, O1, y1, y2⟩ := sp_39 (d := d + 18) H.wf ha d3 C
  have C1 := C.fr F1 (fun x h1 h2 h3 => by omega)
  obtain ⟨m2, pi, e2, F2, O2, z1, z2, z3⟩ := sp_40 (d := d + 17) H.wf ha n6 C1
  have C2 := C1.fr F2 (fun x h1 h2 h3 => by omega)
  generalize hm3 : sA (sA (sA m2 (a + 17) (up1 (mI m2 (a + 17)) 3 (nI 0))) o (up1 (mI m2 o) 11 (nI 2147483647))) (o + 5) (up1 (mI m2 (o + 5)) 0 (nI 0)) = m3
  have F3 : FrP (fun x => (o ≤ x ∧ x ≤ o + 8) ∨ (a + 17 ≤ x ∧ x ≤ a + 20)) m2 m3 := by
    rw [← hm3]
    exact (((FrP.refl _ m2).sA (by omega)).sA (by omega)).sA (by omega)
  have i : ∀ x, x ≠ a + 17 → x ≠ o → x ≠ o + 5 → mI m3 x = mI m2 x := fun x q1 q2 q3 => by rw [← hm3, I_sA' _ _ q3, I_sA' _ _ q2, I_sA' _ _ q1]
  have i0 : mI m3 o = up1 (mI m2 o) 11 (nI 2147483647) := by rw [← hm3, I_sA' _ _ (by omega), I_sA]
  have i5 : mI m3 (o + 5) = up1 (mI m2 (o + 5)) 0 (nI 0) := by rw [← hm3, I_sA]
  have i17 : mI m3 (a + 17) = up1 (mI m2 (a + 17)) 3 (nI 0) := by rw [← hm3, I_sA' _ _ (by omega), I_sA' _ _ (by omega), I_sA]
  have C3 := C2.fr F3 (fun x h1 h2 h3 => by omega)
  have PC3 : PC m3 o a S L (qN S) (dN S) (qT S) (dT S) := by
    obtain ⟨p, rs, k, la, lo, sc⟩ := C3
    refine ⟨p, rs, k, la, lo, sc, ?_, ?_, fun x hx => ?_, fun x hx => ?_⟩
    · rw [i0, up1_ne (by omega)]; exact z1
    · rw [i0, up1_ne (by omega), O2 _ (by omega)]; exact y1
    · rw [i _ (by omega) (by omega) (by omega)]; exact (z2 x hx).1
    · rw [i _ (by omega) (by omega) (by omega), F2.i (by omega)]; exact (y2 x hx).1
  have PD3 : PD m3 o S (qN S) (dN S) (qT S) (dT S) [] 0 := by
    refine ⟨fun x hx => ?_, fun x hx _ => ?_, fun x hx => absurd hx (List.not_mem_nil), fun x hx => absurd hx (List.not_mem_nil), trivial, fun x hx => ?_⟩
    · rw [i _ (by omega) (by omega) (by omega), F2.i (by omega), (y2 x hx).2]
      rfl
    · rw [i _ (by omega) (by omega) (by omega)]; exact (z2 x hx).2
    · have : x = 0 := by omega
      rw [this, i5, up1_eq]
      rfl
  have B3 : BsC m3 o a (qN S) (qT S) none := ⟨by rw [i0, up1_eq], by rw [i17, up1_eq]⟩
  obtain ⟨s, hs⟩ : ∃ s, dN S - 1 - 0 + (qN S - ([] : List (Nat × Nat)).length) = s := ⟨_, rfl⟩
  have hs8 : s ≤ 8 := by
    simp only [List.length_nil] at hs
    omega
  have sr := sr_all (o := o) (a := a) (pi := pi) H ha hL s (d + 14 - s) (P := []) (j := 0) trivial (fun x hx => absurd hx (List.not_mem_nil)) (by omega) hs
  rw [show d + 14 - s + s + 5 = d + 19 by omega] at sr
  obtain ⟨m4, e4, Q4, D4, b4⟩ := sr m3 none PC3 PD3 B3 trivial (by rw [i _ (by omega) (by omega) (by omega)]; exact z3)
  rw [List.length_nil, Nat.sub_zero, hb] at b4
  have FF : FrP (fun x => (o ≤ x ∧ x ≤ o + 8) ∨ (a + 17 ≤ x ∧ x ≤ a + 20)) m m4 := (((F1.mono (fun x hx => by omega)).trans (F2.mono (fun x hx => by omega))).trans F3).trans (Q4.1.mono (fun x hx => by omega))
  refine ⟨m4, ?_, FF, b4⟩
  have X : cal (d + 20) 38 [.ref o] m = ev (d + 20) 38 39 [some (.ref o)] [] m4 := by
    have p0 := C.1.k
    have p1 := C1.1.k
    have X1 : cal (d + 20) 38 [.ref o] m = ev (d + 20) 38 8 [some (.ref o)] [] m2 := by
      simp (disch := first | (simp (disch := omega) only [am_k_some, va_rf_some, va_rf_none, tl_some, tl_none, am_clr_int, am_clr_ref, am_clr_none, am_clr_long, am_w_nil, am_w_int, am_w_ref, am_w_long, am_w_null, am_bb_0, am_bb_1, am_bb_bI, xK_sI, xR_sI, xS_sI, xN_sI, xK_sL, xR_sL, xS_sL, xN_sL, xK_sR, xR_sR, xS_sR, xN_sR, xK_sA, xR_sA, xS_sA, xN_sA, Nat.reduceAdd, Nat.reduceLeDiff, sI_sA, I_sA', sA_sA, I_sA, I_sA', nI_add, mul_nI, bI_0, bI_1, p0, p1, ix_nI, cl_nI]; done) | omega | assumption) only [c38, e38_0, e38_1, e38_4, e38_5, am_k_some, va_rf_some, va_rf_none, tl_some, tl_none, am_clr_int, am_clr_ref, am_clr_none, am_clr_long, am_w_nil, am_w_int, am_w_ref, am_w_long, am_w_null, am_bb_0, am_bb_1, am_bb_bI, xK_sI, xR_sI, xS_sI, xN_sI, xK_sL, xR_sL, xS_sL, xN_sL, xK_sR, xR_sR, xS_sR, xN_sR, xK_sA, xR_sA, xS_sA, xN_sA, Nat.reduceAdd, Nat.reduceLeDiff, sI_sA, I_sA', sA_sA, I_sA, I_sA', nI_add, mul_nI, bI_0, bI_1, p0, p1, ix_nI, cl_nI, lt_nI, eq_nI, sub_nI, Nat.reduceEqDiff, Nat.one_ne_zero, Nat.not_lt_zero, ↓reduceIte, e1, e2]
    have X2 : ev (d + 20) 38 8 [some (.ref o)] [] m2 = ev (d + 20) 38 32 [some (.ref o)] [] m3 := by
      obtain ⟨p, rs, k, la, lo, sc⟩ := C2
      have ko := k.lo
      have kp := k.pl
      rw [← hm3]
      simp (disch := first | (simp (disch := omega) only [am_k_some, va_rf_some, va_rf_none, tl_some, tl_none, am_clr_int, am_clr_ref, am_clr_none, am_clr_long, am_w_nil, am_w_int, am_w_ref, am_w_long, am_w_null, am_bb_0, am_bb_1, am_bb_bI, xK_sI, xR_sI, xS_sI, xN_sI, xK_sL, xR_sL, xS_sL, xN_sL, xK_sR, xR_sR, xS_sR, xN_sR, xK_sA, xR_sA, xS_sA, xN_sA, Nat.reduceAdd, Nat.reduceLeDiff, sI_sA, I_sA', sA_sA, I_sA, I_sA', nI_add, mul_nI, bI_0, bI_1, p.k, rs, p.r1, p.k1, p.r2, p.k2, p.r3, p.k3, p.r4, p.k4, p.r5, p.k5, p.r6, p.k6, p.r7, p.k7, p.r8, p.k8, k.k, k.r0, k.k0, k.rl, k.r1, k.r3, ko.k, ko.r0, ko.k0, ko.r1, ko.k1, ko.r2, ko.k2, ko.r3, ko.k3, ko.r4, ko.k4, kp.k, kp.r0, kp.k0, kp.r1, kp.k1, kp.r2, kp.k2, ix_nI, cl_nI]; done) | omega | assumption) only [e38_0, e38_1, e38_4, e38_5, e38_8, e38_9, e38_12, e38_15, e38_16, e38_19, e38_20, e38_22, e38_25, e38_26, e38_29, e38_30, e38_31, e38_33, e38_34, e38_35, e38_36, e38_39, e38_40, e38_43, e38_46, e38_49, e38_52, e38_54, e38_57, e38_58, e38_61, am_k_some, va_rf_some, va_rf_none, tl_some, tl_none, am_clr_int, am_clr_ref, am_clr_none, am_clr_long, am_w_nil, am_w_int, am_w_ref, am_w_long, am_w_null, am_bb_0, am_bb_1, am_bb_bI, xK_sI, xR_sI, xS_sI, xN_sI, xK_sL, xR_sL, xS_sL, xN_sL, xK_sR, xR_sR, xS_sR, xN_sR, xK_sA, xR_sA, xS_sA, xN_sA, Nat.reduceAdd, Nat.reduceLeDiff, sI_sA, I_sA', sA_sA, I_sA, I_sA', nI_add, mul_nI, bI_0, bI_1, p.k, rs, p.r1, p.k1, p.r2, p.k2, p.r3, p.k3, p.r4, p.k4, p.r5, p.k5, p.r6, p.k6, p.r7, p.k7, p.r8, p.k8, k.k, k.r0, k.k0, k.rl, k.r1, k.r3, ko.k, ko.r0, ko.k0, ko.r1, ko.k1, ko.r2, ko.k2, ko.r3, ko.k3, ko.r4, ko.k4, kp.k, kp.r0, kp.k0, kp.r1, kp.k1, kp.r2, kp.k2, ix_nI, cl_nI, lt_nI, eq_nI, sub_nI, Nat.reduceEqDiff, Nat.one_ne_zero, Nat.not_lt_zero, ↓reduceIte]
    have X3 : ev (d + 20) 38 32 [some (.ref o)] [] m3 = ev (d + 20) 38 39 [some (.ref o)] [] m4 := by
      have p3 := PC3.p.k
      have e4' : cal (d + 19) 44 [.ref o, .int (nI 0), .int (nI 0), .int (nI 0)] m3 = some (none, m4) := e4
      simp (disch := first | (simp (disch := omega) only [am_k_some, va_rf_some, va_rf_none, tl_some, tl_none, am_clr_int, am_clr_ref, am_clr_none, am_clr_long, am_w_nil, am_w_int, am_w_ref, am_w_long, am_w_null, am_bb_0, am_bb_1, am_bb_bI, xK_sI, xR_sI, xS_sI, xN_sI, xK_sL, xR_sL, xS_sL, xN_sL, xK_sR, xR_sR, xS_sR, xN_sR, xK_sA, xR_sA, xS_sA, xN_sA, Nat.reduceAdd, Nat.reduceLeDiff, sI_sA, I_sA', sA_sA, I_sA, I_sA', nI_add, mul_nI, bI_0, bI_1, p3, ix_nI, cl_nI]; done) | omega | assumption) only [e38_32, e38_33, e38_34, e38_35, e38_36, am_k_some, va_rf_some, va_rf_none, tl_some, tl_none, am_clr_int, am_clr_ref, am_clr_none, am_clr_long, am_w_nil, am_w_int, am_w_ref, am_w_long, am_w_null, am_bb_0, am_bb_1, am_bb_bI, xK_sI, xR_sI, xS_sI, xN_sI, xK_sL, xR_sL, xS_sL, xN_sL, xK_sR, xR_sR, xS_sR, xN_sR, xK_sA, xR_sA, xS_sA, xN_sA, Nat.reduceAdd, Nat.reduceLeDiff, sI_sA, I_sA', sA_sA, I_sA, I_sA', nI_add, mul_nI, bI_0, bI_1, p3, ix_nI, cl_nI, lt_nI, eq_nI, sub_nI, Nat.reduceEqDiff, Nat.one_ne_zero, Nat.not_lt_zero, ↓reduceIte, e4']
    rw [X1, X2, X3]
  rw [X]
  obtain ⟨p, rs, k, la, lo, sc⟩ := C.fr FF (fun x h1 h2 h3 => by omega)
  have ko := k.lo
  have kp := k.pl
  rcases b with _ | ⟨c, bl, bp⟩
  · obtain ⟨q1, q2⟩ : mI m4 o 11 = nI 2147483647 ∧ mI m4 (a + 17) 3 = nI 0 := b4
    show _ = some (some (Value.int (-15)), m4)
    simp (disch := first | (simp (disch := omega) only [am_k_some, va_rf_some, va_rf_none, tl_some, tl_none, am_clr_int, am_clr_ref, am_clr_none, am_clr_long, am_w_nil, am_w_int, am_w_ref, am_w_long, am_w_null, am_bb_0, am_bb_1, am_bb_bI, xK_sI, xR_sI, xS_sI, xN_sI, xK_sL, xR_sL, xS_sL, xN_sL, xK_sR, xR_sR, xS_sR, xN_sR, xK_sA, xR_sA, xS_sA, xN_sA, Nat.reduceAdd, Nat.reduceLeDiff, sI_sA, I_sA', sA_sA, I_sA, I_sA', nI_add, mul_nI, bI_0, bI_1, p.k, rs, p.r1, p.k1, p.r2, p.k2, p.r3, p.k3, p.r4, p.k4, p.r5, p.k5, p.r6, p.k6, p.r7, p.k7, p.r8, p.k8, k.k, k.r0, k.k0, k.rl, k.r1, k.r3, ko.k, ko.r0, ko.k0, ko.r1, ko.k1, ko.r2, ko.k2, ko.r3, ko.k3, ko.r4, ko.k4, kp.k, kp.r0, kp.k0, kp.r1, kp.k1, kp.r2, kp.k2, ix_nI, cl_nI]; done) | omega | assumption) only [e38_0, e38_1, e38_4, e38_5, e38_8, e38_9, e38_12, e38_15, e38_16, e38_19, e38_20, e38_22, e38_25, e38_26, e38_29, e38_30, e38_31, e38_33, e38_34, e38_35, e38_36, e38_39, e38_40, e38_43, e38_46, e38_49, e38_52, e38_54, e38_57, e38_58, e38_61, am_k_some, va_rf_some, va_rf_none, tl_some, tl_none, am_clr_int, am_clr_ref, am_clr_none, am_clr_long, am_w_nil, am_w_int, am_w_ref, am_w_long, am_w_null, am_bb_0, am_bb_1, am_bb_bI, xK_sI, xR_sI, xS_sI, xN_sI, xK_sL, xR_sL, xS_sL, xN_sL, xK_sR, xR_sR, xS_sR, xN_sR, xK_sA, xR_sA, xS_sA, xN_sA, Nat.reduceAdd, Nat.reduceLeDiff, sI_sA, I_sA', sA_sA, I_sA, I_sA', nI_add, mul_nI, bI_0, bI_1, p.k, rs, p.r1, p.k1, p.r2, p.k2, p.r3, p.k3, p.r4, p.k4, p.r5, p.k5, p.r6, p.k6, p.r7, p.k7, p.r8, p.k8, k.k, k.r0, k.k0, k.rl, k.r1, k.r3, ko.k, ko.r0, ko.k0, ko.r1, ko.k1, ko.r2, ko.k2, ko.r3, ko.k3, ko.r4, ko.k4, kp.k, kp.r0, kp.k0, kp.r1, kp.k1, kp.r2, kp.k2, ix_nI, cl_nI, lt_nI, eq_nI, sub_nI, Nat.reduceEqDiff, Nat.one_ne_zero, Nat.not_lt_zero, ↓reduceIte, q2]
  · obtain ⟨q1, q2, -⟩ : mI m4 o 11 = nI c ∧ mI m4 (a + 17) 3 = nI (qN S) ∧ ∀ k, k < qN S → mI m4 (a + 18) k = nI (qT S k) ∧ mI m4 (a + 19) k = nI (bl k) ∧ mI m4 (a + 20) k = nI (bp k) := b4
    have z : ¬ qN S = 0 := by omega
    show _ = some (some (Value.int (nI c)), m4)
    simp (disch := first | (simp (disch := omega) only [am_k_some, va_rf_some, va_rf_none, tl_some, tl_none, am_clr_int, am_clr_ref, am_clr_none, am_clr_long, am_w_nil, am_w_int, am_w_ref, am_w_long, am_w_null, am_bb_0, am_bb_1, am_bb_bI, xK_sI, xR_sI, xS_sI, xN_sI, xK_sL, xR_sL, xS_sL, xN_sL, xK_sR, xR_sR, xS_sR, xN_sR, xK_sA, xR_sA, xS_sA, xN_sA, Nat.reduceAdd, Nat.reduceLeDiff, sI_sA, I_sA', sA_sA, I_sA, I_sA', nI_add, mul_nI, bI_0, bI_1, p.k, rs, p.r1, p.k1, p.r2, p.k2, p.r3, p.k3, p.r4, p.k4, p.r5, p.k5, p.r6, p.k6, p.r7, p.k7, p.r8, p.k8, k.k, k.r0, k.k0, k.rl, k.r1, k.r3, ko.k, ko.r0, ko.k0, ko.r1, ko.k1, ko.r2, ko.k2, ko.r3, ko.k3, ko.r4, ko.k4, kp.k, kp.r0, kp.k0, kp.r1, kp.k1, kp.r2, kp.k2, ix_nI, cl_nI]; done) | omega | assumption) only [e38_0, e38_1, e38_4, e38_5, e38_8, e38_9, e38_12, e38_15, e38_16, e38_19, e38_20, e38_22, e38_25, e38_26, e38_29, e38_30, e38_31, e38_33, e38_34, e38_35, e38_36, e38_39, e38_40, e38_43, e38_46, e38_49, e38_52, e38_54, e38_57, e38_58, e38_61, am_k_some, va_rf_some, va_rf_none, tl_some, tl_none, am_clr_int, am_clr_ref, am_clr_none, am_clr_long, am_w_nil, am_w_int, am_w_ref, am_w_long, am_w_null, am_bb_0, am_bb_1, am_bb_bI, xK_sI, xR_sI, xS_sI, xN_sI, xK_sL, xR_sL, xS_sL, xN_sL, xK_sR, xR_sR, xS_sR, xN_sR, xK_sA, xR_sA, xS_sA, xN_sA, Nat.reduceAdd, Nat.reduceLeDiff, sI_sA, I_sA', sA_sA, I_sA, I_sA', nI_add, mul_nI, bI_0, bI_1, p.k, rs, p.r1, p.k1, p.r2, p.k2, p.r3, p.k3, p.r4, p.k4, p.r5, p.k5, p.r6, p.k6, p.r7, p.k7, p.r8, p.k8, k.k, k.r0, k.k0, k.rl, k.r1, k.r3, ko.k, ko.r0, ko.k0, ko.r1, ko.k1, ko.r2, ko.k2, ko.r3, ko.k3, ko.r4, ko.k4, kp.k, kp.r0, kp.k0, kp.r1, kp.k1, kp.r2, kp.k2, ix_nI, cl_nI, lt_nI, eq_nI, sub_nI, Nat.reduceEqDiff, Nat.one_ne_zero, Nat.not_lt_zero, ↓reduceIte, q1, q2, z]
end GL
