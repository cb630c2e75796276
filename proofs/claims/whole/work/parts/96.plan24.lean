/-! THE PLANNER, 24: the class: what it gathers -/
theorem fL_pre (f : Nat → Bool) : ∀ r k {j : Nat}, j < (fL f k).length → (fL f (k + r)).getD j 0 = (fL f k).getD j 0 ∧ (fL f k).length ≤ (fL f (k + r)).length := by
  intro r
  induction r with
  | zero => intro k j _; exact ⟨rfl, Nat.le_refl _⟩
  | succ r ih =>
    intro k j h
    obtain ⟨a, b⟩ := ih k h
    show (if f (k + r) = true then fL f (k + r) ++ [k + r] else fL f (k + r)).getD j 0 = _ ∧ _ ≤ (if f (k + r) = true then fL f (k + r) ++ [k + r] else fL f (k + r)).length
    split
    · rw [getD_l (by omega), List.length_append]
      exact ⟨a, by omega⟩
    · exact ⟨a, b⟩
theorem fL_mono (f : Nat → Bool) : ∀ r k, (fL f k).length ≤ (fL f (k + r)).length := by
  intro r
  induction r with
  | zero => intro k; exact Nat.le_refl _
  | succ r ih =>
    intro k
    have := ih k
    show _ ≤ (if f (k + r) = true then fL f (k + r) ++ [k + r] else fL f (k + r)).length
    split
    · rw [List.length_append]; omega
    · exact this
section GA
variable {o a : Nat} {S : Nat → Int32} {L : Int64}
/-- the planner's cells at rest -/
def PB (m : am_M) (o a : Nat) (S : Nat → Int32) (L : Int64) : Prop := PnK m o ∧ mR m o 0 = some a ∧ ShK m a ∧ (∀ i, i < 20 → LaV m (a + 26 + 2 * i) S i) ∧ LoV m (a + 2) S ∧ ScV m a S L
theorem PB.fr {P : Nat → Prop} {m m' : am_M} (h : PB m o a S L) (F : FrP P m m') (hP : ∀ x, a ≤ x → x < a + 66 → (x < a + 17 ∨ a + 20 < x) → ¬ P x) : PB m' o a S L := by
  obtain ⟨h1, h2, h3, h4, h5, h6⟩ := h
  refine ⟨?_, by rw [F.2.2.2.1]; exact h2, h3.frP F, fun i hi => (h4 i hi).mem (F.i (hP _ (by omega) (by omega) (by omega))) (F.i (hP _ (by omega) (by omega) (by omega))), h5.mem (fun x hx => F.i (hP _ (by omega) (by omega) (by omega))), h6.mem (F.i (hP _ (by omega) (by omega) (by omega))) (F.l (hP _ (by omega) (by omega) (by omega)))⟩
  simpa only [PnK, F.2.2.1, F.2.2.2.1] using h1
theorem sp_39l {d : Nat} (W : Wf S) (ha : a + 66 ≤ o) (h3 : dN S ≤ 3) : ∀ r i (m : am_M), i + r = 20 → PB m o a S L → mI m o 10 = nI (fL (thB S) i).length → (∀ j, j < (fL (thB S) i).length → mI m (o + 3) j = nI (dT S j) ∧ mI m (o + 6) j = nI (ln S (dT S j))) →
    ∃ m', ev (d + 1) 39 7 [some (.ref o), some (.int (nI i))] [] m = some (none, m') ∧ FrP (fun x => x = o ∨ x = o + 3 ∨ x = o + 6) m m' ∧ (∀ j, j ≠ 10 → mI m' o j = mI m o j) ∧ mI m' o 10 = nI (dN S) ∧ ∀ j, j < dN S → mI m' (o + 3) j = nI (dT S j) ∧ mI m' (o + 6) j = nI (ln S (dT S j)) := by
  intro r
  induction r with
  | zero =>
    intro i m hi C hc hy
    obtain ⟨p, rs, k, la, lo, sc⟩ := id C; have ko := k.lo
    have hi' : i = 20 := by omega
    subst hi'
    have hnl : ¬ 20 < 20 := by omega
    refine ⟨m, ?_, FrP.refl _ m, fun _ _ => rfl, hc, hy⟩
    rw [e39_7]
    simp (disch := first | (simp (disch := omega) only [am_k_some, va_rf_some, va_rf_none, tl_some, tl_none, am_clr_int, am_clr_ref, am_clr_none, am_clr_long, am_w_nil, am_w_int, am_w_ref, am_w_long, am_w_null, am_bb_0, am_bb_1, am_bb_bI, xK_sI, xR_sI, xS_sI, xN_sI, xK_sL, xR_sL, xS_sL, xN_sL, xK_sR, xR_sR, xS_sR, xN_sR, xK_sA, xR_sA, xS_sA, xN_sA, Nat.reduceAdd, Nat.reduceLeDiff, sI_sA, I_sA', sA_sA, I_sA, I_sA', nI_add, mul_nI, bI_0, bI_1, p.k, rs, p.r1, p.k1, p.r2, p.k2, p.r3, p.k3, p.r4, p.k4, p.r5, p.k5, p.r6, p.k6, p.r7, p.k7, p.r8, p.k8, k.k, k.r0, k.k0, k.rl, k.r1, k.r3, ko.k, ko.r0, ko.k0, ko.r1, ko.k1, ko.r2, ko.k2, ko.r3, ko.k3, ko.r4, ko.k4, ko.r6, ko.k6, ix_nI, cl_nI]; done) | omega | assumption) only [e39_0, e39_1, e39_2, e39_5, e39_6, e39_8, e39_10, e39_13, e39_14, e39_17, e39_18, e39_21, e39_22, e39_25, e39_28, e39_29, e39_30, e39_33, e39_36, e39_37, e39_40, e39_41, e39_44, e39_45, e39_46, e39_47, e39_50, e39_51, e39_54, e39_55, e39_58, e39_61, e39_62, e39_63, e39_66, e39_67, e39_68, e39_68r, e39_69, e39_72, e39_73, e39_74, e39_77, e39_80, e39_83, am_k_some, va_rf_some, va_rf_none, tl_some, tl_none, am_clr_int, am_clr_ref, am_clr_none, am_clr_long, am_w_nil, am_w_int, am_w_ref, am_w_long, am_w_null, am_bb_0, am_bb_1, am_bb_bI, xK_sI, xR_sI, xS_sI, xN_sI, xK_sL, xR_sL, xS_sL, xN_sL, xK_sR, xR_sR, xS_sR, xN_sR, xK_sA, xR_sA, xS_sA, xN_sA, Nat.reduceAdd, Nat.reduceLeDiff, sI_sA, I_sA', sA_sA, I_sA, I_sA', nI_add, mul_nI, bI_0, bI_1, p.k, rs, p.r1, p.k1, p.r2, p.k2, p.r3, p.k3, p.r4, p.k4, p.r5, p.k5, p.r6, p.k6, p.r7, p.k7, p.r8, p.k8, k.k, k.r0, k.k0, k.rl, k.r1, k.r3, ko.k, ko.r0, ko.k0, ko.r1, ko.k1, ko.r2, ko.k2, ko.r3, ko.k3, ko.r4, ko.k4, ko.r6, ko.k6, ix_nI, cl_nI, lt_nI, eq_nI, sub_nI, Nat.reduceEqDiff, Nat.one_ne_zero, Nat.not_lt_zero, ↓reduceIte, hnl]
  | succ r ih =>
    intro i m hi C hc hy
    obtain ⟨p, rs, k, la, lo, sc⟩ := id C; have ko := k.lo
    have hnl : i < 20 := by omega
    have le := fL_le (thB S) i
    have e20 : i + (r + 1) = 20 := hi
    have mo : (fL (thB S) i).length ≤ dN S := by
      have := fL_mono (thB S) (r + 1) i
      rw [e20] at this
      exact this
    by_cases c3 : (fL (thB S) i).length < 3
    · have kl := k.la i hnl
      have klk := kl.k
      have e13 := sp_13 (d := d) kl
      have v1 := (la i hnl).1
      rw [v1] at e13
      have l4 := lenS_le W.ln hnl
      have pos := lenS_pos W.t hnl
      rw [dlt_nI (by omega) (by omega)] at e13
      cases q : thB S i with
      | false =>
        have nt : ¬ S (800 + i) = nI 1 := of_decide_eq_false q
        rw [decide_eq_false (fun z => nt (pos.1 z)), bI_f] at e13
        obtain ⟨m', e, F, O, y1, y2⟩ := ih (i + 1) m (by omega) C (by rw [fL_n q]; exact hc) (by rw [fL_n q]; exact hy)
        refine ⟨m', ?_, F, O, y1, y2⟩
        rw [← e, e39_7]
        simp (disch := first | (simp (disch := omega) only [am_k_some, va_rf_some, va_rf_none, tl_some, tl_none, am_clr_int, am_clr_ref, am_clr_none, am_clr_long, am_w_nil, am_w_int, am_w_ref, am_w_long, am_w_null, am_bb_0, am_bb_1, am_bb_bI, xK_sI, xR_sI, xS_sI, xN_sI, xK_sL, xR_sL, xS_sL, xN_sL, xK_sR, xR_sR, xS_sR, xN_sR, xK_sA, xR_sA, xS_sA, xN_sA, Nat.reduceAdd, Nat.reduceLeDiff, sI_sA, I_sA', sA_sA, I_sA, I_sA', nI_add, mul_nI, bI_0, bI_1, p.k, rs, p.r1, p.k1, p.r2, p.k2, p.r3, p.k3, p.r4, p.k4, p.r5, p.k5, p.r6, p.k6, p.r7, p.k7, p.r8, p.k8, k.k, k.r0, k.k0, k.rl, k.r1, k.r3, ko.k, ko.r0, ko.k0, ko.r1, ko.k1, ko.r2, ko.k2, ko.r3, ko.k3, ko.r4, ko.k4, ko.r6, ko.k6, klk, ix_nI, cl_nI]; done) | omega | assumption) only [e39_0, e39_1, e39_2, e39_5, e39_6, e39_8, e39_10, e39_13, e39_14, e39_17, e39_18, e39_21, e39_22, e39_25, e39_28, e39_29, e39_30, e39_33, e39_36, e39_37, e39_40, e39_41, e39_44, e39_45, e39_46, e39_47, e39_50, e39_51, e39_54, e39_55, e39_58, e39_61, e39_62, e39_63, e39_66, e39_67, e39_68, e39_68r, e39_69, e39_72, e39_73, e39_74, e39_77, e39_80, e39_83, am_k_some, va_rf_some, va_rf_none, tl_some, tl_none, am_clr_int, am_clr_ref, am_clr_none, am_clr_long, am_w_nil, am_w_int, am_w_ref, am_w_long, am_w_null, am_bb_0, am_bb_1, am_bb_bI, xK_sI, xR_sI, xS_sI, xN_sI, xK_sL, xR_sL, xS_sL, xN_sL, xK_sR, xR_sR, xS_sR, xN_sR, xK_sA, xR_sA, xS_sA, xN_sA, Nat.reduceAdd, Nat.reduceLeDiff, sI_sA, I_sA', sA_sA, I_sA, I_sA', nI_add, mul_nI, bI_0, bI_1, p.k, rs, p.r1, p.k1, p.r2, p.k2, p.r3, p.k3, p.r4, p.k4, p.r5, p.k5, p.r6, p.k6, p.r7, p.k7, p.r8, p.k8, k.k, k.r0, k.k0, k.rl, k.r1, k.r3, ko.k, ko.r0, ko.k0, ko.r1, ko.k1, ko.r2, ko.k2, ko.r3, ko.k3, ko.r4, ko.k4, ko.r6, ko.k6, klk, ix_nI, cl_nI, lt_nI, eq_nI, sub_nI, Nat.reduceEqDiff, Nat.one_ne_zero, Nat.not_lt_zero, ↓reduceIte, hnl, hc, c3, e13]
      | true =>
        have tt : S (800 + i) = nI 1 := of_decide_eq_true q
        rw [decide_eq_true (pos.2 tt), bI_t] at e13
        rw [lenS_t tt] at v1
        generalize hm1 : sA (sA (sA m (o + 3) (up1 (mI m (o + 3)) (fL (thB S) i).length (nI i))) (o + 6) (up1 (mI m (o + 6)) (fL (thB S) i).length (nI (ln S i)))) o (up1 (mI m o) 10 (nI ((fL (thB S) i).length + 1))) = m1
        have F1 : FrP (fun x => x = o ∨ x = o + 3 ∨ x = o + 6) m m1 := by
          rw [← hm1]
          exact (((FrP.refl _ m).sA (Or.inr (Or.inl rfl))).sA (Or.inr (Or.inr rfl))).sA (Or.inl rfl)
        have i0 : mI m1 o = up1 (mI m o) 10 (nI ((fL (thB S) i).length + 1)) := by rw [← hm1, I_sA]
        have i3 : mI m1 (o + 3) = up1 (mI m (o + 3)) (fL (thB S) i).length (nI i) := by rw [← hm1, I_sA' _ _ (by omega), I_sA' _ _ (by omega), I_sA]
        have i6 : mI m1 (o + 6) = up1 (mI m (o + 6)) (fL (thB S) i).length (nI (ln S i)) := by rw [← hm1, I_sA' _ _ (by omega), I_sA]
        have el : (fL (thB S) (i + 1)).length = (fL (thB S) i).length + 1 := by rw [fL_s q, List.length_append]; rfl
        have ed : dT S (fL (thB S) i).length = i := by
          have := (fL_pre (thB S) r (i + 1) (j := (fL (thB S) i).length) (by omega)).1
          rw [show i + 1 + r = 20 by omega] at this
          show (fL (thB S) 20).getD _ 0 = i
          rw [this, fL_s q, getD_app2]
        obtain ⟨m', e, F, O, y1, y2⟩ := ih (i + 1) m1 (by omega) (C.fr F1 (fun x h1 h2 h3 => by omega)) (by rw [i0, up1_eq, el]) (fun j hj => by
          rw [el] at hj
          rw [i3, i6]
          by_cases z : j = (fL (thB S) i).length
          · rw [z, up1_eq, up1_eq, ed]; exact ⟨rfl, rfl⟩
          · rw [up1_ne z, up1_ne z]; exact hy j (by omega))
        refine ⟨m', ?_, F1.trans F, fun j hj => by rw [O j hj, i0, up1_ne hj], y1, y2⟩
        rw [← e, ← hm1, e39_7]
        simp (disch := first | (simp (disch := omega) only [am_k_some, va_rf_some, va_rf_none, tl_some, tl_none, am_clr_int, am_clr_ref, am_clr_none, am_clr_long, am_w_nil, am_w_int, am_w_ref, am_w_long, am_w_null, am_bb_0, am_bb_1, am_bb_bI, xK_sI, xR_sI, xS_sI, xN_sI, xK_sL, xR_sL, xS_sL, xN_sL, xK_sR, xR_sR, xS_sR, xN_sR, xK_sA, xR_sA, xS_sA, xN_sA, Nat.reduceAdd, Nat.reduceLeDiff, sI_sA, I_sA', sA_sA, I_sA, I_sA', nI_add, mul_nI, bI_0, bI_1, p.k, rs, p.r1, p.k1, p.r2, p.k2, p.r3, p.k3, p.r4, p.k4, p.r5, p.k5, p.r6, p.k6, p.r7, p.k7, p.r8, p.k8, k.k, k.r0, k.k0, k.rl, k.r1, k.r3, ko.k, ko.r0, ko.k0, ko.r1, ko.k1, ko.r2, ko.k2, ko.r3, ko.k3, ko.r4, ko.k4, ko.r6, ko.k6, klk, ix_nI, cl_nI]; done) | omega | assumption) only [e39_0, e39_1, e39_2, e39_5, e39_6, e39_8, e39_10, e39_13, e39_14, e39_17, e39_18, e39_21, e39_22, e39_25, e39_28, e39_29, e39_30, e39_33, e39_36, e39_37, e39_40, e39_41, e39_44, e39_45, e39_46, e39_47, e39_50, e39_51, e39_54, e39_55, e39_58, e39_61, e39_62, e39_63, e39_66, e39_67, e39_68, e39_68r, e39_69, e39_72, e39_73, e39_74, e39_77, e39_80, e39_83, am_k_some, va_rf_some, va_rf_none, tl_some, tl_none, am_clr_int, am_clr_ref, am_clr_none, am_clr_long, am_w_nil, am_w_int, am_w_ref, am_w_long, am_w_null, am_bb_0, am_bb_1, am_bb_bI, xK_sI, xR_sI, xS_sI, xN_sI, xK_sL, xR_sL, xS_sL, xN_sL, xK_sR, xR_sR, xS_sR, xN_sR, xK_sA, xR_sA, xS_sA, xN_sA, Nat.reduceAdd, Nat.reduceLeDiff, sI_sA, I_sA', sA_sA, I_sA, I_sA', nI_add, mul_nI, bI_0, bI_1, p.k, rs, p.r1, p.k1, p.r2, p.k2, p.r3, p.k3, p.r4, p.k4, p.r5, p.k5, p.r6, p.k6, p.r7, p.k7, p.r8, p.k8, k.k, k.r0, k.k0, k.rl, k.r1, k.r3, ko.k, ko.r0, ko.k0, ko.r1, ko.k1, ko.r2, ko.k2, ko.r3, ko.k3, ko.r4, ko.k4, ko.r6, ko.k6, klk, ix_nI, cl_nI, lt_nI, eq_nI, sub_nI, Nat.reduceEqDiff, Nat.one_ne_zero, Nat.not_lt_zero, ↓reduceIte, hnl, hc, c3, e13, v1]
    · have ed : (fL (thB S) i).length = dN S := by omega
      refine ⟨m, ?_, FrP.refl _ m, fun _ _ => rfl, by rw [hc, ed], fun j hj => hy j (by omega)⟩
      rw [e39_7]
      simp (disch := first | (simp (disch := omega) only [am_k_some, va_rf_some, va_rf_none, tl_some, tl_none, am_clr_int, am_clr_ref, am_clr_none, am_clr_long, am_w_nil, am_w_int, am_w_ref, am_w_long, am_w_null, am_bb_0, am_bb_1, am_bb_bI, xK_sI, xR_sI, xS_sI, xN_sI, xK_sL, xR_sL, xS_sL, xN_sL, xK_sR, xR_sR, xS_sR, xN_sR, xK_sA, xR_sA, xS_sA, xN_sA, Nat.reduceAdd, Nat.reduceLeDiff, sI_sA, I_sA', sA_sA, I_sA, I_sA', nI_add, mul_nI, bI_0, bI_1, p.k, rs, p.r1, p.k1, p.r2, p.k2, p.r3, p.k3, p.r4, p.k4, p.r5, p.k5, p.r6, p.k6, p.r7, p.k7, p.r8, p.k8, k.k, k.r0, k.k0, k.rl, k.r1, k.r3, ko.k, ko.r0, ko.k0, ko.r1, ko.k1, ko.r2, ko.k2, ko.r3, ko.k3, ko.r4, ko.k4, ko.r6, ko.k6, ix_nI, cl_nI]; done) | omega | assumption) only [e39_0, e39_1, e39_2, e39_5, e39_6, e39_8, e39_10, e39_13, e39_14, e39_17, e39_18, e39_21, e39_22, e39_25, e39_28, e39_29, e39_30, e39_33, e39_36, e39_37, e39_40, e39_41, e39_44, e39_45, e39_46, e39_47, e39_50, e39_51, e39_54, e39_55, e39_58, e39_61, e39_62, e39_63, e39_66, e39_67, e39_68, e39_68r, e39_69, e39_72, e39_73, e39_74, e39_77, e39_80, e39_83, am_k_some, va_rf_some, va_rf_none, tl_some, tl_none, am_clr_int, am_clr_ref, am_clr_none, am_clr_long, am_w_nil, am_w_int, am_w_ref, am_w_long, am_w_null, am_bb_0, am_bb_1, am_bb_bI, xK_sI, xR_sI, xS_sI, xN_sI, xK_sL, xR_sL, xS_sL, xN_sL, xK_sR, xR_sR, xS_sR, xN_sR, xK_sA, xR_sA, xS_sA, xN_sA, Nat.reduceAdd, Nat.reduceLeDiff, sI_sA, I_sA', sA_sA, I_sA, I_sA', nI_add, mul_nI, bI_0, bI_1, p.k, rs, p.r1, p.k1, p.r2, p.k2, p.r3, p.k3, p.r4, p.k4, p.r5, p.k5, p.r6, p.k6, p.r7, p.k7, p.r8, p.k8, k.k, k.r0, k.k0, k.rl, k.r1, k.r3, ko.k, ko.r0, ko.k0, ko.r1, ko.k1, ko.r2, ko.k2, ko.r3, ko.k3, ko.r4, ko.k4, ko.r6, ko.k6, ix_nI, cl_nI, lt_nI, eq_nI, sub_nI, Nat.reduceEqDiff, Nat.one_ne_zero, Nat.not_lt_zero, ↓reduceIte, hnl, hc, c3]
theorem sp_39 {d : Nat} {m : am_M} (W : Wf S) (ha : a + 66 ≤ o) (h3 : dN S ≤ 3) (C : PB m o a S L) : ∃ m', cal (d + 1) 39 [.ref o] m = some (none, m') ∧ FrP (fun x => x = o ∨ x = o + 3 ∨ x = o + 6) m m' ∧ (∀ j, j ≠ 10 → mI m' o j = mI m o j) ∧ mI m' o 10 = nI (dN S) ∧ ∀ j, j < dN S → mI m' (o + 3) j = nI (dT S j) ∧ mI m' (o + 6) j = nI (ln S (dT S j)) := by
  obtain ⟨p, rs, k, la, lo, sc⟩ := id C; have ko := k.lo
  have F0 : FrP (fun x => x = o ∨ x = o + 3 ∨ x = o + 6) m (sA m o (up1 (mI m o) 10 (nI 0))) := (FrP.refl _ m).sA (Or.inl rfl)
  obtain ⟨m', e, F, O, y1, y2⟩ := sp_39l (d := d) (L := L) W ha h3 20 0 (sA m o (up1 (mI m o) 10 (nI 0))) (Nat.zero_add _) (C.fr F0 (fun x h1 h2 h3 => by omega)) (by rw [I_sA, up1_eq]; rfl) (fun j hj => absurd hj (Nat.not_lt_zero _))
  refine ⟨m', ?_, F0.trans F, fun j hj => by rw [O j hj, I_sA, up1_ne hj], y1, y2⟩
  rw [← e]
  simp (disch := first | (simp (disch := omega) only [am_k_some, va_rf_some, va_rf_none, tl_some, tl_none, am_clr_int, am_clr_ref, am_clr_none, am_clr_long, am_w_nil, am_w_int, am_w_ref, am_w_long, am_w_null, am_bb_0, am_bb_1, am_bb_bI, xK_sI, xR_sI, xS_sI, xN_sI, xK_sL, xR_sL, xS_sL, xN_sL, xK_sR, xR_sR, xS_sR, xN_sR, xK_sA, xR_sA, xS_sA, xN_sA, Nat.reduceAdd, Nat.reduceLeDiff, sI_sA, I_sA', sA_sA, I_sA, I_sA', nI_add, mul_nI, bI_0, bI_1, p.k, rs, p.r1, p.k1, p.r2, p.k2, p.r3, p.k3, p.r4, p.k4, p.r5, p.k5, p.r6, p.k6, p.r7, p.k7, p.r8, p.k8, k.k, k.r0, k.k0, k.rl, k.r1, k.r3, ko.k, ko.r0, ko.k0, ko.r1, ko.k1, ko.r2, ko.k2, ko.r3, ko.k3, ko.r4, ko.k4, ko.r6, ko.k6, ix_nI, cl_nI]; done) | omega | assumption) only [c39, e39_0, e39_1, e39_2, e39_5, e39_6, am_k_some, va_rf_some, va_rf_none, tl_some, tl_none, am_clr_int, am_clr_ref, am_clr_none, am_clr_long, am_w_nil, am_w_int, am_w_ref, am_w_long, am_w_null, am_bb_0, am_bb_1, am_bb_bI, xK_sI, xR_sI, xS_sI, xN_sI, xK_sL, xR_sL, xS_sL, xN_sL, xK_sR, xR_sR, xS_sR, xN_sR, xK_sA, xR_sA, xS_sA, xN_sA, Nat.reduceAdd, Nat.reduceLeDiff, sI_sA, I_sA', sA_sA, I_sA, I_sA', nI_add, mul_nI, bI_0, bI_1, p.k, rs, p.r1, p.k1, p.r2, p.k2, p.r3, p.k3, p.r4, p.k4, p.r5, p.k5, p.r6, p.k6, p.r7, p.k7, p.r8, p.k8, k.k, k.r0, k.k0, k.rl, k.r1, k.r3, ko.k, ko.r0, ko.k0, ko.r1, ko.k1, ko.r2, ko.k2, ko.r3, ko.k3, ko.r4, ko.k4, ko.r6, ko.k6, ix_nI, cl_nI, lt_nI, eq_nI, sub_nI, Nat.reduceEqDiff, Nat.one_ne_zero, Nat.not_lt_zero, ↓reduceIte]
/-! sorting in -/
theorem sumL_ins (g : Nat → Int64) (v : Int64) : ∀ q at', at' ≤ q → sumL (fun i => if i < at' then g i else if i = at' then v else g (i - 1)) (q + 1) = sumL g q + v := by
  intro q
  induction q with
  | zero =>
    intro at' h
    have : at' = 0 := by omega
    subst this
    show (0 : Int64) + (if 0 < 0 then g 0 else if 0 = 0 then v else g (0 - 1)) = 0 + v
    rw [if_neg (Nat.lt_irrefl _), if_pos rfl]
  | succ q ih =>
    intro at' h
    show sumL (fun i => if i < at' then g i else if i = at' then v else g (i - 1)) (q + 1) + (if q + 1 < at' then g (q + 1) else if q + 1 = at' then v else g (q + 1 - 1)) = sumL g q + g q + v
    by_cases e : at' = q + 1
    · rw [if_neg (by omega), if_pos e.symm]
      have : sumL (fun i => if i < at' then g i else if i = at' then v else g (i - 1)) (q + 1) = sumL g (q + 1) := sumL_congr (fun i hi => by rw [if_pos (by omega)])
      rw [this]
      rfl
    · rw [ih at' (by omega), if_neg (by omega), if_neg (by omega), Nat.add_sub_cancel]
      rw [Int64.add_assoc, Int64.add_assoc, Int64.add_comm v]
def insP (pi : Nat → Nat) (q at' : Nat) : Nat → Nat := fun i => if i < at' then pi i else if i = at' then q else pi (i - 1)
theorem ins_fp {C C' T : Nat → Int32} {pi : Nat → Nat} {q at' : Nat} (h : FpV C T q pi) (ha : at' ≤ q) (hC : ∀ i, i < q + 1 → C' i = nI (insP pi q at' i)) (h1 : at' = 0 ∨ ¬ T (pi (at' - 1)) < T q) (h2 : ∀ i, at' ≤ i → i < q → T (pi i) < T q) : FpV C' T (q + 1) (insP pi q at') := by
  obtain ⟨a, b, c⟩ := h
  refine ⟨fun i hi => ⟨hC i hi, ?_⟩, fun i i' h3 h4 => ?_, fun f => ?_⟩
  · unfold insP
    split
    · have := (a i (by omega)).2; omega
    · split
      · omega
      · have := (a (i - 1) (by omega)).2; omega
  · unfold insP
    by_cases c1 : i' < at'
    · rw [if_pos c1, if_pos (by omega)]
      exact b i i' h3 (by omega)
    · rw [if_neg c1]
      by_cases c2 : i' = at'
      · rw [if_pos c2, if_pos (show i < at' by omega)]
        rcases h1 with z | z
        · omega
        · rcases Nat.eq_or_lt_of_le (show i ≤ at' - 1 by omega) with w | w
          · rw [w]; exact z
          · intro y
            exact b i (at' - 1) w (by omega) (Int32.lt_of_lt_of_le y (Int32.not_lt.1 z))
      · rw [if_neg c2]
        by_cases c3 : i < at'
        · rw [if_pos c3]
          exact b i (i' - 1) (by omega) (by omega)
        · rw [if_neg c3]
          by_cases c4 : i = at'
          · rw [if_pos c4]
            exact fun y => Int32.lt_irrefl (Int32.lt_trans y (h2 (i' - 1) (by omega) (by omega)))
          · rw [if_neg c4]
            exact b (i - 1) (i' - 1) (by omega) (by omega)
  · have e := sumL_ins (fun i => f (pi i)) (f q) q at' ha
    show _ = sumL f q + f q
    rw [← c f, ← e]
    refine sumL_congr (fun i hi => ?_)
    show f (insP pi q at' i) = _
    unfold insP
    split
    · rfl
    · split <;> rfl
theorem sp_42b {d x l : Nat} {m : am_M} (W : Wf S) (C : PB m o a S L) (hx : x < 6) (hn : mI m (o + 1) x = nI l) (hl : l < nm S) : cal d 42 [.ref o, .int (nI x)] m = some (some (.int (S (2100 + l))), m) := by
  obtain ⟨p, rs, k, la, lo, sc⟩ := id C; have ko := k.lo
  have n2 := W.nm.2
  obtain ⟨-, -, -, w4, -⟩ := lo.2 l hl
  simp (disch := first | (simp (disch := omega) only [am_k_some, va_rf_some, va_rf_none, tl_some, tl_none, am_clr_int, am_clr_ref, am_clr_none, am_clr_long, am_w_nil, am_w_int, am_w_ref, am_w_long, am_w_null, am_bb_0, am_bb_1, am_bb_bI, xK_sI, xR_sI, xS_sI, xN_sI, xK_sL, xR_sL, xS_sL, xN_sL, xK_sR, xR_sR, xS_sR, xN_sR, xK_sA, xR_sA, xS_sA, xN_sA, Nat.reduceAdd, Nat.reduceLeDiff, sI_sA, I_sA', sA_sA, I_sA, I_sA', nI_add, mul_nI, bI_0, bI_1, p.k, rs, p.r1, p.k1, p.r2, p.k2, p.r3, p.k3, p.r4, p.k4, p.r5, p.k5, p.r6, p.k6, p.r7, p.k7, p.r8, p.k8, k.k, k.r0, k.k0, k.rl, k.r1, k.r3, ko.k, ko.r0, ko.k0, ko.r1, ko.k1, ko.r2, ko.k2, ko.r3, ko.k3, ko.r4, ko.k4, ko.r6, ko.k6, ix_nI, cl_nI]; done) | omega | assumption) only [c42, e42_0, e42_1, e42_4, e42_7, e42_10, e42_11, e42_14, e42_15, e42_16, e42_17, am_k_some, va_rf_some, va_rf_none, tl_some, tl_none, am_clr_int, am_clr_ref, am_clr_none, am_clr_long, am_w_nil, am_w_int, am_w_ref, am_w_long, am_w_null, am_bb_0, am_bb_1, am_bb_bI, xK_sI, xR_sI, xS_sI, xN_sI, xK_sL, xR_sL, xS_sL, xN_sL, xK_sR, xR_sR, xS_sR, xN_sR, xK_sA, xR_sA, xS_sA, xN_sA, Nat.reduceAdd, Nat.reduceLeDiff, sI_sA, I_sA', sA_sA, I_sA, I_sA', nI_add, mul_nI, bI_0, bI_1, p.k, rs, p.r1, p.k1, p.r2, p.k2, p.r3, p.k3, p.r4, p.k4, p.r5, p.k5, p.r6, p.k6, p.r7, p.k7, p.r8, p.k8, k.k, k.r0, k.k0, k.rl, k.r1, k.r3, ko.k, ko.r0, ko.k0, ko.r1, ko.k1, ko.r2, ko.k2, ko.r3, ko.k3, ko.r4, ko.k4, ko.r6, ko.k6, ix_nI, cl_nI, lt_nI, eq_nI, sub_nI, Nat.reduceEqDiff, Nat.one_ne_zero, Nat.not_lt_zero, ↓reduceIte, hn, w4]
/-- sortIn -/
theorem sp_41 {d q : Nat} {m : am_M} {T : Nat → Int32} {lN : Nat → Nat} {pi : Nat → Nat} (W : Wf S) (ha : a + 66 ≤ o) (C : PB m o a S L) (hq : q < 6) (hn : ∀ x, x ≤ q → mI m (o + 1) x = nI (lN x) ∧ lN x < nm S ∧ T x = S (2100 + lN x)) (fp : FpV (mI m (o + 2)) T q pi) : ∃ m' pi', cal (d + 1) 41 [.ref o, .int (nI q)] m = some (none, m') ∧ FrP (fun x => x = o + 2) m m' ∧ FpV (mI m' (o + 2)) T (q + 1) pi' := by
  have lp : ∀ at' (m1 : am_M), at' ≤ q → FrP (fun x => x = o + 2) m m1 → (∀ i, i < at' → mI m1 (o + 2) i = nI (pi i)) → (∀ i, at' ≤ i → i < q → mI m1 (o + 2) (i + 1) = nI (pi i)) → (∀ i, at' ≤ i → i < q → T (pi i) < T q) → ∃ m' pi', ev (d + 1) 41 2 [some (.ref o), some (.int (nI q)), some (.int (nI at'))] [] m1 = some (none, m') ∧ FrP (fun x => x = o + 2) m m' ∧ FpV (mI m' (o + 2)) T (q + 1) pi' := by
    intro at'
    induction at' with
    | zero =>
      intro m1 h1 F1 g1 g2 g3
      have C := C.fr F1 (fun x h1 h2 h3 => by omega)
      obtain ⟨p, rs, k, la, lo, sc⟩ := id C; have ko := k.lo
      refine ⟨sA m1 (o + 2) (up1 (mI m1 (o + 2)) 0 (nI q)), insP pi q 0, ?_, F1.sA rfl, ins_fp fp (Nat.zero_le _) (fun i hi => ?_) (Or.inl rfl) g3⟩
      · have z : ¬ 0 < 0 := by omega
        rw [e41_2]
        simp (disch := first | (simp (disch := omega) only [am_k_some, va_rf_some, va_rf_none, tl_some, tl_none, am_clr_int, am_clr_ref, am_clr_none, am_clr_long, am_w_nil, am_w_int, am_w_ref, am_w_long, am_w_null, am_bb_0, am_bb_1, am_bb_bI, xK_sI, xR_sI, xS_sI, xN_sI, xK_sL, xR_sL, xS_sL, xN_sL, xK_sR, xR_sR, xS_sR, xN_sR, xK_sA, xR_sA, xS_sA, xN_sA, Nat.reduceAdd, Nat.reduceLeDiff, sI_sA, I_sA', sA_sA, I_sA, I_sA', nI_add, mul_nI, bI_0, bI_1, p.k, rs, p.r1, p.k1, p.r2, p.k2, p.r3, p.k3, p.r4, p.k4, p.r5, p.k5, p.r6, p.k6, p.r7, p.k7, p.r8, p.k8, k.k, k.r0, k.k0, k.rl, k.r1, k.r3, ko.k, ko.r0, ko.k0, ko.r1, ko.k1, ko.r2, ko.k2, ko.r3, ko.k3, ko.r4, ko.k4, ko.r6, ko.k6, ix_nI, cl_nI]; done) | omega | assumption) only [e41_0, e41_1, e41_3, e41_6, e41_7, e41_8, e41_11, e41_12, e41_13, e41_14, e41_15, e41_18, e41_19, e41_20, e41_23, e41_26, e41_27, e41_30, e41_31, e41_32, e41_35, e41_36, e41_37, e41_38, e41_39, e41_40, e41_43, e41_46, e41_47, e41_50, e41_51, e41_52, e41_53, am_k_some, va_rf_some, va_rf_none, tl_some, tl_none, am_clr_int, am_clr_ref, am_clr_none, am_clr_long, am_w_nil, am_w_int, am_w_ref, am_w_long, am_w_null, am_bb_0, am_bb_1, am_bb_bI, xK_sI, xR_sI, xS_sI, xN_sI, xK_sL, xR_sL, xS_sL, xN_sL, xK_sR, xR_sR, xS_sR, xN_sR, xK_sA, xR_sA, xS_sA, xN_sA, Nat.reduceAdd, Nat.reduceLeDiff, sI_sA, I_sA', sA_sA, I_sA, I_sA', nI_add, mul_nI, bI_0, bI_1, p.k, rs, p.r1, p.k1, p.r2, p.k2, p.r3, p.k3, p.r4, p.k4, p.r5, p.k5, p.r6, p.k6, p.r7, p.k7, p.r8, p.k8, k.k, k.r0, k.k0, k.rl, k.r1, k.r3, ko.k, ko.r0, ko.k0, ko.r1, ko.k1, ko.r2, ko.k2, ko.r3, ko.k3, ko.r4, ko.k4, ko.r6, ko.k6, ix_nI, cl_nI, lt_nI, eq_nI, sub_nI, Nat.reduceEqDiff, Nat.one_ne_zero, Nat.not_lt_zero, ↓reduceIte, z]
      · rw [I_sA]
        unfold insP
        rw [if_neg (Nat.not_lt_zero _)]
        by_cases e : i = 0
        · rw [if_pos e, e, up1_eq]
        · rw [if_neg e, up1_ne e]
          have := g2 (i - 1) (Nat.zero_le _) (by omega)
          rw [Nat.sub_add_cancel (by omega)] at this
          exact this
    | succ at' ih =>
      intro m1 h1 F1 g1 g2 g3
      have C := C.fr F1 (fun x h1 h2 h3 => by omega)
      obtain ⟨p, rs, k, la, lo, sc⟩ := id C; have ko := k.lo
      have bt := g1 at' (by omega)
      have pt := (fp.1 at' (by omega)).2
      obtain ⟨n1, n2, n3⟩ := hn (pi at') (by omega)
      obtain ⟨n4, n5, n6⟩ := hn q (Nat.le_refl _)
      rw [← F1.i (show ¬ o + 1 = o + 2 by omega)] at n1 n4
      have e1 := sp_42b (d := d) W C (by omega) n1 n2
      have e2 := sp_42b (d := d) W C hq n4 n5
      rw [← n3] at e1
      rw [← n6] at e2
      have z : 0 < at' + 1 := by omega
      by_cases c : T (pi at') < T q
      · obtain ⟨m', pi', e3, F3, f3⟩ := ih (sA m1 (o + 2) (up1 (mI m1 (o + 2)) (at' + 1) (nI (pi at')))) (by omega) (F1.sA rfl) (fun i hi => by rw [I_sA, up1_ne (by omega)]; exact g1 i (by omega)) (fun i hi hi2 => by
          rw [I_sA]
          by_cases w : i = at'
          · rw [w, up1_eq]
          · rw [up1_ne (by omega)]; exact g2 i (by omega) hi2) (fun i hi hi2 => by
          by_cases w : i = at'
          · rw [w]; exact c
          · exact g3 i (by omega) hi2)
        refine ⟨m', pi', ?_, F3, f3⟩
        rw [← e3, e41_2]
        simp (disch := first | (simp (disch := omega) only [am_k_some, va_rf_some, va_rf_none, tl_some, tl_none, am_clr_int, am_clr_ref, am_clr_none, am_clr_long, am_w_nil, am_w_int, am_w_ref, am_w_long, am_w_null, am_bb_0, am_bb_1, am_bb_bI, xK_sI, xR_sI, xS_sI, xN_sI, xK_sL, xR_sL, xS_sL, xN_sL, xK_sR, xR_sR, xS_sR, xN_sR, xK_sA, xR_sA, xS_sA, xN_sA, Nat.reduceAdd, Nat.reduceLeDiff, sI_sA, I_sA', sA_sA, I_sA, I_sA', nI_add, mul_nI, bI_0, bI_1, p.k, rs, p.r1, p.k1, p.r2, p.k2, p.r3, p.k3, p.r4, p.k4, p.r5, p.k5, p.r6, p.k6, p.r7, p.k7, p.r8, p.k8, k.k, k.r0, k.k0, k.rl, k.r1, k.r3, ko.k, ko.r0, ko.k0, ko.r1, ko.k1, ko.r2, ko.k2, ko.r3, ko.k3, ko.r4, ko.k4, ko.r6, ko.k6, ix_nI, cl_nI]; done) | omega | assumption) only [e41_0, e41_1, e41_3, e41_6, e41_7, e41_8, e41_11, e41_12, e41_13, e41_14, e41_15, e41_18, e41_19, e41_20, e41_23, e41_26, e41_27, e41_30, e41_31, e41_32, e41_35, e41_36, e41_37, e41_38, e41_39, e41_40, e41_43, e41_46, e41_47, e41_50, e41_51, e41_52, e41_53, am_k_some, va_rf_some, va_rf_none, tl_some, tl_none, am_clr_int, am_clr_ref, am_clr_none, am_clr_long, am_w_nil, am_w_int, am_w_ref, am_w_long, am_w_null, am_bb_0, am_bb_1, am_bb_bI, xK_sI, xR_sI, xS_sI, xN_sI, xK_sL, xR_sL, xS_sL, xN_sL, xK_sR, xR_sR, xS_sR, xN_sR, xK_sA, xR_sA, xS_sA, xN_sA, Nat.reduceAdd, Nat.reduceLeDiff, sI_sA, I_sA', sA_sA, I_sA, I_sA', nI_add, mul_nI, bI_0, bI_1, p.k, rs, p.r1, p.k1, p.r2, p.k2, p.r3, p.k3, p.r4, p.k4, p.r5, p.k5, p.r6, p.k6, p.r7, p.k7, p.r8, p.k8, k.k, k.r0, k.k0, k.rl, k.r1, k.r3, ko.k, ko.r0, ko.k0, ko.r1, ko.k1, ko.r2, ko.k2, ko.r3, ko.k3, ko.r4, ko.k4, ko.r6, ko.k6, ix_nI, cl_nI, lt_nI, eq_nI, sub_nI, Nat.reduceEqDiff, Nat.one_ne_zero, Nat.not_lt_zero, ↓reduceIte, dec_nI, Nat.add_sub_cancel, z, bt, e1, e2, c]
      · refine ⟨sA m1 (o + 2) (up1 (mI m1 (o + 2)) (at' + 1) (nI q)), insP pi q (at' + 1), ?_, F1.sA rfl, ins_fp fp h1 (fun i hi => ?_) (Or.inr (by rw [Nat.add_sub_cancel]; exact c)) g3⟩
        · rw [e41_2]
          simp (disch := first | (simp (disch := omega) only [am_k_some, va_rf_some, va_rf_none, tl_some, tl_none, am_clr_int, am_clr_ref, am_clr_none, am_clr_long, am_w_nil, am_w_int, am_w_ref, am_w_long, am_w_null, am_bb_0, am_bb_1, am_bb_bI, xK_sI, xR_sI, xS_sI, xN_sI, xK_sL, xR_sL, xS_sL, xN_sL, xK_sR, xR_sR, xS_sR, xN_sR, xK_sA, xR_sA, xS_sA, xN_sA, Nat.reduceAdd, Nat.reduceLeDiff, sI_sA, I_sA', sA_sA, I_sA, I_sA', nI_add, mul_nI, bI_0, bI_1, p.k, rs, p.r1, p.k1, p.r2, p.k2, p.r3, p.k3, p.r4, p.k4, p.r5, p.k5, p.r6, p.k6, p.r7, p.k7, p.r8, p.k8, k.k, k.r0, k.k0, k.rl, k.r1, k.r3, ko.k, ko.r0, ko.k0, ko.r1, ko.k1, ko.r2, ko.k2, ko.r3, ko.k3, ko.r4, ko.k4, ko.r6, ko.k6, ix_nI, cl_nI]; done) | omega | assumption) only [e41_0, e41_1, e41_3, e41_6, e41_7, e41_8, e41_11, e41_12, e41_13, e41_14, e41_15, e41_18, e41_19, e41_20, e41_23, e41_26, e41_27, e41_30, e41_31, e41_32, e41_35, e41_36, e41_37, e41_38, e41_39, e41_40, e41_43, e41_46, e41_47, e41_50, e41_51, e41_52, e41_53, am_k_some, va_rf_some, va_rf_none, tl_some, tl_none, am_clr_int, am_clr_ref, am_clr_none, am_clr_long, am_w_nil, am_w_int, am_w_ref, am_w_long, am_w_null, am_bb_0, am_bb_1, am_bb_bI, xK_sI, xR_sI, xS_sI, xN_sI, xK_sL, xR_sL, xS_sL, xN_sL, xK_sR, xR_sR, xS_sR, xN_sR, xK_sA, xR_sA, xS_sA, xN_sA, Nat.reduceAdd, Nat.reduceLeDiff, sI_sA, I_sA', sA_sA, I_sA, I_sA', nI_add, mul_nI, bI_0, bI_1, p.k, rs, p.r1, p.k1, p.r2, p.k2, p.r3, p.k3, p.r4, p.k4, p.r5, p.k5, p.r6, p.k6, p.r7, p.k7, p.r8, p.k8, k.k, k.r0, k.k0, k.rl, k.r1, k.r3, ko.k, ko.r0, ko.k0, ko.r1, ko.k1, ko.r2, ko.k2, ko.r3, ko.k3, ko.r4, ko.k4, ko.r6, ko.k6, ix_nI, cl_nI, lt_nI, eq_nI, sub_nI, Nat.reduceEqDiff, Nat.one_ne_zero, Nat.not_lt_zero, ↓reduceIte, Nat.add_sub_cancel, z, bt, e1, e2, c]
        · rw [I_sA]
          unfold insP
          by_cases w : i < at' + 1
          · rw [if_pos w, up1_ne (by omega)]; exact g1 i w
          · rw [if_neg w]
            by_cases w2 : i = at' + 1
            · rw [if_pos w2, w2, up1_eq]
            · rw [if_neg w2, up1_ne w2]
              have := g2 (i - 1) (by omega) (by omega)
              rw [Nat.sub_add_cancel (by omega)] at this
              exact this
  obtain ⟨m', pi', e, F, f⟩ := lp q m (Nat.le_refl _) (FrP.refl _ m) (fun i hi => (fp.1 i hi).1) (fun i h1 h2 => by omega) (fun i h1 h2 => by omega)
  refine ⟨m', pi', ?_, F, f⟩
  rw [← e]
  simp only [c41, e41_0, e41_1, am_k_some, va_rf_some, va_rf_none, tl_some, tl_none, am_clr_int, am_clr_ref, am_clr_none, am_clr_long, am_w_nil, am_w_int, am_w_ref, am_w_long, am_w_null, am_bb_0, am_bb_1, am_bb_bI, xK_sI, xR_sI, xS_sI, xN_sI, xK_sL, xR_sL, xS_sL, xN_sL, xK_sR, xR_sR, xS_sR, xN_sR, xK_sA, xR_sA, xS_sA, xN_sA, Nat.reduceAdd, Nat.reduceLeDiff, sI_sA, I_sA', sA_sA, I_sA, I_sA', nI_add, mul_nI, bI_0, bI_1]
end GA
