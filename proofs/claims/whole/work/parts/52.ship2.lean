/-! stand, takeAway -/
section LP
variable {m : am_M} {o l : Nat} {s i p : Int32}
theorem lpM_7 : mI (lpM m o l s i p) (o + 7) = up1 (mI m (o + 7)) l s := by
  unfold lpM
  rw [I_sA' _ _ (by omega), I_sA' _ _ (by omega), I_sA]
theorem lpM_8 : mI (lpM m o l s i p) (o + 8) = up1 (mI m (o + 8)) l i := by
  unfold lpM
  rw [I_sA' _ _ (by omega), I_sA]
theorem lpM_9 : mI (lpM m o l s i p) (o + 9) = up1 (mI m (o + 9)) l p := by
  unfold lpM
  rw [I_sA]
theorem lpM_off {x : Nat} (h : x < o + 7 ∨ o + 9 < x) : mI (lpM m o l s i p) x = mI m x := by
  unfold lpM
  rw [I_sA' _ _ (by omega), I_sA' _ _ (by omega), I_sA' _ _ (by omega)]
theorem lpM_L : mL (lpM m o l s i p) = mL m := rfl
theorem lpM_fr {a : Nat} {m0 : am_M} (h : Fr a m0 m) (h1 : a ≤ o) (h2 : o + 9 < a + 66) : Fr a m0 (lpM m o l s i p) := ((h.sA (by omega) (by omega)).sA (by omega) (by omega)).sA (by omega) (by omega)
theorem LoV.put {S S' : Nat → Int32} (v : LoV m o S) (ag : AgM S S') (hN : NmOk S) (hl : l < nm S) (h1 : S' (3300 + l) = s) (h2 : S' (3700 + l) = i) (h3 : S' (4100 + l) = p) (hoff : ∀ j, j < nm S → j ≠ l → S' (3300 + j) = S (3300 + j) ∧ S' (3700 + j) = S (3700 + j) ∧ S' (4100 + j) = S (4100 + j)) : LoV (lpM m o l s i p) o S' := by
  have n2 := hN.2
  obtain ⟨v1, v2⟩ := v
  unfold LoV
  rw [lpM_7, lpM_8, lpM_9, lpM_off (x := o) (by omega), lpM_off (x := o + 1) (by omega), lpM_off (x := o + 2) (by omega), lpM_off (x := o + 3) (by omega), lpM_off (x := o + 4) (by omega), lpM_off (x := o + 5) (by omega), lpM_off (x := o + 6) (by omega), ag.nmE, ag 6500 (by omega) (by omega)]
  refine ⟨v1, fun j hj => ?_⟩
  obtain ⟨w1, w2, w3, w4, w5, w6, w7, w8, w9⟩ := v2 j hj
  rw [ag (900 + j) (by omega) (by omega), ag.tall (by omega), ag.unit (by omega), ag (2100 + j) (by omega) (by omega), ag (2500 + j) (by omega) (by omega), ag (2900 + j) (by omega) (by omega)]
  refine ⟨w1, w2, w3, w4, w5, w6, ?_⟩
  by_cases hjl : j = l
  · subst hjl
    rw [up1_eq, up1_eq, up1_eq]
    exact ⟨h1.symm, h2.symm, h3.symm⟩
  · obtain ⟨q1, q2, q3⟩ := hoff j hj hjl
    rw [up1_ne hjl, up1_ne hjl, up1_ne hjl, q1, q2, q3]
    exact ⟨w7, w8, w9⟩
end LP
theorem LaV.ch {m m' : am_M} {o i : Nat} {S S' F G : Nat → Int32} (v : LaV m o S i) (ag : AgM S S') (hi : i < 20) (e1 : mI m' (o + 1) = F) (e0 : mI m' o = G) (g1 : G 1 = mI m o 1) (g2 : G 2 = mI m o 2) (g3 : G 3 = mI m o 3) (g4 : G 4 = mI m o 4) (hF : ∀ p, p < lenS S i → F p = S' (40 * i + p)) (g5 : G 5 = nI (inS S' i)) (g6 : G 6 = nI (chN S' i)) : LaV m' o S' i := by
  unfold LaV
  rw [e0, e1, g1, g2, g3, g4, g5, g6, ag.lenE hi, ag.th hi, ag (840 + i) (by omega) (by omega), ag (860 + i) (by omega) (by omega), ag (880 + i) (by omega) (by omega)]
  exact ⟨v.1, v.2.1, hF, rfl, rfl⟩
theorem ShV.ch {m m' : am_M} {a i : Nat} {S S' : Nat → Int32} {L : Int64} (v : ShV m a S L) (hL : LnOk S) (hA : AkOk S) (h5 : MvOk S 6505) (h6 : MvOk S 6506) (ag : AgM S S') (hi : i < 20) (hm : ∀ x, a ≤ x → x < a + 66 → x ≠ a + 26 + 2 * i → x ≠ a + 27 + 2 * i → (x < a + 2 ∨ a + 12 ≤ x) → mI m' x = mI m x) (hLm : mL m' a = mL m a) (hlo : LoV m' (a + 2) S') (hla : LaV m' (a + 26 + 2 * i) S' i)
    (hot : ∀ j, j < 20 → j ≠ i → (∀ p, p < 40 → S' (40 * j + p) = S (40 * j + p)) ∧ inS S' j = inS S j ∧ chN S' j = chN S j) : ShV m' a S' L := by
  refine ⟨fun j hj => ?_, hlo, ?_, ?_, ?_, ?_, ?_⟩
  · by_cases hji : j = i
    · subst hji; exact hla
    · obtain ⟨c1, c2, c3⟩ := hot j hj hji
      have := lenS_le hL hj
      exact ((v.la hj).mem (hm _ (by omega) (by omega) (by omega) (by omega) (by omega)) (hm _ (by omega) (by omega) (by omega) (by omega) (by omega))).arr (ag _ (by omega) (by omega)) (ag _ (by omega) (by omega)) (ag _ (by omega) (by omega)) (ag _ (by omega) (by omega)) (ag _ (by omega) (by omega)) (fun p hp => c1 p (by omega)) c2 c3
  · exact (v.ac.mem (fun k hk => hm _ (by omega) (by omega) (by omega) (by omega) (by omega))).arr (fun y hy => ag y (by omega) (by omega)) hA
  · exact (v.pl.mem (fun k hk => hm _ (by omega) (by omega) (by omega) (by omega) (by omega))).arr (fun y h1 h2 => ag y (by omega) (by omega))
  · exact (v.ash.mem (hm _ (by omega) (by omega) (by omega) (by omega) (by omega)) (hm _ (by omega) (by omega) (by omega) (by omega) (by omega))).arr h5 (ag _ (by omega) (by omega)) (fun j hj => ag _ (by omega) (by omega))
  · exact (v.dep.mem (hm _ (by omega) (by omega) (by omega) (by omega) (by omega)) (hm _ (by omega) (by omega) (by omega) (by omega) (by omega))).arr h6 (ag _ (by omega) (by omega)) (fun j hj => ag _ (by omega) (by omega))
  · exact (v.sc.mem (hm _ (by omega) (by omega) (by omega) (by omega) (by omega)) hLm).arr (fun y h1 h2 => ag y (by omega) (by omega))
theorem sp_73 {d a l i q : Nat} {m : am_M} {S : Nat → Int32} {L : Int64} (k : ShK m a) (v : ShV m a S L) (hL : LnOk S) (hN : NmOk S) (hA : AkOk S) (h5 : MvOk S 6505) (h6 : MvOk S 6506) (hl : l < nm S) (hi : i < 20) (hq : q + spanS S l ≤ lenS S i) (h0 : ¬ S (3300 + l) = nI 1) (he : EmR S l i q) :
    ∃ m', cal (d + 2) 73 [.ref a, .int (nI l), .int (nI i), .int (nI q)] m = some (none, m') ∧ Fr a m m' ∧ ShV m' a (putS S l i q) L := by
  have n2 := hN.2
  have l2 := lenS_le hL hi
  have kl := k.la i hi
  have vl := v.la hi
  obtain ⟨w1, -⟩ := v.lo.2 l hl
  have f22 := sp_22 (d := d + 1) (v := nI l) kl vl.1 l2 hq
  have s1 : ∀ d', cal d' 134 [.int (S (900 + l))] (m : am_M) = some (some (.int (nI (spanS S l))), m) := fun d' => sp_134
  have f28 := fun m' (kl : LoK m' (a + 2)) => sp_28 (d := d + 1) (m := m') (s := nI 1) (i := nI i) (p := nI q) kl (show l < 400 by omega)
  have f28 := f28 (sA (sA m (a + 26 + 2 * i + 1) (fillS (mI m (a + 26 + 2 * i + 1)) q (spanS S l) (nI l))) (a + 26 + 2 * i) (up1 (mI m (a + 26 + 2 * i)) 5 (mI m (a + 26 + 2 * i) 5 + nI 1))) k.lo
  refine ⟨lpM (sA (sA m (a + 26 + 2 * i + 1) (fillS (mI m (a + 26 + 2 * i + 1)) q (spanS S l) (nI l))) (a + 26 + 2 * i) (up1 (mI m (a + 26 + 2 * i)) 5 (mI m (a + 26 + 2 * i) 5 + nI 1))) (a + 2) l (nI 1) (nI i) (nI q), ?_, ?_, ?_⟩
  · simp (disch := first | (simp (disch := omega) only [am_k_some, va_rf_some, va_rf_none, tl_some, tl_none, am_clr_int, am_clr_ref, am_clr_none, am_clr_long, am_w_nil, am_w_int, am_w_ref, am_w_long, am_w_null, am_bb_0, am_bb_1, am_bb_bI, xK_sI, xR_sI, xS_sI, xN_sI, xK_sL, xR_sL, xS_sL, xN_sL, xK_sR, xR_sR, xS_sR, xN_sR, xK_sA, xR_sA, xS_sA, xN_sA, Nat.reduceAdd, Nat.reduceLeDiff, sI_sA, I_sA', sA_sA, I_sA, I_sA', nI_add, mul_nI, bI_0, bI_1, k.k, k.r0, k.k0, k.rl, k.r1, k.lo.k, k.lo.r0, k.lo.k0, k.lo.r7, k.lo.k7, k.lo.r8, k.lo.k8, kl.k, kl.r0, kl.k0, LaK_sA, LoK_sA, ix_nI, cl_nI]; done) | omega | assumption) only [c73, e73_0, e73_1, e73_4, e73_5, e73_6, e73_7, e73_8, e73_11, e73_14, e73_15, e73_16, e73_19, e73_20, e73_23, e73_24, e73_27, e73_28, e73_29, e73_29r, e73_30, e73_33, e73_34, e73_35, e73_38, e73_39, e73_42, e73_43, e73_44, e73_45, e73_46, e73_49, am_k_some, va_rf_some, va_rf_none, tl_some, tl_none, am_clr_int, am_clr_ref, am_clr_none, am_clr_long, am_w_nil, am_w_int, am_w_ref, am_w_long, am_w_null, am_bb_0, am_bb_1, am_bb_bI, xK_sI, xR_sI, xS_sI, xN_sI, xK_sL, xR_sL, xS_sL, xN_sL, xK_sR, xR_sR, xS_sR, xN_sR, xK_sA, xR_sA, xS_sA, xN_sA, Nat.reduceAdd, Nat.reduceLeDiff, sI_sA, I_sA', sA_sA, I_sA, I_sA', nI_add, mul_nI, bI_0, bI_1, k.k, k.r0, k.k0, k.rl, k.r1, k.lo.k, k.lo.r0, k.lo.k0, k.lo.r7, k.lo.k7, k.lo.r8, k.lo.k8, kl.k, kl.r0, kl.k0, ix_nI, cl_nI, lt_nI, eq_nI, sub_nI, Nat.reduceEqDiff, Nat.one_ne_zero, Nat.not_lt_zero, ↓reduceIte, w1, s1, f22, f28]
  · exact lpM_fr (((Fr.refl a m).sA (by omega) (by omega)).sA (by omega) (by omega)) (by omega) (by omega)
  · have ag := putS_ag (S := S) (l := l) (i := i) (q := q) (by omega) hi (by omega)
    refine ShV.ch v hL hA h5 h6 ag hi ?_ rfl ?_ ?_ ?_
    · intro x x1 x2 x3 x4 x5
      rw [lpM_off (by omega), I_sA' _ _ (by omega), I_sA' _ _ (by omega)]
    · refine LoV.put (v.lo.mem fun j hj => ?_) ag hN hl (putS_1 (by omega)) (putS_2 (by omega)) putS_3 (fun j hj hjl => ⟨putS_off (by omega) (by omega) (by omega) (by omega), putS_off (by omega) (by omega) (by omega) (by omega), putS_off (by omega) (by omega) (by omega) (by omega)⟩)
      rw [I_sA' _ _ (by omega), I_sA' _ _ (by omega)]
    · refine vl.ch ag hi (F := fillS (mI m (a + 26 + 2 * i + 1)) q (spanS S l) (nI l)) (G := up1 (mI m (a + 26 + 2 * i)) 5 (mI m (a + 26 + 2 * i) 5 + nI 1)) ?_ ?_ (up1_ne (by omega)) (up1_ne (by omega)) (up1_ne (by omega)) (up1_ne (by omega)) ?_ ?_ ?_
      · rw [lpM_off (by omega), I_sA' _ _ (by omega), I_sA]
      · rw [lpM_off (by omega), I_sA]
      · intro p hp
        by_cases hr : q ≤ p ∧ p < q + spanS S l
        · rw [fillS_in hr, putS_in (by omega) (by omega)]
        · rw [fillS_out (by omega), putS_off (by omega) (by omega) (by omega) (by omega)]
          exact vl.2.2.1 p hp
      · rw [up1_eq, vl.2.2.2.1, inS_put hN hl hi hi (by omega) h0, if_pos rfl, nI_add]
      · rw [up1_ne (by omega), chN_put (by omega) hi hi hL (by omega) he]
        exact vl.2.2.2.2
    · intro j hj hji
      refine ⟨fun p hp => putS_off (by omega) (by omega) (by omega) (by omega), ?_, chN_put (by omega) hi hj hL (by omega) he⟩
      rw [inS_put hN hl hi hj (by omega) h0, if_neg hji, Nat.add_zero]
theorem sp_74g {d a l i q : Nat} {w : Int32} {m : am_M} {S : Nat → Int32} {L : Int64} (k : ShK m a) (v : ShV m a S L) (hL : LnOk S) (hN : NmOk S) (hA : AkOk S) (h5 : MvOk S 6505) (h6 : MvOk S 6506) (hl : l < nm S) (hs : StA S l i q) (hw : w = nI 0 ∨ w = nI 2) :
    ∃ m', cal (d + 2) 74 [.ref a, .int (nI l), .int w] m = some (none, m') ∧ Fr a m m' ∧ ShV m' a (takeS S l w i q) L ∧ mI m' (a + 25) = mI m (a + 25) := by
  have n2 := hN.2
  obtain ⟨s1, s2, s3, hi, s5, hq, s7⟩ := id hs
  have l2 := lenS_le hL hi
  have hq : q + spanS S l ≤ lenS S i := by rw [lenS_t s5]; exact hq
  have hw1 : ¬ w = nI 1 := by rcases hw with rfl | rfl <;> decide
  have kl := k.la i hi
  have ko := k.lo
  have vl := v.la hi
  obtain ⟨w1, w2, w3, w4, w5, w6, w7, w8, w9⟩ := v.lo.2 l hl
  rw [s1] at w7
  rw [s2] at w8
  rw [s3] at w9
  have hb := sp_30v (d := d) ko (by rw [v.lo.1]; exact hN.1) n2 hl
  rw [w7, decide_eq_true rfl] at hb
  have f22 := sp_22 (d := d + 1) (v := -1) kl vl.1 l2 hq
  have sp : ∀ d', cal d' 134 [.int (S (900 + l))] (m : am_M) = some (some (.int (nI (spanS S l))), m) := fun d' => sp_134
  have f28 := fun m' (kl : LoK m' (a + 2)) => sp_28 (d := d + 1) (m := m') (s := w) (i := -1) (p := -1) kl (show l < 400 by omega)
  have f28 := f28 (sA (sA m (a + 26 + 2 * i + 1) (fillS (mI m (a + 26 + 2 * i + 1)) q (spanS S l) (-1))) (a + 26 + 2 * i) (up1 (mI m (a + 26 + 2 * i)) 5 (mI m (a + 26 + 2 * i) 5 - nI 1))) ko
  have hin := inS_take (w := w) (j := i) hN hl hi hi (show q + spanS S l ≤ 40 by omega) s1 s2 hw1
  rw [if_pos rfl] at hin
  refine ⟨lpM (sA (sA m (a + 26 + 2 * i + 1) (fillS (mI m (a + 26 + 2 * i + 1)) q (spanS S l) (-1))) (a + 26 + 2 * i) (up1 (mI m (a + 26 + 2 * i)) 5 (mI m (a + 26 + 2 * i) 5 - nI 1))) (a + 2) l w (-1) (-1), ?_, ?_, ?_, ?_⟩
  · simp (disch := first | (simp (disch := omega) only [am_k_some, va_rf_some, va_rf_none, tl_some, tl_none, am_clr_int, am_clr_ref, am_clr_none, am_clr_long, am_w_nil, am_w_int, am_w_ref, am_w_long, am_w_null, am_bb_0, am_bb_1, am_bb_bI, xK_sI, xR_sI, xS_sI, xN_sI, xK_sL, xR_sL, xS_sL, xN_sL, xK_sR, xR_sR, xS_sR, xN_sR, xK_sA, xR_sA, xS_sA, xN_sA, Nat.reduceAdd, Nat.reduceLeDiff, sI_sA, I_sA', sA_sA, I_sA, I_sA', nI_add, mul_nI, bI_0, bI_1, k.k, k.r0, k.k0, k.rl, k.r1, k.lo.k, k.lo.r0, k.lo.k0, k.lo.r7, k.lo.k7, k.lo.r8, k.lo.k8, kl.k, kl.r0, kl.k0, LaK_sA, LoK_sA, ix_nI, cl_nI]; done) | omega | assumption) only [c74, e74_0, e74_1, e74_4, e74_5, e74_8, e74_11, e74_12, e74_13, e74_16, e74_17, e74_20, e74_23, e74_24, e74_25, e74_26, e74_27, e74_28, e74_29, e74_32, e74_35, e74_36, e74_37, e74_38, e74_41, e74_44, e74_45, e74_46, e74_49, e74_50, e74_53, e74_54, e74_54r, e74_55, e74_58, e74_59, e74_60, e74_63, e74_64, e74_67, e74_68, e74_69, e74_70, e74_71, e74_74, am_k_some, va_rf_some, va_rf_none, tl_some, tl_none, am_clr_int, am_clr_ref, am_clr_none, am_clr_long, am_w_nil, am_w_int, am_w_ref, am_w_long, am_w_null, am_bb_0, am_bb_1, am_bb_bI, xK_sI, xR_sI, xS_sI, xN_sI, xK_sL, xR_sL, xS_sL, xN_sL, xK_sR, xR_sR, xS_sR, xN_sR, xK_sA, xR_sA, xS_sA, xN_sA, Nat.reduceAdd, Nat.reduceLeDiff, sI_sA, I_sA', sA_sA, I_sA, I_sA', nI_add, mul_nI, bI_0, bI_1, k.k, k.r0, k.k0, k.rl, k.r1, k.lo.k, k.lo.r0, k.lo.k0, k.lo.r7, k.lo.k7, k.lo.r8, k.lo.k8, kl.k, kl.r0, kl.k0, ix_nI, cl_nI, lt_nI, eq_nI, sub_nI, Nat.reduceEqDiff, Nat.one_ne_zero, Nat.not_lt_zero, ↓reduceIte, k1, k2, k3, k4, k5, k6, k7, k8, k9, n10, n01, if_true, if_false, decide_true, decide_false, Bool.true_eq_false, Bool.false_eq_true, not_true_eq_false, not_false_eq_true, and_true, true_and, and_false, false_and, hb, w1, w8, w9, sp, f22, f28, bI_t]
  · exact lpM_fr (((Fr.refl a m).sA (by omega) (by omega)).sA (by omega) (by omega)) (by omega) (by omega)
  · have ag := takeS_ag (S := S) (l := l) (i := i) (q := q) (w := w) (by omega) hi (by omega)
    refine ShV.ch v hL hA h5 h6 ag hi ?_ rfl ?_ ?_ ?_
    · intro x x1 x2 x3 x4 x5
      rw [lpM_off (by omega), I_sA' _ _ (by omega), I_sA' _ _ (by omega)]
    · refine LoV.put (v.lo.mem fun j hj => ?_) ag hN hl (takeS_1 (by omega)) (takeS_2 (by omega)) takeS_3 (fun j hj hjl => ⟨takeS_off (by omega) (by omega) (by omega) (by omega), takeS_off (by omega) (by omega) (by omega) (by omega), takeS_off (by omega) (by omega) (by omega) (by omega)⟩)
      rw [I_sA' _ _ (by omega), I_sA' _ _ (by omega)]
    · refine vl.ch ag hi (F := fillS (mI m (a + 26 + 2 * i + 1)) q (spanS S l) (-1)) (G := up1 (mI m (a + 26 + 2 * i)) 5 (mI m (a + 26 + 2 * i) 5 - nI 1)) ?_ ?_ (up1_ne (by omega)) (up1_ne (by omega)) (up1_ne (by omega)) (up1_ne (by omega)) ?_ ?_ ?_
      · rw [lpM_off (by omega), I_sA' _ _ (by omega), I_sA]
      · rw [lpM_off (by omega), I_sA]
      · intro p hp
        by_cases hr : q ≤ p ∧ p < q + spanS S l
        · rw [fillS_in hr, takeS_in (by omega) (by omega)]
        · rw [fillS_out (by omega), takeS_off (by omega) (by omega) (by omega) (by omega)]
          exact vl.2.2.1 p hp
      · rw [up1_eq, vl.2.2.2.1, ← hin, sub_nI (by omega), Nat.add_sub_cancel]
      · rw [up1_ne (by omega), chN_take (by omega) hi hi hL (by omega) s7]
        exact vl.2.2.2.2
    · intro j hj hji
      refine ⟨fun p hp => takeS_off (by omega) (by omega) (by omega) (by omega), ?_, chN_take (by omega) hi hj hL (by omega) s7⟩
      have := inS_take (w := w) (j := j) hN hl hi hj (show q + spanS S l ≤ 40 by omega) s1 s2 hw1
      rw [if_neg hji, Nat.add_zero] at this
      exact this
  · rw [lpM_off (by omega), I_sA' _ _ (by omega), I_sA' _ _ (by omega)]
theorem sp_74 {d a l i q : Nat} {w : Int32} {m : am_M} {S : Nat → Int32} {L : Int64} (k : ShK m a) (v : ShV m a S L) (hL : LnOk S) (hN : NmOk S) (hA : AkOk S) (h5 : MvOk S 6505) (h6 : MvOk S 6506) (hl : l < nm S) (hs : StA S l i q) (hw : w = nI 0 ∨ w = nI 2) :
    ∃ m', cal (d + 2) 74 [.ref a, .int (nI l), .int w] m = some (none, m') ∧ Fr a m m' ∧ ShV m' a (takeS S l w i q) L := by
  obtain ⟨m', a1, a2, a3, -⟩ := sp_74g (d := d) k v hL hN hA h5 h6 hl hs hw
  exact ⟨m', a1, a2, a3⟩
/-- it isn't aboard: nothing is done -/
theorem sp_74n {d a l : Nat} {w : Int32} {m : am_M} {S : Nat → Int32} {L : Int64} (k : ShK m a) (v : ShV m a S L) (hN : NmOk S) (hl : l < nm S) (h0 : ¬ S (3300 + l) = nI 1) : cal (d + 2) 74 [.ref a, .int (nI l), .int w] m = some (none, m) := by
  have n2 := hN.2
  have ko := k.lo
  obtain ⟨w1, w2, w3, w4, w5, w6, w7, w8, w9⟩ := v.lo.2 l hl
  have hb := sp_30v (d := d) ko (by rw [v.lo.1]; exact hN.1) n2 hl
  rw [w7, decide_eq_false h0] at hb
  have kl := k.la 0 (by omega)
  simp (disch := first | (simp (disch := omega) only [am_k_some, va_rf_some, va_rf_none, tl_some, tl_none, am_clr_int, am_clr_ref, am_clr_none, am_clr_long, am_w_nil, am_w_int, am_w_ref, am_w_long, am_w_null, am_bb_0, am_bb_1, am_bb_bI, xK_sI, xR_sI, xS_sI, xN_sI, xK_sL, xR_sL, xS_sL, xN_sL, xK_sR, xR_sR, xS_sR, xN_sR, xK_sA, xR_sA, xS_sA, xN_sA, Nat.reduceAdd, Nat.reduceLeDiff, sI_sA, I_sA', sA_sA, I_sA, I_sA', nI_add, mul_nI, bI_0, bI_1, k.k, k.r0, k.k0, k.rl, k.r1, k.lo.k, k.lo.r0, k.lo.k0, k.lo.r7, k.lo.k7, k.lo.r8, k.lo.k8, kl.k, kl.r0, kl.k0, LaK_sA, LoK_sA, ix_nI, cl_nI]; done) | omega | assumption) only [c74, e74_0, e74_1, e74_4, e74_5, e74_8, e74_11, e74_12, e74_13, e74_16, e74_17, e74_20, e74_23, e74_24, e74_25, e74_26, e74_27, e74_28, e74_29, e74_32, e74_35, e74_36, e74_37, e74_38, e74_41, e74_44, e74_45, e74_46, e74_49, e74_50, e74_53, e74_54, e74_54r, e74_55, e74_58, e74_59, e74_60, e74_63, e74_64, e74_67, e74_68, e74_69, e74_70, e74_71, e74_74, am_k_some, va_rf_some, va_rf_none, tl_some, tl_none, am_clr_int, am_clr_ref, am_clr_none, am_clr_long, am_w_nil, am_w_int, am_w_ref, am_w_long, am_w_null, am_bb_0, am_bb_1, am_bb_bI, xK_sI, xR_sI, xS_sI, xN_sI, xK_sL, xR_sL, xS_sL, xN_sL, xK_sR, xR_sR, xS_sR, xN_sR, xK_sA, xR_sA, xS_sA, xN_sA, Nat.reduceAdd, Nat.reduceLeDiff, sI_sA, I_sA', sA_sA, I_sA, I_sA', nI_add, mul_nI, bI_0, bI_1, k.k, k.r0, k.k0, k.rl, k.r1, k.lo.k, k.lo.r0, k.lo.k0, k.lo.r7, k.lo.k7, k.lo.r8, k.lo.k8, kl.k, kl.r0, kl.k0, ix_nI, cl_nI, lt_nI, eq_nI, sub_nI, Nat.reduceEqDiff, Nat.one_ne_zero, Nat.not_lt_zero, ↓reduceIte, k1, k2, k3, k4, k5, k6, k7, k8, k9, n10, n01, if_true, if_false, decide_true, decide_false, Bool.true_eq_false, Bool.false_eq_true, not_true_eq_false, not_false_eq_true, and_true, true_and, and_false, false_and, hb, bI_f]
