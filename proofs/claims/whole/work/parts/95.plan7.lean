/-! THE PLANNER, 7: the model: choice, tryAll -/
theorem div6 : ∀ c, c < 18 → nI c / nI 6 = nI (c / 6) := by decide
theorem rem6 {c : Nat} (h : c < 18) : nI c - nI c / nI 6 * nI 6 = nI (c % 6) := by
  rw [div6 c h, mul_nI, sub_nI (by omega)]
  congr 1
  omega
theorem six_ne : ¬ nI 6 = 0 := by decide
def llP : List (Nat × Nat) → Nat
  | [] => 0
  | c :: _ => c.2
section TA
variable {S : Nat → Int32} {n dl : Nat} {th dk : Nat → Nat} {P : List (Nat × Nat)} {b : Bst}
theorem sp_212l {d M : Nat} {m : am_M} {x1 x2 : Option Value} {x3 : Int32} (H : PlH S n dl th dk) (V : Vd S n dl th dk P) (A : MP m M S n dl th dk P b) : ∀ r c (x5 x6 x7 : Option Value), c + r = 6 * dl →
    ev (d + 4) 212 35 [some (.ref M), x1, x2, some (.int x3), some (.int (nI c)), x5, x6, x7] [] m = match fstR (okB S n th dk P) r c with
      | some c' => some (some (.int (nI c')), sA (sA m (M + 1) (qS S th dk ((c' % 6, c' / 6) :: P))) (M + 13) (up1 (mI m (M + 13)) (c' % 6) (nI 1)))
      | none => some (some (.int (-1)), m) := by
  have h := A.mo
  have K := V.pk H
  have w := K.wb H
  have n6 := H.n6
  have d3 := H.d3
  have tm := A.tm
  have dm := A.dm
  intro r
  induction r with
  | zero =>
    intro c x5 x6 x7 hc
    have hc' : c = 6 * dl := by omega
    subst hc'
    have hnl : ¬ 6 * dl < 6 * dl := by omega
    rw [e212_35]
    simp (disch := first | (simp (disch := omega) only [am_k_some, va_rf_some, va_rf_none, tl_some, tl_none, am_clr_int, am_clr_ref, am_clr_none, am_clr_long, am_w_nil, am_w_int, am_w_ref, am_w_long, am_w_null, am_bb_0, am_bb_1, am_bb_bI, xK_sI, xR_sI, xS_sI, xN_sI, xK_sL, xR_sL, xS_sL, xN_sL, xK_sR, xR_sR, xS_sR, xN_sR, xK_sA, xR_sA, xS_sA, xN_sA, Nat.reduceAdd, Nat.reduceLeDiff, sI_sA, I_sA', sA_sA, I_sA, I_sA', nI_add, mul_nI, bI_0, bI_1, h.k, h.r0, h.k0, h.r1, h.k1, h.r2, h.k2, h.r3, h.k3, h.r4, h.k4, h.r5, h.k5, h.r6, h.k6, h.r8, h.k8, h.r9, h.k9, h.r15, h.k15, h.r17, h.k17, h.r19, h.k19, h.r20, h.k20, h.r21, h.k21, h.r22, h.k22, h, Mo_sA, Mo_sL, ix_nI, cl_nI]; done) | omega | exact six_ne | (simp only [I_sA]; assumption)) only [e212_0, e212_1, e212_4, e212_6, e212_7, e212_10, e212_11, e212_12, e212_13, e212_14, e212_17, e212_18, e212_21, e212_22, e212_23, e212_24, e212_25, e212_28, e212_29, e212_32, e212_33, e212_37, e212_39, e212_40, e212_43, e212_44, e212_47, e212_49, e212_52, e212_54, e212_55, e212_58, e212_60, e212_63, e212_64, e212_66, e212_68, e212_69, e212_72, e212_75, e212_76, e212_79, e212_81, e212_82, e212_85, e212_86, e212_87, e212_90, e212_92, e212_93, e212_95, e212_96, e212_98, e212_99, e212_102, e212_105, e212_106, e212_109, e212_110, e212_113, e212_115, e212_117, e212_120, e212_121, e212_122, e212_125, e212_127, e212_128, e212_130, e212_132, e212_135, e212_136, e212_139, e212_141, e212_142, e212_143, e212_145, e212_146, e212_149, e212_152, e212_153, am_k_some, va_rf_some, va_rf_none, tl_some, tl_none, am_clr_int, am_clr_ref, am_clr_none, am_clr_long, am_w_nil, am_w_int, am_w_ref, am_w_long, am_w_null, am_bb_0, am_bb_1, am_bb_bI, xK_sI, xR_sI, xS_sI, xN_sI, xK_sL, xR_sL, xS_sL, xN_sL, xK_sR, xR_sR, xS_sR, xN_sR, xK_sA, xR_sA, xS_sA, xN_sA, Nat.reduceAdd, Nat.reduceLeDiff, sI_sA, I_sA', sA_sA, I_sA, I_sA', nI_add, mul_nI, bI_0, bI_1, h.k, h.r0, h.k0, h.r1, h.k1, h.r2, h.k2, h.r3, h.k3, h.r4, h.k4, h.r5, h.k5, h.r6, h.k6, h.r8, h.k8, h.r9, h.k9, h.r15, h.k15, h.r17, h.k17, h.r19, h.k19, h.r20, h.k20, h.r21, h.k21, h.r22, h.k22, ix_nI, cl_nI, lt_nI, eq_nI, sub_nI, Nat.reduceEqDiff, Nat.one_ne_zero, Nat.not_lt_zero, ↓reduceIte, k1, k2, k3, k4, k5, k6, k7, k8, k9, n10, n01, if_true, if_false, decide_true, decide_false, Bool.true_eq_false, Bool.false_eq_true, not_true_eq_false, not_false_eq_true, and_true, true_and, and_false, false_and, dm, hnl, fstR]
  | succ r ih =>
    intro c x5 x6 x7 hc
    have hnl : c < 6 * dl := by omega
    have c18 : c < 18 := by omega
    have r6 : c - c / 6 * 6 = c % 6 := by omega
    have v6 := div6 c c18
    have hj : c / 6 < dl := by omega
    have dj := A.ds (c / 6) hj
    obtain ⟨dj1, dj2⟩ := H.dk _ hj
    show _ = match (if okB S n th dk P c = true then some c else fstR (okB S n th dk P) r (c + 1)) with
      | some c' => some (some (Value.int (nI c')), sA (sA m (M + 1) (qS S th dk ((c' % 6, c' / 6) :: P))) (M + 13) (up1 (mI m (M + 13)) (c' % 6) (nI 1)))
      | none => some (some (Value.int (-1)), m)
    have e16 := @e212_16
    have e51 := fun {d ls st m x} => @e212_51 d ls st m x (nI 6) six_ne
    have e62 := fun {d ls st m x} => @e212_62 d ls st m x (nI 6) six_ne
    by_cases k1 : c % 6 < n
    · have us := A.us (c % 6) (by omega)
      have ts := A.ts (c % 6) k1
      have t4 := H.t4 k1
      have tn := (H.th _ k1).1
      by_cases k2 : usB P (c % 6) = true
      · rw [k2, bI_t] at us
        have ok : okB S n th dk P c = false := by unfold okB; rw [k2]; simp
        rw [ok, if_neg (by decide), ← ih (c + 1) (some (.int (nI (c % 6)))) (some (.int (nI (dk (c / 6))))) x7 (by omega), e212_35]
        simp (disch := first | (simp (disch := omega) only [am_k_some, va_rf_some, va_rf_none, tl_some, tl_none, am_clr_int, am_clr_ref, am_clr_none, am_clr_long, am_w_nil, am_w_int, am_w_ref, am_w_long, am_w_null, am_bb_0, am_bb_1, am_bb_bI, xK_sI, xR_sI, xS_sI, xN_sI, xK_sL, xR_sL, xS_sL, xN_sL, xK_sR, xR_sR, xS_sR, xN_sR, xK_sA, xR_sA, xS_sA, xN_sA, Nat.reduceAdd, Nat.reduceLeDiff, sI_sA, I_sA', sA_sA, I_sA, I_sA', nI_add, mul_nI, bI_0, bI_1, h.k, h.r0, h.k0, h.r1, h.k1, h.r2, h.k2, h.r3, h.k3, h.r4, h.k4, h.r5, h.k5, h.r6, h.k6, h.r8, h.k8, h.r9, h.k9, h.r15, h.k15, h.r17, h.k17, h.r19, h.k19, h.r20, h.k20, h.r21, h.k21, h.r22, h.k22, h, Mo_sA, Mo_sL, ix_nI, cl_nI]; done) | omega | exact six_ne | (simp only [I_sA]; assumption)) only [e212_0, e212_1, e212_4, e212_6, e212_7, e212_10, e212_11, e212_12, e212_13, e212_14, e212_17, e212_18, e212_21, e212_22, e212_23, e212_24, e212_25, e212_28, e212_29, e212_32, e212_33, e212_37, e212_39, e212_40, e212_43, e212_44, e212_47, e212_49, e212_52, e212_54, e212_55, e212_58, e212_60, e212_63, e212_64, e212_66, e212_68, e212_69, e212_72, e212_75, e212_76, e212_79, e212_81, e212_82, e212_85, e212_86, e212_87, e212_90, e212_92, e212_93, e212_95, e212_96, e212_98, e212_99, e212_102, e212_105, e212_106, e212_109, e212_110, e212_113, e212_115, e212_117, e212_120, e212_121, e212_122, e212_125, e212_127, e212_128, e212_130, e212_132, e212_135, e212_136, e212_139, e212_141, e212_142, e212_143, e212_145, e212_146, e212_149, e212_152, e212_153, am_k_some, va_rf_some, va_rf_none, tl_some, tl_none, am_clr_int, am_clr_ref, am_clr_none, am_clr_long, am_w_nil, am_w_int, am_w_ref, am_w_long, am_w_null, am_bb_0, am_bb_1, am_bb_bI, xK_sI, xR_sI, xS_sI, xN_sI, xK_sL, xR_sL, xS_sL, xN_sL, xK_sR, xR_sR, xS_sR, xN_sR, xK_sA, xR_sA, xS_sA, xN_sA, Nat.reduceAdd, Nat.reduceLeDiff, sI_sA, I_sA', sA_sA, I_sA, I_sA', nI_add, mul_nI, bI_0, bI_1, h.k, h.r0, h.k0, h.r1, h.k1, h.r2, h.k2, h.r3, h.k3, h.r4, h.k4, h.r5, h.k5, h.r6, h.k6, h.r8, h.k8, h.r9, h.k9, h.r15, h.k15, h.r17, h.k17, h.r19, h.k19, h.r20, h.k20, h.r21, h.k21, h.r22, h.k22, ix_nI, cl_nI, lt_nI, eq_nI, sub_nI, Nat.reduceEqDiff, Nat.one_ne_zero, Nat.not_lt_zero, ↓reduceIte, k1, k2, k3, k4, k5, k6, k7, k8, k9, n10, n01, if_true, if_false, decide_true, decide_false, Bool.true_eq_false, Bool.false_eq_true, not_true_eq_false, not_false_eq_true, and_true, true_and, and_false, false_and, e51, e62, dm, tm, hnl, r6, v6, dj, k1, us]
      · have k2' : usB P (c % 6) = false := by revert k2; cases usB P (c % 6) <;> simp
        rw [k2', bI_f] at us
        have op := sp_142 (d := d + 3) (e := nI 0) h dj1
        have oe : opS (mI m (M + 1)) (dk (c / 6)) (nI 0) = opS S (dk (c / 6)) (nI 0) := by
          rw [A.a]; unfold opS; rw [K.ag _ (by omega) (by omega)]
        rw [oe] at op
        have cd := sp_182 (d := d) (e := enS S (dk (c / 6))) h (by rw [A.a]; exact w.ln) (by rw [A.a]; exact w.nm) (by rw [A.a]; exact w.w.ok w.ln) (show th (c % 6) < nm (mI m (M + 1)) by rw [A.a, K.nmE]; exact tn) dj1 (en_ok _ _)
        rw [A.a] at cd
        have X : ev (d + 4) 212 35 [some (.ref M), x1, x2, some (.int x3), some (.int (nI c)), x5, x6, x7] [] m = ev (d + 4) 212 115 [some (.ref M), x1, x2, some (.int x3), some (.int (nI c)), some (.int (nI (c % 6))), some (.int (nI (dk (c / 6)))), some (.int (cdA (qS S th dk P) (th (c % 6)) (dk (c / 6)) (enS S (dk (c / 6)))))] [] m := by
          rw [e212_35]
          cases ho : opS S (dk (c / 6)) (nI 0) with
          | true =>
            have en : enS S (dk (c / 6)) = nI 0 := by unfold enS; rw [if_pos ho]
            rw [ho, bI_t] at op
            rw [en] at cd ⊢
            simp (disch := first | (simp (disch := omega) only [am_k_some, va_rf_some, va_rf_none, tl_some, tl_none, am_clr_int, am_clr_ref, am_clr_none, am_clr_long, am_w_nil, am_w_int, am_w_ref, am_w_long, am_w_null, am_bb_0, am_bb_1, am_bb_bI, xK_sI, xR_sI, xS_sI, xN_sI, xK_sL, xR_sL, xS_sL, xN_sL, xK_sR, xR_sR, xS_sR, xN_sR, xK_sA, xR_sA, xS_sA, xN_sA, Nat.reduceAdd, Nat.reduceLeDiff, sI_sA, I_sA', sA_sA, I_sA, I_sA', nI_add, mul_nI, bI_0, bI_1, h.k, h.r0, h.k0, h.r1, h.k1, h.r2, h.k2, h.r3, h.k3, h.r4, h.k4, h.r5, h.k5, h.r6, h.k6, h.r8, h.k8, h.r9, h.k9, h.r15, h.k15, h.r17, h.k17, h.r19, h.k19, h.r20, h.k20, h.r21, h.k21, h.r22, h.k22, h, Mo_sA, Mo_sL, ix_nI, cl_nI]; done) | omega | exact six_ne | (simp only [I_sA]; assumption)) only [e212_0, e212_1, e212_4, e212_6, e212_7, e212_10, e212_11, e212_12, e212_13, e212_14, e212_17, e212_18, e212_21, e212_22, e212_23, e212_24, e212_25, e212_28, e212_29, e212_32, e212_33, e212_37, e212_39, e212_40, e212_43, e212_44, e212_47, e212_49, e212_52, e212_54, e212_55, e212_58, e212_60, e212_63, e212_64, e212_66, e212_68, e212_69, e212_72, e212_75, e212_76, e212_79, e212_81, e212_82, e212_85, e212_86, e212_87, e212_90, e212_92, e212_93, e212_95, e212_96, e212_98, e212_99, e212_102, e212_105, e212_106, e212_109, e212_110, e212_113, e212_117, e212_120, e212_121, e212_122, e212_125, e212_127, e212_128, e212_130, e212_132, e212_135, e212_136, e212_139, e212_141, e212_142, e212_143, e212_145, e212_146, e212_149, e212_152, e212_153, am_k_some, va_rf_some, va_rf_none, tl_some, tl_none, am_clr_int, am_clr_ref, am_clr_none, am_clr_long, am_w_nil, am_w_int, am_w_ref, am_w_long, am_w_null, am_bb_0, am_bb_1, am_bb_bI, xK_sI, xR_sI, xS_sI, xN_sI, xK_sL, xR_sL, xS_sL, xN_sL, xK_sR, xR_sR, xS_sR, xN_sR, xK_sA, xR_sA, xS_sA, xN_sA, Nat.reduceAdd, Nat.reduceLeDiff, sI_sA, I_sA', sA_sA, I_sA, I_sA', nI_add, mul_nI, bI_0, bI_1, h.k, h.r0, h.k0, h.r1, h.k1, h.r2, h.k2, h.r3, h.k3, h.r4, h.k4, h.r5, h.k5, h.r6, h.k6, h.r8, h.k8, h.r9, h.k9, h.r15, h.k15, h.r17, h.k17, h.r19, h.k19, h.r20, h.k20, h.r21, h.k21, h.r22, h.k22, ix_nI, cl_nI, lt_nI, eq_nI, sub_nI, Nat.reduceEqDiff, Nat.one_ne_zero, Nat.not_lt_zero, ↓reduceIte, k1, k2, k3, k4, k5, k6, k7, k8, k9, n10, n01, if_true, if_false, decide_true, decide_false, Bool.true_eq_false, Bool.false_eq_true, not_true_eq_false, not_false_eq_true, and_true, true_and, and_false, false_and, e51, e62, dm, tm, hnl, r6, v6, dj, k1, us, ts, op, cd]
          | false =>
            have en : enS S (dk (c / 6)) = nI 1 := by unfold enS; rw [if_neg (by rw [ho]; decide)]
            rw [ho, bI_f] at op
            rw [en] at cd ⊢
            simp (disch := first | (simp (disch := omega) only [am_k_some, va_rf_some, va_rf_none, tl_some, tl_none, am_clr_int, am_clr_ref, am_clr_none, am_clr_long, am_w_nil, am_w_int, am_w_ref, am_w_long, am_w_null, am_bb_0, am_bb_1, am_bb_bI, xK_sI, xR_sI, xS_sI, xN_sI, xK_sL, xR_sL, xS_sL, xN_sL, xK_sR, xR_sR, xS_sR, xN_sR, xK_sA, xR_sA, xS_sA, xN_sA, Nat.reduceAdd, Nat.reduceLeDiff, sI_sA, I_sA', sA_sA, I_sA, I_sA', nI_add, mul_nI, bI_0, bI_1, h.k, h.r0, h.k0, h.r1, h.k1, h.r2, h.k2, h.r3, h.k3, h.r4, h.k4, h.r5, h.k5, h.r6, h.k6, h.r8, h.k8, h.r9, h.k9, h.r15, h.k15, h.r17, h.k17, h.r19, h.k19, h.r20, h.k20, h.r21, h.k21, h.r22, h.k22, h, Mo_sA, Mo_sL, ix_nI, cl_nI]; done) | omega | exact six_ne | (simp only [I_sA]; assumption)) only [e212_0, e212_1, e212_4, e212_6, e212_7, e212_10, e212_11, e212_12, e212_13, e212_14, e212_17, e212_18, e212_21, e212_22, e212_23, e212_24, e212_25, e212_28, e212_29, e212_32, e212_33, e212_37, e212_39, e212_40, e212_43, e212_44, e212_47, e212_49, e212_52, e212_54, e212_55, e212_58, e212_60, e212_63, e212_64, e212_66, e212_68, e212_69, e212_72, e212_75, e212_76, e212_79, e212_81, e212_82, e212_85, e212_86, e212_87, e212_90, e212_92, e212_93, e212_95, e212_96, e212_98, e212_99, e212_102, e212_105, e212_106, e212_109, e212_110, e212_113, e212_117, e212_120, e212_121, e212_122, e212_125, e212_127, e212_128, e212_130, e212_132, e212_135, e212_136, e212_139, e212_141, e212_142, e212_143, e212_145, e212_146, e212_149, e212_152, e212_153, am_k_some, va_rf_some, va_rf_none, tl_some, tl_none, am_clr_int, am_clr_ref, am_clr_none, am_clr_long, am_w_nil, am_w_int, am_w_ref, am_w_long, am_w_null, am_bb_0, am_bb_1, am_bb_bI, xK_sI, xR_sI, xS_sI, xN_sI, xK_sL, xR_sL, xS_sL, xN_sL, xK_sR, xR_sR, xS_sR, xN_sR, xK_sA, xR_sA, xS_sA, xN_sA, Nat.reduceAdd, Nat.reduceLeDiff, sI_sA, I_sA', sA_sA, I_sA, I_sA', nI_add, mul_nI, bI_0, bI_1, h.k, h.r0, h.k0, h.r1, h.k1, h.r2, h.k2, h.r3, h.k3, h.r4, h.k4, h.r5, h.k5, h.r6, h.k6, h.r8, h.k8, h.r9, h.k9, h.r15, h.k15, h.r17, h.k17, h.r19, h.k19, h.r20, h.k20, h.r21, h.k21, h.r22, h.k22, ix_nI, cl_nI, lt_nI, eq_nI, sub_nI, Nat.reduceEqDiff, Nat.one_ne_zero, Nat.not_lt_zero, ↓reduceIte, k1, k2, k3, k4, k5, k6, k7, k8, k9, n10, n01, if_true, if_false, decide_true, decide_false, Bool.true_eq_false, Bool.false_eq_true, not_true_eq_false, not_false_eq_true, and_true, true_and, and_false, false_and, e51, e62, dm, tm, hnl, r6, v6, dj, k1, us, ts, op, cd]
        rw [X]
        by_cases k3 : cdA (qS S th dk P) (th (c % 6)) (dk (c / 6)) (enS S (dk (c / 6))) < nI 0
        · have ok : okB S n th dk P c = false := by unfold okB; rw [decide_eq_true k3]; simp
          rw [ok, if_neg (by decide), ← ih (c + 1) (some (.int (nI (c % 6)))) (some (.int (nI (dk (c / 6))))) (some (.int (cdA (qS S th dk P) (th (c % 6)) (dk (c / 6)) (enS S (dk (c / 6)))))) (by omega)]
          simp (disch := first | (simp (disch := omega) only [am_k_some, va_rf_some, va_rf_none, tl_some, tl_none, am_clr_int, am_clr_ref, am_clr_none, am_clr_long, am_w_nil, am_w_int, am_w_ref, am_w_long, am_w_null, am_bb_0, am_bb_1, am_bb_bI, xK_sI, xR_sI, xS_sI, xN_sI, xK_sL, xR_sL, xS_sL, xN_sL, xK_sR, xR_sR, xS_sR, xN_sR, xK_sA, xR_sA, xS_sA, xN_sA, Nat.reduceAdd, Nat.reduceLeDiff, sI_sA, I_sA', sA_sA, I_sA, I_sA', nI_add, mul_nI, bI_0, bI_1, h.k, h.r0, h.k0, h.r1, h.k1, h.r2, h.k2, h.r3, h.k3, h.r4, h.k4, h.r5, h.k5, h.r6, h.k6, h.r8, h.k8, h.r9, h.k9, h.r15, h.k15, h.r17, h.k17, h.r19, h.k19, h.r20, h.k20, h.r21, h.k21, h.r22, h.k22, h, Mo_sA, Mo_sL, ix_nI, cl_nI]; done) | omega | exact six_ne | (simp only [I_sA]; assumption)) only [e212_0, e212_1, e212_4, e212_6, e212_7, e212_10, e212_11, e212_12, e212_13, e212_14, e212_17, e212_18, e212_21, e212_22, e212_23, e212_24, e212_25, e212_28, e212_29, e212_32, e212_33, e212_37, e212_39, e212_40, e212_43, e212_44, e212_47, e212_49, e212_52, e212_54, e212_55, e212_58, e212_60, e212_63, e212_64, e212_66, e212_68, e212_69, e212_72, e212_75, e212_76, e212_79, e212_81, e212_82, e212_85, e212_86, e212_87, e212_90, e212_92, e212_93, e212_95, e212_96, e212_98, e212_99, e212_102, e212_105, e212_106, e212_109, e212_110, e212_113, e212_115, e212_117, e212_120, e212_121, e212_122, e212_125, e212_127, e212_128, e212_130, e212_132, e212_135, e212_136, e212_139, e212_141, e212_142, e212_143, e212_145, e212_146, e212_149, e212_152, e212_153, am_k_some, va_rf_some, va_rf_none, tl_some, tl_none, am_clr_int, am_clr_ref, am_clr_none, am_clr_long, am_w_nil, am_w_int, am_w_ref, am_w_long, am_w_null, am_bb_0, am_bb_1, am_bb_bI, xK_sI, xR_sI, xS_sI, xN_sI, xK_sL, xR_sL, xS_sL, xN_sL, xK_sR, xR_sR, xS_sR, xN_sR, xK_sA, xR_sA, xS_sA, xN_sA, Nat.reduceAdd, Nat.reduceLeDiff, sI_sA, I_sA', sA_sA, I_sA, I_sA', nI_add, mul_nI, bI_0, bI_1, h.k, h.r0, h.k0, h.r1, h.k1, h.r2, h.k2, h.r3, h.k3, h.r4, h.k4, h.r5, h.k5, h.r6, h.k6, h.r8, h.k8, h.r9, h.k9, h.r15, h.k15, h.r17, h.k17, h.r19, h.k19, h.r20, h.k20, h.r21, h.k21, h.r22, h.k22, ix_nI, cl_nI, lt_nI, eq_nI, sub_nI, Nat.reduceEqDiff, Nat.one_ne_zero, Nat.not_lt_zero, ↓reduceIte, k1, k2, k3, k4, k5, k6, k7, k8, k9, n10, n01, if_true, if_false, decide_true, decide_false, Bool.true_eq_false, Bool.false_eq_true, not_true_eq_false, not_false_eq_true, and_true, true_and, and_false, false_and, k3]
        · have ok : okB S n th dk P c = true := ok_iff.2 ⟨k1, k2', k3⟩
          rw [ok, if_pos rfl]
          obtain ⟨p1, p2, -⟩ := cd_in w.ln dj1 k3
          have l4 := H.l40 hj
          rw [K.lnE H hj] at p2
          rw [p1]
          have pt := sp_156 (d := d + 1) (q := plS (qS S th dk P) (th (c % 6)) (dk (c / 6)) (enS S (dk (c / 6)))) h t4 dj1 (by rw [A.a]; omega)
          rw [A.a] at pt
          have z : ¬ plS (qS S th dk P) (th (c % 6)) (dk (c / 6)) (enS S (dk (c / 6))) < 0 := by omega
          show _ = some (some (Value.int (nI c)), sA (sA m (M + 1) (putS (qS S th dk P) (th (c % 6)) (dk (c / 6)) (plS (qS S th dk P) (th (c % 6)) (dk (c / 6)) (enS S (dk (c / 6)))))) (M + 13) (up1 (mI m (M + 13)) (c % 6) (nI 1)))
          simp (disch := first | (simp (disch := omega) only [am_k_some, va_rf_some, va_rf_none, tl_some, tl_none, am_clr_int, am_clr_ref, am_clr_none, am_clr_long, am_w_nil, am_w_int, am_w_ref, am_w_long, am_w_null, am_bb_0, am_bb_1, am_bb_bI, xK_sI, xR_sI, xS_sI, xN_sI, xK_sL, xR_sL, xS_sL, xN_sL, xK_sR, xR_sR, xS_sR, xN_sR, xK_sA, xR_sA, xS_sA, xN_sA, Nat.reduceAdd, Nat.reduceLeDiff, sI_sA, I_sA', sA_sA, I_sA, I_sA', nI_add, mul_nI, bI_0, bI_1, h.k, h.r0, h.k0, h.r1, h.k1, h.r2, h.k2, h.r3, h.k3, h.r4, h.k4, h.r5, h.k5, h.r6, h.k6, h.r8, h.k8, h.r9, h.k9, h.r15, h.k15, h.r17, h.k17, h.r19, h.k19, h.r20, h.k20, h.r21, h.k21, h.r22, h.k22, h, Mo_sA, Mo_sL, ix_nI, cl_nI]; done) | omega | exact six_ne | (simp only [I_sA]; assumption)) only [e212_0, e212_1, e212_4, e212_6, e212_7, e212_10, e212_11, e212_12, e212_13, e212_14, e212_17, e212_18, e212_21, e212_22, e212_23, e212_24, e212_25, e212_28, e212_29, e212_32, e212_33, e212_37, e212_39, e212_40, e212_43, e212_44, e212_47, e212_49, e212_52, e212_54, e212_55, e212_58, e212_60, e212_63, e212_64, e212_66, e212_68, e212_69, e212_72, e212_75, e212_76, e212_79, e212_81, e212_82, e212_85, e212_86, e212_87, e212_90, e212_92, e212_93, e212_95, e212_96, e212_98, e212_99, e212_102, e212_105, e212_106, e212_109, e212_110, e212_113, e212_115, e212_117, e212_120, e212_121, e212_122, e212_125, e212_127, e212_128, e212_130, e212_132, e212_135, e212_136, e212_139, e212_141, e212_142, e212_143, e212_145, e212_146, e212_149, e212_152, e212_153, am_k_some, va_rf_some, va_rf_none, tl_some, tl_none, am_clr_int, am_clr_ref, am_clr_none, am_clr_long, am_w_nil, am_w_int, am_w_ref, am_w_long, am_w_null, am_bb_0, am_bb_1, am_bb_bI, xK_sI, xR_sI, xS_sI, xN_sI, xK_sL, xR_sL, xS_sL, xN_sL, xK_sR, xR_sR, xS_sR, xN_sR, xK_sA, xR_sA, xS_sA, xN_sA, Nat.reduceAdd, Nat.reduceLeDiff, sI_sA, I_sA', sA_sA, I_sA, I_sA', nI_add, mul_nI, bI_0, bI_1, h.k, h.r0, h.k0, h.r1, h.k1, h.r2, h.k2, h.r3, h.k3, h.r4, h.k4, h.r5, h.k5, h.r6, h.k6, h.r8, h.k8, h.r9, h.k9, h.r15, h.k15, h.r17, h.k17, h.r19, h.k19, h.r20, h.k20, h.r21, h.k21, h.r22, h.k22, ix_nI, cl_nI, lt_nI, eq_nI, sub_nI, Nat.reduceEqDiff, Nat.one_ne_zero, Nat.not_lt_zero, ↓reduceIte, k1, k2, k3, k4, k5, k6, k7, k8, k9, n10, n01, if_true, if_false, decide_true, decide_false, Bool.true_eq_false, Bool.false_eq_true, not_true_eq_false, not_false_eq_true, and_true, true_and, and_false, false_and, z, ts, pt]
    · have ok : okB S n th dk P c = false := by unfold okB; rw [decide_eq_false k1]; rfl
      rw [ok, if_neg (by decide), ← ih (c + 1) (some (.int (nI (c % 6)))) (some (.int (nI (dk (c / 6))))) x7 (by omega), e212_35]
      simp (disch := first | (simp (disch := omega) only [am_k_some, va_rf_some, va_rf_none, tl_some, tl_none, am_clr_int, am_clr_ref, am_clr_none, am_clr_long, am_w_nil, am_w_int, am_w_ref, am_w_long, am_w_null, am_bb_0, am_bb_1, am_bb_bI, xK_sI, xR_sI, xS_sI, xN_sI, xK_sL, xR_sL, xS_sL, xN_sL, xK_sR, xR_sR, xS_sR, xN_sR, xK_sA, xR_sA, xS_sA, xN_sA, Nat.reduceAdd, Nat.reduceLeDiff, sI_sA, I_sA', sA_sA, I_sA, I_sA', nI_add, mul_nI, bI_0, bI_1, h.k, h.r0, h.k0, h.r1, h.k1, h.r2, h.k2, h.r3, h.k3, h.r4, h.k4, h.r5, h.k5, h.r6, h.k6, h.r8, h.k8, h.r9, h.k9, h.r15, h.k15, h.r17, h.k17, h.r19, h.k19, h.r20, h.k20, h.r21, h.k21, h.r22, h.k22, h, Mo_sA, Mo_sL, ix_nI, cl_nI]; done) | omega | exact six_ne | (simp only [I_sA]; assumption)) only [e212_0, e212_1, e212_4, e212_6, e212_7, e212_10, e212_11, e212_12, e212_13, e212_14, e212_17, e212_18, e212_21, e212_22, e212_23, e212_24, e212_25, e212_28, e212_29, e212_32, e212_33, e212_37, e212_39, e212_40, e212_43, e212_44, e212_47, e212_49, e212_52, e212_54, e212_55, e212_58, e212_60, e212_63, e212_64, e212_66, e212_68, e212_69, e212_72, e212_75, e212_76, e212_79, e212_81, e212_82, e212_85, e212_86, e212_87, e212_90, e212_92, e212_93, e212_95, e212_96, e212_98, e212_99, e212_102, e212_105, e212_106, e212_109, e212_110, e212_113, e212_115, e212_117, e212_120, e212_121, e212_122, e212_125, e212_127, e212_128, e212_130, e212_132, e212_135, e212_136, e212_139, e212_141, e212_142, e212_143, e212_145, e212_146, e212_149, e212_152, e212_153, am_k_some, va_rf_some, va_rf_none, tl_some, tl_none, am_clr_int, am_clr_ref, am_clr_none, am_clr_long, am_w_nil, am_w_int, am_w_ref, am_w_long, am_w_null, am_bb_0, am_bb_1, am_bb_bI, xK_sI, xR_sI, xS_sI, xN_sI, xK_sL, xR_sL, xS_sL, xN_sL, xK_sR, xR_sR, xS_sR, xN_sR, xK_sA, xR_sA, xS_sA, xN_sA, Nat.reduceAdd, Nat.reduceLeDiff, sI_sA, I_sA', sA_sA, I_sA, I_sA', nI_add, mul_nI, bI_0, bI_1, h.k, h.r0, h.k0, h.r1, h.k1, h.r2, h.k2, h.r3, h.k3, h.r4, h.k4, h.r5, h.k5, h.r6, h.k6, h.r8, h.k8, h.r9, h.k9, h.r15, h.k15, h.r17, h.k17, h.r19, h.k19, h.r20, h.k20, h.r21, h.k21, h.r22, h.k22, ix_nI, cl_nI, lt_nI, eq_nI, sub_nI, Nat.reduceEqDiff, Nat.one_ne_zero, Nat.not_lt_zero, ↓reduceIte, k1, k2, k3, k4, k5, k6, k7, k8, k9, n10, n01, if_true, if_false, decide_true, decide_false, Bool.true_eq_false, Bool.false_eq_true, not_true_eq_false, not_false_eq_true, and_true, true_and, and_false, false_and, e51, e62, dm, tm, hnl, r6, v6, dj, k1]
theorem Vd.hd {c : Nat × Nat} (V : Vd S n dl th dk (c :: P)) : c.1 < n ∧ c.2 < dl := ⟨V.2.1, V.2.2.1⟩
theorem sp_212 {d M f : Nat} {m : am_M} (H : PlH S n dl th dk) (V : Vd S n dl th dk P) (A : MP m M S n dl th dk P b) (hf : f ≤ 6 * dl) : cal (d + 4) 212 [.ref M, .int (nI P.length), .int (nI f)] m = match fstR (okB S n th dk P) (6 * dl - max f (6 * llP P)) (max f (6 * llP P)) with
      | some c' => some (some (.int (nI c')), sA (sA m (M + 1) (qS S th dk ((c' % 6, c' / 6) :: P))) (M + 13) (up1 (mI m (M + 13)) (c' % 6) (nI 1)))
      | none => some (some (.int (-1)), m) := by
  have h := A.mo
  have n6 := H.n6
  have d3 := H.d3
  have vl := V.len
  have hll : 6 * llP P ≤ 6 * dl := by
    cases P with
    | nil => exact Nat.zero_le _
    | cons c P => have := V.hd; show 6 * c.2 ≤ _; omega
  have X : cal (d + 4) 212 [.ref M, .int (nI P.length), .int (nI f)] m = ev (d + 4) 212 23 [some (.ref M), some (.int (nI P.length)), some (.int (nI f)), some (.int (nI (6 * llP P))), none, none, none, none] [] m := by
    cases P with
    | nil =>
      have z : ¬ 0 < 0 := by omega
      simp (disch := first | (simp (disch := omega) only [am_k_some, va_rf_some, va_rf_none, tl_some, tl_none, am_clr_int, am_clr_ref, am_clr_none, am_clr_long, am_w_nil, am_w_int, am_w_ref, am_w_long, am_w_null, am_bb_0, am_bb_1, am_bb_bI, xK_sI, xR_sI, xS_sI, xN_sI, xK_sL, xR_sL, xS_sL, xN_sL, xK_sR, xR_sR, xS_sR, xN_sR, xK_sA, xR_sA, xS_sA, xN_sA, Nat.reduceAdd, Nat.reduceLeDiff, sI_sA, I_sA', sA_sA, I_sA, I_sA', nI_add, mul_nI, bI_0, bI_1, h.k, h.r0, h.k0, h.r1, h.k1, h.r2, h.k2, h.r3, h.k3, h.r4, h.k4, h.r5, h.k5, h.r6, h.k6, h.r8, h.k8, h.r9, h.k9, h.r15, h.k15, h.r17, h.k17, h.r19, h.k19, h.r20, h.k20, h.r21, h.k21, h.r22, h.k22, h, Mo_sA, Mo_sL, ix_nI, cl_nI]; done) | omega | exact six_ne | (simp only [I_sA]; assumption)) only [c212, e212_0, e212_1, e212_21, e212_22, am_k_some, va_rf_some, va_rf_none, tl_some, tl_none, am_clr_int, am_clr_ref, am_clr_none, am_clr_long, am_w_nil, am_w_int, am_w_ref, am_w_long, am_w_null, am_bb_0, am_bb_1, am_bb_bI, xK_sI, xR_sI, xS_sI, xN_sI, xK_sL, xR_sL, xS_sL, xN_sL, xK_sR, xR_sR, xS_sR, xN_sR, xK_sA, xR_sA, xS_sA, xN_sA, Nat.reduceAdd, Nat.reduceLeDiff, sI_sA, I_sA', sA_sA, I_sA, I_sA', nI_add, mul_nI, bI_0, bI_1, h.k, h.r0, h.k0, h.r1, h.k1, h.r2, h.k2, h.r3, h.k3, h.r4, h.k4, h.r5, h.k5, h.r6, h.k6, h.r8, h.k8, h.r9, h.k9, h.r15, h.k15, h.r17, h.k17, h.r19, h.k19, h.r20, h.k20, h.r21, h.k21, h.r22, h.k22, ix_nI, cl_nI, lt_nI, eq_nI, sub_nI, Nat.reduceEqDiff, Nat.one_ne_zero, Nat.not_lt_zero, ↓reduceIte, List.length_nil, llP, z, Nat.mul_zero]
    | cons c P =>
      have hd := V.hd
      have c1 : mI m (M + 12) P.length = nI (6 * c.2 + c.1) := A.ch.1
      have e16 := fun {d ls st m x} => @e212_16 d ls st m x (nI 6) six_ne
      have v6 := div6 (6 * c.2 + c.1) (by omega)
      have v7 : (6 * c.2 + c.1) / 6 = c.2 := by omega
      have z : 0 < P.length + 1 := by omega
      rw [List.length_cons] at vl
      rw [List.length_cons]
      simp (disch := first | (simp (disch := omega) only [am_k_some, va_rf_some, va_rf_none, tl_some, tl_none, am_clr_int, am_clr_ref, am_clr_none, am_clr_long, am_w_nil, am_w_int, am_w_ref, am_w_long, am_w_null, am_bb_0, am_bb_1, am_bb_bI, xK_sI, xR_sI, xS_sI, xN_sI, xK_sL, xR_sL, xS_sL, xN_sL, xK_sR, xR_sR, xS_sR, xN_sR, xK_sA, xR_sA, xS_sA, xN_sA, Nat.reduceAdd, Nat.reduceLeDiff, sI_sA, I_sA', sA_sA, I_sA, I_sA', nI_add, mul_nI, bI_0, bI_1, h.k, h.r0, h.k0, h.r1, h.k1, h.r2, h.k2, h.r3, h.k3, h.r4, h.k4, h.r5, h.k5, h.r6, h.k6, h.r8, h.k8, h.r9, h.k9, h.r15, h.k15, h.r17, h.k17, h.r19, h.k19, h.r20, h.k20, h.r21, h.k21, h.r22, h.k22, h, Mo_sA, Mo_sL, ix_nI, cl_nI]; done) | omega | exact six_ne | (simp only [I_sA]; assumption)) only [c212, e212_0, e212_1, e212_4, e212_6, e212_7, e212_10, e212_11, e212_12, e212_13, e212_14, e16, e212_17, e212_18, e212_22, am_k_some, va_rf_some, va_rf_none, tl_some, tl_none, am_clr_int, am_clr_ref, am_clr_none, am_clr_long, am_w_nil, am_w_int, am_w_ref, am_w_long, am_w_null, am_bb_0, am_bb_1, am_bb_bI, xK_sI, xR_sI, xS_sI, xN_sI, xK_sL, xR_sL, xS_sL, xN_sL, xK_sR, xR_sR, xS_sR, xN_sR, xK_sA, xR_sA, xS_sA, xN_sA, Nat.reduceAdd, Nat.reduceLeDiff, sI_sA, I_sA', sA_sA, I_sA, I_sA', nI_add, mul_nI, bI_0, bI_1, h.k, h.r0, h.k0, h.r1, h.k1, h.r2, h.k2, h.r3, h.k3, h.r4, h.k4, h.r5, h.k5, h.r6, h.k6, h.r8, h.k8, h.r9, h.k9, h.r15, h.k15, h.r17, h.k17, h.r19, h.k19, h.r20, h.k20, h.r21, h.k21, h.r22, h.k22, ix_nI, cl_nI, lt_nI, eq_nI, sub_nI, Nat.reduceEqDiff, Nat.one_ne_zero, Nat.not_lt_zero, ↓reduceIte, llP, z, Nat.add_sub_cancel, c1, v6, v7]
  rw [X]
  have lp := sp_212l (d := d) (x1 := some (.int (nI P.length))) (x2 := some (.int (nI f))) (x3 := nI (6 * llP P)) H V A (6 * dl - max f (6 * llP P)) (max f (6 * llP P)) none none none (by omega)
  rw [← lp]
  by_cases c : 6 * llP P < f
  · rw [show max f (6 * llP P) = f by omega]
    simp (disch := first | (simp (disch := omega) only [am_k_some, va_rf_some, va_rf_none, tl_some, tl_none, am_clr_int, am_clr_ref, am_clr_none, am_clr_long, am_w_nil, am_w_int, am_w_ref, am_w_long, am_w_null, am_bb_0, am_bb_1, am_bb_bI, xK_sI, xR_sI, xS_sI, xN_sI, xK_sL, xR_sL, xS_sL, xN_sL, xK_sR, xR_sR, xS_sR, xN_sR, xK_sA, xR_sA, xS_sA, xN_sA, Nat.reduceAdd, Nat.reduceLeDiff, sI_sA, I_sA', sA_sA, I_sA, I_sA', nI_add, mul_nI, bI_0, bI_1, h.k, h.r0, h.k0, h.r1, h.k1, h.r2, h.k2, h.r3, h.k3, h.r4, h.k4, h.r5, h.k5, h.r6, h.k6, h.r8, h.k8, h.r9, h.k9, h.r15, h.k15, h.r17, h.k17, h.r19, h.k19, h.r20, h.k20, h.r21, h.k21, h.r22, h.k22, h, Mo_sA, Mo_sL, ix_nI, cl_nI]; done) | omega | exact six_ne | (simp only [I_sA]; assumption)) only [e212_23, e212_24, e212_25, e212_28, e212_29, e212_33, am_k_some, va_rf_some, va_rf_none, tl_some, tl_none, am_clr_int, am_clr_ref, am_clr_none, am_clr_long, am_w_nil, am_w_int, am_w_ref, am_w_long, am_w_null, am_bb_0, am_bb_1, am_bb_bI, xK_sI, xR_sI, xS_sI, xN_sI, xK_sL, xR_sL, xS_sL, xN_sL, xK_sR, xR_sR, xS_sR, xN_sR, xK_sA, xR_sA, xS_sA, xN_sA, Nat.reduceAdd, Nat.reduceLeDiff, sI_sA, I_sA', sA_sA, I_sA, I_sA', nI_add, mul_nI, bI_0, bI_1, h.k, h.r0, h.k0, h.r1, h.k1, h.r2, h.k2, h.r3, h.k3, h.r4, h.k4, h.r5, h.k5, h.r6, h.k6, h.r8, h.k8, h.r9, h.k9, h.r15, h.k15, h.r17, h.k17, h.r19, h.k19, h.r20, h.k20, h.r21, h.k21, h.r22, h.k22, ix_nI, cl_nI, lt_nI, eq_nI, sub_nI, Nat.reduceEqDiff, Nat.one_ne_zero, Nat.not_lt_zero, ↓reduceIte, c]
  · rw [show max f (6 * llP P) = 6 * llP P by omega]
    simp (disch := first | (simp (disch := omega) only [am_k_some, va_rf_some, va_rf_none, tl_some, tl_none, am_clr_int, am_clr_ref, am_clr_none, am_clr_long, am_w_nil, am_w_int, am_w_ref, am_w_long, am_w_null, am_bb_0, am_bb_1, am_bb_bI, xK_sI, xR_sI, xS_sI, xN_sI, xK_sL, xR_sL, xS_sL, xN_sL, xK_sR, xR_sR, xS_sR, xN_sR, xK_sA, xR_sA, xS_sA, xN_sA, Nat.reduceAdd, Nat.reduceLeDiff, sI_sA, I_sA', sA_sA, I_sA, I_sA', nI_add, mul_nI, bI_0, bI_1, h.k, h.r0, h.k0, h.r1, h.k1, h.r2, h.k2, h.r3, h.k3, h.r4, h.k4, h.r5, h.k5, h.r6, h.k6, h.r8, h.k8, h.r9, h.k9, h.r15, h.k15, h.r17, h.k17, h.r19, h.k19, h.r20, h.k20, h.r21, h.k21, h.r22, h.k22, h, Mo_sA, Mo_sL, ix_nI, cl_nI]; done) | omega | exact six_ne | (simp only [I_sA]; assumption)) only [e212_23, e212_24, e212_25, e212_32, e212_33, am_k_some, va_rf_some, va_rf_none, tl_some, tl_none, am_clr_int, am_clr_ref, am_clr_none, am_clr_long, am_w_nil, am_w_int, am_w_ref, am_w_long, am_w_null, am_bb_0, am_bb_1, am_bb_bI, xK_sI, xR_sI, xS_sI, xN_sI, xK_sL, xR_sL, xS_sL, xN_sL, xK_sR, xR_sR, xS_sR, xN_sR, xK_sA, xR_sA, xS_sA, xN_sA, Nat.reduceAdd, Nat.reduceLeDiff, sI_sA, I_sA', sA_sA, I_sA, I_sA', nI_add, mul_nI, bI_0, bI_1, h.k, h.r0, h.k0, h.r1, h.k1, h.r2, h.k2, h.r3, h.k3, h.r4, h.k4, h.r5, h.k5, h.r6, h.k6, h.r8, h.k8, h.r9, h.k9, h.r15, h.k15, h.r17, h.k17, h.r19, h.k19, h.r20, h.k20, h.r21, h.k21, h.r22, h.k22, ix_nI, cl_nI, lt_nI, eq_nI, sub_nI, Nat.reduceEqDiff, Nat.one_ne_zero, Nat.not_lt_zero, ↓reduceIte, c]
def FqM (M : Nat) (m m' : am_M) : Prop := FrI (fun x => x = M ∨ x = M + 1 ∨ (M + 12 ≤ x ∧ x ≤ M + 15)) m m' ∧ ∀ j, j ≠ 23 → mI m' M j = mI m M j
theorem FqM.refl (M : Nat) (m : am_M) : FqM M m m := ⟨FrI.refl _ m, fun _ _ => rfl⟩
theorem FqM.trans {M : Nat} {m1 m2 m3 : am_M} (h : FqM M m1 m2) (g : FqM M m2 m3) : FqM M m1 m3 := ⟨h.1.trans g.1, fun j hj => (g.2 j hj).trans (h.2 j hj)⟩
theorem FqM.sA {M x : Nat} {m m' : am_M} {F : Nat → Int32} (h : FqM M m m') (hx : x = M + 1 ∨ (M + 12 ≤ x ∧ x ≤ M + 15)) : FqM M m (sA m' x F) := ⟨h.1.sA (Or.inr hx), fun j hj => by rw [I_sA' _ _ (by omega)]; exact h.2 j hj⟩
theorem ChO_up {C : Nat → Int32} {x : Nat} {v : Int32} : ∀ {P : List (Nat × Nat)}, P.length ≤ x → ChO C P → ChO (up1 C x v) P := by
  intro P
  induction P with
  | nil => intro _ _; trivial
  | cons c P ih =>
    intro hx ⟨a, b⟩
    rw [List.length_cons] at hx
    exact ⟨by rw [up1_ne (by omega)]; exact a, ih (by omega) b⟩
theorem BsM.of {m m' : am_M} {M : Nat} {b : Bst} (h : BsM m M n b) (h1 : mI m' M 23 = mI m M 23) (h2 : mI m' (M + 14) = mI m (M + 14)) (h3 : mI m' (M + 15) = mI m (M + 15)) : BsM m' M n b := by
  rcases b with _ | ⟨c, bl, bp⟩
  · show mI m' M 23 = -1
    rw [h1]; exact h
  · obtain ⟨a1, a2⟩ : mI m M 23 = nI c ∧ ∀ k, k < n → mI m (M + 14) k = nI (bl k) ∧ mI m (M + 15) k = nI (bp k) := h
    exact ⟨by rw [h1]; exact a1, fun k hk => by rw [h2, h3]; exact a2 k hk⟩
/-- driven and taken back: as before -/
theorem take_put {X : Nat → Int32} {l i q : Nat} (hl : l < 400) (hi : i < 20) (hq : q + spanS X l ≤ 40) (he : EmR X l i q) (h0 : X (3300 + l) = nI 0) (h7 : X (3700 + l) = -1) (h8 : X (4100 + l) = -1) : takeS (putS X l i q) l (nI 0) i q = X := by
  have ag := putS_ag (S := X) (l := l) (i := i) (q := q) hl hi hq
  have sp : spanS (putS X l i q) l = spanS X l := ag.span hl
  funext y
  by_cases a1 : y = 3300 + l
  · rw [a1, takeS_1 hl, h0]
  by_cases a2 : y = 3700 + l
  · rw [a2, takeS_2 hl, h7]
  by_cases a3 : y = 4100 + l
  · rw [a3, takeS_3, h8]
  by_cases a4 : 40 * i + q ≤ y ∧ y < 40 * i + q + spanS X l
  · rw [takeS_in (by omega) (by rw [sp]; exact a4)]
    have := he (y - (40 * i + q)) (by omega)
    rw [show 40 * i + q + (y - (40 * i + q)) = y by omega] at this
    exact this.symm
  · rw [takeS_off a1 a2 a3 (by rw [sp]; omega)]
    exact putS_off a1 a2 a3 (by omega)
theorem pop_q (H : PlH S n dl th dk) {c : Nat × Nat} (V : Vd S n dl th dk (c :: P)) : ∃ q, q + spanS S (th c.1) ≤ 40 ∧ qS S th dk (c :: P) (3700 + th c.1) = nI (dk c.2) ∧ qS S th dk (c :: P) (4100 + th c.1) = nI q ∧ takeS (qS S th dk (c :: P)) (th c.1) (nI 0) (dk c.2) q = qS S th dk P := by
  obtain ⟨v1, v2, v3, v4, v5⟩ := id V
  have K := v1.pk H
  have hs := cd_rm H K v2 v3 v5
  have tc := H.t4 v2
  have d := (H.dk _ v3).1
  have l4 := H.l40 v3
  have tn := (H.th _ v2).1
  have sp : spanS (qS S th dk P) (th c.1) = spanS S (th c.1) := K.ag.span tc
  have pl : plS (qS S th dk P) (th c.1) (dk c.2) (enS S (dk c.2)) + spanS S (th c.1) ≤ 40 := by
    unfold plS
    rw [K.way H v3, sp, K.lnE H v3]
    split <;> omega
  have off := K.off _ tn (fun x hx e => (v4 x hx).1 (H.inj (K.st x hx).1 v2 e.symm))
  have na : NoA S (th c.1) := by
    rcases H.wf.w _ tn with q | ⟨i, q, s⟩
    · exact q
    · exact absurd s.1 (H.ab _ tn)
  refine ⟨plS (qS S th dk P) (th c.1) (dk c.2) (enS S (dk c.2)), pl, ?_, ?_, ?_⟩
  · exact putS_2 (l := th c.1) (i := dk c.2) (q := plS (qS S th dk P) (th c.1) (dk c.2) (enS S (dk c.2))) tc
  · exact putS_3 (l := th c.1) (i := dk c.2) (q := plS (qS S th dk P) (th c.1) (dk c.2) (enS S (dk c.2)))
  · exact take_put tc d (by rw [sp]; exact pl) (pl_em (en_ok _ _) (by rw [sp, K.way H v3]; exact hs)) (by rw [off.1]; exact (H.th _ v2).2) (by rw [off.2.1]; exact na.2.1) (by rw [off.2.2]; exact na.2.2)
/-- one back -/
theorem sp_213p {d M : Nat} {m : am_M} {c : Nat × Nat} {x2 : Option Value} (H : PlH S n dl th dk) (V : Vd S n dl th dk (c :: P)) (A : MP m M S n dl th dk (c :: P) b) : ∃ m', ev (d + 8) 213 65 [some (.ref M), some (.int (nI (c :: P).length)), x2, some (.int (-1))] [] m = ev (d + 8) 213 30 [some (.ref M), some (.int (nI P.length)), some (.int (nI (6 * c.2 + c.1 + 1))), some (.int (-1))] [] m' ∧ FqM M m m' ∧ MP m' M S n dl th dk P b := by
  have h := A.mo
  have n6 := H.n6
  have d3 := H.d3
  have vl := V.len
  rw [List.length_cons] at vl
  obtain ⟨h1, h2⟩ := V.hd
  have c1 : mI m (M + 12) P.length = nI (6 * c.2 + c.1) := A.ch.1
  have v6 := div6 (6 * c.2 + c.1) (by omega)
  have v7 : (6 * c.2 + c.1) / 6 = c.2 := by omega
  have v8 : 6 * c.2 + c.1 - c.2 * 6 = c.1 := by omega
  have t4 := H.t4 h1
  have dj := (H.dk _ h2).1
  have ts := A.ts _ h1
  obtain ⟨q, q1, q2, q3, q4⟩ := pop_q H V
  have K := V.pk H
  have sp : spanS (qS S th dk (c :: P)) (th c.1) = spanS S (th c.1) := K.ag.span t4
  generalize hm1 : sA m (M + 13) (up1 (mI m (M + 13)) c.1 (nI 0)) = m1
  have A1 : mI m1 (M + 1) = qS S th dk (c :: P) := by rw [← hm1, I_sA' _ _ (by omega)]; exact A.a
  have h' : Mo m1 M := by rw [← hm1, Mo_sA]; exact h
  have tk := sp_157 (d := d + 5) (l := th c.1) (i := dk c.2) (q := q) (w := nI 0) h' t4 dj (by rw [A1, sp]; exact q1) (by rw [A1]; exact q2) (by rw [A1]; exact q3)
  rw [A1, q4] at tk
  refine ⟨sA m1 (M + 1) (qS S th dk P), ?_, ?_, ?_⟩
  · have z : ¬ P.length < 0 := by omega
    rw [List.length_cons]
    rw [← hm1] at tk ⊢
    have e103 := fun {d ls st m x} => @e213_103 d ls st m x (nI 6) six_ne
    have e119 := fun {d ls st m x} => @e213_119 d ls st m x (nI 6) six_ne
    simp (disch := first | (simp (disch := omega) only [am_k_some, va_rf_some, va_rf_none, tl_some, tl_none, am_clr_int, am_clr_ref, am_clr_none, am_clr_long, am_w_nil, am_w_int, am_w_ref, am_w_long, am_w_null, am_bb_0, am_bb_1, am_bb_bI, xK_sI, xR_sI, xS_sI, xN_sI, xK_sL, xR_sL, xS_sL, xN_sL, xK_sR, xR_sR, xS_sR, xN_sR, xK_sA, xR_sA, xS_sA, xN_sA, Nat.reduceAdd, Nat.reduceLeDiff, sI_sA, I_sA', sA_sA, I_sA, I_sA', nI_add, mul_nI, bI_0, bI_1, h.k, h.r0, h.k0, h.r1, h.k1, h.r2, h.k2, h.r3, h.k3, h.r4, h.k4, h.r5, h.k5, h.r6, h.k6, h.r8, h.k8, h.r9, h.k9, h.r15, h.k15, h.r17, h.k17, h.r19, h.k19, h.r20, h.k20, h.r21, h.k21, h.r22, h.k22, h, Mo_sA, Mo_sL, ix_nI, cl_nI]; done) | omega | exact six_ne | (simp only [I_sA]; assumption)) only [e213_0, e213_1, e213_2, e213_5, e213_6, e213_8, e213_10, e213_13, e213_14, e213_17, e213_18, e213_19, e213_20, e213_23, e213_26, e213_27, e213_28, e213_29, e213_31, e213_34, e213_35, e213_36, e213_39, e213_42, e213_43, e213_44, e213_45, e213_48, e213_51, e213_52, e213_53, e213_54, e213_55, e213_58, e213_61, e213_62, e213_65, e213_66, e213_69, e213_70, e213_73, e213_74, e213_75, e213_76, e213_79, e213_80, e213_81, e213_84, e213_87, e213_88, e213_91, e213_92, e213_95, e213_96, e213_99, e213_100, e213_101, e213_104, e213_105, e213_106, e213_107, e213_108, e213_111, e213_112, e213_115, e213_116, e213_117, e213_120, e213_121, e213_122, e213_125, e213_126, e213_129, e213_130, e213_131, e213_132, e213_133, e213_134, e213_137, e103, e119, am_k_some, va_rf_some, va_rf_none, tl_some, tl_none, am_clr_int, am_clr_ref, am_clr_none, am_clr_long, am_w_nil, am_w_int, am_w_ref, am_w_long, am_w_null, am_bb_0, am_bb_1, am_bb_bI, xK_sI, xR_sI, xS_sI, xN_sI, xK_sL, xR_sL, xS_sL, xN_sL, xK_sR, xR_sR, xS_sR, xN_sR, xK_sA, xR_sA, xS_sA, xN_sA, Nat.reduceAdd, Nat.reduceLeDiff, sI_sA, I_sA', sA_sA, I_sA, I_sA', nI_add, mul_nI, bI_0, bI_1, h.k, h.r0, h.k0, h.r1, h.k1, h.r2, h.k2, h.r3, h.k3, h.r4, h.k4, h.r5, h.k5, h.r6, h.k6, h.r8, h.k8, h.r9, h.k9, h.r15, h.k15, h.r17, h.k17, h.r19, h.k19, h.r20, h.k20, h.r21, h.k21, h.r22, h.k22, ix_nI, cl_nI, lt_nI, eq_nI, sub_nI, Nat.reduceEqDiff, Nat.one_ne_zero, Nat.not_lt_zero, ↓reduceIte, k1, k2, k3, k4, k5, k6, k7, k8, k9, n10, n01, if_true, if_false, decide_true, decide_false, Bool.true_eq_false, Bool.false_eq_true, not_true_eq_false, not_false_eq_true, and_true, true_and, and_false, false_and, u1, dec_nI, z, c1, v6, v7, v8, ts, tk]
  · rw [← hm1]
    exact ((FqM.refl M m).sA (by omega)).sA (by omega)
  · have i : ∀ x, x ≠ M + 1 → x ≠ M + 13 → mI (sA m1 (M + 1) (qS S th dk P)) x = mI m x := fun x a b => by rw [I_sA' _ _ a, ← hm1, I_sA' _ _ b]
    refine ⟨by rw [Mo_sA]; exact h', I_sA .., by rw [i _ (by omega) (by omega)]; exact A.tm, by rw [i _ (by omega) (by omega)]; exact A.dm, fun k hk => by rw [i _ (by omega) (by omega)]; exact A.ts k hk, fun k hk => by rw [i _ (by omega) (by omega)]; exact A.ds k hk, fun k hk => ?_, by rw [i _ (by omega) (by omega)]; exact A.ch.2, A.bs.of (by rw [i _ (by omega) (by omega)]) (i _ (by omega) (by omega)) (i _ (by omega) (by omega))⟩
    rw [I_sA' _ _ (by omega), ← hm1, I_sA]
    by_cases e : k = c.1
    · rw [e, up1_eq, us_no.2 (fun x hx => (V.2.2.2.1 x hx).1)]; rfl
    · rw [up1_ne e, A.us k hk, us_cons, decide_eq_false (fun z => e z.symm), Bool.false_or]
theorem sp_213z {d M : Nat} {m : am_M} {x2 : Option Value} : ev (d + 8) 213 65 [some (.ref M), some (.int (nI 0)), x2, some (.int (-1))] [] m = some (none, m) := by
  have e : nI 0 + (-1) = (-1 : Int32) := by decide
  simp only [e213_65, e213_66, u1, ↓reduceIte, e213_84, am_k_some, va_rf_some, va_rf_none, tl_some, tl_none, am_clr_int, am_clr_ref, am_clr_none, am_clr_long, am_w_nil, am_w_int, am_w_ref, am_w_long, am_w_null, am_bb_0, am_bb_1, am_bb_bI, xK_sI, xR_sI, xS_sI, xN_sI, xK_sL, xR_sL, xS_sL, xN_sL, xK_sR, xR_sR, xS_sR, xN_sR, xK_sA, xR_sA, xS_sA, xN_sA, Nat.reduceAdd, Nat.reduceLeDiff, sI_sA, I_sA', sA_sA, I_sA, I_sA', nI_add, mul_nI, bI_0, bI_1, e, e213_87, e213_88, e213_134, e213_30, e213_31, e213_137]
/-- one more -/
theorem mp_put {M c : Nat} {m : am_M} (H : PlH S n dl th dk) (A : MP m M S n dl th dk P b) (hl : P.length < 6) (hc : c < 18) : FqM M m (sA (sA (sA m (M + 1) (qS S th dk ((c % 6, c / 6) :: P))) (M + 13) (up1 (mI m (M + 13)) (c % 6) (nI 1))) (M + 12) (up1 (mI m (M + 12)) P.length (nI c))) ∧ MP (sA (sA (sA m (M + 1) (qS S th dk ((c % 6, c / 6) :: P))) (M + 13) (up1 (mI m (M + 13)) (c % 6) (nI 1))) (M + 12) (up1 (mI m (M + 12)) P.length (nI c))) M S n dl th dk ((c % 6, c / 6) :: P) b := by
  refine ⟨(((FqM.refl M m).sA (by omega)).sA (by omega)).sA (by omega), ?_⟩
  generalize hm1 : sA (sA (sA m (M + 1) (qS S th dk ((c % 6, c / 6) :: P))) (M + 13) (up1 (mI m (M + 13)) (c % 6) (nI 1))) (M + 12) (up1 (mI m (M + 12)) P.length (nI c)) = m1
  have i : ∀ x, x ≠ M + 1 → x ≠ M + 13 → x ≠ M + 12 → mI m1 x = mI m x := fun x a b c => by rw [← hm1, I_sA' _ _ c, I_sA' _ _ b, I_sA' _ _ a]
  refine ⟨by rw [← hm1, Mo_sA, Mo_sA, Mo_sA]; exact A.mo, by rw [← hm1, I_sA' _ _ (by omega), I_sA' _ _ (by omega), I_sA], by rw [i _ (by omega) (by omega) (by omega)]; exact A.tm, by rw [i _ (by omega) (by omega) (by omega)]; exact A.dm, fun k hk => by rw [i _ (by omega) (by omega) (by omega)]; exact A.ts k hk, fun k hk => by rw [i _ (by omega) (by omega) (by omega)]; exact A.ds k hk, fun k hk => ?_, ?_, A.bs.of (by rw [i _ (by omega) (by omega) (by omega)]) (i _ (by omega) (by omega) (by omega)) (i _ (by omega) (by omega) (by omega))⟩
  · rw [← hm1, I_sA' _ _ (by omega), I_sA, us_cons]
    by_cases e : k = c % 6
    · rw [e, up1_eq, decide_eq_true rfl]; rfl
    · rw [up1_ne e, A.us k hk, decide_eq_false (fun z => e z.symm), Bool.false_or]
  · have : mI m1 (M + 12) = up1 (mI m (M + 12)) P.length (nI c) := by rw [← hm1, I_sA]
    rw [this]
    refine ⟨?_, ChO_up (Nat.le_refl _) A.ch⟩
    rw [up1_eq]
    show nI c = nI (6 * (c / 6) + c % 6)
    congr 1
    omega
end TA
