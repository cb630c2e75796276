/-! THE GATE'S SURVEY against the model's endFor -/
theorem op_eq {S : Nat → Int32} {i : Nat} {e : Int32} (h : S (880 + i) = nI 1 ∨ S (880 + i) = nI 2 ∨ S (880 + i) = nI 3) (he : okE e) : opN (S (880 + i)) e = opS S i e := by
  unfold opN opS
  rcases he with rfl | rfl <;> rcases h with h | h | h <;> rw [h] <;> decide
theorem in_pos {S : Nat → Int32} {i l : Nat} (hl : l < nm S) (h1 : S (3300 + l) = nI 1) (h2 : S (3700 + l) = nI i) : 0 < inS S i := by
  unfold inS
  exact cntR_pos (p := l) (by omega) (by omega) (by simp only [h1, h2, decide_true, Bool.and_self])
theorem in_ex {S : Nat → Int32} {i : Nat} (h : ¬ inS S i = 0) : ∃ l, l < nm S ∧ S (3300 + l) = nI 1 ∧ S (3700 + l) = nI i := by
  by_cases q : ∃ l, l < nm S ∧ S (3300 + l) = nI 1 ∧ S (3700 + l) = nI i
  · exact q
  · exfalso
    apply h
    unfold inS
    refine cntR_zero fun p _ hp => ?_
    rw [Bool.and_eq_false_iff]
    by_cases h1 : S (3300 + p) = nI 1
    · right
      exact decide_eq_false (fun h2 => q ⟨p, by omega, h1, h2⟩)
    · left
      exact decide_eq_false h1
theorem in_th {S : Nat → Int32} {i : Nat} (hL : LnOk S) (hW : WfW S) (hi : i < 20) (h : ¬ inS S i = 0) : S (800 + i) = nI 1 := by
  obtain ⟨l, a, b, c⟩ := in_ex h
  rcases hW l a with ⟨q, -⟩ | ⟨i', q, s⟩
  · rw [b] at q; exfalso; revert q; decide
  · obtain ⟨s1, s2, s3, s4, s5, s6, s7⟩ := s
    rw [c, eq_nI (by omega) (by omega)] at s2
    rw [s2]; exact s5
theorem in_no {S : Nat → Int32} {i p : Nat} {x : Int32} (hC : WfC S) (hi : i < 20) (hp : p < 40) (h : inS S i = 0) : lvP S i x p = false := by
  unfold lvP lvB
  rcases hC i p hi hp with q | ⟨q, -⟩ | ⟨l, q, c1, c2, c3, c4, c5⟩
  · rw [q]; simp only [u1, decide_true, Bool.not_true, Bool.false_and]
  · rw [q]; simp only [u2, decide_true, Bool.not_true, Bool.false_and]
  · have := in_pos c1 c3.1 c3.2.1
    omega
def GtR (S : Nat → Int32) (i : Nat) (x : Int32) (F : Nat → Int32) : Prop := (efA S i x = nI 2 ∧ F 0 = -1 ∧ F 1 = nI 0) ∨ (efA S i x = -1 ∧ F 0 = -2 ∧ F 1 = nI 0) ∨ ∃ e, okE e ∧ efA S i x = e ∧ F 0 = e ∧ F 1 = nI (hiS S i e x) ∧ S (800 + i) = nI 1 ∧ ∃ b, b < ln S i ∧ deS S i e x = nI b ∧ (if e = nI 0 then F 3 = nI b else F 2 = nI (ln S i - 1 - b))
theorem efA_ic {S : Nat → Int32} {i : Nat} {x : Int32} (h1 : S (800 + i) = nI 1) (h2 : ¬ deS S i (nI 0) x < nI 0) (b0 b1 : Bool) (c0 : icS S i (nI 0) x = b0) (c1 : icS S i (nI 1) x = b1) : efA S i x = if b0 = true then (if b1 = true then (if hiS S i (nI 1) x < hiS S i (nI 0) x then nI 1 else nI 0) else nI 0) else if b1 = true then nI 1 else -1 := by
  unfold efA
  rw [if_pos h1, if_neg h2, c0, c1]
theorem sp_6_t {d g o lo i a : Nat} {x : Int32} {m : am_M} {S F : Nat → Int32} {x4 : Option Value} (kg : mK m g = (1, 1, 0)) (h : GtV m o lo S i) (h1 : g < o) (h2 : lo + 10 < g) (W : Wb S) (hi : i < 20) (ht : S (800 + i) = nI 1) (ha : a < ln S i) (f2 : F 2 = nI a) (f5 : F 5 = lastR (ckP S i) (ln S i)) :
    ev (d + 3) 6 79 [some (.ref g), some (.ref o), some (.ref lo), some (.int x), x4] [] (sA m g F) = some (none, sA m g (if opS S i (nI 1) = true ∧ lastR (ckP S i) (ln S i) < nI a ∧ (F 0 = -2 ∨ nI (cntR (stB S i x) a (ln S i - a)) < F 1) then up1 (up1 F 0 (nI 1)) 1 (nI (cntR (stB S i x) a (ln S i - a))) else F)) := by
  have hg := h.sA (F := F) h1 h2
  obtain ⟨k, kl, v1, v2, v3, v4, v5, v6, v7⟩ := id h
  have hl := (W.ln i hi).2
  have he := lenS_t ht
  have hends : S (880 + i) = nI 1 ∨ S (880 + i) = nI 2 ∨ S (880 + i) = nI 3 := by
    rcases W.t i hi with q | ⟨-, -, q⟩
    · rw [ht] at q; exact absurd q (by decide)
    · exact q
  have o1 := sp_16 (d := d + 2) (e := nI 1) (m := sA m g F) (o := o) k
  rw [I_sA' _ _ (by omega), v7 ht, op_eq hends (Or.inr rfl)] at o1
  have ct := sp_9 (d := d + 1) (a := a) (b := ln S i) (x := x) (m := sA m g F) kg hg W.nm W.c.ok hi (by omega) (by omega) (by omega)
  rw [he] at v1
  cases c1 : opS S i (nI 1) with
  | false =>
    rw [c1] at o1
    simp (disch := first | (simp (disch := omega) only [am_k_some, va_rf_some, va_rf_none, tl_some, tl_none, am_clr_int, am_clr_ref, am_clr_none, am_clr_long, am_w_nil, am_w_int, am_w_ref, am_w_long, am_w_null, am_bb_0, am_bb_1, am_bb_bI, xK_sI, xR_sI, xS_sI, xN_sI, xK_sL, xR_sL, xS_sL, xN_sL, xK_sR, xR_sR, xS_sR, xN_sR, xK_sA, xR_sA, xS_sA, xN_sA, Nat.reduceAdd, Nat.reduceLeDiff, sI_sA, I_sA', sA_sA, I_sA, I_sA', nI_add, mul_nI, bI_0, bI_1, kg, k.k, k.r0, k.k0, kl.k, kl.r3, kl.k3, kl.r8, kl.k8, LaK_sA, LoK_sA, ix_nI, cl_nI]; done) | omega | assumption) only [e6_0, e6_1, e6_2, e6_5, e6_6, e6_7, e6_10, e6_11, e6_14, e6_17, e6_18, e6_19, e6_20, e6_21, e6_22, e6_25, e6_26, e6_29, e6_32, e6_33, e6_34, e6_36, e6_39, e6_40, e6_41, e6_44, e6_47, e6_48, e6_51, e6_52, e6_55, e6_58, e6_59, e6_60, e6_63, e6_64, e6_65, e6_66, e6_67, e6_68, e6_69, e6_70, e6_73, e6_76, e6_79, e6_80, e6_81, e6_84, e6_87, e6_88, e6_91, e6_92, e6_95, e6_98, e6_99, e6_100, e6_101, e6_102, e6_103, e6_106, e6_107, e6_110, e6_113, e6_115, e6_116, e6_119, e6_121, e6_124, e6_126, e6_127, e6_130, e6_133, e6_134, e6_135, e6_138, e6_139, e6_141, e6_144, am_k_some, va_rf_some, va_rf_none, tl_some, tl_none, am_clr_int, am_clr_ref, am_clr_none, am_clr_long, am_w_nil, am_w_int, am_w_ref, am_w_long, am_w_null, am_bb_0, am_bb_1, am_bb_bI, xK_sI, xR_sI, xS_sI, xN_sI, xK_sL, xR_sL, xS_sL, xN_sL, xK_sR, xR_sR, xS_sR, xN_sR, xK_sA, xR_sA, xS_sA, xN_sA, Nat.reduceAdd, Nat.reduceLeDiff, sI_sA, I_sA', sA_sA, I_sA, I_sA', nI_add, mul_nI, bI_0, bI_1, kg, k.k, k.r0, k.k0, kl.k, kl.r3, kl.k3, kl.r8, kl.k8, ix_nI, cl_nI, lt_nI, eq_nI, sub_nI, Nat.reduceEqDiff, Nat.one_ne_zero, Nat.not_lt_zero, ↓reduceIte, k1, k2, k3, k4, k5, k6, k7, k8, k9, n10, n01, if_true, if_false, decide_true, decide_false, Bool.true_eq_false, Bool.false_eq_true, not_true_eq_false, not_false_eq_true, and_true, true_and, and_false, false_and, o1]
  | true =>
    rw [c1] at o1
    by_cases c2 : lastR (ckP S i) (ln S i) < nI a
    · by_cases c3 : F 0 = -2
      · simp (disch := first | (simp (disch := omega) only [am_k_some, va_rf_some, va_rf_none, tl_some, tl_none, am_clr_int, am_clr_ref, am_clr_none, am_clr_long, am_w_nil, am_w_int, am_w_ref, am_w_long, am_w_null, am_bb_0, am_bb_1, am_bb_bI, xK_sI, xR_sI, xS_sI, xN_sI, xK_sL, xR_sL, xS_sL, xN_sL, xK_sR, xR_sR, xS_sR, xN_sR, xK_sA, xR_sA, xS_sA, xN_sA, Nat.reduceAdd, Nat.reduceLeDiff, sI_sA, I_sA', sA_sA, I_sA, I_sA', nI_add, mul_nI, bI_0, bI_1, kg, k.k, k.r0, k.k0, kl.k, kl.r3, kl.k3, kl.r8, kl.k8, LaK_sA, LoK_sA, ix_nI, cl_nI]; done) | omega | assumption) only [e6_0, e6_1, e6_2, e6_5, e6_6, e6_7, e6_10, e6_11, e6_14, e6_17, e6_18, e6_19, e6_20, e6_21, e6_22, e6_25, e6_26, e6_29, e6_32, e6_33, e6_34, e6_36, e6_39, e6_40, e6_41, e6_44, e6_47, e6_48, e6_51, e6_52, e6_55, e6_58, e6_59, e6_60, e6_63, e6_64, e6_65, e6_66, e6_67, e6_68, e6_69, e6_70, e6_73, e6_76, e6_79, e6_80, e6_81, e6_84, e6_87, e6_88, e6_91, e6_92, e6_95, e6_98, e6_99, e6_100, e6_101, e6_102, e6_103, e6_106, e6_107, e6_110, e6_113, e6_115, e6_116, e6_119, e6_121, e6_124, e6_126, e6_127, e6_130, e6_133, e6_134, e6_135, e6_138, e6_139, e6_141, e6_144, am_k_some, va_rf_some, va_rf_none, tl_some, tl_none, am_clr_int, am_clr_ref, am_clr_none, am_clr_long, am_w_nil, am_w_int, am_w_ref, am_w_long, am_w_null, am_bb_0, am_bb_1, am_bb_bI, xK_sI, xR_sI, xS_sI, xN_sI, xK_sL, xR_sL, xS_sL, xN_sL, xK_sR, xR_sR, xS_sR, xN_sR, xK_sA, xR_sA, xS_sA, xN_sA, Nat.reduceAdd, Nat.reduceLeDiff, sI_sA, I_sA', sA_sA, I_sA, I_sA', nI_add, mul_nI, bI_0, bI_1, kg, k.k, k.r0, k.k0, kl.k, kl.r3, kl.k3, kl.r8, kl.k8, ix_nI, cl_nI, lt_nI, eq_nI, sub_nI, Nat.reduceEqDiff, Nat.one_ne_zero, Nat.not_lt_zero, ↓reduceIte, k1, k2, k3, k4, k5, k6, k7, k8, k9, n10, n01, if_true, if_false, decide_true, decide_false, Bool.true_eq_false, Bool.false_eq_true, not_true_eq_false, not_false_eq_true, and_true, true_and, and_false, false_and, o1, f2, f5, c2, c3, v1, ct, true_or]
      · by_cases c4 : nI (cntR (stB S i x) a (ln S i - a)) < F 1
        · simp (disch := first | (simp (disch := omega) only [am_k_some, va_rf_some, va_rf_none, tl_some, tl_none, am_clr_int, am_clr_ref, am_clr_none, am_clr_long, am_w_nil, am_w_int, am_w_ref, am_w_long, am_w_null, am_bb_0, am_bb_1, am_bb_bI, xK_sI, xR_sI, xS_sI, xN_sI, xK_sL, xR_sL, xS_sL, xN_sL, xK_sR, xR_sR, xS_sR, xN_sR, xK_sA, xR_sA, xS_sA, xN_sA, Nat.reduceAdd, Nat.reduceLeDiff, sI_sA, I_sA', sA_sA, I_sA, I_sA', nI_add, mul_nI, bI_0, bI_1, kg, k.k, k.r0, k.k0, kl.k, kl.r3, kl.k3, kl.r8, kl.k8, LaK_sA, LoK_sA, ix_nI, cl_nI]; done) | omega | assumption) only [e6_0, e6_1, e6_2, e6_5, e6_6, e6_7, e6_10, e6_11, e6_14, e6_17, e6_18, e6_19, e6_20, e6_21, e6_22, e6_25, e6_26, e6_29, e6_32, e6_33, e6_34, e6_36, e6_39, e6_40, e6_41, e6_44, e6_47, e6_48, e6_51, e6_52, e6_55, e6_58, e6_59, e6_60, e6_63, e6_64, e6_65, e6_66, e6_67, e6_68, e6_69, e6_70, e6_73, e6_76, e6_79, e6_80, e6_81, e6_84, e6_87, e6_88, e6_91, e6_92, e6_95, e6_98, e6_99, e6_100, e6_101, e6_102, e6_103, e6_106, e6_107, e6_110, e6_113, e6_115, e6_116, e6_119, e6_121, e6_124, e6_126, e6_127, e6_130, e6_133, e6_134, e6_135, e6_138, e6_139, e6_141, e6_144, am_k_some, va_rf_some, va_rf_none, tl_some, tl_none, am_clr_int, am_clr_ref, am_clr_none, am_clr_long, am_w_nil, am_w_int, am_w_ref, am_w_long, am_w_null, am_bb_0, am_bb_1, am_bb_bI, xK_sI, xR_sI, xS_sI, xN_sI, xK_sL, xR_sL, xS_sL, xN_sL, xK_sR, xR_sR, xS_sR, xN_sR, xK_sA, xR_sA, xS_sA, xN_sA, Nat.reduceAdd, Nat.reduceLeDiff, sI_sA, I_sA', sA_sA, I_sA, I_sA', nI_add, mul_nI, bI_0, bI_1, kg, k.k, k.r0, k.k0, kl.k, kl.r3, kl.k3, kl.r8, kl.k8, ix_nI, cl_nI, lt_nI, eq_nI, sub_nI, Nat.reduceEqDiff, Nat.one_ne_zero, Nat.not_lt_zero, ↓reduceIte, k1, k2, k3, k4, k5, k6, k7, k8, k9, n10, n01, if_true, if_false, decide_true, decide_false, Bool.true_eq_false, Bool.false_eq_true, not_true_eq_false, not_false_eq_true, and_true, true_and, and_false, false_and, o1, f2, f5, c2, c3, c4, v1, ct, or_true]
        · simp (disch := first | (simp (disch := omega) only [am_k_some, va_rf_some, va_rf_none, tl_some, tl_none, am_clr_int, am_clr_ref, am_clr_none, am_clr_long, am_w_nil, am_w_int, am_w_ref, am_w_long, am_w_null, am_bb_0, am_bb_1, am_bb_bI, xK_sI, xR_sI, xS_sI, xN_sI, xK_sL, xR_sL, xS_sL, xN_sL, xK_sR, xR_sR, xS_sR, xN_sR, xK_sA, xR_sA, xS_sA, xN_sA, Nat.reduceAdd, Nat.reduceLeDiff, sI_sA, I_sA', sA_sA, I_sA, I_sA', nI_add, mul_nI, bI_0, bI_1, kg, k.k, k.r0, k.k0, kl.k, kl.r3, kl.k3, kl.r8, kl.k8, LaK_sA, LoK_sA, ix_nI, cl_nI]; done) | omega | assumption) only [e6_0, e6_1, e6_2, e6_5, e6_6, e6_7, e6_10, e6_11, e6_14, e6_17, e6_18, e6_19, e6_20, e6_21, e6_22, e6_25, e6_26, e6_29, e6_32, e6_33, e6_34, e6_36, e6_39, e6_40, e6_41, e6_44, e6_47, e6_48, e6_51, e6_52, e6_55, e6_58, e6_59, e6_60, e6_63, e6_64, e6_65, e6_66, e6_67, e6_68, e6_69, e6_70, e6_73, e6_76, e6_79, e6_80, e6_81, e6_84, e6_87, e6_88, e6_91, e6_92, e6_95, e6_98, e6_99, e6_100, e6_101, e6_102, e6_103, e6_106, e6_107, e6_110, e6_113, e6_115, e6_116, e6_119, e6_121, e6_124, e6_126, e6_127, e6_130, e6_133, e6_134, e6_135, e6_138, e6_139, e6_141, e6_144, am_k_some, va_rf_some, va_rf_none, tl_some, tl_none, am_clr_int, am_clr_ref, am_clr_none, am_clr_long, am_w_nil, am_w_int, am_w_ref, am_w_long, am_w_null, am_bb_0, am_bb_1, am_bb_bI, xK_sI, xR_sI, xS_sI, xN_sI, xK_sL, xR_sL, xS_sL, xN_sL, xK_sR, xR_sR, xS_sR, xN_sR, xK_sA, xR_sA, xS_sA, xN_sA, Nat.reduceAdd, Nat.reduceLeDiff, sI_sA, I_sA', sA_sA, I_sA, I_sA', nI_add, mul_nI, bI_0, bI_1, kg, k.k, k.r0, k.k0, kl.k, kl.r3, kl.k3, kl.r8, kl.k8, ix_nI, cl_nI, lt_nI, eq_nI, sub_nI, Nat.reduceEqDiff, Nat.one_ne_zero, Nat.not_lt_zero, ↓reduceIte, k1, k2, k3, k4, k5, k6, k7, k8, k9, n10, n01, if_true, if_false, decide_true, decide_false, Bool.true_eq_false, Bool.false_eq_true, not_true_eq_false, not_false_eq_true, and_true, true_and, and_false, false_and, o1, f2, f5, c2, c3, c4, v1, ct, or_self]
    · simp (disch := first | (simp (disch := omega) only [am_k_some, va_rf_some, va_rf_none, tl_some, tl_none, am_clr_int, am_clr_ref, am_clr_none, am_clr_long, am_w_nil, am_w_int, am_w_ref, am_w_long, am_w_null, am_bb_0, am_bb_1, am_bb_bI, xK_sI, xR_sI, xS_sI, xN_sI, xK_sL, xR_sL, xS_sL, xN_sL, xK_sR, xR_sR, xS_sR, xN_sR, xK_sA, xR_sA, xS_sA, xN_sA, Nat.reduceAdd, Nat.reduceLeDiff, sI_sA, I_sA', sA_sA, I_sA, I_sA', nI_add, mul_nI, bI_0, bI_1, kg, k.k, k.r0, k.k0, kl.k, kl.r3, kl.k3, kl.r8, kl.k8, LaK_sA, LoK_sA, ix_nI, cl_nI]; done) | omega | assumption) only [e6_0, e6_1, e6_2, e6_5, e6_6, e6_7, e6_10, e6_11, e6_14, e6_17, e6_18, e6_19, e6_20, e6_21, e6_22, e6_25, e6_26, e6_29, e6_32, e6_33, e6_34, e6_36, e6_39, e6_40, e6_41, e6_44, e6_47, e6_48, e6_51, e6_52, e6_55, e6_58, e6_59, e6_60, e6_63, e6_64, e6_65, e6_66, e6_67, e6_68, e6_69, e6_70, e6_73, e6_76, e6_79, e6_80, e6_81, e6_84, e6_87, e6_88, e6_91, e6_92, e6_95, e6_98, e6_99, e6_100, e6_101, e6_102, e6_103, e6_106, e6_107, e6_110, e6_113, e6_115, e6_116, e6_119, e6_121, e6_124, e6_126, e6_127, e6_130, e6_133, e6_134, e6_135, e6_138, e6_139, e6_141, e6_144, am_k_some, va_rf_some, va_rf_none, tl_some, tl_none, am_clr_int, am_clr_ref, am_clr_none, am_clr_long, am_w_nil, am_w_int, am_w_ref, am_w_long, am_w_null, am_bb_0, am_bb_1, am_bb_bI, xK_sI, xR_sI, xS_sI, xN_sI, xK_sL, xR_sL, xS_sL, xN_sL, xK_sR, xR_sR, xS_sR, xN_sR, xK_sA, xR_sA, xS_sA, xN_sA, Nat.reduceAdd, Nat.reduceLeDiff, sI_sA, I_sA', sA_sA, I_sA, I_sA', nI_add, mul_nI, bI_0, bI_1, kg, k.k, k.r0, k.k0, kl.k, kl.r3, kl.k3, kl.r8, kl.k8, ix_nI, cl_nI, lt_nI, eq_nI, sub_nI, Nat.reduceEqDiff, Nat.one_ne_zero, Nat.not_lt_zero, ↓reduceIte, k1, k2, k3, k4, k5, k6, k7, k8, k9, n10, n01, if_true, if_false, decide_true, decide_false, Bool.true_eq_false, Bool.false_eq_true, not_true_eq_false, not_false_eq_true, and_true, true_and, and_false, false_and, o1, f2, f5, c2]
theorem sp_6 {d g o lo i : Nat} {x : Int32} {m : am_M} {S : Nat → Int32} (kg : mK m g = (1, 1, 0)) (h : GtV m o lo S i) (h1 : g < o) (h2 : lo + 10 < g) (W : Wb S) (hi : i < 20) :
    ∃ F, cal (d + 3) 6 [.ref g, .ref o, .ref lo, .int x] m = some (none, sA m g F) ∧ GtR S i x F := by
  obtain ⟨k, kl, v1, v2, v3, v4, v5, v6, v7⟩ := id h
  have hl := (W.ln i hi).2
  by_cases hin : inS S i = 0
  · refine ⟨up1 (up1 (mI m g) 0 (-1)) 1 (nI 0), ?_, Or.inl ⟨?_, rfl, rfl⟩⟩
    · rw [hin] at v6
      simp (disch := first | (simp (disch := omega) only [am_k_some, va_rf_some, va_rf_none, tl_some, tl_none, am_clr_int, am_clr_ref, am_clr_none, am_clr_long, am_w_nil, am_w_int, am_w_ref, am_w_long, am_w_null, am_bb_0, am_bb_1, am_bb_bI, xK_sI, xR_sI, xS_sI, xN_sI, xK_sL, xR_sL, xS_sL, xN_sL, xK_sR, xR_sR, xS_sR, xN_sR, xK_sA, xR_sA, xS_sA, xN_sA, Nat.reduceAdd, Nat.reduceLeDiff, sI_sA, I_sA', sA_sA, I_sA, I_sA', nI_add, mul_nI, bI_0, bI_1, kg, k.k, k.r0, k.k0, kl.k, kl.r3, kl.k3, kl.r8, kl.k8, LaK_sA, LoK_sA, ix_nI, cl_nI]; done) | omega | assumption) only [c6, e6_0, e6_1, e6_2, e6_5, e6_6, e6_7, e6_10, e6_11, e6_14, e6_17, e6_18, e6_19, e6_20, e6_21, e6_22, e6_25, e6_26, e6_29, e6_32, e6_33, e6_34, e6_36, e6_39, e6_40, e6_41, e6_44, e6_47, e6_48, e6_51, e6_52, e6_55, e6_58, e6_59, e6_60, e6_63, e6_64, e6_65, e6_66, e6_67, e6_68, e6_69, e6_70, e6_73, e6_76, e6_80, e6_81, e6_84, e6_87, e6_88, e6_91, e6_92, e6_95, e6_98, e6_99, e6_100, e6_101, e6_102, e6_103, e6_106, e6_107, e6_110, e6_113, e6_115, e6_116, e6_119, e6_121, e6_124, e6_126, e6_127, e6_130, e6_133, e6_134, e6_135, e6_138, e6_139, e6_141, e6_144, am_k_some, va_rf_some, va_rf_none, tl_some, tl_none, am_clr_int, am_clr_ref, am_clr_none, am_clr_long, am_w_nil, am_w_int, am_w_ref, am_w_long, am_w_null, am_bb_0, am_bb_1, am_bb_bI, xK_sI, xR_sI, xS_sI, xN_sI, xK_sL, xR_sL, xS_sL, xN_sL, xK_sR, xR_sR, xS_sR, xN_sR, xK_sA, xR_sA, xS_sA, xN_sA, Nat.reduceAdd, Nat.reduceLeDiff, sI_sA, I_sA', sA_sA, I_sA, I_sA', nI_add, mul_nI, bI_0, bI_1, kg, k.k, k.r0, k.k0, kl.k, kl.r3, kl.k3, kl.r8, kl.k8, ix_nI, cl_nI, lt_nI, eq_nI, sub_nI, Nat.reduceEqDiff, Nat.one_ne_zero, Nat.not_lt_zero, ↓reduceIte, v6]
    · unfold efA
      by_cases ht : S (800 + i) = nI 1
      · rw [if_pos ht, deS0, lastR_none (fun p hp => in_no W.c hi (by omega) hin), if_pos u1]
      · rw [if_neg ht]
  · have ht := in_th W.ln W.w hi hin
    have he := lenS_t ht
    have hin2 : inS S i ≤ 400 := by
      have := cntR_le (fun y => decide (S (3300 + y) = nI 1) && decide (S (3700 + y) = nI i)) 0 (nm S)
      have := W.nm.2
      unfold inS
      omega
    have hends : S (880 + i) = nI 1 ∨ S (880 + i) = nI 2 ∨ S (880 + i) = nI 3 := by
      rcases W.t i hi with q | ⟨-, -, q⟩
      · rw [ht] at q; exact absurd q (by decide)
      · exact q
    obtain ⟨F8, e8, g0, g1, g2, g3, g4, g5⟩ := sp_8 (d := d + 1) (x := x) (m := sA m g (up1 (up1 (mI m g) 0 (-1)) 1 (nI 0))) kg (h.sA h1 h2) h1 h2 W.nm W.c.ok hi (by omega)
    rw [I_sA] at g0 g1
    rw [sA_sA] at e8
    rw [he] at g2 g3 g4 g5
    rw [← deS0] at g3
    have g0 : F8 0 = -1 := g0
    have g1 : F8 1 = nI 0 := g1
    rcases marks (x := x) hl with ⟨m1, m2⟩ | ⟨a, b, hab, hb, m1, m2, m3, m4, m5⟩
    · refine ⟨F8, ?_, Or.inl ⟨?_, g0, g1⟩⟩
      · rw [m2] at g2
        simp (disch := first | (simp (disch := omega) only [am_k_some, va_rf_some, va_rf_none, tl_some, tl_none, am_clr_int, am_clr_ref, am_clr_none, am_clr_long, am_w_nil, am_w_int, am_w_ref, am_w_long, am_w_null, am_bb_0, am_bb_1, am_bb_bI, xK_sI, xR_sI, xS_sI, xN_sI, xK_sL, xR_sL, xS_sL, xN_sL, xK_sR, xR_sR, xS_sR, xN_sR, xK_sA, xR_sA, xS_sA, xN_sA, Nat.reduceAdd, Nat.reduceLeDiff, sI_sA, I_sA', sA_sA, I_sA, I_sA', nI_add, mul_nI, bI_0, bI_1, kg, k.k, k.r0, k.k0, kl.k, kl.r3, kl.k3, kl.r8, kl.k8, LaK_sA, LoK_sA, ix_nI, cl_nI]; done) | omega | assumption) only [c6, e6_0, e6_1, e6_2, e6_5, e6_6, e6_7, e6_10, e6_11, e6_14, e6_17, e6_18, e6_19, e6_20, e6_21, e6_22, e6_25, e6_26, e6_29, e6_32, e6_33, e6_34, e6_36, e6_39, e6_40, e6_41, e6_44, e6_47, e6_48, e6_51, e6_52, e6_55, e6_58, e6_59, e6_60, e6_63, e6_64, e6_65, e6_66, e6_67, e6_68, e6_69, e6_70, e6_73, e6_76, e6_80, e6_81, e6_84, e6_87, e6_88, e6_91, e6_92, e6_95, e6_98, e6_99, e6_100, e6_101, e6_102, e6_103, e6_106, e6_107, e6_110, e6_113, e6_115, e6_116, e6_119, e6_121, e6_124, e6_126, e6_127, e6_130, e6_133, e6_134, e6_135, e6_138, e6_139, e6_141, e6_144, am_k_some, va_rf_some, va_rf_none, tl_some, tl_none, am_clr_int, am_clr_ref, am_clr_none, am_clr_long, am_w_nil, am_w_int, am_w_ref, am_w_long, am_w_null, am_bb_0, am_bb_1, am_bb_bI, xK_sI, xR_sI, xS_sI, xN_sI, xK_sL, xR_sL, xS_sL, xN_sL, xK_sR, xR_sR, xS_sR, xN_sR, xK_sA, xR_sA, xS_sA, xN_sA, Nat.reduceAdd, Nat.reduceLeDiff, sI_sA, I_sA', sA_sA, I_sA, I_sA', nI_add, mul_nI, bI_0, bI_1, kg, k.k, k.r0, k.k0, kl.k, kl.r3, kl.k3, kl.r8, kl.k8, ix_nI, cl_nI, lt_nI, eq_nI, sub_nI, Nat.reduceEqDiff, Nat.one_ne_zero, Nat.not_lt_zero, ↓reduceIte, v6, hin, e8, g2, u1]
      · unfold efA
        rw [if_pos ht, m1, if_pos u1]
    · rw [m1] at g2
      rw [m2] at g3
      have za : ¬ a < 0 := by omega
      have hd0 : ¬ deS S i (nI 0) x < nI 0 := by rw [m2, lt_nI (by omega) (by omega)]; omega
      have i0 := ic0 hl hb m2 m5
      have i1 := ic1 hl (by omega) m3 m4
      have n0 := hi0 W.nm W.ln W.c hi hb m2
      have n1 := hi1 W.nm W.ln W.c hi (by omega) m3 m4
      have ef := efA_ic ht hd0 _ _ i0 i1
      have q0 : cntR (stB S i x) 0 b ≤ b := cntR_le _ _ _
      have q1 : cntR (stB S i x) a (ln S i - a) ≤ ln S i - a := cntR_le _ _ _
      have o0 := sp_16 (d := d + 2) (e := nI 0) (m := sA m g (up1 F8 0 (-2))) (o := o) k
      rw [I_sA' _ _ (by omega), v7 ht, op_eq hends (Or.inl rfl)] at o0
      have b0 : ∃ b', b' < ln S i ∧ deS S i (nI 0) x = nI b' ∧ (if nI 0 = nI 0 then nI b = nI b' else nI a = nI (ln S i - 1 - b')) := ⟨b, hb, m2, by rw [if_pos rfl]⟩
      have b1 : ∃ b', b' < ln S i ∧ deS S i (nI 1) x = nI b' ∧ (if nI 1 = nI 0 then nI b = nI b' else nI a = nI (ln S i - 1 - b')) := ⟨ln S i - 1 - a, by omega, m3, by rw [if_neg (by decide)]; congr 1; omega⟩
      by_cases c0 : opS S i (nI 0) = true ∧ nI b < fcR (ckP S i) (ln S i) (ln S i)
      · have ct := sp_9 (d := d + 1) (a := 0) (b := b) (x := x) (m := sA m g (up1 (up1 F8 0 (-2)) 0 (nI 0))) kg (h.sA h1 h2) W.nm W.c.ok hi (by omega) (by omega) (by omega)
        rw [Nat.sub_zero] at ct
        obtain ⟨c01, c02⟩ := c0
        rw [c01] at o0
        have tl := sp_6_t (d := d) (a := a) (x := x) (x4 := none) (F := up1 (up1 (up1 F8 0 (-2)) 0 (nI 0)) 1 (nI (cntR (stB S i x) 0 b))) kg h h1 h2 W hi ht (by omega) (by rw [up1_at, if_neg (by omega), up1_at, if_neg (by omega), up1_at, if_neg (by omega), g2]) (by rw [up1_at, if_neg (by omega), up1_at, if_neg (by omega), up1_at, if_neg (by omega), g5])
        refine ⟨_, Eq.trans ?_ tl, ?_⟩
        · have f3 : up1 F8 0 (-2) 3 = nI b := by rw [up1_at, if_neg (by omega), g3]
          have f4 : up1 F8 0 (-2) 4 = fcR (ckP S i) (ln S i) (ln S i) := by rw [up1_at, if_neg (by omega), g4]
          have f3' : up1 (up1 F8 0 (-2)) 0 (nI 0) 3 = nI b := by rw [up1_at, if_neg (by omega), f3]
          simp (disch := first | (simp (disch := omega) only [am_k_some, va_rf_some, va_rf_none, tl_some, tl_none, am_clr_int, am_clr_ref, am_clr_none, am_clr_long, am_w_nil, am_w_int, am_w_ref, am_w_long, am_w_null, am_bb_0, am_bb_1, am_bb_bI, xK_sI, xR_sI, xS_sI, xN_sI, xK_sL, xR_sL, xS_sL, xN_sL, xK_sR, xR_sR, xS_sR, xN_sR, xK_sA, xR_sA, xS_sA, xN_sA, Nat.reduceAdd, Nat.reduceLeDiff, sI_sA, I_sA', sA_sA, I_sA, I_sA', nI_add, mul_nI, bI_0, bI_1, kg, k.k, k.r0, k.k0, kl.k, kl.r3, kl.k3, kl.r8, kl.k8, LaK_sA, LoK_sA, ix_nI, cl_nI]; done) | omega | assumption) only [c6, e6_0, e6_1, e6_2, e6_5, e6_6, e6_7, e6_10, e6_11, e6_14, e6_17, e6_18, e6_19, e6_20, e6_21, e6_22, e6_25, e6_26, e6_29, e6_32, e6_33, e6_34, e6_36, e6_39, e6_40, e6_41, e6_44, e6_47, e6_48, e6_51, e6_52, e6_55, e6_58, e6_59, e6_60, e6_63, e6_64, e6_65, e6_66, e6_67, e6_68, e6_69, e6_70, e6_73, e6_76, e6_80, e6_81, e6_84, e6_87, e6_88, e6_91, e6_92, e6_95, e6_98, e6_99, e6_100, e6_101, e6_102, e6_103, e6_106, e6_107, e6_110, e6_113, e6_115, e6_116, e6_119, e6_121, e6_124, e6_126, e6_127, e6_130, e6_133, e6_134, e6_135, e6_138, e6_139, e6_141, e6_144, am_k_some, va_rf_some, va_rf_none, tl_some, tl_none, am_clr_int, am_clr_ref, am_clr_none, am_clr_long, am_w_nil, am_w_int, am_w_ref, am_w_long, am_w_null, am_bb_0, am_bb_1, am_bb_bI, xK_sI, xR_sI, xS_sI, xN_sI, xK_sL, xR_sL, xS_sL, xN_sL, xK_sR, xR_sR, xS_sR, xN_sR, xK_sA, xR_sA, xS_sA, xN_sA, Nat.reduceAdd, Nat.reduceLeDiff, sI_sA, I_sA', sA_sA, I_sA, I_sA', nI_add, mul_nI, bI_0, bI_1, kg, k.k, k.r0, k.k0, kl.k, kl.r3, kl.k3, kl.r8, kl.k8, ix_nI, cl_nI, lt_nI, eq_nI, sub_nI, Nat.reduceEqDiff, Nat.one_ne_zero, Nat.not_lt_zero, ↓reduceIte, k1, k2, k3, k4, k5, k6, k7, k8, k9, n10, n01, if_true, if_false, decide_true, decide_false, Bool.true_eq_false, Bool.false_eq_true, not_true_eq_false, not_false_eq_true, and_true, true_and, and_false, false_and, v6, hin, e8, g2, za, o0, f3, f4, c02, f3', ct]
        · have u0 : up1 (up1 (up1 F8 0 (-2)) 0 (nI 0)) 1 (nI (cntR (stB S i x) 0 b)) 0 = nI 0 := by simp [up1]
          have u1' : up1 (up1 (up1 F8 0 (-2)) 0 (nI 0)) 1 (nI (cntR (stB S i x) 0 b)) 1 = nI (cntR (stB S i x) 0 b) := by simp [up1]
          have ne2 : ¬ nI 0 = -2 := by decide
          rw [u0, u1']
          have hlt := lt_nI (a := cntR (stB S i x) a (ln S i - a)) (b := cntR (stB S i x) 0 b) (by omega) (by omega)
          rw [c01, decide_eq_true c02, Bool.and_self, if_pos rfl] at ef
          right; right
          by_cases c1 : opS S i (nI 1) = true ∧ lastR (ckP S i) (ln S i) < nI a
          · obtain ⟨c11, c12⟩ := c1
            rw [c11, decide_eq_true c12, Bool.and_self, if_pos rfl, n0, n1] at ef
            by_cases c3 : cntR (stB S i x) a (ln S i - a) < cntR (stB S i x) 0 b
            · rw [if_pos c3] at ef
              rw [if_pos ⟨c11, c12, Or.inr (by rw [hlt]; exact c3)⟩]
              refine ⟨nI 1, Or.inr rfl, ef, by simp [up1], by rw [n1]; simp [up1], ht, ?_⟩
              obtain ⟨b', p1, p2, p3⟩ := b1
              refine ⟨b', p1, p2, ?_⟩
              rw [if_neg (by decide)] at p3 ⊢
              rw [← p3]
              simp [up1, g2]
            · rw [if_neg c3] at ef
              rw [if_neg (fun q => by
                rcases q with ⟨-, -, q | q⟩
                · exact ne2 q
                · rw [hlt] at q; exact c3 q)]
              refine ⟨nI 0, Or.inl rfl, ef, by simp [up1], by rw [n0]; simp [up1], ht, ?_⟩
              obtain ⟨b', p1, p2, p3⟩ := b0
              refine ⟨b', p1, p2, ?_⟩
              rw [if_pos rfl] at p3 ⊢
              rw [← p3]
              simp [up1, g3]
          · have z1 : (opS S i (nI 1) && decide (lastR (ckP S i) (ln S i) < nI a)) = false := by
              rw [Bool.and_eq_false_iff]
              by_cases q : opS S i (nI 1) = true
              · right; exact decide_eq_false (fun q2 => c1 ⟨q, q2⟩)
              · left; simpa using q
            rw [z1, if_neg (by decide)] at ef
            rw [if_neg (fun q => c1 ⟨q.1, q.2.1⟩)]
            refine ⟨nI 0, Or.inl rfl, ef, by simp [up1], by rw [n0]; simp [up1], ht, ?_⟩
            obtain ⟨b', p1, p2, p3⟩ := b0
            refine ⟨b', p1, p2, ?_⟩
            rw [if_pos rfl] at p3 ⊢
            rw [← p3]
            simp [up1, g3]
      · have tl := sp_6_t (d := d) (a := a) (x := x) (x4 := none) (F := up1 F8 0 (-2)) kg h h1 h2 W hi ht (by omega) (by rw [up1_at, if_neg (by omega), g2]) (by rw [up1_at, if_neg (by omega), g5])
        have z0 : (opS S i (nI 0) && decide (nI b < fcR (ckP S i) (ln S i) (ln S i))) = false := by
          rw [Bool.and_eq_false_iff]
          by_cases q : opS S i (nI 0) = true
          · right; exact decide_eq_false (fun q2 => c0 ⟨q, q2⟩)
          · left; simpa using q
        refine ⟨_, Eq.trans ?_ tl, ?_⟩
        · have f3 : up1 F8 0 (-2) 3 = nI b := by rw [up1_at, if_neg (by omega), g3]
          have f4 : up1 F8 0 (-2) 4 = fcR (ckP S i) (ln S i) (ln S i) := by rw [up1_at, if_neg (by omega), g4]
          cases c01 : opS S i (nI 0) with
          | false =>
            rw [c01] at o0
            simp (disch := first | (simp (disch := omega) only [am_k_some, va_rf_some, va_rf_none, tl_some, tl_none, am_clr_int, am_clr_ref, am_clr_none, am_clr_long, am_w_nil, am_w_int, am_w_ref, am_w_long, am_w_null, am_bb_0, am_bb_1, am_bb_bI, xK_sI, xR_sI, xS_sI, xN_sI, xK_sL, xR_sL, xS_sL, xN_sL, xK_sR, xR_sR, xS_sR, xN_sR, xK_sA, xR_sA, xS_sA, xN_sA, Nat.reduceAdd, Nat.reduceLeDiff, sI_sA, I_sA', sA_sA, I_sA, I_sA', nI_add, mul_nI, bI_0, bI_1, kg, k.k, k.r0, k.k0, kl.k, kl.r3, kl.k3, kl.r8, kl.k8, LaK_sA, LoK_sA, ix_nI, cl_nI]; done) | omega | assumption) only [c6, e6_0, e6_1, e6_2, e6_5, e6_6, e6_7, e6_10, e6_11, e6_14, e6_17, e6_18, e6_19, e6_20, e6_21, e6_22, e6_25, e6_26, e6_29, e6_32, e6_33, e6_34, e6_36, e6_39, e6_40, e6_41, e6_44, e6_47, e6_48, e6_51, e6_52, e6_55, e6_58, e6_59, e6_60, e6_63, e6_64, e6_65, e6_66, e6_67, e6_68, e6_69, e6_70, e6_73, e6_76, e6_80, e6_81, e6_84, e6_87, e6_88, e6_91, e6_92, e6_95, e6_98, e6_99, e6_100, e6_101, e6_102, e6_103, e6_106, e6_107, e6_110, e6_113, e6_115, e6_116, e6_119, e6_121, e6_124, e6_126, e6_127, e6_130, e6_133, e6_134, e6_135, e6_138, e6_139, e6_141, e6_144, am_k_some, va_rf_some, va_rf_none, tl_some, tl_none, am_clr_int, am_clr_ref, am_clr_none, am_clr_long, am_w_nil, am_w_int, am_w_ref, am_w_long, am_w_null, am_bb_0, am_bb_1, am_bb_bI, xK_sI, xR_sI, xS_sI, xN_sI, xK_sL, xR_sL, xS_sL, xN_sL, xK_sR, xR_sR, xS_sR, xN_sR, xK_sA, xR_sA, xS_sA, xN_sA, Nat.reduceAdd, Nat.reduceLeDiff, sI_sA, I_sA', sA_sA, I_sA, I_sA', nI_add, mul_nI, bI_0, bI_1, kg, k.k, k.r0, k.k0, kl.k, kl.r3, kl.k3, kl.r8, kl.k8, ix_nI, cl_nI, lt_nI, eq_nI, sub_nI, Nat.reduceEqDiff, Nat.one_ne_zero, Nat.not_lt_zero, ↓reduceIte, k1, k2, k3, k4, k5, k6, k7, k8, k9, n10, n01, if_true, if_false, decide_true, decide_false, Bool.true_eq_false, Bool.false_eq_true, not_true_eq_false, not_false_eq_true, and_true, true_and, and_false, false_and, v6, hin, e8, g2, za, o0]
          | true =>
            rw [c01] at o0
            have c02 : ¬ nI b < fcR (ckP S i) (ln S i) (ln S i) := fun q => c0 ⟨c01, q⟩
            simp (disch := first | (simp (disch := omega) only [am_k_some, va_rf_some, va_rf_none, tl_some, tl_none, am_clr_int, am_clr_ref, am_clr_none, am_clr_long, am_w_nil, am_w_int, am_w_ref, am_w_long, am_w_null, am_bb_0, am_bb_1, am_bb_bI, xK_sI, xR_sI, xS_sI, xN_sI, xK_sL, xR_sL, xS_sL, xN_sL, xK_sR, xR_sR, xS_sR, xN_sR, xK_sA, xR_sA, xS_sA, xN_sA, Nat.reduceAdd, Nat.reduceLeDiff, sI_sA, I_sA', sA_sA, I_sA, I_sA', nI_add, mul_nI, bI_0, bI_1, kg, k.k, k.r0, k.k0, kl.k, kl.r3, kl.k3, kl.r8, kl.k8, LaK_sA, LoK_sA, ix_nI, cl_nI]; done) | omega | assumption) only [c6, e6_0, e6_1, e6_2, e6_5, e6_6, e6_7, e6_10, e6_11, e6_14, e6_17, e6_18, e6_19, e6_20, e6_21, e6_22, e6_25, e6_26, e6_29, e6_32, e6_33, e6_34, e6_36, e6_39, e6_40, e6_41, e6_44, e6_47, e6_48, e6_51, e6_52, e6_55, e6_58, e6_59, e6_60, e6_63, e6_64, e6_65, e6_66, e6_67, e6_68, e6_69, e6_70, e6_73, e6_76, e6_80, e6_81, e6_84, e6_87, e6_88, e6_91, e6_92, e6_95, e6_98, e6_99, e6_100, e6_101, e6_102, e6_103, e6_106, e6_107, e6_110, e6_113, e6_115, e6_116, e6_119, e6_121, e6_124, e6_126, e6_127, e6_130, e6_133, e6_134, e6_135, e6_138, e6_139, e6_141, e6_144, am_k_some, va_rf_some, va_rf_none, tl_some, tl_none, am_clr_int, am_clr_ref, am_clr_none, am_clr_long, am_w_nil, am_w_int, am_w_ref, am_w_long, am_w_null, am_bb_0, am_bb_1, am_bb_bI, xK_sI, xR_sI, xS_sI, xN_sI, xK_sL, xR_sL, xS_sL, xN_sL, xK_sR, xR_sR, xS_sR, xN_sR, xK_sA, xR_sA, xS_sA, xN_sA, Nat.reduceAdd, Nat.reduceLeDiff, sI_sA, I_sA', sA_sA, I_sA, I_sA', nI_add, mul_nI, bI_0, bI_1, kg, k.k, k.r0, k.k0, kl.k, kl.r3, kl.k3, kl.r8, kl.k8, ix_nI, cl_nI, lt_nI, eq_nI, sub_nI, Nat.reduceEqDiff, Nat.one_ne_zero, Nat.not_lt_zero, ↓reduceIte, k1, k2, k3, k4, k5, k6, k7, k8, k9, n10, n01, if_true, if_false, decide_true, decide_false, Bool.true_eq_false, Bool.false_eq_true, not_true_eq_false, not_false_eq_true, and_true, true_and, and_false, false_and, v6, hin, e8, g2, za, o0, f3, f4, c02]
        · have u0 : up1 F8 0 (-2) 0 = -2 := by simp [up1]
          rw [u0]
          rw [z0, if_neg (by decide)] at ef
          by_cases c1 : opS S i (nI 1) = true ∧ lastR (ckP S i) (ln S i) < nI a
          · obtain ⟨c11, c12⟩ := c1
            rw [c11, decide_eq_true c12, Bool.and_self, if_pos rfl] at ef
            rw [if_pos ⟨c11, c12, Or.inl rfl⟩]
            right; right
            refine ⟨nI 1, Or.inr rfl, ef, by simp [up1], by rw [n1]; simp [up1], ht, ?_⟩
            obtain ⟨b', p1, p2, p3⟩ := b1
            refine ⟨b', p1, p2, ?_⟩
            rw [if_neg (by decide)] at p3 ⊢
            rw [← p3]
            simp [up1, g2]
          · have z1 : (opS S i (nI 1) && decide (lastR (ckP S i) (ln S i) < nI a)) = false := by
              rw [Bool.and_eq_false_iff]
              by_cases q : opS S i (nI 1) = true
              · right; exact decide_eq_false (fun q2 => c1 ⟨q, q2⟩)
              · left; simpa using q
            rw [z1, if_neg (by decide)] at ef
            rw [if_neg (fun q => c1 ⟨q.1, q.2.1⟩)]
            right; left
            exact ⟨ef, by simp [up1], by simp [up1, g1]⟩
