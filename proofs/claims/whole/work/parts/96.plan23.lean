/-! THE PLANNER, 23: the class: search goes through the search -/
section SA
variable {o a : Nat} {S : Nat → Int32} {L : Int64} {n dl : Nat} {th dk : Nat → Nat} {pi : Nat → Nat}
theorem fld_6 (H : PlH S n dl th dk) {t j : Nat} {P : List (Nat × Nat)} (b : Bst) : fld (stp S L n dl th dk t P) 6 (6 * j) b = fld (stp S L n dl th dk t P) n (6 * j) b := by
  have n6 := H.n6
  obtain ⟨u, hu⟩ : ∃ u, 6 = n + u := ⟨6 - n, by omega⟩
  have : fld (stp S L n dl th dk t P) (n + u) (6 * j) b = fld (stp S L n dl th dk t P) n (6 * j) b := by
    rw [fld_add]
    refine fld_id _ _ (fun x x1 x2 => ?_)
    unfold stp okB
    rw [decide_eq_false (show ¬ x % 6 < n by omega)]
    rfl
  rw [← hu] at this
  exact this
theorem ex_next (H : PlH S n dl th dk) {j : Nat} {P : List (Nat × Nat)} (V : Vd S n dl th dk P) (hj : j < dl) (b : Bst) : exA S L n dl th dk (n - P.length) P j b = if P.length = n then jdP S L n dl th dk P b else (if j + 1 < dl then exA S L n dl th dk (n - P.length) P (j + 1) (fld (stp S L n dl th dk (n - P.length - 1) P) n (6 * j) b) else fld (stp S L n dl th dk (n - P.length - 1) P) n (6 * j) b) := by
  have vl := V.len
  by_cases e : P.length = n
  · rw [if_pos e, show n - P.length = 0 by omega]
    rfl
  · rw [if_neg e]
    obtain ⟨t, ht⟩ : ∃ t, n - P.length = t + 1 := ⟨n - P.length - 1, by omega⟩
    rw [ht, Nat.add_sub_cancel]
    have step : exA S L n dl th dk (t + 1) P j b = fld (stp S L n dl th dk t P) (6 * dl - 6 * j) (6 * j) b := rfl
    rw [step]
    by_cases c : j + 1 < dl
    · rw [if_pos c, show 6 * dl - 6 * j = 6 + (6 * dl - 6 * (j + 1)) by omega, fld_add, fld_6 H, show 6 * j + 6 = 6 * (j + 1) by omega]
      rfl
    · rw [if_neg c, show 6 * dl - 6 * j = 6 by omega, fld_6 H]
theorem fld_full (H : PlH S n dl th dk) {t j : Nat} {P : List (Nat × Nat)} (V : Vd S n dl th dk P) (hl : P.length = n) (b : Bst) : fld (stp S L n dl th dk t P) n (6 * j) b = b := by
  have n6 := H.n6
  refine fld_id _ _ (fun x x1 x2 => ?_)
  unfold stp okB
  rw [V.all hl (show x % 6 < n by omega)]
  simp
/-- one node, from its children -/
theorem sr_node {d j : Nat} {P : List (Nat × Nat)} (H : PlH S n dl th dk) (ha : a + 66 ≤ o) (hL : LmOk L) (V : Vd S n dl th dk P) (hl : ∀ x, x ∈ P → x.2 ≤ j) (hj : j < dl) (ih1 : ∀ x, x < n → Vd S n dl th dk ((x, j) :: P) → SrC o a S L n dl th dk pi (d + 4) ((x, j) :: P) j) (ih2 : j + 1 < dl → SrC o a S L n dl th dk pi (d + 4) P (j + 1)) : SrC o a S L n dl th dk pi (d + 5) P j := by
  have n6 := H.n6
  have d3 := H.d3
  have vl := V.len
  intro m b C D hb ok fp
  have PR : (prB S n th dk P j b ∧ cal (d + 5) 44 [.ref o, .int (nI j), .int (nI P.length), .int (nI (csP S th dk P j))] m = some (none, m)) ∨ cal (d + 5) 44 [.ref o, .int (nI j), .int (nI P.length), .int (nI (csP S th dk P j))] m = ev (d + 5) 44 25 [some (.ref o), some (.int (nI j)), some (.int (nI P.length)), some (.int (nI (csP S th dk P j))), none] [] m := by
    have p := C.p; have rs := C.rs; have k := C.sk; have ko := k.lo
    have hc := hb.c
    have cs := cs_lt H V (show j ≤ dl by omega)
    rcases b with _ | ⟨c, bl, bp⟩
    · change mI m o 11 = nI 2147483647 at hc
      right
      have z1 : ¬ 2147483647 < csP S th dk P j := by omega
      have z2 : ¬ csP S th dk P j = 2147483647 := by omega
      generalize csP S th dk P j = cc at *
      simp (disch := first | (simp (disch := omega) only [am_k_some, va_rf_some, va_rf_none, tl_some, tl_none, am_clr_int, am_clr_ref, am_clr_none, am_clr_long, am_w_nil, am_w_int, am_w_ref, am_w_long, am_w_null, am_bb_0, am_bb_1, am_bb_bI, xK_sI, xR_sI, xS_sI, xN_sI, xK_sL, xR_sL, xS_sL, xN_sL, xK_sR, xR_sR, xS_sR, xN_sR, xK_sA, xR_sA, xS_sA, xN_sA, Nat.reduceAdd, Nat.reduceLeDiff, sI_sA, I_sA', sA_sA, I_sA, I_sA', nI_add, mul_nI, bI_0, bI_1, p.k, rs, p.r1, p.k1, p.r2, p.k2, p.r3, p.k3, p.r4, p.k4, p.r5, p.k5, p.r6, p.k6, p.r7, p.k7, p.r8, p.k8, k.k, k.r0, k.k0, k.rl, k.r1, k.r3, ko.k, ko.r0, ko.k0, ko.r1, ko.k1, ko.r2, ko.k2, ko.r3, ko.k3, ko.r4, ko.k4, ix_nI, cl_nI]; done) | omega | assumption) only [c44, e44_0, e44_1, e44_2, e44_5, e44_8, e44_9, e44_10, e44_13, e44_16, e44_17, e44_18, e44_21, e44_24, e44_26, e44_30, e44_31, e44_34, e44_37, e44_38, e44_41, e44_43, e44_44, e44_45, e44_48, e44_49, e44_51, e44_52, e44_53, e44_56, e44_59, e44_60, e44_62, e44_63, e44_64, e44_67, e44_68, e44_69, e44_70, e44_71, e44_72, e44_73, e44_76, e44_77, e44_80, e44_81, e44_82, e44_83, e44_84, e44_86, e44_89, e44_92, e44_93, e44_94, e44_95, e44_98, e44_100, e44_101, e44_102, e44_105, e44_109, e44_110, e44_111, e44_112, e44_115, e44_118, e44_119, e44_122, e44_123, e44_124, e44_125, e44_126, e44_127, e44_128, e44_129, e44_130, e44_131, e44_132, e44_133, e44_134, e44_135, e44_136, e44_139, e44_140, e44_143, e44_146, e44_147, e44_148, e44_151, e44_154, e44_155, e44_156, e44_157, e44_158, e44_159, e44_162, e44_163, e44_166, am_k_some, va_rf_some, va_rf_none, tl_some, tl_none, am_clr_int, am_clr_ref, am_clr_none, am_clr_long, am_w_nil, am_w_int, am_w_ref, am_w_long, am_w_null, am_bb_0, am_bb_1, am_bb_bI, xK_sI, xR_sI, xS_sI, xN_sI, xK_sL, xR_sL, xS_sL, xN_sL, xK_sR, xR_sR, xS_sR, xN_sR, xK_sA, xR_sA, xS_sA, xN_sA, Nat.reduceAdd, Nat.reduceLeDiff, sI_sA, I_sA', sA_sA, I_sA, I_sA', nI_add, mul_nI, bI_0, bI_1, p.k, rs, p.r1, p.k1, p.r2, p.k2, p.r3, p.k3, p.r4, p.k4, p.r5, p.k5, p.r6, p.k6, p.r7, p.k7, p.r8, p.k8, k.k, k.r0, k.k0, k.rl, k.r1, k.r3, ko.k, ko.r0, ko.k0, ko.r1, ko.k1, ko.r2, ko.k2, ko.r3, ko.k3, ko.r4, ko.k4, ix_nI, cl_nI, lt_nI, eq_nI, sub_nI, Nat.reduceEqDiff, Nat.one_ne_zero, Nat.not_lt_zero, ↓reduceIte, hc, z1, z2]
    · change mI m o 11 = nI c at hc
      obtain ⟨c3, -⟩ : c < 1000 ∧ ∀ k, k < n → bl k < 20 ∧ bp k < 40 := id ok
      have cb := sp_54 (d := d + 4) C H V D hj hb ok
      by_cases e1 : c < csP S th dk P j
      · left
        refine ⟨Or.inl e1, ?_⟩
        generalize csP S th dk P j = cc at *
        simp (disch := first | (simp (disch := omega) only [am_k_some, va_rf_some, va_rf_none, tl_some, tl_none, am_clr_int, am_clr_ref, am_clr_none, am_clr_long, am_w_nil, am_w_int, am_w_ref, am_w_long, am_w_null, am_bb_0, am_bb_1, am_bb_bI, xK_sI, xR_sI, xS_sI, xN_sI, xK_sL, xR_sL, xS_sL, xN_sL, xK_sR, xR_sR, xS_sR, xN_sR, xK_sA, xR_sA, xS_sA, xN_sA, Nat.reduceAdd, Nat.reduceLeDiff, sI_sA, I_sA', sA_sA, I_sA, I_sA', nI_add, mul_nI, bI_0, bI_1, p.k, rs, p.r1, p.k1, p.r2, p.k2, p.r3, p.k3, p.r4, p.k4, p.r5, p.k5, p.r6, p.k6, p.r7, p.k7, p.r8, p.k8, k.k, k.r0, k.k0, k.rl, k.r1, k.r3, ko.k, ko.r0, ko.k0, ko.r1, ko.k1, ko.r2, ko.k2, ko.r3, ko.k3, ko.r4, ko.k4, ix_nI, cl_nI]; done) | omega | assumption) only [c44, e44_0, e44_1, e44_2, e44_5, e44_8, e44_9, e44_10, e44_13, e44_16, e44_17, e44_18, e44_21, e44_24, e44_26, e44_30, e44_31, e44_34, e44_37, e44_38, e44_41, e44_43, e44_44, e44_45, e44_48, e44_49, e44_51, e44_52, e44_53, e44_56, e44_59, e44_60, e44_62, e44_63, e44_64, e44_67, e44_68, e44_69, e44_70, e44_71, e44_72, e44_73, e44_76, e44_77, e44_80, e44_81, e44_82, e44_83, e44_84, e44_86, e44_89, e44_92, e44_93, e44_94, e44_95, e44_98, e44_100, e44_101, e44_102, e44_105, e44_109, e44_110, e44_111, e44_112, e44_115, e44_118, e44_119, e44_122, e44_123, e44_124, e44_125, e44_126, e44_127, e44_128, e44_129, e44_130, e44_131, e44_132, e44_133, e44_134, e44_135, e44_136, e44_139, e44_140, e44_143, e44_146, e44_147, e44_148, e44_151, e44_154, e44_155, e44_156, e44_157, e44_158, e44_159, e44_162, e44_163, e44_166, am_k_some, va_rf_some, va_rf_none, tl_some, tl_none, am_clr_int, am_clr_ref, am_clr_none, am_clr_long, am_w_nil, am_w_int, am_w_ref, am_w_long, am_w_null, am_bb_0, am_bb_1, am_bb_bI, xK_sI, xR_sI, xS_sI, xN_sI, xK_sL, xR_sL, xS_sL, xN_sL, xK_sR, xR_sR, xS_sR, xN_sR, xK_sA, xR_sA, xS_sA, xN_sA, Nat.reduceAdd, Nat.reduceLeDiff, sI_sA, I_sA', sA_sA, I_sA, I_sA', nI_add, mul_nI, bI_0, bI_1, p.k, rs, p.r1, p.k1, p.r2, p.k2, p.r3, p.k3, p.r4, p.k4, p.r5, p.k5, p.r6, p.k6, p.r7, p.k7, p.r8, p.k8, k.k, k.r0, k.k0, k.rl, k.r1, k.r3, ko.k, ko.r0, ko.k0, ko.r1, ko.k1, ko.r2, ko.k2, ko.r3, ko.k3, ko.r4, ko.k4, ix_nI, cl_nI, lt_nI, eq_nI, sub_nI, Nat.reduceEqDiff, Nat.one_ne_zero, Nat.not_lt_zero, ↓reduceIte, hc, e1]
      · by_cases e2 : csP S th dk P j = c
        · cases hw : lowR S th dk P j bl bp n 0 with
          | false =>
            left
            refine ⟨Or.inr ⟨e2, hw⟩, ?_⟩
            rw [hw, bI_f] at cb
            rw [e2] at e1 ⊢
            simp (disch := first | (simp (disch := omega) only [am_k_some, va_rf_some, va_rf_none, tl_some, tl_none, am_clr_int, am_clr_ref, am_clr_none, am_clr_long, am_w_nil, am_w_int, am_w_ref, am_w_long, am_w_null, am_bb_0, am_bb_1, am_bb_bI, xK_sI, xR_sI, xS_sI, xN_sI, xK_sL, xR_sL, xS_sL, xN_sL, xK_sR, xR_sR, xS_sR, xN_sR, xK_sA, xR_sA, xS_sA, xN_sA, Nat.reduceAdd, Nat.reduceLeDiff, sI_sA, I_sA', sA_sA, I_sA, I_sA', nI_add, mul_nI, bI_0, bI_1, p.k, rs, p.r1, p.k1, p.r2, p.k2, p.r3, p.k3, p.r4, p.k4, p.r5, p.k5, p.r6, p.k6, p.r7, p.k7, p.r8, p.k8, k.k, k.r0, k.k0, k.rl, k.r1, k.r3, ko.k, ko.r0, ko.k0, ko.r1, ko.k1, ko.r2, ko.k2, ko.r3, ko.k3, ko.r4, ko.k4, ix_nI, cl_nI]; done) | omega | assumption) only [c44, e44_0, e44_1, e44_2, e44_5, e44_8, e44_9, e44_10, e44_13, e44_16, e44_17, e44_18, e44_21, e44_24, e44_26, e44_30, e44_31, e44_34, e44_37, e44_38, e44_41, e44_43, e44_44, e44_45, e44_48, e44_49, e44_51, e44_52, e44_53, e44_56, e44_59, e44_60, e44_62, e44_63, e44_64, e44_67, e44_68, e44_69, e44_70, e44_71, e44_72, e44_73, e44_76, e44_77, e44_80, e44_81, e44_82, e44_83, e44_84, e44_86, e44_89, e44_92, e44_93, e44_94, e44_95, e44_98, e44_100, e44_101, e44_102, e44_105, e44_109, e44_110, e44_111, e44_112, e44_115, e44_118, e44_119, e44_122, e44_123, e44_124, e44_125, e44_126, e44_127, e44_128, e44_129, e44_130, e44_131, e44_132, e44_133, e44_134, e44_135, e44_136, e44_139, e44_140, e44_143, e44_146, e44_147, e44_148, e44_151, e44_154, e44_155, e44_156, e44_157, e44_158, e44_159, e44_162, e44_163, e44_166, am_k_some, va_rf_some, va_rf_none, tl_some, tl_none, am_clr_int, am_clr_ref, am_clr_none, am_clr_long, am_w_nil, am_w_int, am_w_ref, am_w_long, am_w_null, am_bb_0, am_bb_1, am_bb_bI, xK_sI, xR_sI, xS_sI, xN_sI, xK_sL, xR_sL, xS_sL, xN_sL, xK_sR, xR_sR, xS_sR, xN_sR, xK_sA, xR_sA, xS_sA, xN_sA, Nat.reduceAdd, Nat.reduceLeDiff, sI_sA, I_sA', sA_sA, I_sA, I_sA', nI_add, mul_nI, bI_0, bI_1, p.k, rs, p.r1, p.k1, p.r2, p.k2, p.r3, p.k3, p.r4, p.k4, p.r5, p.k5, p.r6, p.k6, p.r7, p.k7, p.r8, p.k8, k.k, k.r0, k.k0, k.rl, k.r1, k.r3, ko.k, ko.r0, ko.k0, ko.r1, ko.k1, ko.r2, ko.k2, ko.r3, ko.k3, ko.r4, ko.k4, ix_nI, cl_nI, lt_nI, eq_nI, sub_nI, Nat.reduceEqDiff, Nat.one_ne_zero, Nat.not_lt_zero, ↓reduceIte, hc, e1, cb]
          | true =>
            right
            rw [hw, bI_t] at cb
            rw [e2] at e1 ⊢
            simp (disch := first | (simp (disch := omega) only [am_k_some, va_rf_some, va_rf_none, tl_some, tl_none, am_clr_int, am_clr_ref, am_clr_none, am_clr_long, am_w_nil, am_w_int, am_w_ref, am_w_long, am_w_null, am_bb_0, am_bb_1, am_bb_bI, xK_sI, xR_sI, xS_sI, xN_sI, xK_sL, xR_sL, xS_sL, xN_sL, xK_sR, xR_sR, xS_sR, xN_sR, xK_sA, xR_sA, xS_sA, xN_sA, Nat.reduceAdd, Nat.reduceLeDiff, sI_sA, I_sA', sA_sA, I_sA, I_sA', nI_add, mul_nI, bI_0, bI_1, p.k, rs, p.r1, p.k1, p.r2, p.k2, p.r3, p.k3, p.r4, p.k4, p.r5, p.k5, p.r6, p.k6, p.r7, p.k7, p.r8, p.k8, k.k, k.r0, k.k0, k.rl, k.r1, k.r3, ko.k, ko.r0, ko.k0, ko.r1, ko.k1, ko.r2, ko.k2, ko.r3, ko.k3, ko.r4, ko.k4, ix_nI, cl_nI]; done) | omega | assumption) only [c44, e44_0, e44_1, e44_2, e44_5, e44_8, e44_9, e44_10, e44_13, e44_16, e44_17, e44_18, e44_21, e44_24, e44_26, e44_30, e44_31, e44_34, e44_37, e44_38, e44_41, e44_43, e44_44, e44_45, e44_48, e44_49, e44_51, e44_52, e44_53, e44_56, e44_59, e44_60, e44_62, e44_63, e44_64, e44_67, e44_68, e44_69, e44_70, e44_71, e44_72, e44_73, e44_76, e44_77, e44_80, e44_81, e44_82, e44_83, e44_84, e44_86, e44_89, e44_92, e44_93, e44_94, e44_95, e44_98, e44_100, e44_101, e44_102, e44_105, e44_109, e44_110, e44_111, e44_112, e44_115, e44_118, e44_119, e44_122, e44_123, e44_124, e44_125, e44_126, e44_127, e44_128, e44_129, e44_130, e44_131, e44_132, e44_133, e44_134, e44_135, e44_136, e44_139, e44_140, e44_143, e44_146, e44_147, e44_148, e44_151, e44_154, e44_155, e44_156, e44_157, e44_158, e44_159, e44_162, e44_163, e44_166, am_k_some, va_rf_some, va_rf_none, tl_some, tl_none, am_clr_int, am_clr_ref, am_clr_none, am_clr_long, am_w_nil, am_w_int, am_w_ref, am_w_long, am_w_null, am_bb_0, am_bb_1, am_bb_bI, xK_sI, xR_sI, xS_sI, xN_sI, xK_sL, xR_sL, xS_sL, xN_sL, xK_sR, xR_sR, xS_sR, xN_sR, xK_sA, xR_sA, xS_sA, xN_sA, Nat.reduceAdd, Nat.reduceLeDiff, sI_sA, I_sA', sA_sA, I_sA, I_sA', nI_add, mul_nI, bI_0, bI_1, p.k, rs, p.r1, p.k1, p.r2, p.k2, p.r3, p.k3, p.r4, p.k4, p.r5, p.k5, p.r6, p.k6, p.r7, p.k7, p.r8, p.k8, k.k, k.r0, k.k0, k.rl, k.r1, k.r3, ko.k, ko.r0, ko.k0, ko.r1, ko.k1, ko.r2, ko.k2, ko.r3, ko.k3, ko.r4, ko.k4, ix_nI, cl_nI, lt_nI, eq_nI, sub_nI, Nat.reduceEqDiff, Nat.one_ne_zero, Nat.not_lt_zero, ↓reduceIte, hc, e1, cb]
        · right
          generalize csP S th dk P j = cc at *
          simp (disch := first | (simp (disch := omega) only [am_k_some, va_rf_some, va_rf_none, tl_some, tl_none, am_clr_int, am_clr_ref, am_clr_none, am_clr_long, am_w_nil, am_w_int, am_w_ref, am_w_long, am_w_null, am_bb_0, am_bb_1, am_bb_bI, xK_sI, xR_sI, xS_sI, xN_sI, xK_sL, xR_sL, xS_sL, xN_sL, xK_sR, xR_sR, xS_sR, xN_sR, xK_sA, xR_sA, xS_sA, xN_sA, Nat.reduceAdd, Nat.reduceLeDiff, sI_sA, I_sA', sA_sA, I_sA, I_sA', nI_add, mul_nI, bI_0, bI_1, p.k, rs, p.r1, p.k1, p.r2, p.k2, p.r3, p.k3, p.r4, p.k4, p.r5, p.k5, p.r6, p.k6, p.r7, p.k7, p.r8, p.k8, k.k, k.r0, k.k0, k.rl, k.r1, k.r3, ko.k, ko.r0, ko.k0, ko.r1, ko.k1, ko.r2, ko.k2, ko.r3, ko.k3, ko.r4, ko.k4, ix_nI, cl_nI]; done) | omega | assumption) only [c44, e44_0, e44_1, e44_2, e44_5, e44_8, e44_9, e44_10, e44_13, e44_16, e44_17, e44_18, e44_21, e44_24, e44_26, e44_30, e44_31, e44_34, e44_37, e44_38, e44_41, e44_43, e44_44, e44_45, e44_48, e44_49, e44_51, e44_52, e44_53, e44_56, e44_59, e44_60, e44_62, e44_63, e44_64, e44_67, e44_68, e44_69, e44_70, e44_71, e44_72, e44_73, e44_76, e44_77, e44_80, e44_81, e44_82, e44_83, e44_84, e44_86, e44_89, e44_92, e44_93, e44_94, e44_95, e44_98, e44_100, e44_101, e44_102, e44_105, e44_109, e44_110, e44_111, e44_112, e44_115, e44_118, e44_119, e44_122, e44_123, e44_124, e44_125, e44_126, e44_127, e44_128, e44_129, e44_130, e44_131, e44_132, e44_133, e44_134, e44_135, e44_136, e44_139, e44_140, e44_143, e44_146, e44_147, e44_148, e44_151, e44_154, e44_155, e44_156, e44_157, e44_158, e44_159, e44_162, e44_163, e44_166, am_k_some, va_rf_some, va_rf_none, tl_some, tl_none, am_clr_int, am_clr_ref, am_clr_none, am_clr_long, am_w_nil, am_w_int, am_w_ref, am_w_long, am_w_null, am_bb_0, am_bb_1, am_bb_bI, xK_sI, xR_sI, xS_sI, xN_sI, xK_sL, xR_sL, xS_sL, xN_sL, xK_sR, xR_sR, xS_sR, xN_sR, xK_sA, xR_sA, xS_sA, xN_sA, Nat.reduceAdd, Nat.reduceLeDiff, sI_sA, I_sA', sA_sA, I_sA, I_sA', nI_add, mul_nI, bI_0, bI_1, p.k, rs, p.r1, p.k1, p.r2, p.k2, p.r3, p.k3, p.r4, p.k4, p.r5, p.k5, p.r6, p.k6, p.r7, p.k7, p.r8, p.k8, k.k, k.r0, k.k0, k.rl, k.r1, k.r3, ko.k, ko.r0, ko.k0, ko.r1, ko.k1, ko.r2, ko.k2, ko.r3, ko.k3, ko.r4, ko.k4, ix_nI, cl_nI, lt_nI, eq_nI, sub_nI, Nat.reduceEqDiff, Nat.one_ne_zero, Nat.not_lt_zero, ↓reduceIte, hc, e1, e2]
  rcases PR with ⟨pr, e0⟩ | e0
  · refine ⟨m, e0, FqC.refl o a m, D, ?_⟩
    rw [pr_ex H (n - P.length) V hl hj (by omega) pr]
    exact hb
  have X0 : ev (d + 5) 44 25 [some (.ref o), some (.int (nI j)), some (.int (nI P.length)), some (.int (nI (csP S th dk P j))), none] [] m = ev (d + 5) 44 28 [some (.ref o), some (.int (nI j)), some (.int (nI P.length)), some (.int (nI (csP S th dk P j))), some (.int (nI 0))] [] m := by
    simp only [e44_25, e44_26, am_k_some, va_rf_some, va_rf_none, tl_some, tl_none, am_clr_int, am_clr_ref, am_clr_none, am_clr_long, am_w_nil, am_w_int, am_w_ref, am_w_long, am_w_null, am_bb_0, am_bb_1, am_bb_bI, xK_sI, xR_sI, xS_sI, xN_sI, xK_sL, xR_sL, xS_sL, xN_sL, xK_sR, xR_sR, xS_sR, xN_sR, xK_sA, xR_sA, xS_sA, xN_sA, Nat.reduceAdd, Nat.reduceLeDiff, sI_sA, I_sA', sA_sA, I_sA, I_sA', nI_add, mul_nI, bI_0, bI_1]
  obtain ⟨m1, e1, Q1, D1, b1, ok1⟩ := sp_44l (d := d) H V hj hl ha ih1 n 0 m b (Nat.zero_add _) C D hb ok fp
  rw [Nat.add_zero] at b1 ok1
  rw [e0, X0, e1, ex_next H V hj]
  clear e0 X0 e1
  have C1 := C.fq ha Q1
  have fp1 := fp_fq Q1 ha fp
  have cs := cs_lt H V (show j ≤ dl by omega)
  have cs1 := cs_lt H V (show j + 1 ≤ dl by omega)
  have cse : csP S th dk P (j + 1) = csP S th dk P j + lcP S th dk P j := rfl
  clear C D hb ok fp
  have C := C1
  have p := C.p; have rs := C.rs; have k := C.sk; have ko := k.lo
  have dn := C1.dn
  have nn := C1.nn
  by_cases c1 : j + 1 < dl
  · generalize hm2 : sA m1 (o + 5) (up1 (mI m1 (o + 5)) (j + 1) (nI P.length)) = m2
    have Q2 : FqC o a m1 m2 := by
      rw [← hm2]
      exact (FqC.refl o a m1).sA ha (by omega)
    have F2 : FrP (fun x => x = o + 5) m1 m2 := by
      rw [← hm2]
      exact (FrP.refl (fun x => x = o + 5) m1).sA rfl
    have i5 : mI m2 (o + 5) = up1 (mI m1 (o + 5)) (j + 1) (nI P.length) := by rw [← hm2, I_sA]
    have D2 : PD m2 o S n dl th dk P (j + 1) := by
      refine ⟨fun x hx => by rw [F2.i (by omega)]; exact D1.ro x hx, fun x hx hu => by rw [F2.i (by omega)]; exact D1.lf x hx hu, fun x hx => by rw [F2.i (by omega)]; exact D1.lu x hx, fun x hx => by rw [F2.i (by omega)]; exact D1.pu x hx, by rw [F2.i (by omega)]; exact D1.od, fun x hx => ?_⟩
      rw [i5]
      by_cases e : x = j + 1
      · rw [e, up1_eq, (st_all (P := P) (j := j + 1) (fun y hy => by have := hl y hy; omega)).1]
      · rw [up1_ne e]; exact D1.st x (by omega)
    have D2j : PD m2 o S n dl th dk P j := ⟨D2.ro, D2.lf, D2.lu, D2.pu, D2.od, fun x hx => D2.st x (by omega)⟩
    have C2 := C1.fq ha Q2
    have e49 := sp_49 (d := d + 2) C2 H V D2j hj hl
    have b2 : BsC m2 o a n th (fld (stp S L n dl th dk (n - P.length - 1) P) n (6 * j) b) := by
      rcases hst : fld (stp S L n dl th dk (n - P.length - 1) P) n (6 * j) b with _ | ⟨c, bl, bp⟩
      · rw [hst] at b1
        exact ⟨by rw [F2.i (by omega)]; exact b1.1, by rw [F2.i (by omega)]; exact b1.2⟩
      · rw [hst] at b1
        exact ⟨by rw [F2.i (by omega)]; exact b1.1, by rw [F2.i (by omega)]; exact b1.2.1, fun x hx => by rw [F2.i (by omega), F2.i (by omega), F2.i (by omega)]; exact b1.2.2 x hx⟩
    obtain ⟨m3, e3, Q3, D3, b3⟩ := ih2 c1 m2 _ C2 D2 b2 ok1 (fp_fq Q2 ha fp1)
    refine ⟨m3, ?_, (Q1.trans Q2).trans Q3, ⟨D3.ro, D3.lf, D3.lu, D3.pu, D3.od, fun x hx => D3.st x (by omega)⟩, ?_⟩
    · rw [cse] at e3
      have p2 := C2.p.k
      rw [← hm2] at e49 e3 p2
      simp (disch := first | (simp (disch := omega) only [am_k_some, va_rf_some, va_rf_none, tl_some, tl_none, am_clr_int, am_clr_ref, am_clr_none, am_clr_long, am_w_nil, am_w_int, am_w_ref, am_w_long, am_w_null, am_bb_0, am_bb_1, am_bb_bI, xK_sI, xR_sI, xS_sI, xN_sI, xK_sL, xR_sL, xS_sL, xN_sL, xK_sR, xR_sR, xS_sR, xN_sR, xK_sA, xR_sA, xS_sA, xN_sA, Nat.reduceAdd, Nat.reduceLeDiff, sI_sA, I_sA', sA_sA, I_sA, I_sA', nI_add, mul_nI, bI_0, bI_1, p.k, rs, p.r1, p.k1, p.r2, p.k2, p.r3, p.k3, p.r4, p.k4, p.r5, p.k5, p.r6, p.k6, p.r7, p.k7, p.r8, p.k8, k.k, k.r0, k.k0, k.rl, k.r1, k.r3, ko.k, ko.r0, ko.k0, ko.r1, ko.k1, ko.r2, ko.k2, ko.r3, ko.k3, ko.r4, ko.k4, p2, ix_nI, cl_nI]; done) | omega | assumption) only [e44_0, e44_1, e44_2, e44_5, e44_8, e44_9, e44_10, e44_13, e44_16, e44_17, e44_18, e44_21, e44_24, e44_25, e44_26, e44_30, e44_31, e44_34, e44_37, e44_38, e44_41, e44_43, e44_44, e44_45, e44_48, e44_49, e44_51, e44_52, e44_53, e44_56, e44_59, e44_60, e44_62, e44_63, e44_64, e44_67, e44_68, e44_69, e44_70, e44_71, e44_72, e44_73, e44_76, e44_77, e44_80, e44_81, e44_82, e44_83, e44_84, e44_86, e44_89, e44_92, e44_93, e44_94, e44_95, e44_98, e44_100, e44_101, e44_102, e44_105, e44_108, e44_109, e44_110, e44_111, e44_112, e44_115, e44_118, e44_119, e44_122, e44_123, e44_124, e44_125, e44_126, e44_127, e44_128, e44_129, e44_130, e44_131, e44_132, e44_133, e44_134, e44_135, e44_136, e44_139, e44_140, e44_143, e44_146, e44_147, e44_148, e44_151, e44_154, e44_155, e44_156, e44_157, e44_158, e44_159, e44_162, e44_163, e44_166, am_k_some, va_rf_some, va_rf_none, tl_some, tl_none, am_clr_int, am_clr_ref, am_clr_none, am_clr_long, am_w_nil, am_w_int, am_w_ref, am_w_long, am_w_null, am_bb_0, am_bb_1, am_bb_bI, xK_sI, xR_sI, xS_sI, xN_sI, xK_sL, xR_sL, xS_sL, xN_sL, xK_sR, xR_sR, xS_sR, xN_sR, xK_sA, xR_sA, xS_sA, xN_sA, Nat.reduceAdd, Nat.reduceLeDiff, sI_sA, I_sA', sA_sA, I_sA, I_sA', nI_add, mul_nI, bI_0, bI_1, p.k, rs, p.r1, p.k1, p.r2, p.k2, p.r3, p.k3, p.r4, p.k4, p.r5, p.k5, p.r6, p.k6, p.r7, p.k7, p.r8, p.k8, k.k, k.r0, k.k0, k.rl, k.r1, k.r3, ko.k, ko.r0, ko.k0, ko.r1, ko.k1, ko.r2, ko.k2, ko.r3, ko.k3, ko.r4, ko.k4, p2, ix_nI, cl_nI, lt_nI, eq_nI, sub_nI, Nat.reduceEqDiff, Nat.one_ne_zero, Nat.not_lt_zero, ↓reduceIte, dn, c1, e49, e3]
    · by_cases f : P.length = n
      · rw [if_pos f]
        rw [fld_full H V f, show n - P.length = 0 by omega] at b3
        exact b3
      · rw [if_neg f, if_pos c1]
        exact b3
  · by_cases f : P.length = n
    · rw [if_pos f]
      rw [fld_full H V f] at b1 ok1
      have e49 := sp_49 (d := d + 2) C1 H V D1 hj hl
      obtain ⟨m2, e2, F2, O2, b2⟩ := sp_53 (d := d + 2) C1 H V f D1 (by omega) ha b1 ok1 hL fp1
      have Q2 : FqC o a m1 m2 := ⟨F2.mono (fun x hx => by omega), O2⟩
      refine ⟨m2, ?_, Q1.trans Q2, D1.of (F2.i (by omega)) (F2.i (by omega)) (F2.i (by omega)) (F2.i (by omega)) (F2.i (by omega)), b2⟩
      have ec : cost S dl th dk P = csP S th dk P j + lcP S th dk P j := by
        rw [← cse]
        show csP S th dk P dl = _
        rw [show dl = j + 1 by omega]
      rw [ec] at e2
      rw [f] at e49 ⊢
      simp (disch := first | (simp (disch := omega) only [am_k_some, va_rf_some, va_rf_none, tl_some, tl_none, am_clr_int, am_clr_ref, am_clr_none, am_clr_long, am_w_nil, am_w_int, am_w_ref, am_w_long, am_w_null, am_bb_0, am_bb_1, am_bb_bI, xK_sI, xR_sI, xS_sI, xN_sI, xK_sL, xR_sL, xS_sL, xN_sL, xK_sR, xR_sR, xS_sR, xN_sR, xK_sA, xR_sA, xS_sA, xN_sA, Nat.reduceAdd, Nat.reduceLeDiff, sI_sA, I_sA', sA_sA, I_sA, I_sA', nI_add, mul_nI, bI_0, bI_1, p.k, rs, p.r1, p.k1, p.r2, p.k2, p.r3, p.k3, p.r4, p.k4, p.r5, p.k5, p.r6, p.k6, p.r7, p.k7, p.r8, p.k8, k.k, k.r0, k.k0, k.rl, k.r1, k.r3, ko.k, ko.r0, ko.k0, ko.r1, ko.k1, ko.r2, ko.k2, ko.r3, ko.k3, ko.r4, ko.k4, ix_nI, cl_nI]; done) | omega | assumption) only [e44_0, e44_1, e44_2, e44_5, e44_8, e44_9, e44_10, e44_13, e44_16, e44_17, e44_18, e44_21, e44_24, e44_25, e44_26, e44_30, e44_31, e44_34, e44_37, e44_38, e44_41, e44_43, e44_44, e44_45, e44_48, e44_49, e44_51, e44_52, e44_53, e44_56, e44_59, e44_60, e44_62, e44_63, e44_64, e44_67, e44_68, e44_69, e44_70, e44_71, e44_72, e44_73, e44_76, e44_77, e44_80, e44_81, e44_82, e44_83, e44_84, e44_86, e44_89, e44_92, e44_93, e44_94, e44_95, e44_98, e44_100, e44_101, e44_102, e44_105, e44_108, e44_109, e44_110, e44_111, e44_112, e44_115, e44_118, e44_119, e44_122, e44_123, e44_124, e44_125, e44_126, e44_127, e44_128, e44_129, e44_130, e44_131, e44_132, e44_133, e44_134, e44_135, e44_136, e44_139, e44_140, e44_143, e44_146, e44_147, e44_148, e44_151, e44_154, e44_155, e44_156, e44_157, e44_158, e44_159, e44_162, e44_163, e44_166, am_k_some, va_rf_some, va_rf_none, tl_some, tl_none, am_clr_int, am_clr_ref, am_clr_none, am_clr_long, am_w_nil, am_w_int, am_w_ref, am_w_long, am_w_null, am_bb_0, am_bb_1, am_bb_bI, xK_sI, xR_sI, xS_sI, xN_sI, xK_sL, xR_sL, xS_sL, xN_sL, xK_sR, xR_sR, xS_sR, xN_sR, xK_sA, xR_sA, xS_sA, xN_sA, Nat.reduceAdd, Nat.reduceLeDiff, sI_sA, I_sA', sA_sA, I_sA, I_sA', nI_add, mul_nI, bI_0, bI_1, p.k, rs, p.r1, p.k1, p.r2, p.k2, p.r3, p.k3, p.r4, p.k4, p.r5, p.k5, p.r6, p.k6, p.r7, p.k7, p.r8, p.k8, k.k, k.r0, k.k0, k.rl, k.r1, k.r3, ko.k, ko.r0, ko.k0, ko.r1, ko.k1, ko.r2, ko.k2, ko.r3, ko.k3, ko.r4, ko.k4, ix_nI, cl_nI, lt_nI, eq_nI, sub_nI, Nat.reduceEqDiff, Nat.one_ne_zero, Nat.not_lt_zero, ↓reduceIte, dn, c1, nn, e49, e2]
    · rw [if_neg f, if_neg c1]
      refine ⟨m1, ?_, Q1, D1, b1⟩
      simp (disch := first | (simp (disch := omega) only [am_k_some, va_rf_some, va_rf_none, tl_some, tl_none, am_clr_int, am_clr_ref, am_clr_none, am_clr_long, am_w_nil, am_w_int, am_w_ref, am_w_long, am_w_null, am_bb_0, am_bb_1, am_bb_bI, xK_sI, xR_sI, xS_sI, xN_sI, xK_sL, xR_sL, xS_sL, xN_sL, xK_sR, xR_sR, xS_sR, xN_sR, xK_sA, xR_sA, xS_sA, xN_sA, Nat.reduceAdd, Nat.reduceLeDiff, sI_sA, I_sA', sA_sA, I_sA, I_sA', nI_add, mul_nI, bI_0, bI_1, p.k, rs, p.r1, p.k1, p.r2, p.k2, p.r3, p.k3, p.r4, p.k4, p.r5, p.k5, p.r6, p.k6, p.r7, p.k7, p.r8, p.k8, k.k, k.r0, k.k0, k.rl, k.r1, k.r3, ko.k, ko.r0, ko.k0, ko.r1, ko.k1, ko.r2, ko.k2, ko.r3, ko.k3, ko.r4, ko.k4, ix_nI, cl_nI]; done) | omega | assumption) only [e44_0, e44_1, e44_2, e44_5, e44_8, e44_9, e44_10, e44_13, e44_16, e44_17, e44_18, e44_21, e44_24, e44_25, e44_26, e44_30, e44_31, e44_34, e44_37, e44_38, e44_41, e44_43, e44_44, e44_45, e44_48, e44_49, e44_51, e44_52, e44_53, e44_56, e44_59, e44_60, e44_62, e44_63, e44_64, e44_67, e44_68, e44_69, e44_70, e44_71, e44_72, e44_73, e44_76, e44_77, e44_80, e44_81, e44_82, e44_83, e44_84, e44_86, e44_89, e44_92, e44_93, e44_94, e44_95, e44_98, e44_100, e44_101, e44_102, e44_105, e44_108, e44_109, e44_110, e44_111, e44_112, e44_115, e44_118, e44_119, e44_122, e44_123, e44_124, e44_125, e44_126, e44_127, e44_128, e44_129, e44_130, e44_131, e44_132, e44_133, e44_134, e44_135, e44_136, e44_139, e44_140, e44_143, e44_146, e44_147, e44_148, e44_151, e44_154, e44_155, e44_156, e44_157, e44_158, e44_159, e44_162, e44_163, e44_166, am_k_some, va_rf_some, va_rf_none, tl_some, tl_none, am_clr_int, am_clr_ref, am_clr_none, am_clr_long, am_w_nil, am_w_int, am_w_ref, am_w_long, am_w_null, am_bb_0, am_bb_1, am_bb_bI, xK_sI, xR_sI, xS_sI, xN_sI, xK_sL, xR_sL, xS_sL, xN_sL, xK_sR, xR_sR, xS_sR, xN_sR, xK_sA, xR_sA, xS_sA, xN_sA, Nat.reduceAdd, Nat.reduceLeDiff, sI_sA, I_sA', sA_sA, I_sA, I_sA', nI_add, mul_nI, bI_0, bI_1, p.k, rs, p.r1, p.k1, p.r2, p.k2, p.r3, p.k3, p.r4, p.k4, p.r5, p.k5, p.r6, p.k6, p.r7, p.k7, p.r8, p.k8, k.k, k.r0, k.k0, k.rl, k.r1, k.r3, ko.k, ko.r0, ko.k0, ko.r1, ko.k1, ko.r2, ko.k2, ko.r3, ko.k3, ko.r4, ko.k4, ix_nI, cl_nI, lt_nI, eq_nI, sub_nI, Nat.reduceEqDiff, Nat.one_ne_zero, Nat.not_lt_zero, ↓reduceIte, dn, c1, nn, f]
theorem sr_all (H : PlH S n dl th dk) (ha : a + 66 ≤ o) (hL : LmOk L) : ∀ s d {P : List (Nat × Nat)} {j : Nat}, Vd S n dl th dk P → (∀ x, x ∈ P → x.2 ≤ j) → j < dl → dl - 1 - j + (n - P.length) = s → SrC o a S L n dl th dk pi (d + s + 5) P j := by
  have n6 := H.n6
  have d3 := H.d3
  intro s
  induction s with
  | zero =>
    intro d P j V hl hj hs
    exact sr_node (d := d) H ha hL V hl hj (fun x hx V' => by
      have := V'.len
      rw [List.length_cons] at this
      omega) (fun h => by omega)
  | succ s ih =>
    intro d P j V hl hj hs
    have vl := V.len
    rw [show d + (s + 1) + 5 = (d + s + 1) + 5 by omega]
    refine sr_node (d := d + s + 1) H ha hL V hl hj (fun x hx V' => ?_) (fun h => ?_)
    · have := V'.len
      rw [List.length_cons] at this
      rw [show d + s + 1 + 4 = d + s + 5 by omega]
      refine ih d V' (fun y hy => ?_) hj (by rw [List.length_cons]; omega)
      rcases List.mem_cons.1 hy with e | e
      · rw [e]; exact Nat.le_refl _
      · exact hl y e
    · rw [show d + s + 1 + 4 = d + s + 5 by omega]
      exact ih d V (fun y hy => by have := hl y hy; omega) h (by omega)
end SA
