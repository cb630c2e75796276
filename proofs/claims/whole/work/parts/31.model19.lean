/-! isClear, hindering -/
theorem lastR_cases (f : Nat → Bool) : ∀ n, lastR f n = -1 ∨ ∃ k, k < n ∧ lastR f n = nI k ∧ f k = true := by
  intro n
  induction n with
  | zero => exact Or.inl rfl
  | succ n ih =>
    unfold lastR
    by_cases h : f n = true
    · rw [if_pos h]; exact Or.inr ⟨n, by omega, rfl, h⟩
    · rw [if_neg h]
      rcases ih with q | ⟨k, a, b, c⟩
      · exact Or.inl q
      · exact Or.inr ⟨k, by omega, b, c⟩
def dn (S : Nat → Int32) (i : Nat) (e g : Int32) : Nat := (deS S i e g).toNatClampNeg
theorem dn_lt {S : Nat → Int32} {i : Nat} {e g : Int32} (hl : ln S i ≤ 40) : dn S i e g ≤ ln S i ∧ ∀ k, k < 2147483648 → (nI k < deS S i e g) = (k < dn S i e g) := by
  unfold dn deS
  rcases lastR_cases (fun q => lvB S (dpS S i (ln S i) e q) g) (ln S i) with h | ⟨k, a, b, c⟩
  · rw [h]
    have z : (-1 : Int32).toNatClampNeg = 0 := by decide
    refine ⟨by rw [z]; omega, fun k hk => ?_⟩
    rw [z]
    apply propext
    constructor
    · intro q
      rw [Int32.lt_iff_toInt_lt, nI_toInt (by omega)] at q
      have : (-1 : Int32).toInt = -1 := by decide
      omega
    · intro q; omega
  · rw [b, cl_nI (by omega)]
    exact ⟨by omega, fun j hj => lt_nI hj (by omega)⟩
theorem sp_192_loop {d M i : Nat} {e g : Int32} {m : am_M} (h : Mo m M) (hL : LnOk (mI m (M + 1))) (hN : NmOk (mI m (M + 1))) (hC : CellOk (mI m (M + 1))) (hi : i < 20) : ∀ r k (b : Bool), k + r = dn (mI m (M + 1)) i e g →
    ev (d + 3) 192 11 [some (.ref M), some (.int (nI i)), some (.int e), some (.int g), some (.int (bI b)), some (.int (nI k))] [] m = some (some (.int (bI (b && !anyR (fun q => decide (dpS (mI m (M + 1)) i (ln (mI m (M + 1)) i) e q = -2)) k r))), m) := by
  obtain ⟨l1, l2⟩ := hL i hi
  obtain ⟨d1, d2⟩ := dn_lt (e := e) (g := g) l2
  have de := sp_191 (d := d) (e := e) (g := g) h hL hN hC hi
  intro r
  induction r with
  | zero =>
    intro k b hk
    have hnl : ¬ k < dn (mI m (M + 1)) i e g := by omega
    have hlt := d2 k (by omega)
    rw [e192_11]
    simp (disch := first | (simp (disch := omega) only [am_k_some, va_rf_some, va_rf_none, tl_some, tl_none, am_clr_int, am_clr_ref, am_clr_none, am_clr_long, am_w_nil, am_w_int, am_w_ref, am_w_long, am_w_null, am_bb_0, am_bb_1, am_bb_bI, xK_sI, xR_sI, xS_sI, xN_sI, xK_sL, xR_sL, xS_sL, xN_sL, xK_sR, xR_sR, xS_sR, xN_sR, xK_sA, xR_sA, xS_sA, xN_sA, Nat.reduceAdd, Nat.reduceLeDiff, sI_sA, I_sA', sA_sA, I_sA, I_sA', nI_add, mul_nI, bI_0, bI_1, h.k, h.r0, h.k0, h.r1, h.k1, h.r2, h.k2, h.r3, h.k3, h.r4, h.k4, h.r5, h.k5, h.r6, h.k6, h.r8, h.k8, h.r9, h.k9, h.r15, h.k15, h.r17, h.k17, h.r19, h.k19, h.r20, h.k20, h.r21, h.k21, h.r22, h.k22, h, Mo_sA, Mo_sL, ix_nI, cl_nI]; done) | omega | (simp only [I_sA]; assumption)) only [e192_0, e192_1, e192_2, e192_3, e192_6, e192_8, e192_9, e192_13, e192_14, e192_15, e192_16, e192_17, e192_20, e192_23, e192_25, e192_28, e192_29, e192_30, e192_31, e192_32, e192_33, e192_35, e192_38, e192_41, e192_43, e192_46, e192_47, e192_50, e192_51, e192_53, e192_56, e192_59, e192_61, am_k_some, va_rf_some, va_rf_none, tl_some, tl_none, am_clr_int, am_clr_ref, am_clr_none, am_clr_long, am_w_nil, am_w_int, am_w_ref, am_w_long, am_w_null, am_bb_0, am_bb_1, am_bb_bI, xK_sI, xR_sI, xS_sI, xN_sI, xK_sL, xR_sL, xS_sL, xN_sL, xK_sR, xR_sR, xS_sR, xN_sR, xK_sA, xR_sA, xS_sA, xN_sA, Nat.reduceAdd, Nat.reduceLeDiff, sI_sA, I_sA', sA_sA, I_sA, I_sA', nI_add, mul_nI, bI_0, bI_1, h.k, h.r0, h.k0, h.r1, h.k1, h.r2, h.k2, h.r3, h.k3, h.r4, h.k4, h.r5, h.k5, h.r6, h.k6, h.r8, h.k8, h.r9, h.k9, h.r15, h.k15, h.r17, h.k17, h.r19, h.k19, h.r20, h.k20, h.r21, h.k21, h.r22, h.k22, ix_nI, cl_nI, lt_nI, eq_nI, sub_nI, Nat.reduceEqDiff, Nat.one_ne_zero, Nat.not_lt_zero, ↓reduceIte, de, hlt, hnl, if_false, anyR, Bool.not_false, Bool.and_true]
  | succ r ih =>
    intro k b hk
    have hnl : k < dn (mI m (M + 1)) i e g := by omega
    have hlt := d2 k (by omega)
    have dk := fun d => sp_154k (d := d) (e := e) h hi l1 l2 (show k < ln (mI m (M + 1)) i by omega)
    have hb : (if e = nI 0 then k else ln (mI m (M + 1)) i - 1 - k) < 40 := by split <;> omega
    have spt := fun d => sp_143 (d := d) h hi hb
    rw [e192_11]
    cases b with
    | false =>
      have e2 := ih (k + 1) false (by omega)
      simp only [bI_f, Bool.false_and] at e2
      simp (disch := first | (simp (disch := omega) only [am_k_some, va_rf_some, va_rf_none, tl_some, tl_none, am_clr_int, am_clr_ref, am_clr_none, am_clr_long, am_w_nil, am_w_int, am_w_ref, am_w_long, am_w_null, am_bb_0, am_bb_1, am_bb_bI, xK_sI, xR_sI, xS_sI, xN_sI, xK_sL, xR_sL, xS_sL, xN_sL, xK_sR, xR_sR, xS_sR, xN_sR, xK_sA, xR_sA, xS_sA, xN_sA, Nat.reduceAdd, Nat.reduceLeDiff, sI_sA, I_sA', sA_sA, I_sA, I_sA', nI_add, mul_nI, bI_0, bI_1, h.k, h.r0, h.k0, h.r1, h.k1, h.r2, h.k2, h.r3, h.k3, h.r4, h.k4, h.r5, h.k5, h.r6, h.k6, h.r8, h.k8, h.r9, h.k9, h.r15, h.k15, h.r17, h.k17, h.r19, h.k19, h.r20, h.k20, h.r21, h.k21, h.r22, h.k22, h, Mo_sA, Mo_sL, ix_nI, cl_nI]; done) | omega | (simp only [I_sA]; assumption)) only [e192_0, e192_1, e192_2, e192_3, e192_6, e192_8, e192_9, e192_13, e192_14, e192_15, e192_16, e192_17, e192_20, e192_23, e192_25, e192_28, e192_29, e192_30, e192_31, e192_32, e192_33, e192_35, e192_38, e192_41, e192_43, e192_46, e192_47, e192_50, e192_51, e192_53, e192_56, e192_59, e192_61, am_k_some, va_rf_some, va_rf_none, tl_some, tl_none, am_clr_int, am_clr_ref, am_clr_none, am_clr_long, am_w_nil, am_w_int, am_w_ref, am_w_long, am_w_null, am_bb_0, am_bb_1, am_bb_bI, xK_sI, xR_sI, xS_sI, xN_sI, xK_sL, xR_sL, xS_sL, xN_sL, xK_sR, xR_sR, xS_sR, xN_sR, xK_sA, xR_sA, xS_sA, xN_sA, Nat.reduceAdd, Nat.reduceLeDiff, sI_sA, I_sA', sA_sA, I_sA, I_sA', nI_add, mul_nI, bI_0, bI_1, h.k, h.r0, h.k0, h.r1, h.k1, h.r2, h.k2, h.r3, h.k3, h.r4, h.k4, h.r5, h.k5, h.r6, h.k6, h.r8, h.k8, h.r9, h.k9, h.r15, h.k15, h.r17, h.k17, h.r19, h.k19, h.r20, h.k20, h.r21, h.k21, h.r22, h.k22, ix_nI, cl_nI, lt_nI, eq_nI, sub_nI, Nat.reduceEqDiff, Nat.one_ne_zero, Nat.not_lt_zero, ↓reduceIte, k1, k2, k3, k4, k5, k6, k7, k8, k9, n10, n01, if_true, if_false, decide_true, decide_false, Bool.true_eq_false, Bool.false_eq_true, not_true_eq_false, not_false_eq_true, and_true, true_and, and_false, false_and, de, hlt, hnl, bI_f, e2, Bool.false_and]
    | true =>
      by_cases hx : dpS (mI m (M + 1)) i (ln (mI m (M + 1)) i) e k = -2
      · have e2 := ih (k + 1) false (by omega)
        simp only [bI_f, Bool.false_and] at e2
        unfold dpS at hx
        simp (disch := first | (simp (disch := omega) only [am_k_some, va_rf_some, va_rf_none, tl_some, tl_none, am_clr_int, am_clr_ref, am_clr_none, am_clr_long, am_w_nil, am_w_int, am_w_ref, am_w_long, am_w_null, am_bb_0, am_bb_1, am_bb_bI, xK_sI, xR_sI, xS_sI, xN_sI, xK_sL, xR_sL, xS_sL, xN_sL, xK_sR, xR_sR, xS_sR, xN_sR, xK_sA, xR_sA, xS_sA, xN_sA, Nat.reduceAdd, Nat.reduceLeDiff, sI_sA, I_sA', sA_sA, I_sA, I_sA', nI_add, mul_nI, bI_0, bI_1, h.k, h.r0, h.k0, h.r1, h.k1, h.r2, h.k2, h.r3, h.k3, h.r4, h.k4, h.r5, h.k5, h.r6, h.k6, h.r8, h.k8, h.r9, h.k9, h.r15, h.k15, h.r17, h.k17, h.r19, h.k19, h.r20, h.k20, h.r21, h.k21, h.r22, h.k22, h, Mo_sA, Mo_sL, ix_nI, cl_nI]; done) | omega | (simp only [I_sA]; assumption)) only [e192_0, e192_1, e192_2, e192_3, e192_6, e192_8, e192_9, e192_13, e192_14, e192_15, e192_16, e192_17, e192_20, e192_23, e192_25, e192_28, e192_29, e192_30, e192_31, e192_32, e192_33, e192_35, e192_38, e192_41, e192_43, e192_46, e192_47, e192_50, e192_51, e192_53, e192_56, e192_59, e192_61, am_k_some, va_rf_some, va_rf_none, tl_some, tl_none, am_clr_int, am_clr_ref, am_clr_none, am_clr_long, am_w_nil, am_w_int, am_w_ref, am_w_long, am_w_null, am_bb_0, am_bb_1, am_bb_bI, xK_sI, xR_sI, xS_sI, xN_sI, xK_sL, xR_sL, xS_sL, xN_sL, xK_sR, xR_sR, xS_sR, xN_sR, xK_sA, xR_sA, xS_sA, xN_sA, Nat.reduceAdd, Nat.reduceLeDiff, sI_sA, I_sA', sA_sA, I_sA, I_sA', nI_add, mul_nI, bI_0, bI_1, h.k, h.r0, h.k0, h.r1, h.k1, h.r2, h.k2, h.r3, h.k3, h.r4, h.k4, h.r5, h.k5, h.r6, h.k6, h.r8, h.k8, h.r9, h.k9, h.r15, h.k15, h.r17, h.k17, h.r19, h.k19, h.r20, h.k20, h.r21, h.k21, h.r22, h.k22, ix_nI, cl_nI, lt_nI, eq_nI, sub_nI, Nat.reduceEqDiff, Nat.one_ne_zero, Nat.not_lt_zero, ↓reduceIte, k1, k2, k3, k4, k5, k6, k7, k8, k9, n10, n01, if_true, if_false, decide_true, decide_false, Bool.true_eq_false, Bool.false_eq_true, not_true_eq_false, not_false_eq_true, and_true, true_and, and_false, false_and, de, hlt, hnl, bI_t, dk, spt, hx, e2, anyR, dpS, Bool.true_or, Bool.not_true, Bool.and_false, bI_f]
      · have e2 := ih (k + 1) true (by omega)
        simp only [bI_t, Bool.true_and] at e2
        unfold dpS at hx e2 ⊢
        simp (disch := first | (simp (disch := omega) only [am_k_some, va_rf_some, va_rf_none, tl_some, tl_none, am_clr_int, am_clr_ref, am_clr_none, am_clr_long, am_w_nil, am_w_int, am_w_ref, am_w_long, am_w_null, am_bb_0, am_bb_1, am_bb_bI, xK_sI, xR_sI, xS_sI, xN_sI, xK_sL, xR_sL, xS_sL, xN_sL, xK_sR, xR_sR, xS_sR, xN_sR, xK_sA, xR_sA, xS_sA, xN_sA, Nat.reduceAdd, Nat.reduceLeDiff, sI_sA, I_sA', sA_sA, I_sA, I_sA', nI_add, mul_nI, bI_0, bI_1, h.k, h.r0, h.k0, h.r1, h.k1, h.r2, h.k2, h.r3, h.k3, h.r4, h.k4, h.r5, h.k5, h.r6, h.k6, h.r8, h.k8, h.r9, h.k9, h.r15, h.k15, h.r17, h.k17, h.r19, h.k19, h.r20, h.k20, h.r21, h.k21, h.r22, h.k22, h, Mo_sA, Mo_sL, ix_nI, cl_nI]; done) | omega | (simp only [I_sA]; assumption)) only [e192_0, e192_1, e192_2, e192_3, e192_6, e192_8, e192_9, e192_13, e192_14, e192_15, e192_16, e192_17, e192_20, e192_23, e192_25, e192_28, e192_29, e192_30, e192_31, e192_32, e192_33, e192_35, e192_38, e192_41, e192_43, e192_46, e192_47, e192_50, e192_51, e192_53, e192_56, e192_59, e192_61, am_k_some, va_rf_some, va_rf_none, tl_some, tl_none, am_clr_int, am_clr_ref, am_clr_none, am_clr_long, am_w_nil, am_w_int, am_w_ref, am_w_long, am_w_null, am_bb_0, am_bb_1, am_bb_bI, xK_sI, xR_sI, xS_sI, xN_sI, xK_sL, xR_sL, xS_sL, xN_sL, xK_sR, xR_sR, xS_sR, xN_sR, xK_sA, xR_sA, xS_sA, xN_sA, Nat.reduceAdd, Nat.reduceLeDiff, sI_sA, I_sA', sA_sA, I_sA, I_sA', nI_add, mul_nI, bI_0, bI_1, h.k, h.r0, h.k0, h.r1, h.k1, h.r2, h.k2, h.r3, h.k3, h.r4, h.k4, h.r5, h.k5, h.r6, h.k6, h.r8, h.k8, h.r9, h.k9, h.r15, h.k15, h.r17, h.k17, h.r19, h.k19, h.r20, h.k20, h.r21, h.k21, h.r22, h.k22, ix_nI, cl_nI, lt_nI, eq_nI, sub_nI, Nat.reduceEqDiff, Nat.one_ne_zero, Nat.not_lt_zero, ↓reduceIte, k1, k2, k3, k4, k5, k6, k7, k8, k9, n10, n01, if_true, if_false, decide_true, decide_false, Bool.true_eq_false, Bool.false_eq_true, not_true_eq_false, not_false_eq_true, and_true, true_and, and_false, false_and, de, hlt, hnl, bI_t, dk, spt, hx, e2, anyR, Bool.false_or, Bool.true_and]
def icS (S : Nat → Int32) (i : Nat) (e g : Int32) : Bool := opS S i e && !anyR (fun q => decide (dpS S i (ln S i) e q = -2)) 0 (dn S i e g)
theorem sp_192 {d M i : Nat} {e g : Int32} {m : am_M} (h : Mo m M) (hL : LnOk (mI m (M + 1))) (hN : NmOk (mI m (M + 1))) (hC : CellOk (mI m (M + 1))) (hi : i < 20) : cal (d + 3) 192 [.ref M, .int (nI i), .int e, .int g] m = some (some (.int (bI (icS (mI m (M + 1)) i e g))), m) := by
  have e0 := sp_192_loop (d := d) (e := e) (g := g) h hL hN hC hi _ 0 (opS (mI m (M + 1)) i e) (Nat.zero_add _)
  simp (disch := first | (simp (disch := omega) only [am_k_some, va_rf_some, va_rf_none, tl_some, tl_none, am_clr_int, am_clr_ref, am_clr_none, am_clr_long, am_w_nil, am_w_int, am_w_ref, am_w_long, am_w_null, am_bb_0, am_bb_1, am_bb_bI, xK_sI, xR_sI, xS_sI, xN_sI, xK_sL, xR_sL, xS_sL, xN_sL, xK_sR, xR_sR, xS_sR, xN_sR, xK_sA, xR_sA, xS_sA, xN_sA, Nat.reduceAdd, Nat.reduceLeDiff, sI_sA, I_sA', sA_sA, I_sA, I_sA', nI_add, mul_nI, bI_0, bI_1, h.k, h.r0, h.k0, h.r1, h.k1, h.r2, h.k2, h.r3, h.k3, h.r4, h.k4, h.r5, h.k5, h.r6, h.k6, h.r8, h.k8, h.r9, h.k9, h.r15, h.k15, h.r17, h.k17, h.r19, h.k19, h.r20, h.k20, h.r21, h.k21, h.r22, h.k22, h, Mo_sA, Mo_sL, ix_nI, cl_nI]; done) | omega | (simp only [I_sA]; assumption)) only [c192, e192_0, e192_1, e192_2, e192_3, e192_6, e192_8, e192_9, e192_13, e192_14, e192_15, e192_16, e192_17, e192_20, e192_23, e192_25, e192_28, e192_29, e192_30, e192_31, e192_32, e192_33, e192_35, e192_38, e192_41, e192_43, e192_46, e192_47, e192_50, e192_51, e192_53, e192_56, e192_59, e192_61, am_k_some, va_rf_some, va_rf_none, tl_some, tl_none, am_clr_int, am_clr_ref, am_clr_none, am_clr_long, am_w_nil, am_w_int, am_w_ref, am_w_long, am_w_null, am_bb_0, am_bb_1, am_bb_bI, xK_sI, xR_sI, xS_sI, xN_sI, xK_sL, xR_sL, xS_sL, xN_sL, xK_sR, xR_sR, xS_sR, xN_sR, xK_sA, xR_sA, xS_sA, xN_sA, Nat.reduceAdd, Nat.reduceLeDiff, sI_sA, I_sA', sA_sA, I_sA, I_sA', nI_add, mul_nI, bI_0, bI_1, h.k, h.r0, h.k0, h.r1, h.k1, h.r2, h.k2, h.r3, h.k3, h.r4, h.k4, h.r5, h.k5, h.r6, h.k6, h.r8, h.k8, h.r9, h.k9, h.r15, h.k15, h.r17, h.k17, h.r19, h.k19, h.r20, h.k20, h.r21, h.k21, h.r22, h.k22, ix_nI, cl_nI, lt_nI, eq_nI, sub_nI, Nat.reduceEqDiff, Nat.one_ne_zero, Nat.not_lt_zero, ↓reduceIte, sp_142]
  rw [e0]
  rfl
