/-! the model's loops: way, put, take, counts, acts -/
def wayN (f : Nat → Bool) : Nat → Nat → Nat
  | 0, n => n
  | k + 1, n => if f n then wayN f k (n + 1) else n
def dpS (S : Nat → Int32) (i len : Nat) (e : Int32) (q : Nat) : Int32 := S (40 * i + (if e = nI 0 then q else len - 1 - q))
theorem sp_155_loop {d M i len : Nat} {e : Int32} {m : am_M} (h : Mo m M) (hi : i < 20) (hlen : mI m (M + 1) (820 + i) = nI len) (hl : len ≤ 40) : ∀ k n, n + k = len →
    ev (d + 2) 155 2 [some (.ref M), some (.int (nI i)), some (.int e), some (.int (nI n))] [] m = some (some (.int (nI (wayN (fun q => decide (dpS (mI m (M + 1)) i len e q = -1)) k n))), m) := by
  intro k
  induction k with
  | zero =>
    intro n hn
    have hnl : ¬ n < len := by omega
    simp (disch := first | (simp (disch := omega) only [am_k_some, va_rf_some, va_rf_none, tl_some, tl_none, am_clr_int, am_clr_ref, am_clr_none, am_clr_long, am_w_nil, am_w_int, am_w_ref, am_w_long, am_w_null, am_bb_0, am_bb_1, am_bb_bI, xK_sI, xR_sI, xS_sI, xN_sI, xK_sL, xR_sL, xS_sL, xN_sL, xK_sR, xR_sR, xS_sR, xN_sR, xK_sA, xR_sA, xS_sA, xN_sA, Nat.reduceAdd, Nat.reduceLeDiff, sI_sA, I_sA', sA_sA, I_sA, I_sA', nI_add, mul_nI, bI_0, bI_1, h.k, h.r0, h.k0, h.r1, h.k1, h.r2, h.k2, h.r3, h.k3, h.r4, h.k4, h.r5, h.k5, h.r6, h.k6, h.r8, h.k8, h.r9, h.k9, h.r15, h.k15, h.r17, h.k17, h.r19, h.k19, h.r20, h.k20, h.r21, h.k21, h.r22, h.k22, h, Mo_sA, Mo_sL, ix_nI, cl_nI]; done) | omega) only [c155, e155_0, e155_1, e155_2, e155_3, e155_4, e155_5, e155_8, e155_11, e155_12, e155_13, e155_14, e155_15, e155_16, e155_17, e155_20, e155_23, e155_24, e155_27, e155_30, e155_33, e155_34, am_k_some, va_rf_some, va_rf_none, tl_some, tl_none, am_clr_int, am_clr_ref, am_clr_none, am_clr_long, am_w_nil, am_w_int, am_w_ref, am_w_long, am_w_null, am_bb_0, am_bb_1, am_bb_bI, xK_sI, xR_sI, xS_sI, xN_sI, xK_sL, xR_sL, xS_sL, xN_sL, xK_sR, xR_sR, xS_sR, xN_sR, xK_sA, xR_sA, xS_sA, xN_sA, Nat.reduceAdd, Nat.reduceLeDiff, sI_sA, I_sA', sA_sA, I_sA, I_sA', nI_add, mul_nI, bI_0, bI_1, h.k, h.r0, h.k0, h.r1, h.k1, h.r2, h.k2, h.r3, h.k3, h.r4, h.k4, h.r5, h.k5, h.r6, h.k6, h.r8, h.k8, h.r9, h.k9, h.r15, h.k15, h.r17, h.k17, h.r19, h.k19, h.r20, h.k20, h.r21, h.k21, h.r22, h.k22, ix_nI, cl_nI, lt_nI, eq_nI, sub_nI, sp_141, hlen, hnl, if_false, wayN]
  | succ k ih =>
    intro n hn
    have hnl : n < len := by omega
    rw [e155_2]
    by_cases he : e = nI 0
    · subst he
      simp (disch := first | (simp (disch := omega) only [am_k_some, va_rf_some, va_rf_none, tl_some, tl_none, am_clr_int, am_clr_ref, am_clr_none, am_clr_long, am_w_nil, am_w_int, am_w_ref, am_w_long, am_w_null, am_bb_0, am_bb_1, am_bb_bI, xK_sI, xR_sI, xS_sI, xN_sI, xK_sL, xR_sL, xS_sL, xN_sL, xK_sR, xR_sR, xS_sR, xN_sR, xK_sA, xR_sA, xS_sA, xN_sA, Nat.reduceAdd, Nat.reduceLeDiff, sI_sA, I_sA', sA_sA, I_sA, I_sA', nI_add, mul_nI, bI_0, bI_1, h.k, h.r0, h.k0, h.r1, h.k1, h.r2, h.k2, h.r3, h.k3, h.r4, h.k4, h.r5, h.k5, h.r6, h.k6, h.r8, h.k8, h.r9, h.k9, h.r15, h.k15, h.r17, h.k17, h.r19, h.k19, h.r20, h.k20, h.r21, h.k21, h.r22, h.k22, h, Mo_sA, Mo_sL, ix_nI, cl_nI]; done) | omega) only [e155_0, e155_1, e155_3, e155_4, e155_5, e155_8, e155_11, e155_12, e155_13, e155_14, e155_15, e155_16, e155_17, e155_20, e155_23, e155_24, e155_27, e155_30, e155_33, e155_34, am_k_some, va_rf_some, va_rf_none, tl_some, tl_none, am_clr_int, am_clr_ref, am_clr_none, am_clr_long, am_w_nil, am_w_int, am_w_ref, am_w_long, am_w_null, am_bb_0, am_bb_1, am_bb_bI, xK_sI, xR_sI, xS_sI, xN_sI, xK_sL, xR_sL, xS_sL, xN_sL, xK_sR, xR_sR, xS_sR, xN_sR, xK_sA, xR_sA, xS_sA, xN_sA, Nat.reduceAdd, Nat.reduceLeDiff, sI_sA, I_sA', sA_sA, I_sA, I_sA', nI_add, mul_nI, bI_0, bI_1, h.k, h.r0, h.k0, h.r1, h.k1, h.r2, h.k2, h.r3, h.k3, h.r4, h.k4, h.r5, h.k5, h.r6, h.k6, h.r8, h.k8, h.r9, h.k9, h.r15, h.k15, h.r17, h.k17, h.r19, h.k19, h.r20, h.k20, h.r21, h.k21, h.r22, h.k22, ix_nI, cl_nI, lt_nI, eq_nI, sub_nI, sp_141, hlen, hnl, if_true, wayN, sp_154, sp_143, ih (n + 1), dpS]
      by_cases hc : mI m (M + 1) (40 * i + n) = -1
      · simp only [hc, if_true, decide_true]
      · simp only [hc, if_false, decide_false]
        rfl
    · have e1 : nI len - nI 1 - nI n = nI (len - 1 - n) := by rw [sub_nI (by omega), sub_nI (by omega)]
      simp (disch := first | (simp (disch := omega) only [am_k_some, va_rf_some, va_rf_none, tl_some, tl_none, am_clr_int, am_clr_ref, am_clr_none, am_clr_long, am_w_nil, am_w_int, am_w_ref, am_w_long, am_w_null, am_bb_0, am_bb_1, am_bb_bI, xK_sI, xR_sI, xS_sI, xN_sI, xK_sL, xR_sL, xS_sL, xN_sL, xK_sR, xR_sR, xS_sR, xN_sR, xK_sA, xR_sA, xS_sA, xN_sA, Nat.reduceAdd, Nat.reduceLeDiff, sI_sA, I_sA', sA_sA, I_sA, I_sA', nI_add, mul_nI, bI_0, bI_1, h.k, h.r0, h.k0, h.r1, h.k1, h.r2, h.k2, h.r3, h.k3, h.r4, h.k4, h.r5, h.k5, h.r6, h.k6, h.r8, h.k8, h.r9, h.k9, h.r15, h.k15, h.r17, h.k17, h.r19, h.k19, h.r20, h.k20, h.r21, h.k21, h.r22, h.k22, h, Mo_sA, Mo_sL, ix_nI, cl_nI]; done) | omega) only [e155_0, e155_1, e155_3, e155_4, e155_5, e155_8, e155_11, e155_12, e155_13, e155_14, e155_15, e155_16, e155_17, e155_20, e155_23, e155_24, e155_27, e155_30, e155_33, e155_34, am_k_some, va_rf_some, va_rf_none, tl_some, tl_none, am_clr_int, am_clr_ref, am_clr_none, am_clr_long, am_w_nil, am_w_int, am_w_ref, am_w_long, am_w_null, am_bb_0, am_bb_1, am_bb_bI, xK_sI, xR_sI, xS_sI, xN_sI, xK_sL, xR_sL, xS_sL, xN_sL, xK_sR, xR_sR, xS_sR, xN_sR, xK_sA, xR_sA, xS_sA, xN_sA, Nat.reduceAdd, Nat.reduceLeDiff, sI_sA, I_sA', sA_sA, I_sA, I_sA', nI_add, mul_nI, bI_0, bI_1, h.k, h.r0, h.k0, h.r1, h.k1, h.r2, h.k2, h.r3, h.k3, h.r4, h.k4, h.r5, h.k5, h.r6, h.k6, h.r8, h.k8, h.r9, h.k9, h.r15, h.k15, h.r17, h.k17, h.r19, h.k19, h.r20, h.k20, h.r21, h.k21, h.r22, h.k22, ix_nI, cl_nI, lt_nI, eq_nI, sub_nI, sp_141, hlen, hnl, if_true, wayN, sp_154, sp_143, he, if_false, e1, ih (n + 1), dpS]
      by_cases hc : mI m (M + 1) (40 * i + (len - 1 - n)) = -1
      · simp only [hc, if_true, decide_true]
      · simp only [hc, if_false, decide_false]
        rfl
def ln (S : Nat → Int32) (i : Nat) : Nat := (S (820 + i)).toNatClampNeg
def LnOk (S : Nat → Int32) : Prop := ∀ i, i < 20 → S (820 + i) = nI (ln S i) ∧ ln S i ≤ 40
def wayS (S : Nat → Int32) (i : Nat) (e : Int32) : Nat := wayN (fun q => decide (dpS S i (ln S i) e q = -1)) (ln S i) 0
theorem sp_155 {d M i : Nat} {e : Int32} {m : am_M} (h : Mo m M) (hi : i < 20) (hL : LnOk (mI m (M + 1))) : cal (d + 2) 155 [.ref M, .int (nI i), .int e] m = some (some (.int (nI (wayS (mI m (M + 1)) i e))), m) := by
  obtain ⟨h1, h2⟩ := hL i hi
  simp only [c155, e155_0, e155_1, e155_3, e155_4, e155_5, e155_8, e155_11, e155_12, e155_13, e155_14, e155_15, e155_16, e155_17, e155_20, e155_23, e155_24, e155_27, e155_30, e155_33, e155_34, am_k_some, va_rf_some, va_rf_none, tl_some, tl_none, am_clr_int, am_clr_ref, am_clr_none, am_clr_long, am_w_nil, am_w_int, am_w_ref, am_w_long, am_w_null, am_bb_0, am_bb_1, am_bb_bI, xK_sI, xR_sI, xS_sI, xN_sI, xK_sL, xR_sL, xS_sL, xN_sL, xK_sR, xR_sR, xS_sR, xN_sR, xK_sA, xR_sA, xS_sA, xN_sA, Nat.reduceAdd, Nat.reduceLeDiff, sI_sA, I_sA', sA_sA, I_sA, I_sA', nI_add, mul_nI, bI_0, bI_1]
  rw [sp_155_loop h hi h1 h2 _ 0 (Nat.zero_add _)]
  rfl
/-- a run of places filled -/
def fillS (S : Nat → Int32) (b n : Nat) (v : Int32) : Nat → Int32 := fun y => if b ≤ y ∧ y < b + n then v else S y
theorem fillS_0 (S : Nat → Int32) (b : Nat) (v : Int32) : fillS S b 0 v = S := by
  funext y
  unfold fillS
  rw [if_neg (by omega)]
theorem fillS_s (S : Nat → Int32) (b k : Nat) (v : Int32) : up1 (fillS S b k v) (b + k) v = fillS S b (k + 1) v := by
  funext y
  unfold fillS up1
  by_cases h1 : y = b + k
  · rw [if_pos h1, if_pos (by omega)]
  · rw [if_neg h1]
    dsimp only
    by_cases h2 : b ≤ y ∧ y < b + k
    · rw [if_pos h2, if_pos (by omega)]
    · rw [if_neg h2, if_neg (by omega)]
theorem fillS_out {S : Nat → Int32} {b n y : Nat} {v : Int32} (h : y < b ∨ b + n ≤ y) : fillS S b n v y = S y := by
  unfold fillS
  rw [if_neg (by omega)]
theorem fillS_in {S : Nat → Int32} {b n y : Nat} {v : Int32} (h : b ≤ y ∧ y < b + n) : fillS S b n v y = v := by
  unfold fillS
  rw [if_pos h]
theorem spanS_le (S : Nat → Int32) (l : Nat) : 1 ≤ spanS S l ∧ spanS S l ≤ 3 := by
  unfold spanS
  split <;> omega
theorem spanS_fill {S : Nat → Int32} {b n l : Nat} {v : Int32} (h : b + n ≤ 900) : spanS (fillS S b n v) l = spanS S l := by
  unfold spanS
  rw [fillS_out (by omega)]
theorem sp_156_loop {d M l i q : Nat} {m : am_M} {S : Nat → Int32} (h : Mo m M) (hl : l < 400) (hi : i < 20) (hq : q + spanS S l ≤ 40) : ∀ r k, k + r = spanS S l →
    ev (d + 2) 156 3 [some (.ref M), some (.int (nI l)), some (.int (nI i)), some (.int (nI q)), some (.int (nI k))] [] (sA m (M + 1) (fillS S (40 * i + q) k (nI l))) = ev (d + 2) 156 34 [some (.ref M), some (.int (nI l)), some (.int (nI i)), some (.int (nI q)), some (.int (nI (spanS S l)))] [] (sA m (M + 1) (fillS S (40 * i + q) (spanS S l) (nI l))) := by
  have hs := spanS_le S l
  have hf : ∀ k, k ≤ spanS S l → spanS (fillS S (40 * i + q) k (nI l)) l = spanS S l := fun k hk => spanS_fill (by omega)
  intro r
  induction r with
  | zero =>
    intro k hk
    have hk' : k = spanS S l := by omega
    subst hk'
    have hnl : ¬ spanS S l < spanS S l := by omega
    rw [e156_3]
    simp (disch := first | (simp (disch := omega) only [am_k_some, va_rf_some, va_rf_none, tl_some, tl_none, am_clr_int, am_clr_ref, am_clr_none, am_clr_long, am_w_nil, am_w_int, am_w_ref, am_w_long, am_w_null, am_bb_0, am_bb_1, am_bb_bI, xK_sI, xR_sI, xS_sI, xN_sI, xK_sL, xR_sL, xS_sL, xN_sL, xK_sR, xR_sR, xS_sR, xN_sR, xK_sA, xR_sA, xS_sA, xN_sA, Nat.reduceAdd, Nat.reduceLeDiff, sI_sA, I_sA', sA_sA, I_sA, I_sA', nI_add, mul_nI, bI_0, bI_1, h.k, h.r0, h.k0, h.r1, h.k1, h.r2, h.k2, h.r3, h.k3, h.r4, h.k4, h.r5, h.k5, h.r6, h.k6, h.r8, h.k8, h.r9, h.k9, h.r15, h.k15, h.r17, h.k17, h.r19, h.k19, h.r20, h.k20, h.r21, h.k21, h.r22, h.k22, h, Mo_sA, Mo_sL, ix_nI, cl_nI]; done) | omega) only [e156_0, e156_1, e156_5, e156_6, e156_7, e156_10, e156_13, e156_14, e156_17, e156_19, e156_20, e156_21, e156_22, e156_23, e156_25, e156_26, e156_27, e156_28, e156_31, e156_35, e156_36, e156_38, e156_39, e156_42, e156_43, e156_44, e156_46, e156_47, e156_50, e156_51, e156_52, e156_54, e156_55, e156_58, am_k_some, va_rf_some, va_rf_none, tl_some, tl_none, am_clr_int, am_clr_ref, am_clr_none, am_clr_long, am_w_nil, am_w_int, am_w_ref, am_w_long, am_w_null, am_bb_0, am_bb_1, am_bb_bI, xK_sI, xR_sI, xS_sI, xN_sI, xK_sL, xR_sL, xS_sL, xN_sL, xK_sR, xR_sR, xS_sR, xN_sR, xK_sA, xR_sA, xS_sA, xN_sA, Nat.reduceAdd, Nat.reduceLeDiff, sI_sA, I_sA', sA_sA, I_sA, I_sA', nI_add, mul_nI, bI_0, bI_1, h.k, h.r0, h.k0, h.r1, h.k1, h.r2, h.k2, h.r3, h.k3, h.r4, h.k4, h.r5, h.k5, h.r6, h.k6, h.r8, h.k8, h.r9, h.k9, h.r15, h.k15, h.r17, h.k17, h.r19, h.k19, h.r20, h.k20, h.r21, h.k21, h.r22, h.k22, ix_nI, cl_nI, lt_nI, eq_nI, sub_nI, sp_149, hf, hnl, if_false]
  | succ r ih =>
    intro k hk
    have hnl : k < spanS S l := by omega
    rw [e156_3]
    simp (disch := first | (simp (disch := omega) only [am_k_some, va_rf_some, va_rf_none, tl_some, tl_none, am_clr_int, am_clr_ref, am_clr_none, am_clr_long, am_w_nil, am_w_int, am_w_ref, am_w_long, am_w_null, am_bb_0, am_bb_1, am_bb_bI, xK_sI, xR_sI, xS_sI, xN_sI, xK_sL, xR_sL, xS_sL, xN_sL, xK_sR, xR_sR, xS_sR, xN_sR, xK_sA, xR_sA, xS_sA, xN_sA, Nat.reduceAdd, Nat.reduceLeDiff, sI_sA, I_sA', sA_sA, I_sA, I_sA', nI_add, mul_nI, bI_0, bI_1, h.k, h.r0, h.k0, h.r1, h.k1, h.r2, h.k2, h.r3, h.k3, h.r4, h.k4, h.r5, h.k5, h.r6, h.k6, h.r8, h.k8, h.r9, h.k9, h.r15, h.k15, h.r17, h.k17, h.r19, h.k19, h.r20, h.k20, h.r21, h.k21, h.r22, h.k22, h, Mo_sA, Mo_sL, ix_nI, cl_nI]; done) | omega) only [e156_0, e156_1, e156_5, e156_6, e156_7, e156_10, e156_13, e156_14, e156_17, e156_19, e156_20, e156_21, e156_22, e156_23, e156_25, e156_26, e156_27, e156_28, e156_31, e156_35, e156_36, e156_38, e156_39, e156_42, e156_43, e156_44, e156_46, e156_47, e156_50, e156_51, e156_52, e156_54, e156_55, e156_58, am_k_some, va_rf_some, va_rf_none, tl_some, tl_none, am_clr_int, am_clr_ref, am_clr_none, am_clr_long, am_w_nil, am_w_int, am_w_ref, am_w_long, am_w_null, am_bb_0, am_bb_1, am_bb_bI, xK_sI, xR_sI, xS_sI, xN_sI, xK_sL, xR_sL, xS_sL, xN_sL, xK_sR, xR_sR, xS_sR, xN_sR, xK_sA, xR_sA, xS_sA, xN_sA, Nat.reduceAdd, Nat.reduceLeDiff, sI_sA, I_sA', sA_sA, I_sA, I_sA', nI_add, mul_nI, bI_0, bI_1, h.k, h.r0, h.k0, h.r1, h.k1, h.r2, h.k2, h.r3, h.k3, h.r4, h.k4, h.r5, h.k5, h.r6, h.k6, h.r8, h.k8, h.r9, h.k9, h.r15, h.k15, h.r17, h.k17, h.r19, h.k19, h.r20, h.k20, h.r21, h.k21, h.r22, h.k22, ix_nI, cl_nI, lt_nI, eq_nI, sub_nI, sp_149, hf, hnl, if_true, fillS_s, ih (k + 1)]
def putS (S : Nat → Int32) (l i q : Nat) : Nat → Int32 := up1 (up1 (up1 (fillS S (40 * i + q) (spanS S l) (nI l)) (3300 + l) (nI 1)) (3700 + l) (nI i)) (4100 + l) (nI q)
theorem sp_156 {d M l i q : Nat} {m : am_M} (h : Mo m M) (hl : l < 400) (hi : i < 20) (hq : q + spanS (mI m (M + 1)) l ≤ 40) : cal (d + 2) 156 [.ref M, .int (nI l), .int (nI i), .int (nI q)] m = some (none, sA m (M + 1) (putS (mI m (M + 1)) l i q)) := by
  have h0 := sp_156_loop (d := d) h hl hi hq _ 0 (Nat.zero_add _)
  rw [fillS_0, sA_self] at h0
  simp only [c156, e156_0, e156_1, e156_5, e156_6, e156_7, e156_10, e156_13, e156_14, e156_17, e156_19, e156_20, e156_21, e156_22, e156_23, e156_25, e156_26, e156_27, e156_28, e156_31, e156_35, e156_36, e156_38, e156_39, e156_42, e156_43, e156_44, e156_46, e156_47, e156_50, e156_51, e156_52, e156_54, e156_55, e156_58, am_k_some, va_rf_some, va_rf_none, tl_some, tl_none, am_clr_int, am_clr_ref, am_clr_none, am_clr_long, am_w_nil, am_w_int, am_w_ref, am_w_long, am_w_null, am_bb_0, am_bb_1, am_bb_bI, xK_sI, xR_sI, xS_sI, xN_sI, xK_sL, xR_sL, xS_sL, xN_sL, xK_sR, xR_sR, xS_sR, xN_sR, xK_sA, xR_sA, xS_sA, xN_sA, Nat.reduceAdd, Nat.reduceLeDiff, sI_sA, I_sA', sA_sA, I_sA, I_sA', nI_add, mul_nI, bI_0, bI_1]
  rw [h0]
  simp (disch := first | (simp (disch := omega) only [am_k_some, va_rf_some, va_rf_none, tl_some, tl_none, am_clr_int, am_clr_ref, am_clr_none, am_clr_long, am_w_nil, am_w_int, am_w_ref, am_w_long, am_w_null, am_bb_0, am_bb_1, am_bb_bI, xK_sI, xR_sI, xS_sI, xN_sI, xK_sL, xR_sL, xS_sL, xN_sL, xK_sR, xR_sR, xS_sR, xN_sR, xK_sA, xR_sA, xS_sA, xN_sA, Nat.reduceAdd, Nat.reduceLeDiff, sI_sA, I_sA', sA_sA, I_sA, I_sA', nI_add, mul_nI, bI_0, bI_1, h.k, h.r0, h.k0, h.r1, h.k1, h.r2, h.k2, h.r3, h.k3, h.r4, h.k4, h.r5, h.k5, h.r6, h.k6, h.r8, h.k8, h.r9, h.k9, h.r15, h.k15, h.r17, h.k17, h.r19, h.k19, h.r20, h.k20, h.r21, h.k21, h.r22, h.k22, h, Mo_sA, Mo_sL, ix_nI, cl_nI]; done) | omega) only [e156_0, e156_1, e156_5, e156_6, e156_7, e156_10, e156_13, e156_14, e156_17, e156_19, e156_20, e156_21, e156_22, e156_23, e156_25, e156_26, e156_27, e156_28, e156_31, e156_34, e156_35, e156_36, e156_38, e156_39, e156_42, e156_43, e156_44, e156_46, e156_47, e156_50, e156_51, e156_52, e156_54, e156_55, e156_58, am_k_some, va_rf_some, va_rf_none, tl_some, tl_none, am_clr_int, am_clr_ref, am_clr_none, am_clr_long, am_w_nil, am_w_int, am_w_ref, am_w_long, am_w_null, am_bb_0, am_bb_1, am_bb_bI, xK_sI, xR_sI, xS_sI, xN_sI, xK_sL, xR_sL, xS_sL, xN_sL, xK_sR, xR_sR, xS_sR, xN_sR, xK_sA, xR_sA, xS_sA, xN_sA, Nat.reduceAdd, Nat.reduceLeDiff, sI_sA, I_sA', sA_sA, I_sA, I_sA', nI_add, mul_nI, bI_0, bI_1, h.k, h.r0, h.k0, h.r1, h.k1, h.r2, h.k2, h.r3, h.k3, h.r4, h.k4, h.r5, h.k5, h.r6, h.k6, h.r8, h.k8, h.r9, h.k9, h.r15, h.k15, h.r17, h.k17, h.r19, h.k19, h.r20, h.k20, h.r21, h.k21, h.r22, h.k22, ix_nI, cl_nI, lt_nI, eq_nI, sub_nI, sp_146]
  rfl
theorem sp_157_loop {d M l i q : Nat} {w : Int32} {m : am_M} {S : Nat → Int32} (h : Mo m M) (hl : l < 400) (hi : i < 20) (hq : q + spanS S l ≤ 40) (h7 : S (3700 + l) = nI i) (h8 : S (4100 + l) = nI q) : ∀ r k, k + r = spanS S l →
    ev (d + 2) 157 2 [some (.ref M), some (.int (nI l)), some (.int w), some (.int (nI k))] [] (sA m (M + 1) (fillS S (40 * i + q) k (-1))) = ev (d + 2) 157 43 [some (.ref M), some (.int (nI l)), some (.int w), some (.int (nI (spanS S l)))] [] (sA m (M + 1) (fillS S (40 * i + q) (spanS S l) (-1))) := by
  have hs := spanS_le S l
  have hf : ∀ k, k ≤ spanS S l → spanS (fillS S (40 * i + q) k (-1)) l = spanS S l := fun k hk => spanS_fill (by omega)
  have hf7 : ∀ k, k ≤ spanS S l → fillS S (40 * i + q) k (-1) (3700 + l) = nI i := fun k hk => by rw [fillS_out (by omega), h7]
  have hf8 : ∀ k, k ≤ spanS S l → fillS S (40 * i + q) k (-1) (4100 + l) = nI q := fun k hk => by rw [fillS_out (by omega), h8]
  intro r
  induction r with
  | zero =>
    intro k hk
    have hk' : k = spanS S l := by omega
    subst hk'
    have hnl : ¬ spanS S l < spanS S l := by omega
    rw [e157_2]
    simp (disch := first | (simp (disch := omega) only [am_k_some, va_rf_some, va_rf_none, tl_some, tl_none, am_clr_int, am_clr_ref, am_clr_none, am_clr_long, am_w_nil, am_w_int, am_w_ref, am_w_long, am_w_null, am_bb_0, am_bb_1, am_bb_bI, xK_sI, xR_sI, xS_sI, xN_sI, xK_sL, xR_sL, xS_sL, xN_sL, xK_sR, xR_sR, xS_sR, xN_sR, xK_sA, xR_sA, xS_sA, xN_sA, Nat.reduceAdd, Nat.reduceLeDiff, sI_sA, I_sA', sA_sA, I_sA, I_sA', nI_add, mul_nI, bI_0, bI_1, h.k, h.r0, h.k0, h.r1, h.k1, h.r2, h.k2, h.r3, h.k3, h.r4, h.k4, h.r5, h.k5, h.r6, h.k6, h.r8, h.k8, h.r9, h.k9, h.r15, h.k15, h.r17, h.k17, h.r19, h.k19, h.r20, h.k20, h.r21, h.k21, h.r22, h.k22, h, Mo_sA, Mo_sL, ix_nI, cl_nI]; done) | omega) only [e157_0, e157_1, e157_3, e157_4, e157_5, e157_8, e157_11, e157_12, e157_15, e157_17, e157_18, e157_19, e157_21, e157_24, e157_25, e157_26, e157_27, e157_29, e157_32, e157_33, e157_34, e157_35, e157_36, e157_37, e157_40, e157_44, e157_45, e157_47, e157_48, e157_51, e157_52, e157_53, e157_55, e157_56, e157_59, e157_60, e157_61, e157_63, e157_64, e157_67, am_k_some, va_rf_some, va_rf_none, tl_some, tl_none, am_clr_int, am_clr_ref, am_clr_none, am_clr_long, am_w_nil, am_w_int, am_w_ref, am_w_long, am_w_null, am_bb_0, am_bb_1, am_bb_bI, xK_sI, xR_sI, xS_sI, xN_sI, xK_sL, xR_sL, xS_sL, xN_sL, xK_sR, xR_sR, xS_sR, xN_sR, xK_sA, xR_sA, xS_sA, xN_sA, Nat.reduceAdd, Nat.reduceLeDiff, sI_sA, I_sA', sA_sA, I_sA, I_sA', nI_add, mul_nI, bI_0, bI_1, h.k, h.r0, h.k0, h.r1, h.k1, h.r2, h.k2, h.r3, h.k3, h.r4, h.k4, h.r5, h.k5, h.r6, h.k6, h.r8, h.k8, h.r9, h.k9, h.r15, h.k15, h.r17, h.k17, h.r19, h.k19, h.r20, h.k20, h.r21, h.k21, h.r22, h.k22, ix_nI, cl_nI, lt_nI, eq_nI, sub_nI, sp_149, hf, hnl, if_false]
  | succ r ih =>
    intro k hk
    have hnl : k < spanS S l := by omega
    rw [e157_2]
    simp (disch := first | (simp (disch := omega) only [am_k_some, va_rf_some, va_rf_none, tl_some, tl_none, am_clr_int, am_clr_ref, am_clr_none, am_clr_long, am_w_nil, am_w_int, am_w_ref, am_w_long, am_w_null, am_bb_0, am_bb_1, am_bb_bI, xK_sI, xR_sI, xS_sI, xN_sI, xK_sL, xR_sL, xS_sL, xN_sL, xK_sR, xR_sR, xS_sR, xN_sR, xK_sA, xR_sA, xS_sA, xN_sA, Nat.reduceAdd, Nat.reduceLeDiff, sI_sA, I_sA', sA_sA, I_sA, I_sA', nI_add, mul_nI, bI_0, bI_1, h.k, h.r0, h.k0, h.r1, h.k1, h.r2, h.k2, h.r3, h.k3, h.r4, h.k4, h.r5, h.k5, h.r6, h.k6, h.r8, h.k8, h.r9, h.k9, h.r15, h.k15, h.r17, h.k17, h.r19, h.k19, h.r20, h.k20, h.r21, h.k21, h.r22, h.k22, h, Mo_sA, Mo_sL, ix_nI, cl_nI]; done) | omega) only [e157_0, e157_1, e157_3, e157_4, e157_5, e157_8, e157_11, e157_12, e157_15, e157_17, e157_18, e157_19, e157_21, e157_24, e157_25, e157_26, e157_27, e157_29, e157_32, e157_33, e157_34, e157_35, e157_36, e157_37, e157_40, e157_44, e157_45, e157_47, e157_48, e157_51, e157_52, e157_53, e157_55, e157_56, e157_59, e157_60, e157_61, e157_63, e157_64, e157_67, am_k_some, va_rf_some, va_rf_none, tl_some, tl_none, am_clr_int, am_clr_ref, am_clr_none, am_clr_long, am_w_nil, am_w_int, am_w_ref, am_w_long, am_w_null, am_bb_0, am_bb_1, am_bb_bI, xK_sI, xR_sI, xS_sI, xN_sI, xK_sL, xR_sL, xS_sL, xN_sL, xK_sR, xR_sR, xS_sR, xN_sR, xK_sA, xR_sA, xS_sA, xN_sA, Nat.reduceAdd, Nat.reduceLeDiff, sI_sA, I_sA', sA_sA, I_sA, I_sA', nI_add, mul_nI, bI_0, bI_1, h.k, h.r0, h.k0, h.r1, h.k1, h.r2, h.k2, h.r3, h.k3, h.r4, h.k4, h.r5, h.k5, h.r6, h.k6, h.r8, h.k8, h.r9, h.k9, h.r15, h.k15, h.r17, h.k17, h.r19, h.k19, h.r20, h.k20, h.r21, h.k21, h.r22, h.k22, ix_nI, cl_nI, lt_nI, eq_nI, sub_nI, sp_149, sp_145, Nat.reduceMul, hf, hf7, hf8, hnl, if_true, fillS_s, ih (k + 1)]
def takeS (S : Nat → Int32) (l : Nat) (w : Int32) (i q : Nat) : Nat → Int32 := up1 (up1 (up1 (fillS S (40 * i + q) (spanS S l) (-1)) (3300 + l) w) (3700 + l) (-1)) (4100 + l) (-1)
theorem sp_157 {d M l i q : Nat} {w : Int32} {m : am_M} (h : Mo m M) (hl : l < 400) (hi : i < 20) (hq : q + spanS (mI m (M + 1)) l ≤ 40) (h7 : mI m (M + 1) (3700 + l) = nI i) (h8 : mI m (M + 1) (4100 + l) = nI q) : cal (d + 2) 157 [.ref M, .int (nI l), .int w] m = some (none, sA m (M + 1) (takeS (mI m (M + 1)) l w i q)) := by
  have h0 := sp_157_loop (d := d) (w := w) h hl hi hq h7 h8 _ 0 (Nat.zero_add _)
  rw [fillS_0, sA_self] at h0
  simp only [c157, e157_0, e157_1, e157_3, e157_4, e157_5, e157_8, e157_11, e157_12, e157_15, e157_17, e157_18, e157_19, e157_21, e157_24, e157_25, e157_26, e157_27, e157_29, e157_32, e157_33, e157_34, e157_35, e157_36, e157_37, e157_40, e157_44, e157_45, e157_47, e157_48, e157_51, e157_52, e157_53, e157_55, e157_56, e157_59, e157_60, e157_61, e157_63, e157_64, e157_67, am_k_some, va_rf_some, va_rf_none, tl_some, tl_none, am_clr_int, am_clr_ref, am_clr_none, am_clr_long, am_w_nil, am_w_int, am_w_ref, am_w_long, am_w_null, am_bb_0, am_bb_1, am_bb_bI, xK_sI, xR_sI, xS_sI, xN_sI, xK_sL, xR_sL, xS_sL, xN_sL, xK_sR, xR_sR, xS_sR, xN_sR, xK_sA, xR_sA, xS_sA, xN_sA, Nat.reduceAdd, Nat.reduceLeDiff, sI_sA, I_sA', sA_sA, I_sA, I_sA', nI_add, mul_nI, bI_0, bI_1]
  rw [h0]
  simp (disch := first | (simp (disch := omega) only [am_k_some, va_rf_some, va_rf_none, tl_some, tl_none, am_clr_int, am_clr_ref, am_clr_none, am_clr_long, am_w_nil, am_w_int, am_w_ref, am_w_long, am_w_null, am_bb_0, am_bb_1, am_bb_bI, xK_sI, xR_sI, xS_sI, xN_sI, xK_sL, xR_sL, xS_sL, xN_sL, xK_sR, xR_sR, xS_sR, xN_sR, xK_sA, xR_sA, xS_sA, xN_sA, Nat.reduceAdd, Nat.reduceLeDiff, sI_sA, I_sA', sA_sA, I_sA, I_sA', nI_add, mul_nI, bI_0, bI_1, h.k, h.r0, h.k0, h.r1, h.k1, h.r2, h.k2, h.r3, h.k3, h.r4, h.k4, h.r5, h.k5, h.r6, h.k6, h.r8, h.k8, h.r9, h.k9, h.r15, h.k15, h.r17, h.k17, h.r19, h.k19, h.r20, h.k20, h.r21, h.k21, h.r22, h.k22, h, Mo_sA, Mo_sL, ix_nI, cl_nI]; done) | omega) only [e157_0, e157_1, e157_3, e157_4, e157_5, e157_8, e157_11, e157_12, e157_15, e157_17, e157_18, e157_19, e157_21, e157_24, e157_25, e157_26, e157_27, e157_29, e157_32, e157_33, e157_34, e157_35, e157_36, e157_37, e157_40, e157_43, e157_44, e157_45, e157_47, e157_48, e157_51, e157_52, e157_53, e157_55, e157_56, e157_59, e157_60, e157_61, e157_63, e157_64, e157_67, am_k_some, va_rf_some, va_rf_none, tl_some, tl_none, am_clr_int, am_clr_ref, am_clr_none, am_clr_long, am_w_nil, am_w_int, am_w_ref, am_w_long, am_w_null, am_bb_0, am_bb_1, am_bb_bI, xK_sI, xR_sI, xS_sI, xN_sI, xK_sL, xR_sL, xS_sL, xN_sL, xK_sR, xR_sR, xS_sR, xN_sR, xK_sA, xR_sA, xS_sA, xN_sA, Nat.reduceAdd, Nat.reduceLeDiff, sI_sA, I_sA', sA_sA, I_sA, I_sA', nI_add, mul_nI, bI_0, bI_1, h.k, h.r0, h.k0, h.r1, h.k1, h.r2, h.k2, h.r3, h.k3, h.r4, h.k4, h.r5, h.k5, h.r6, h.k6, h.r8, h.k8, h.r9, h.k9, h.r15, h.k15, h.r17, h.k17, h.r19, h.k19, h.r20, h.k20, h.r21, h.k21, h.r22, h.k22, ix_nI, cl_nI, lt_nI, eq_nI, sub_nI, sp_146]
  rfl
/-- how many of the n places from a on -/
def cntR (f : Nat → Bool) (a : Nat) : Nat → Nat
  | 0 => 0
  | k + 1 => cntR f a k + (if f (a + k) then 1 else 0)
theorem cntR_le (f : Nat → Bool) (a n : Nat) : cntR f a n ≤ n := by
  induction n with
  | zero => exact Nat.le_refl _
  | succ n ih =>
    unfold cntR
    split <;> omega
theorem sp_158_loop {d M a n : Nat} {x : Int32} {m : am_M} (h : Mo m M) (hn : a + n ≤ 6508) : ∀ r k, k + r = n →
    ev d 158 6 [some (.ref M), some (.int (nI a)), some (.int (nI (a + n))), some (.int x), some (.int (nI (cntR (fun y => decide (mI m (M + 1) y = x)) a k))), some (.int (nI (a + k)))] [] m = some (some (.int (nI (cntR (fun y => decide (mI m (M + 1) y = x)) a n))), m) := by
  intro r
  induction r with
  | zero =>
    intro k hk
    have hk' : k = n := by omega
    subst hk'
    have hnl : ¬ a + k < a + k := by omega
    rw [e158_6]
    simp (disch := first | (simp (disch := omega) only [am_k_some, va_rf_some, va_rf_none, tl_some, tl_none, am_clr_int, am_clr_ref, am_clr_none, am_clr_long, am_w_nil, am_w_int, am_w_ref, am_w_long, am_w_null, am_bb_0, am_bb_1, am_bb_bI, xK_sI, xR_sI, xS_sI, xN_sI, xK_sL, xR_sL, xS_sL, xN_sL, xK_sR, xR_sR, xS_sR, xN_sR, xK_sA, xR_sA, xS_sA, xN_sA, Nat.reduceAdd, Nat.reduceLeDiff, sI_sA, I_sA', sA_sA, I_sA, I_sA', nI_add, mul_nI, bI_0, bI_1, h.k, h.r0, h.k0, h.r1, h.k1, h.r2, h.k2, h.r3, h.k3, h.r4, h.k4, h.r5, h.k5, h.r6, h.k6, h.r8, h.k8, h.r9, h.k9, h.r15, h.k15, h.r17, h.k17, h.r19, h.k19, h.r20, h.k20, h.r21, h.k21, h.r22, h.k22, h, Mo_sA, Mo_sL, ix_nI, cl_nI]; done) | omega) only [e158_0, e158_1, e158_3, e158_4, e158_8, e158_9, e158_12, e158_14, e158_15, e158_18, e158_20, e158_21, e158_22, e158_25, e158_26, e158_29, e158_30, e158_31, e158_33, e158_36, e158_39, e158_41, am_k_some, va_rf_some, va_rf_none, tl_some, tl_none, am_clr_int, am_clr_ref, am_clr_none, am_clr_long, am_w_nil, am_w_int, am_w_ref, am_w_long, am_w_null, am_bb_0, am_bb_1, am_bb_bI, xK_sI, xR_sI, xS_sI, xN_sI, xK_sL, xR_sL, xS_sL, xN_sL, xK_sR, xR_sR, xS_sR, xN_sR, xK_sA, xR_sA, xS_sA, xN_sA, Nat.reduceAdd, Nat.reduceLeDiff, sI_sA, I_sA', sA_sA, I_sA, I_sA', nI_add, mul_nI, bI_0, bI_1, h.k, h.r0, h.k0, h.r1, h.k1, h.r2, h.k2, h.r3, h.k3, h.r4, h.k4, h.r5, h.k5, h.r6, h.k6, h.r8, h.k8, h.r9, h.k9, h.r15, h.k15, h.r17, h.k17, h.r19, h.k19, h.r20, h.k20, h.r21, h.k21, h.r22, h.k22, ix_nI, cl_nI, lt_nI, eq_nI, sub_nI, hnl, if_false]
  | succ r ih =>
    intro k hk
    have hnl : a + k < a + n := by omega
    have ih := ih (k + 1) (by omega)
    rw [cntR] at ih
    rw [e158_6]
    by_cases hc : mI m (M + 1) (a + k) = x
    · simp only [hc, decide_true, if_true] at ih
      simp (disch := first | (simp (disch := omega) only [am_k_some, va_rf_some, va_rf_none, tl_some, tl_none, am_clr_int, am_clr_ref, am_clr_none, am_clr_long, am_w_nil, am_w_int, am_w_ref, am_w_long, am_w_null, am_bb_0, am_bb_1, am_bb_bI, xK_sI, xR_sI, xS_sI, xN_sI, xK_sL, xR_sL, xS_sL, xN_sL, xK_sR, xR_sR, xS_sR, xN_sR, xK_sA, xR_sA, xS_sA, xN_sA, Nat.reduceAdd, Nat.reduceLeDiff, sI_sA, I_sA', sA_sA, I_sA, I_sA', nI_add, mul_nI, bI_0, bI_1, h.k, h.r0, h.k0, h.r1, h.k1, h.r2, h.k2, h.r3, h.k3, h.r4, h.k4, h.r5, h.k5, h.r6, h.k6, h.r8, h.k8, h.r9, h.k9, h.r15, h.k15, h.r17, h.k17, h.r19, h.k19, h.r20, h.k20, h.r21, h.k21, h.r22, h.k22, h, Mo_sA, Mo_sL, ix_nI, cl_nI]; done) | omega) only [e158_0, e158_1, e158_3, e158_4, e158_8, e158_9, e158_12, e158_14, e158_15, e158_18, e158_20, e158_21, e158_22, e158_25, e158_26, e158_29, e158_30, e158_31, e158_33, e158_36, e158_39, e158_41, am_k_some, va_rf_some, va_rf_none, tl_some, tl_none, am_clr_int, am_clr_ref, am_clr_none, am_clr_long, am_w_nil, am_w_int, am_w_ref, am_w_long, am_w_null, am_bb_0, am_bb_1, am_bb_bI, xK_sI, xR_sI, xS_sI, xN_sI, xK_sL, xR_sL, xS_sL, xN_sL, xK_sR, xR_sR, xS_sR, xN_sR, xK_sA, xR_sA, xS_sA, xN_sA, Nat.reduceAdd, Nat.reduceLeDiff, sI_sA, I_sA', sA_sA, I_sA, I_sA', nI_add, mul_nI, bI_0, bI_1, h.k, h.r0, h.k0, h.r1, h.k1, h.r2, h.k2, h.r3, h.k3, h.r4, h.k4, h.r5, h.k5, h.r6, h.k6, h.r8, h.k8, h.r9, h.k9, h.r15, h.k15, h.r17, h.k17, h.r19, h.k19, h.r20, h.k20, h.r21, h.k21, h.r22, h.k22, ix_nI, cl_nI, lt_nI, eq_nI, sub_nI, hnl, if_true, hc, Nat.add_assoc, ih]
    · simp only [hc, decide_false, Bool.false_eq_true, if_false] at ih
      simp (disch := first | (simp (disch := omega) only [am_k_some, va_rf_some, va_rf_none, tl_some, tl_none, am_clr_int, am_clr_ref, am_clr_none, am_clr_long, am_w_nil, am_w_int, am_w_ref, am_w_long, am_w_null, am_bb_0, am_bb_1, am_bb_bI, xK_sI, xR_sI, xS_sI, xN_sI, xK_sL, xR_sL, xS_sL, xN_sL, xK_sR, xR_sR, xS_sR, xN_sR, xK_sA, xR_sA, xS_sA, xN_sA, Nat.reduceAdd, Nat.reduceLeDiff, sI_sA, I_sA', sA_sA, I_sA, I_sA', nI_add, mul_nI, bI_0, bI_1, h.k, h.r0, h.k0, h.r1, h.k1, h.r2, h.k2, h.r3, h.k3, h.r4, h.k4, h.r5, h.k5, h.r6, h.k6, h.r8, h.k8, h.r9, h.k9, h.r15, h.k15, h.r17, h.k17, h.r19, h.k19, h.r20, h.k20, h.r21, h.k21, h.r22, h.k22, h, Mo_sA, Mo_sL, ix_nI, cl_nI]; done) | omega) only [e158_0, e158_1, e158_3, e158_4, e158_8, e158_9, e158_12, e158_14, e158_15, e158_18, e158_20, e158_21, e158_22, e158_25, e158_26, e158_29, e158_30, e158_31, e158_33, e158_36, e158_39, e158_41, am_k_some, va_rf_some, va_rf_none, tl_some, tl_none, am_clr_int, am_clr_ref, am_clr_none, am_clr_long, am_w_nil, am_w_int, am_w_ref, am_w_long, am_w_null, am_bb_0, am_bb_1, am_bb_bI, xK_sI, xR_sI, xS_sI, xN_sI, xK_sL, xR_sL, xS_sL, xN_sL, xK_sR, xR_sR, xS_sR, xN_sR, xK_sA, xR_sA, xS_sA, xN_sA, Nat.reduceAdd, Nat.reduceLeDiff, sI_sA, I_sA', sA_sA, I_sA, I_sA', nI_add, mul_nI, bI_0, bI_1, h.k, h.r0, h.k0, h.r1, h.k1, h.r2, h.k2, h.r3, h.k3, h.r4, h.k4, h.r5, h.k5, h.r6, h.k6, h.r8, h.k8, h.r9, h.k9, h.r15, h.k15, h.r17, h.k17, h.r19, h.k19, h.r20, h.k20, h.r21, h.k21, h.r22, h.k22, ix_nI, cl_nI, lt_nI, eq_nI, sub_nI, hnl, if_true, hc, if_false, Nat.add_assoc, ih]
theorem sp_158 {d M a n : Nat} {x : Int32} {m : am_M} (h : Mo m M) (hn : a + n ≤ 6508) : cal d 158 [.ref M, .int (nI a), .int (nI (a + n)), .int x] m = some (some (.int (nI (cntR (fun y => decide (mI m (M + 1) y = x)) a n))), m) := by
  have h0 := sp_158_loop (d := d) (x := x) h hn _ 0 (Nat.zero_add _)
  rw [cntR, Nat.add_zero] at h0
  simp only [c158, e158_0, e158_1, e158_3, e158_4, e158_8, e158_9, e158_12, e158_14, e158_15, e158_18, e158_20, e158_21, e158_22, e158_25, e158_26, e158_29, e158_30, e158_31, e158_33, e158_36, e158_39, e158_41, am_k_some, va_rf_some, va_rf_none, tl_some, tl_none, am_clr_int, am_clr_ref, am_clr_none, am_clr_long, am_w_nil, am_w_int, am_w_ref, am_w_long, am_w_null, am_bb_0, am_bb_1, am_bb_bI, xK_sI, xR_sI, xS_sI, xN_sI, xK_sL, xR_sL, xS_sL, xN_sL, xK_sR, xR_sR, xS_sR, xN_sR, xK_sA, xR_sA, xS_sA, xN_sA, Nat.reduceAdd, Nat.reduceLeDiff, sI_sA, I_sA', sA_sA, I_sA, I_sA', nI_add, mul_nI, bI_0, bI_1]
  rw [h0]
def nm (S : Nat → Int32) : Nat := (S 6500).toNatClampNeg
def NmOk (S : Nat → Int32) : Prop := S 6500 = nI (nm S) ∧ nm S ≤ 400
theorem sp_159_loop {d M n : Nat} {m : am_M} (h : Mo m M) (hc : mI m (M + 1) 6500 = nI n) (hn : n ≤ 400) : ∀ r k, k + r = n →
    ev (d + 1) 159 4 [some (.ref M), some (.int (nI (cntR (fun y => decide (mI m (M + 1) (3300 + y) = nI 1)) 0 k))), some (.int (nI k))] [] m = some (some (.int (nI (cntR (fun y => decide (mI m (M + 1) (3300 + y) = nI 1)) 0 n))), m) := by
  intro r
  induction r with
  | zero =>
    intro k hk
    have hk' : k = n := by omega
    subst hk'
    have hnl : ¬ k < k := by omega
    rw [e159_4]
    simp (disch := first | (simp (disch := omega) only [am_k_some, va_rf_some, va_rf_none, tl_some, tl_none, am_clr_int, am_clr_ref, am_clr_none, am_clr_long, am_w_nil, am_w_int, am_w_ref, am_w_long, am_w_null, am_bb_0, am_bb_1, am_bb_bI, xK_sI, xR_sI, xS_sI, xN_sI, xK_sL, xR_sL, xS_sL, xN_sL, xK_sR, xR_sR, xS_sR, xN_sR, xK_sA, xR_sA, xS_sA, xN_sA, Nat.reduceAdd, Nat.reduceLeDiff, sI_sA, I_sA', sA_sA, I_sA, I_sA', nI_add, mul_nI, bI_0, bI_1, h.k, h.r0, h.k0, h.r1, h.k1, h.r2, h.k2, h.r3, h.k3, h.r4, h.k4, h.r5, h.k5, h.r6, h.k6, h.r8, h.k8, h.r9, h.k9, h.r15, h.k15, h.r17, h.k17, h.r19, h.k19, h.r20, h.k20, h.r21, h.k21, h.r22, h.k22, h, Mo_sA, Mo_sL, ix_nI, cl_nI]; done) | omega) only [e159_0, e159_1, e159_2, e159_3, e159_5, e159_6, e159_9, e159_12, e159_13, e159_16, e159_17, e159_18, e159_19, e159_21, e159_24, e159_25, e159_28, e159_29, e159_32, e159_33, e159_34, e159_35, e159_38, e159_41, e159_42, am_k_some, va_rf_some, va_rf_none, tl_some, tl_none, am_clr_int, am_clr_ref, am_clr_none, am_clr_long, am_w_nil, am_w_int, am_w_ref, am_w_long, am_w_null, am_bb_0, am_bb_1, am_bb_bI, xK_sI, xR_sI, xS_sI, xN_sI, xK_sL, xR_sL, xS_sL, xN_sL, xK_sR, xR_sR, xS_sR, xN_sR, xK_sA, xR_sA, xS_sA, xN_sA, Nat.reduceAdd, Nat.reduceLeDiff, sI_sA, I_sA', sA_sA, I_sA, I_sA', nI_add, mul_nI, bI_0, bI_1, h.k, h.r0, h.k0, h.r1, h.k1, h.r2, h.k2, h.r3, h.k3, h.r4, h.k4, h.r5, h.k5, h.r6, h.k6, h.r8, h.k8, h.r9, h.k9, h.r15, h.k15, h.r17, h.k17, h.r19, h.k19, h.r20, h.k20, h.r21, h.k21, h.r22, h.k22, ix_nI, cl_nI, lt_nI, eq_nI, sub_nI, hc, hnl, if_false]
  | succ r ih =>
    intro k hk
    have hnl : k < n := by omega
    have ih := ih (k + 1) (by omega)
    rw [cntR, Nat.zero_add] at ih
    rw [e159_4]
    by_cases hx : mI m (M + 1) (3300 + k) = nI 1
    · simp only [hx, decide_true, if_true] at ih
      simp (disch := first | (simp (disch := omega) only [am_k_some, va_rf_some, va_rf_none, tl_some, tl_none, am_clr_int, am_clr_ref, am_clr_none, am_clr_long, am_w_nil, am_w_int, am_w_ref, am_w_long, am_w_null, am_bb_0, am_bb_1, am_bb_bI, xK_sI, xR_sI, xS_sI, xN_sI, xK_sL, xR_sL, xS_sL, xN_sL, xK_sR, xR_sR, xS_sR, xN_sR, xK_sA, xR_sA, xS_sA, xN_sA, Nat.reduceAdd, Nat.reduceLeDiff, sI_sA, I_sA', sA_sA, I_sA, I_sA', nI_add, mul_nI, bI_0, bI_1, h.k, h.r0, h.k0, h.r1, h.k1, h.r2, h.k2, h.r3, h.k3, h.r4, h.k4, h.r5, h.k5, h.r6, h.k6, h.r8, h.k8, h.r9, h.k9, h.r15, h.k15, h.r17, h.k17, h.r19, h.k19, h.r20, h.k20, h.r21, h.k21, h.r22, h.k22, h, Mo_sA, Mo_sL, ix_nI, cl_nI]; done) | omega) only [e159_0, e159_1, e159_2, e159_3, e159_5, e159_6, e159_9, e159_12, e159_13, e159_16, e159_17, e159_18, e159_19, e159_21, e159_24, e159_25, e159_28, e159_29, e159_32, e159_33, e159_34, e159_35, e159_38, e159_41, e159_42, am_k_some, va_rf_some, va_rf_none, tl_some, tl_none, am_clr_int, am_clr_ref, am_clr_none, am_clr_long, am_w_nil, am_w_int, am_w_ref, am_w_long, am_w_null, am_bb_0, am_bb_1, am_bb_bI, xK_sI, xR_sI, xS_sI, xN_sI, xK_sL, xR_sL, xS_sL, xN_sL, xK_sR, xR_sR, xS_sR, xN_sR, xK_sA, xR_sA, xS_sA, xN_sA, Nat.reduceAdd, Nat.reduceLeDiff, sI_sA, I_sA', sA_sA, I_sA, I_sA', nI_add, mul_nI, bI_0, bI_1, h.k, h.r0, h.k0, h.r1, h.k1, h.r2, h.k2, h.r3, h.k3, h.r4, h.k4, h.r5, h.k5, h.r6, h.k6, h.r8, h.k8, h.r9, h.k9, h.r15, h.k15, h.r17, h.k17, h.r19, h.k19, h.r20, h.k20, h.r21, h.k21, h.r22, h.k22, ix_nI, cl_nI, lt_nI, eq_nI, sub_nI, hc, hnl, if_true, sp_145, Nat.reduceMul, hx, ih]
    · simp only [hx, decide_false, Bool.false_eq_true, if_false] at ih
      simp (disch := first | (simp (disch := omega) only [am_k_some, va_rf_some, va_rf_none, tl_some, tl_none, am_clr_int, am_clr_ref, am_clr_none, am_clr_long, am_w_nil, am_w_int, am_w_ref, am_w_long, am_w_null, am_bb_0, am_bb_1, am_bb_bI, xK_sI, xR_sI, xS_sI, xN_sI, xK_sL, xR_sL, xS_sL, xN_sL, xK_sR, xR_sR, xS_sR, xN_sR, xK_sA, xR_sA, xS_sA, xN_sA, Nat.reduceAdd, Nat.reduceLeDiff, sI_sA, I_sA', sA_sA, I_sA, I_sA', nI_add, mul_nI, bI_0, bI_1, h.k, h.r0, h.k0, h.r1, h.k1, h.r2, h.k2, h.r3, h.k3, h.r4, h.k4, h.r5, h.k5, h.r6, h.k6, h.r8, h.k8, h.r9, h.k9, h.r15, h.k15, h.r17, h.k17, h.r19, h.k19, h.r20, h.k20, h.r21, h.k21, h.r22, h.k22, h, Mo_sA, Mo_sL, ix_nI, cl_nI]; done) | omega) only [e159_0, e159_1, e159_2, e159_3, e159_5, e159_6, e159_9, e159_12, e159_13, e159_16, e159_17, e159_18, e159_19, e159_21, e159_24, e159_25, e159_28, e159_29, e159_32, e159_33, e159_34, e159_35, e159_38, e159_41, e159_42, am_k_some, va_rf_some, va_rf_none, tl_some, tl_none, am_clr_int, am_clr_ref, am_clr_none, am_clr_long, am_w_nil, am_w_int, am_w_ref, am_w_long, am_w_null, am_bb_0, am_bb_1, am_bb_bI, xK_sI, xR_sI, xS_sI, xN_sI, xK_sL, xR_sL, xS_sL, xN_sL, xK_sR, xR_sR, xS_sR, xN_sR, xK_sA, xR_sA, xS_sA, xN_sA, Nat.reduceAdd, Nat.reduceLeDiff, sI_sA, I_sA', sA_sA, I_sA, I_sA', nI_add, mul_nI, bI_0, bI_1, h.k, h.r0, h.k0, h.r1, h.k1, h.r2, h.k2, h.r3, h.k3, h.r4, h.k4, h.r5, h.k5, h.r6, h.k6, h.r8, h.k8, h.r9, h.k9, h.r15, h.k15, h.r17, h.k17, h.r19, h.k19, h.r20, h.k20, h.r21, h.k21, h.r22, h.k22, ix_nI, cl_nI, lt_nI, eq_nI, sub_nI, hc, hnl, if_true, sp_145, Nat.reduceMul, hx, if_false, ih]
def whS (S : Nat → Int32) (w : Int32) : Nat := cntR (fun y => decide (S (3300 + y) = w)) 0 (nm S)
theorem sp_159 {d M : Nat} {m : am_M} (h : Mo m M) (hN : NmOk (mI m (M + 1))) : cal (d + 1) 159 [.ref M] m = some (some (.int (nI (whS (mI m (M + 1)) (nI 1)))), m) := by
  have h0 := sp_159_loop (d := d) h hN.1 hN.2 _ 0 (Nat.zero_add _)
  rw [cntR] at h0
  simp only [c159, e159_0, e159_1, e159_2, e159_3, e159_5, e159_6, e159_9, e159_12, e159_13, e159_16, e159_17, e159_18, e159_19, e159_21, e159_24, e159_25, e159_28, e159_29, e159_32, e159_33, e159_34, e159_35, e159_38, e159_41, e159_42, am_k_some, va_rf_some, va_rf_none, tl_some, tl_none, am_clr_int, am_clr_ref, am_clr_none, am_clr_long, am_w_nil, am_w_int, am_w_ref, am_w_long, am_w_null, am_bb_0, am_bb_1, am_bb_bI, xK_sI, xR_sI, xS_sI, xN_sI, xK_sL, xR_sL, xS_sL, xN_sL, xK_sR, xR_sR, xS_sR, xN_sR, xK_sA, xR_sA, xS_sA, xN_sA, Nat.reduceAdd, Nat.reduceLeDiff, sI_sA, I_sA', sA_sA, I_sA, I_sA', nI_add, mul_nI, bI_0, bI_1]
  rw [h0]
  rfl
def emS (S : Nat → Int32) (i : Nat) : Bool := decide (cntR (fun y => decide (S y = -1)) (40 * i) (ln S i) = ln S i)
theorem sp_160 {d M i : Nat} {m : am_M} (h : Mo m M) (hi : i < 20) (hL : LnOk (mI m (M + 1))) : cal (d + 1) 160 [.ref M, .int (nI i)] m = some (some (.int (bI (emS (mI m (M + 1)) i))), m) := by
  obtain ⟨h1, h2⟩ := hL i hi
  have hc := cntR_le (fun y => decide (mI m (M + 1) y = -1)) (40 * i) (ln (mI m (M + 1)) i)
  simp (disch := first | (simp (disch := omega) only [am_k_some, va_rf_some, va_rf_none, tl_some, tl_none, am_clr_int, am_clr_ref, am_clr_none, am_clr_long, am_w_nil, am_w_int, am_w_ref, am_w_long, am_w_null, am_bb_0, am_bb_1, am_bb_bI, xK_sI, xR_sI, xS_sI, xN_sI, xK_sL, xR_sL, xS_sL, xN_sL, xK_sR, xR_sR, xS_sR, xN_sR, xK_sA, xR_sA, xS_sA, xN_sA, Nat.reduceAdd, Nat.reduceLeDiff, sI_sA, I_sA', sA_sA, I_sA, I_sA', nI_add, mul_nI, bI_0, bI_1, h.k, h.r0, h.k0, h.r1, h.k1, h.r2, h.k2, h.r3, h.k3, h.r4, h.k4, h.r5, h.k5, h.r6, h.k6, h.r8, h.k8, h.r9, h.k9, h.r15, h.k15, h.r17, h.k17, h.r19, h.k19, h.r20, h.k20, h.r21, h.k21, h.r22, h.k22, h, Mo_sA, Mo_sL, ix_nI, cl_nI]; done) | omega) only [c160, e160_0, e160_1, e160_3, e160_4, e160_5, e160_7, e160_8, e160_9, e160_10, e160_11, e160_14, e160_15, e160_16, e160_19, e160_20, e160_21, e160_24, e160_27, e160_28, e160_31, e160_32, am_k_some, va_rf_some, va_rf_none, tl_some, tl_none, am_clr_int, am_clr_ref, am_clr_none, am_clr_long, am_w_nil, am_w_int, am_w_ref, am_w_long, am_w_null, am_bb_0, am_bb_1, am_bb_bI, xK_sI, xR_sI, xS_sI, xN_sI, xK_sL, xR_sL, xS_sL, xN_sL, xK_sR, xR_sR, xS_sR, xN_sR, xK_sA, xR_sA, xS_sA, xN_sA, Nat.reduceAdd, Nat.reduceLeDiff, sI_sA, I_sA', sA_sA, I_sA, I_sA', nI_add, mul_nI, bI_0, bI_1, h.k, h.r0, h.k0, h.r1, h.k1, h.r2, h.k2, h.r3, h.k3, h.r4, h.k4, h.r5, h.k5, h.r6, h.k6, h.r8, h.k8, h.r9, h.k9, h.r15, h.k15, h.r17, h.k17, h.r19, h.k19, h.r20, h.k20, h.r21, h.k21, h.r22, h.k22, ix_nI, cl_nI, lt_nI, eq_nI, sub_nI, sp_141, h1, sp_158]
  unfold emS
  by_cases hx : cntR (fun y => decide (mI m (M + 1) y = -1)) (40 * i) (ln (mI m (M + 1)) i) = ln (mI m (M + 1)) i
  · simp only [hx, decide_true, if_true]
    rfl
  · simp only [hx, decide_false, if_false]
    rfl
