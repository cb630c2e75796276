def Mo (m : am_M) (M : Nat) : Prop := mK m M = (1, 10, 0) ∧ mR m M 0 = some (M + 1) ∧ mK m (M + 1) = (2, 0, 6508)
theorem Mo.k {m : am_M} {M : Nat} (h : Mo m M) : mK m M = (1, 10, 0) := h.1
theorem Mo.r0 {m : am_M} {M : Nat} (h : Mo m M) : mR m M 0 = some (M + 1) := h.2.1
theorem Mo.k0 {m : am_M} {M : Nat} (h : Mo m M) : mK m (M + 1) = (2, 0, 6508) := h.2.2
theorem sp_139 {d a : Nat} {i : Int32} {m : am_M} : cal d 139 [.ref a, .int i] m = some (some (.int (bI (!decide (i < nI 0) && decide (i < nI 20)))), m) := by
  simp only [c139, e139_0, e139_1, e139_4, e139_5, e139_7, e139_10, e139_11, e139_14, e139_15, am_k_some, va_rf_some, va_rf_none, tl_some, tl_none, am_clr_int, am_clr_ref, am_clr_none, am_clr_long, am_w_nil, am_w_int, am_w_ref, am_w_long, am_w_null, am_bb_0, am_bb_1, am_bb_bI, xK_sI, xR_sI, xS_sI, xN_sI, xK_sL, xR_sL, xS_sL, xN_sL, xK_sR, xR_sR, xS_sR, xN_sR, xK_sA, xR_sA, xS_sA, xN_sA, Nat.reduceAdd, Nat.reduceLeDiff, nI_add, mul_nI, bI_0, bI_1]
  by_cases h1 : i < nI 0
  · simp [h1, bI]
  · by_cases h2 : i < nI 20
    · simp [h1, h2, bI]
    · simp [h1, h2, bI]
theorem sp_141 {d M i : Nat} {m : am_M} (h : Mo m M) (hi : i < 20) : cal d 141 [.ref M, .int (nI i)] m = some (some (.int (mI m (M + 1) (820 + i))), m) := by
  have h1 : am_ix (nI (820 + i)) 6508 = true := ix_nI (by omega) (by omega)
  have h2 : (nI (820 + i)).toNatClampNeg = 820 + i := cl_nI (by omega)
  simp only [c141, e141_0, e141_1, e141_4, e141_7, e141_8, e141_9, e141_10, am_k_some, va_rf_some, va_rf_none, tl_some, tl_none, am_clr_int, am_clr_ref, am_clr_none, am_clr_long, am_w_nil, am_w_int, am_w_ref, am_w_long, am_w_null, am_bb_0, am_bb_1, am_bb_bI, xK_sI, xR_sI, xS_sI, xN_sI, xK_sL, xR_sL, xS_sL, xN_sL, xK_sR, xR_sR, xS_sR, xN_sR, xK_sA, xR_sA, xS_sA, xN_sA, Nat.reduceAdd, Nat.reduceLeDiff, nI_add, mul_nI, bI_0, bI_1, h.k, h.r0, h.k0, h1, h2]
theorem sp_143 {d M i p : Nat} {m : am_M} (h : Mo m M) (hi : i < 20) (hp : p < 40) : cal d 143 [.ref M, .int (nI i), .int (nI p)] m = some (some (.int (mI m (M + 1) (40 * i + p))), m) := by
  have h1 : am_ix (nI (40 * i + p)) 6508 = true := ix_nI (by omega) (by omega)
  have h2 : (nI (40 * i + p)).toNatClampNeg = 40 * i + p := cl_nI (by omega)
  simp only [c143, e143_0, e143_1, e143_4, e143_6, e143_7, e143_8, e143_9, e143_10, e143_11, am_k_some, va_rf_some, va_rf_none, tl_some, tl_none, am_clr_int, am_clr_ref, am_clr_none, am_clr_long, am_w_nil, am_w_int, am_w_ref, am_w_long, am_w_null, am_bb_0, am_bb_1, am_bb_bI, xK_sI, xR_sI, xS_sI, xN_sI, xK_sL, xR_sL, xS_sL, xN_sL, xK_sR, xR_sR, xS_sR, xN_sR, xK_sA, xR_sA, xS_sA, xN_sA, Nat.reduceAdd, Nat.reduceLeDiff, nI_add, mul_nI, bI_0, bI_1, h.k, h.r0, h.k0, h1, h2]
/-- with a discharger -/
theorem sp_143' {d M i p : Nat} {m : am_M} (h : Mo m M) (hi : i < 20) (hp : p < 40) : cal d 143 [.ref M, .int (nI i), .int (nI p)] m = some (some (.int (mI m (M + 1) (40 * i + p))), m) := by
  simp (disch := first | (simp (disch := omega) only [am_k_some, va_rf_some, va_rf_none, tl_some, tl_none, am_clr_int, am_clr_ref, am_clr_none, am_clr_long, am_w_nil, am_w_int, am_w_ref, am_w_long, am_w_null, am_bb_0, am_bb_1, am_bb_bI, xK_sI, xR_sI, xS_sI, xN_sI, xK_sL, xR_sL, xS_sL, xN_sL, xK_sR, xR_sR, xS_sR, xN_sR, xK_sA, xR_sA, xS_sA, xN_sA, Nat.reduceAdd, Nat.reduceLeDiff, nI_add, mul_nI, bI_0, bI_1, h.k, h.r0, h.k0, ix_nI, cl_nI]; done) | omega) only [c143, e143_0, e143_1, e143_4, e143_6, e143_7, e143_8, e143_9, e143_10, e143_11, am_k_some, va_rf_some, va_rf_none, tl_some, tl_none, am_clr_int, am_clr_ref, am_clr_none, am_clr_long, am_w_nil, am_w_int, am_w_ref, am_w_long, am_w_null, am_bb_0, am_bb_1, am_bb_bI, xK_sI, xR_sI, xS_sI, xN_sI, xK_sL, xR_sL, xS_sL, xN_sL, xK_sR, xR_sR, xS_sR, xN_sR, xK_sA, xR_sA, xS_sA, xN_sA, Nat.reduceAdd, Nat.reduceLeDiff, nI_add, mul_nI, bI_0, bI_1, h.k, h.r0, h.k0, ix_nI, cl_nI, lt_nI, eq_nI, sub_nI]
theorem sp_154 {d M i : Nat} {e x : Int32} {m : am_M} (h : Mo m M) (hi : i < 20) : cal (d + 1) 154 [.ref M, .int (nI i), .int e, .int x] m = some (some (.int (if e = nI 0 then x else mI m (M + 1) (820 + i) - nI 1 - x)), m) := by
  simp only [c154, e154_0, e154_1, e154_4, e154_5, e154_8, e154_9, e154_10, e154_13, e154_14, e154_15, e154_16, e154_17, am_k_some, va_rf_some, va_rf_none, tl_some, tl_none, am_clr_int, am_clr_ref, am_clr_none, am_clr_long, am_w_nil, am_w_int, am_w_ref, am_w_long, am_w_null, am_bb_0, am_bb_1, am_bb_bI, xK_sI, xR_sI, xS_sI, xN_sI, xK_sL, xR_sL, xS_sL, xN_sL, xK_sR, xR_sR, xS_sR, xN_sR, xK_sA, xR_sA, xS_sA, xN_sA, Nat.reduceAdd, Nat.reduceLeDiff, nI_add, mul_nI, bI_0, bI_1, h.k, h.r0, h.k0, sp_141 h hi]
  split <;> rfl
def wayN (f : Nat → Bool) : Nat → Nat → Nat
  | 0, n => n
  | k + 1, n => if f n then wayN f k (n + 1) else n
theorem sp_155_loop {d M i len : Nat} {e : Int32} {m : am_M} (h : Mo m M) (hi : i < 20) (hlen : mI m (M + 1) (820 + i) = nI len) (hl : len ≤ 40) : ∀ k n, n + k = len →
    ev (d + 2) 155 2 [some (.ref M), some (.int (nI i)), some (.int e), some (.int (nI n))] [] m = some (some (.int (nI (wayN (fun q => decide (mI m (M + 1) (40 * i + (if e = nI 0 then q else len - 1 - q)) = -1)) k n))), m) := by
  intro k
  induction k with
  | zero =>
    intro n hn
    have hnl : ¬ n < len := by omega
    simp (disch := first | (simp (disch := omega) only [am_k_some, va_rf_some, va_rf_none, tl_some, tl_none, am_clr_int, am_clr_ref, am_clr_none, am_clr_long, am_w_nil, am_w_int, am_w_ref, am_w_long, am_w_null, am_bb_0, am_bb_1, am_bb_bI, xK_sI, xR_sI, xS_sI, xN_sI, xK_sL, xR_sL, xS_sL, xN_sL, xK_sR, xR_sR, xS_sR, xN_sR, xK_sA, xR_sA, xS_sA, xN_sA, Nat.reduceAdd, Nat.reduceLeDiff, nI_add, mul_nI, bI_0, bI_1, h.k, h.r0, h.k0, ix_nI, cl_nI]; done) | omega) only [c155, e155_0, e155_1, e155_2, e155_3, e155_4, e155_5, e155_8, e155_11, e155_12, e155_13, e155_14, e155_15, e155_16, e155_17, e155_20, e155_23, e155_24, e155_27, e155_30, e155_33, e155_34, am_k_some, va_rf_some, va_rf_none, tl_some, tl_none, am_clr_int, am_clr_ref, am_clr_none, am_clr_long, am_w_nil, am_w_int, am_w_ref, am_w_long, am_w_null, am_bb_0, am_bb_1, am_bb_bI, xK_sI, xR_sI, xS_sI, xN_sI, xK_sL, xR_sL, xS_sL, xN_sL, xK_sR, xR_sR, xS_sR, xN_sR, xK_sA, xR_sA, xS_sA, xN_sA, Nat.reduceAdd, Nat.reduceLeDiff, nI_add, mul_nI, bI_0, bI_1, h.k, h.r0, h.k0, ix_nI, cl_nI, lt_nI, eq_nI, sub_nI, sp_141 h hi, hlen, hnl, if_false, wayN]
  | succ k ih =>
    intro n hn
    have hnl : n < len := by omega
    rw [e155_2]
    by_cases he : e = nI 0
    · subst he
      simp (disch := first | (simp (disch := omega) only [am_k_some, va_rf_some, va_rf_none, tl_some, tl_none, am_clr_int, am_clr_ref, am_clr_none, am_clr_long, am_w_nil, am_w_int, am_w_ref, am_w_long, am_w_null, am_bb_0, am_bb_1, am_bb_bI, xK_sI, xR_sI, xS_sI, xN_sI, xK_sL, xR_sL, xS_sL, xN_sL, xK_sR, xR_sR, xS_sR, xN_sR, xK_sA, xR_sA, xS_sA, xN_sA, Nat.reduceAdd, Nat.reduceLeDiff, nI_add, mul_nI, bI_0, bI_1, h.k, h.r0, h.k0, ix_nI, cl_nI]; done) | omega) only [e155_0, e155_1, e155_3, e155_4, e155_5, e155_8, e155_11, e155_12, e155_13, e155_14, e155_15, e155_16, e155_17, e155_20, e155_23, e155_24, e155_27, e155_30, e155_33, e155_34, am_k_some, va_rf_some, va_rf_none, tl_some, tl_none, am_clr_int, am_clr_ref, am_clr_none, am_clr_long, am_w_nil, am_w_int, am_w_ref, am_w_long, am_w_null, am_bb_0, am_bb_1, am_bb_bI, xK_sI, xR_sI, xS_sI, xN_sI, xK_sL, xR_sL, xS_sL, xN_sL, xK_sR, xR_sR, xS_sR, xN_sR, xK_sA, xR_sA, xS_sA, xN_sA, Nat.reduceAdd, Nat.reduceLeDiff, nI_add, mul_nI, bI_0, bI_1, h.k, h.r0, h.k0, ix_nI, cl_nI, lt_nI, eq_nI, sub_nI, sp_141 h hi, hlen, hnl, if_true, wayN, sp_154 h hi, sp_143 h hi, ih (n + 1)]
      by_cases hc : mI m (M + 1) (40 * i + n) = -1
      · simp only [hc, if_true, decide_true]
      · simp only [hc, if_false, decide_false]
        rfl
    · have e1 : nI len - nI 1 - nI n = nI (len - 1 - n) := by rw [sub_nI (by omega), sub_nI (by omega)]
      simp (disch := first | (simp (disch := omega) only [am_k_some, va_rf_some, va_rf_none, tl_some, tl_none, am_clr_int, am_clr_ref, am_clr_none, am_clr_long, am_w_nil, am_w_int, am_w_ref, am_w_long, am_w_null, am_bb_0, am_bb_1, am_bb_bI, xK_sI, xR_sI, xS_sI, xN_sI, xK_sL, xR_sL, xS_sL, xN_sL, xK_sR, xR_sR, xS_sR, xN_sR, xK_sA, xR_sA, xS_sA, xN_sA, Nat.reduceAdd, Nat.reduceLeDiff, nI_add, mul_nI, bI_0, bI_1, h.k, h.r0, h.k0, ix_nI, cl_nI]; done) | omega) only [e155_0, e155_1, e155_3, e155_4, e155_5, e155_8, e155_11, e155_12, e155_13, e155_14, e155_15, e155_16, e155_17, e155_20, e155_23, e155_24, e155_27, e155_30, e155_33, e155_34, am_k_some, va_rf_some, va_rf_none, tl_some, tl_none, am_clr_int, am_clr_ref, am_clr_none, am_clr_long, am_w_nil, am_w_int, am_w_ref, am_w_long, am_w_null, am_bb_0, am_bb_1, am_bb_bI, xK_sI, xR_sI, xS_sI, xN_sI, xK_sL, xR_sL, xS_sL, xN_sL, xK_sR, xR_sR, xS_sR, xN_sR, xK_sA, xR_sA, xS_sA, xN_sA, Nat.reduceAdd, Nat.reduceLeDiff, nI_add, mul_nI, bI_0, bI_1, h.k, h.r0, h.k0, ix_nI, cl_nI, lt_nI, eq_nI, sub_nI, sp_141 h hi, hlen, hnl, if_true, wayN, sp_154 h hi, sp_143 h hi, he, if_false, e1, ih (n + 1)]
      sorry
