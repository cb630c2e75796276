/-! THE CALL: least -/
section RF
variable {m : am_M} {a : Nat} {S : Nat → Int32} {L : Int64}
theorem ck_ch (W : Wf S) {i : Nat} (hi : i < 20) : decide (0 < chN S i) = ckL S i := by
  unfold ckL chN lenS
  by_cases t : S (800 + i) = nI 1
  · rw [if_pos t, decide_eq_true t, Bool.true_and]
  · rw [if_neg t, decide_eq_false t, Bool.false_and]
    exact decide_eq_false (Nat.lt_irrefl _)
theorem sp_87 {d : Nat} (k : ShK m a) (v : ShV m a S L) (W : Wf S) : cal d 87 [.ref a] m = some (some (.int (bI (anyR (ckL S) 0 20))), m) := by
  have ko := k.lo
  have lp : ∀ r i, i + r = 20 → ev d 87 2 [some (.ref a), some (.int (nI i))] [] m = some (some (.int (bI (anyR (ckL S) i r))), m) := by
    intro r
    induction r with
    | zero =>
      intro i hi
      have hi' : i = 20 := by omega
      subst hi'
      have hnl : ¬ 20 < 20 := by omega
      rw [e87_2]
      simp (disch := first | (simp (disch := omega) only [am_k_some, va_rf_some, va_rf_none, tl_some, tl_none, am_clr_int, am_clr_ref, am_clr_none, am_clr_long, am_w_nil, am_w_int, am_w_ref, am_w_long, am_w_null, am_bb_0, am_bb_1, am_bb_bI, xK_sI, xR_sI, xS_sI, xN_sI, xK_sL, xR_sL, xS_sL, xN_sL, xK_sR, xR_sR, xS_sR, xN_sR, xK_sA, xR_sA, xS_sA, xN_sA, Nat.reduceAdd, Nat.reduceLeDiff, sI_sA, I_sA', sA_sA, I_sA, I_sA', nI_add, mul_nI, bI_0, bI_1, k.k, k.r0, k.k0, k.rl, k.r1, ko.k, ko.r3, ko.k3, ko.r6, ko.k6, ix_nI, cl_nI]; done) | omega | assumption) only [e87_0, e87_1, e87_3, e87_5, e87_8, e87_9, e87_12, e87_13, e87_14, e87_17, e87_20, e87_21, e87_22, e87_25, e87_28, e87_29, am_k_some, va_rf_some, va_rf_none, tl_some, tl_none, am_clr_int, am_clr_ref, am_clr_none, am_clr_long, am_w_nil, am_w_int, am_w_ref, am_w_long, am_w_null, am_bb_0, am_bb_1, am_bb_bI, xK_sI, xR_sI, xS_sI, xN_sI, xK_sL, xR_sL, xS_sL, xN_sL, xK_sR, xR_sR, xS_sR, xN_sR, xK_sA, xR_sA, xS_sA, xN_sA, Nat.reduceAdd, Nat.reduceLeDiff, sI_sA, I_sA', sA_sA, I_sA, I_sA', nI_add, mul_nI, bI_0, bI_1, k.k, k.r0, k.k0, k.rl, k.r1, ko.k, ko.r3, ko.k3, ko.r6, ko.k6, ix_nI, cl_nI, lt_nI, eq_nI, sub_nI, Nat.reduceEqDiff, Nat.one_ne_zero, Nat.not_lt_zero, ↓reduceIte, hnl, anyR, bI_f]
    | succ r ih =>
      intro i hi
      have hnl : i < 20 := by omega
      have klk := (k.la i hnl).k
      have v6 := (v.la hnl).2.2.2.2
      have cle : chN S i ≤ 40 := Nat.le_trans (cntR_le _ _ _) (lenS_le W.ln hnl)
      show _ = some (some (Value.int (bI (ckL S i || anyR (ckL S) (i + 1) r))), m)
      rw [e87_2, ← ck_ch W hnl]
      by_cases c : 0 < chN S i
      · rw [decide_eq_true c, Bool.true_or, bI_t]
        simp (disch := first | (simp (disch := omega) only [am_k_some, va_rf_some, va_rf_none, tl_some, tl_none, am_clr_int, am_clr_ref, am_clr_none, am_clr_long, am_w_nil, am_w_int, am_w_ref, am_w_long, am_w_null, am_bb_0, am_bb_1, am_bb_bI, xK_sI, xR_sI, xS_sI, xN_sI, xK_sL, xR_sL, xS_sL, xN_sL, xK_sR, xR_sR, xS_sR, xN_sR, xK_sA, xR_sA, xS_sA, xN_sA, Nat.reduceAdd, Nat.reduceLeDiff, sI_sA, I_sA', sA_sA, I_sA, I_sA', nI_add, mul_nI, bI_0, bI_1, k.k, k.r0, k.k0, k.rl, k.r1, ko.k, ko.r3, ko.k3, ko.r6, ko.k6, klk, ix_nI, cl_nI]; done) | omega | assumption) only [e87_0, e87_1, e87_3, e87_5, e87_8, e87_9, e87_12, e87_13, e87_14, e87_17, e87_20, e87_21, e87_22, e87_25, e87_28, e87_29, am_k_some, va_rf_some, va_rf_none, tl_some, tl_none, am_clr_int, am_clr_ref, am_clr_none, am_clr_long, am_w_nil, am_w_int, am_w_ref, am_w_long, am_w_null, am_bb_0, am_bb_1, am_bb_bI, xK_sI, xR_sI, xS_sI, xN_sI, xK_sL, xR_sL, xS_sL, xN_sL, xK_sR, xR_sR, xS_sR, xN_sR, xK_sA, xR_sA, xS_sA, xN_sA, Nat.reduceAdd, Nat.reduceLeDiff, sI_sA, I_sA', sA_sA, I_sA, I_sA', nI_add, mul_nI, bI_0, bI_1, k.k, k.r0, k.k0, k.rl, k.r1, ko.k, ko.r3, ko.k3, ko.r6, ko.k6, klk, ix_nI, cl_nI, lt_nI, eq_nI, sub_nI, Nat.reduceEqDiff, Nat.one_ne_zero, Nat.not_lt_zero, ↓reduceIte, hnl, v6, c]
      · rw [decide_eq_false c, Bool.false_or, ← ih (i + 1) (by omega)]
        simp (disch := first | (simp (disch := omega) only [am_k_some, va_rf_some, va_rf_none, tl_some, tl_none, am_clr_int, am_clr_ref, am_clr_none, am_clr_long, am_w_nil, am_w_int, am_w_ref, am_w_long, am_w_null, am_bb_0, am_bb_1, am_bb_bI, xK_sI, xR_sI, xS_sI, xN_sI, xK_sL, xR_sL, xS_sL, xN_sL, xK_sR, xR_sR, xS_sR, xN_sR, xK_sA, xR_sA, xS_sA, xN_sA, Nat.reduceAdd, Nat.reduceLeDiff, sI_sA, I_sA', sA_sA, I_sA, I_sA', nI_add, mul_nI, bI_0, bI_1, k.k, k.r0, k.k0, k.rl, k.r1, ko.k, ko.r3, ko.k3, ko.r6, ko.k6, klk, ix_nI, cl_nI]; done) | omega | assumption) only [e87_0, e87_1, e87_3, e87_5, e87_8, e87_9, e87_12, e87_13, e87_14, e87_17, e87_20, e87_21, e87_22, e87_25, e87_28, e87_29, am_k_some, va_rf_some, va_rf_none, tl_some, tl_none, am_clr_int, am_clr_ref, am_clr_none, am_clr_long, am_w_nil, am_w_int, am_w_ref, am_w_long, am_w_null, am_bb_0, am_bb_1, am_bb_bI, xK_sI, xR_sI, xS_sI, xN_sI, xK_sL, xR_sL, xS_sL, xN_sL, xK_sR, xR_sR, xS_sR, xN_sR, xK_sA, xR_sA, xS_sA, xN_sA, Nat.reduceAdd, Nat.reduceLeDiff, sI_sA, I_sA', sA_sA, I_sA, I_sA', nI_add, mul_nI, bI_0, bI_1, k.k, k.r0, k.k0, k.rl, k.r1, ko.k, ko.r3, ko.k3, ko.r6, ko.k6, klk, ix_nI, cl_nI, lt_nI, eq_nI, sub_nI, Nat.reduceEqDiff, Nat.one_ne_zero, Nat.not_lt_zero, ↓reduceIte, hnl, v6, c]
  rw [← lp 20 0 rfl]
  simp only [c87, e87_0, e87_1, am_k_some, va_rf_some, va_rf_none, tl_some, tl_none, am_clr_int, am_clr_ref, am_clr_none, am_clr_long, am_w_nil, am_w_int, am_w_ref, am_w_long, am_w_null, am_bb_0, am_bb_1, am_bb_bI, xK_sI, xR_sI, xS_sI, xN_sI, xK_sL, xR_sL, xS_sL, xN_sL, xK_sR, xR_sR, xS_sR, xN_sR, xK_sA, xR_sA, xS_sA, xN_sA, Nat.reduceAdd, Nat.reduceLeDiff, sI_sA, I_sA', sA_sA, I_sA, I_sA', nI_add, mul_nI, bI_0, bI_1]
theorem cntR_sh (f : Nat → Bool) (b : Nat) : ∀ n, cntR (fun i => f (b + i)) 0 n = cntR f b n := by
  intro n
  induction n with
  | zero => rfl
  | succ n ih =>
    show cntR (fun i => f (b + i)) 0 n + (if f (b + (0 + n)) then 1 else 0) = cntR f b n + (if f (b + n) then 1 else 0)
    rw [ih, Nat.zero_add]
theorem dN_eq (S : Nat → Int32) : cntR (fun y => decide (S y = nI 1)) 800 20 = dN S := by
  unfold dN
  rw [fL_len, ← cntR_sh (fun y => decide (S y = nI 1)) 800 20]
  rfl
theorem qN_eq (S : Nat → Int32) : whS S (nI 0) = qN S := by
  unfold qN
  rw [fL_len]
  rfl
theorem sp_86l {d n : Nat} (k : ShK m a) (v : ShV m a S L) (W : Wf S) (hn : nm S = n) : ∀ r i, i + r = n → ev (d + 2) 86 65 [some (.ref a), some (.int (nI i))] [] m = some (some (.int (if anyR (fqL S) i r = true then -12 else nI 0)), m) := by
  have ko := k.lo
  have n2 := W.nm.2
  have h9 : mI m (a + 2) 9 = nI n := by rw [v.lo.1, ← hn]; exact W.nm.1
  have h7 : mI m a 7 = S 6503 := v.sc.2.1
  intro r
  induction r with
  | zero =>
    intro i hi
    have hi' : i = n := by omega
    subst hi'
    have hnl : ¬ i < i := by omega
    show _ = some (some (Value.int (if false = true then -12 else nI 0)), m)
    rw [if_neg (by decide), e86_65]
    simp (disch := first | (simp (disch := omega) only [am_k_some, va_rf_some, va_rf_none, tl_some, tl_none, am_clr_int, am_clr_ref, am_clr_none, am_clr_long, am_w_nil, am_w_int, am_w_ref, am_w_long, am_w_null, am_bb_0, am_bb_1, am_bb_bI, xK_sI, xR_sI, xS_sI, xN_sI, xK_sL, xR_sL, xS_sL, xN_sL, xK_sR, xR_sR, xS_sR, xN_sR, xK_sA, xR_sA, xS_sA, xN_sA, Nat.reduceAdd, Nat.reduceLeDiff, sI_sA, I_sA', sA_sA, I_sA, I_sA', nI_add, mul_nI, bI_0, bI_1, k.k, k.r0, k.k0, k.rl, k.r1, ko.k, ko.r3, ko.k3, ko.r6, ko.k6, ix_nI, cl_nI]; done) | omega | assumption) only [e86_0, e86_1, e86_4, e86_7, e86_9, e86_10, e86_11, e86_14, e86_15, e86_18, e86_21, e86_22, e86_25, e86_28, e86_30, e86_31, e86_32, e86_35, e86_36, e86_37, e86_40, e86_43, e86_44, e86_47, e86_48, e86_51, e86_52, e86_54, e86_57, e86_60, e86_62, e86_63, e86_64, e86_66, e86_67, e86_70, e86_73, e86_76, e86_77, e86_80, e86_83, e86_84, e86_85, e86_88, e86_89, e86_92, e86_95, e86_96, e86_97, e86_98, e86_101, e86_104, e86_106, e86_107, e86_110, e86_113, e86_114, am_k_some, va_rf_some, va_rf_none, tl_some, tl_none, am_clr_int, am_clr_ref, am_clr_none, am_clr_long, am_w_nil, am_w_int, am_w_ref, am_w_long, am_w_null, am_bb_0, am_bb_1, am_bb_bI, xK_sI, xR_sI, xS_sI, xN_sI, xK_sL, xR_sL, xS_sL, xN_sL, xK_sR, xR_sR, xS_sR, xN_sR, xK_sA, xR_sA, xS_sA, xN_sA, Nat.reduceAdd, Nat.reduceLeDiff, sI_sA, I_sA', sA_sA, I_sA, I_sA', nI_add, mul_nI, bI_0, bI_1, k.k, k.r0, k.k0, k.rl, k.r1, ko.k, ko.r3, ko.k3, ko.r6, ko.k6, ix_nI, cl_nI, lt_nI, eq_nI, sub_nI, Nat.reduceEqDiff, Nat.one_ne_zero, Nat.not_lt_zero, ↓reduceIte, h9, hnl]
  | succ r ih =>
    intro i hi
    have hnl : i < n := by omega
    obtain ⟨-, -, -, w4, -, -, w7, -⟩ := v.lo.2 i (by omega)
    show _ = some (some (Value.int (if (fqL S i || anyR (fqL S) (i + 1) r) = true then -12 else nI 0)), m)
    rw [e86_65]
    by_cases c1 : S (3300 + i) = nI 0
    · rw [c1] at w7
      by_cases c2 : S (2100 + i) < S 6503
      · have : fqL S i = false := by unfold fqL; rw [decide_eq_true c2]; simp
        rw [this, Bool.false_or, ← ih (i + 1) (by omega)]
        simp (disch := first | (simp (disch := omega) only [am_k_some, va_rf_some, va_rf_none, tl_some, tl_none, am_clr_int, am_clr_ref, am_clr_none, am_clr_long, am_w_nil, am_w_int, am_w_ref, am_w_long, am_w_null, am_bb_0, am_bb_1, am_bb_bI, xK_sI, xR_sI, xS_sI, xN_sI, xK_sL, xR_sL, xS_sL, xN_sL, xK_sR, xR_sR, xS_sR, xN_sR, xK_sA, xR_sA, xS_sA, xN_sA, Nat.reduceAdd, Nat.reduceLeDiff, sI_sA, I_sA', sA_sA, I_sA, I_sA', nI_add, mul_nI, bI_0, bI_1, k.k, k.r0, k.k0, k.rl, k.r1, ko.k, ko.r3, ko.k3, ko.r6, ko.k6, ix_nI, cl_nI]; done) | omega | assumption) only [e86_0, e86_1, e86_4, e86_7, e86_9, e86_10, e86_11, e86_14, e86_15, e86_18, e86_21, e86_22, e86_25, e86_28, e86_30, e86_31, e86_32, e86_35, e86_36, e86_37, e86_40, e86_43, e86_44, e86_47, e86_48, e86_51, e86_52, e86_54, e86_57, e86_60, e86_62, e86_63, e86_64, e86_66, e86_67, e86_70, e86_73, e86_76, e86_77, e86_80, e86_83, e86_84, e86_85, e86_88, e86_89, e86_92, e86_95, e86_96, e86_97, e86_98, e86_101, e86_104, e86_106, e86_107, e86_110, e86_113, e86_114, am_k_some, va_rf_some, va_rf_none, tl_some, tl_none, am_clr_int, am_clr_ref, am_clr_none, am_clr_long, am_w_nil, am_w_int, am_w_ref, am_w_long, am_w_null, am_bb_0, am_bb_1, am_bb_bI, xK_sI, xR_sI, xS_sI, xN_sI, xK_sL, xR_sL, xS_sL, xN_sL, xK_sR, xR_sR, xS_sR, xN_sR, xK_sA, xR_sA, xS_sA, xN_sA, Nat.reduceAdd, Nat.reduceLeDiff, sI_sA, I_sA', sA_sA, I_sA, I_sA', nI_add, mul_nI, bI_0, bI_1, k.k, k.r0, k.k0, k.rl, k.r1, ko.k, ko.r3, ko.k3, ko.r6, ko.k6, ix_nI, cl_nI, lt_nI, eq_nI, sub_nI, Nat.reduceEqDiff, Nat.one_ne_zero, Nat.not_lt_zero, ↓reduceIte, h9, hnl, w4, w7, h7, c2]
      · have : fqL S i = true := by unfold fqL quB; rw [decide_eq_false c2, decide_eq_true c1]; rfl
        rw [this, Bool.true_or, if_pos rfl]
        simp (disch := first | (simp (disch := omega) only [am_k_some, va_rf_some, va_rf_none, tl_some, tl_none, am_clr_int, am_clr_ref, am_clr_none, am_clr_long, am_w_nil, am_w_int, am_w_ref, am_w_long, am_w_null, am_bb_0, am_bb_1, am_bb_bI, xK_sI, xR_sI, xS_sI, xN_sI, xK_sL, xR_sL, xS_sL, xN_sL, xK_sR, xR_sR, xS_sR, xN_sR, xK_sA, xR_sA, xS_sA, xN_sA, Nat.reduceAdd, Nat.reduceLeDiff, sI_sA, I_sA', sA_sA, I_sA, I_sA', nI_add, mul_nI, bI_0, bI_1, k.k, k.r0, k.k0, k.rl, k.r1, ko.k, ko.r3, ko.k3, ko.r6, ko.k6, ix_nI, cl_nI]; done) | omega | assumption) only [e86_0, e86_1, e86_4, e86_7, e86_9, e86_10, e86_11, e86_14, e86_15, e86_18, e86_21, e86_22, e86_25, e86_28, e86_30, e86_31, e86_32, e86_35, e86_36, e86_37, e86_40, e86_43, e86_44, e86_47, e86_48, e86_51, e86_52, e86_54, e86_57, e86_60, e86_62, e86_63, e86_64, e86_66, e86_67, e86_70, e86_73, e86_76, e86_77, e86_80, e86_83, e86_84, e86_85, e86_88, e86_89, e86_92, e86_95, e86_96, e86_97, e86_98, e86_101, e86_104, e86_106, e86_107, e86_110, e86_113, e86_114, am_k_some, va_rf_some, va_rf_none, tl_some, tl_none, am_clr_int, am_clr_ref, am_clr_none, am_clr_long, am_w_nil, am_w_int, am_w_ref, am_w_long, am_w_null, am_bb_0, am_bb_1, am_bb_bI, xK_sI, xR_sI, xS_sI, xN_sI, xK_sL, xR_sL, xS_sL, xN_sL, xK_sR, xR_sR, xS_sR, xN_sR, xK_sA, xR_sA, xS_sA, xN_sA, Nat.reduceAdd, Nat.reduceLeDiff, sI_sA, I_sA', sA_sA, I_sA, I_sA', nI_add, mul_nI, bI_0, bI_1, k.k, k.r0, k.k0, k.rl, k.r1, ko.k, ko.r3, ko.k3, ko.r6, ko.k6, ix_nI, cl_nI, lt_nI, eq_nI, sub_nI, Nat.reduceEqDiff, Nat.one_ne_zero, Nat.not_lt_zero, ↓reduceIte, h9, hnl, w4, w7, h7, c2]
    · have : fqL S i = false := by unfold fqL quB; rw [decide_eq_false c1]; rfl
      rw [this, Bool.false_or, ← ih (i + 1) (by omega)]
      simp (disch := first | (simp (disch := omega) only [am_k_some, va_rf_some, va_rf_none, tl_some, tl_none, am_clr_int, am_clr_ref, am_clr_none, am_clr_long, am_w_nil, am_w_int, am_w_ref, am_w_long, am_w_null, am_bb_0, am_bb_1, am_bb_bI, xK_sI, xR_sI, xS_sI, xN_sI, xK_sL, xR_sL, xS_sL, xN_sL, xK_sR, xR_sR, xS_sR, xN_sR, xK_sA, xR_sA, xS_sA, xN_sA, Nat.reduceAdd, Nat.reduceLeDiff, sI_sA, I_sA', sA_sA, I_sA, I_sA', nI_add, mul_nI, bI_0, bI_1, k.k, k.r0, k.k0, k.rl, k.r1, ko.k, ko.r3, ko.k3, ko.r6, ko.k6, ix_nI, cl_nI]; done) | omega | assumption) only [e86_0, e86_1, e86_4, e86_7, e86_9, e86_10, e86_11, e86_14, e86_15, e86_18, e86_21, e86_22, e86_25, e86_28, e86_30, e86_31, e86_32, e86_35, e86_36, e86_37, e86_40, e86_43, e86_44, e86_47, e86_48, e86_51, e86_52, e86_54, e86_57, e86_60, e86_62, e86_63, e86_64, e86_66, e86_67, e86_70, e86_73, e86_76, e86_77, e86_80, e86_83, e86_84, e86_85, e86_88, e86_89, e86_92, e86_95, e86_96, e86_97, e86_98, e86_101, e86_104, e86_106, e86_107, e86_110, e86_113, e86_114, am_k_some, va_rf_some, va_rf_none, tl_some, tl_none, am_clr_int, am_clr_ref, am_clr_none, am_clr_long, am_w_nil, am_w_int, am_w_ref, am_w_long, am_w_null, am_bb_0, am_bb_1, am_bb_bI, xK_sI, xR_sI, xS_sI, xN_sI, xK_sL, xR_sL, xS_sL, xN_sL, xK_sR, xR_sR, xS_sR, xN_sR, xK_sA, xR_sA, xS_sA, xN_sA, Nat.reduceAdd, Nat.reduceLeDiff, sI_sA, I_sA', sA_sA, I_sA, I_sA', nI_add, mul_nI, bI_0, bI_1, k.k, k.r0, k.k0, k.rl, k.r1, ko.k, ko.r3, ko.k3, ko.r6, ko.k6, ix_nI, cl_nI, lt_nI, eq_nI, sub_nI, Nat.reduceEqDiff, Nat.one_ne_zero, Nat.not_lt_zero, ↓reduceIte, h9, hnl, w7, c1]
theorem sp_86 {d : Nat} (k : ShK m a) (v : ShV m a S L) (W : Wf S) : cal (d + 2) 86 [.ref a] m = some (some (.int (plA S)), m) := by
  have ko := k.lo
  have n2 := W.nm.2
  have h9 : mI m (a + 2) 9 = nI (nm S) := by rw [v.lo.1]; exact W.nm.1
  have qu := sp_65w (d := d + 1) k v W.y
  have co : ∀ w, cal (d + 1) 31 [.ref (a + 2), .int w] m = some (some (.int (nI (whS S w))), m) := fun w => by
    rw [sp_31 (d := d + 1) ko h9 n2]
    unfold whS
    rw [cntR_congr (fun p _ p2 => by
      obtain ⟨-, -, -, -, -, -, w7, -⟩ := v.lo.2 p (by omega)
      show decide (mI m (a + 2 + 7) p = w) = decide (S (3300 + p) = w)
      rw [w7])]
  have ch := sp_87 (d := d + 1) k v W
  have cn := sp_67 (d := d) k v W.b
  rw [dN_eq] at cn
  have c1 := co (nI 1)
  have c0 := co (nI 0)
  rw [qN_eq] at c0
  have dle : dN S ≤ 20 := fL_le _ _
  have qle : qN S ≤ 400 := Nat.le_trans (fL_le _ _) n2
  have wle : whS S (nI 1) ≤ 400 := by
    have := cntR_le (fun y => decide (S (3300 + y) = nI 1)) 0 (nm S)
    unfold whS
    omega
  unfold plA
  by_cases a1 : S 6501 = nI 1
  · rw [if_pos a1]
    rw [decide_eq_true a1, Bool.not_true, bI_f] at qu
    simp (disch := first | (simp (disch := omega) only [am_k_some, va_rf_some, va_rf_none, tl_some, tl_none, am_clr_int, am_clr_ref, am_clr_none, am_clr_long, am_w_nil, am_w_int, am_w_ref, am_w_long, am_w_null, am_bb_0, am_bb_1, am_bb_bI, xK_sI, xR_sI, xS_sI, xN_sI, xK_sL, xR_sL, xS_sL, xN_sL, xK_sR, xR_sR, xS_sR, xN_sR, xK_sA, xR_sA, xS_sA, xN_sA, Nat.reduceAdd, Nat.reduceLeDiff, sI_sA, I_sA', sA_sA, I_sA, I_sA', nI_add, mul_nI, bI_0, bI_1, k.k, k.r0, k.k0, k.rl, k.r1, ko.k, ko.r3, ko.k3, ko.r6, ko.k6, ix_nI, cl_nI]; done) | omega | assumption) only [c86, e86_0, e86_1, e86_4, e86_7, e86_9, e86_10, e86_11, e86_14, e86_15, e86_18, e86_21, e86_22, e86_25, e86_28, e86_30, e86_31, e86_32, e86_35, e86_36, e86_37, e86_40, e86_43, e86_44, e86_47, e86_48, e86_51, e86_52, e86_54, e86_57, e86_60, e86_62, e86_63, e86_64, e86_66, e86_67, e86_70, e86_73, e86_76, e86_77, e86_80, e86_83, e86_84, e86_85, e86_88, e86_89, e86_92, e86_95, e86_96, e86_97, e86_98, e86_101, e86_104, e86_106, e86_107, e86_110, e86_113, e86_114, am_k_some, va_rf_some, va_rf_none, tl_some, tl_none, am_clr_int, am_clr_ref, am_clr_none, am_clr_long, am_w_nil, am_w_int, am_w_ref, am_w_long, am_w_null, am_bb_0, am_bb_1, am_bb_bI, xK_sI, xR_sI, xS_sI, xN_sI, xK_sL, xR_sL, xS_sL, xN_sL, xK_sR, xR_sR, xS_sR, xN_sR, xK_sA, xR_sA, xS_sA, xN_sA, Nat.reduceAdd, Nat.reduceLeDiff, sI_sA, I_sA', sA_sA, I_sA, I_sA', nI_add, mul_nI, bI_0, bI_1, k.k, k.r0, k.k0, k.rl, k.r1, ko.k, ko.r3, ko.k3, ko.r6, ko.k6, ix_nI, cl_nI, lt_nI, eq_nI, sub_nI, Nat.reduceEqDiff, Nat.one_ne_zero, Nat.not_lt_zero, ↓reduceIte, sp_130, qu]
  rw [if_neg a1]
  rw [decide_eq_false a1, Bool.not_false, bI_t] at qu
  by_cases a2 : 0 < whS S (nI 1)
  · rw [if_pos a2]
    simp (disch := first | (simp (disch := omega) only [am_k_some, va_rf_some, va_rf_none, tl_some, tl_none, am_clr_int, am_clr_ref, am_clr_none, am_clr_long, am_w_nil, am_w_int, am_w_ref, am_w_long, am_w_null, am_bb_0, am_bb_1, am_bb_bI, xK_sI, xR_sI, xS_sI, xN_sI, xK_sL, xR_sL, xS_sL, xN_sL, xK_sR, xR_sR, xS_sR, xN_sR, xK_sA, xR_sA, xS_sA, xN_sA, Nat.reduceAdd, Nat.reduceLeDiff, sI_sA, I_sA', sA_sA, I_sA, I_sA', nI_add, mul_nI, bI_0, bI_1, k.k, k.r0, k.k0, k.rl, k.r1, ko.k, ko.r3, ko.k3, ko.r6, ko.k6, ix_nI, cl_nI]; done) | omega | assumption) only [c86, e86_0, e86_1, e86_4, e86_7, e86_9, e86_10, e86_11, e86_14, e86_15, e86_18, e86_21, e86_22, e86_25, e86_28, e86_30, e86_31, e86_32, e86_35, e86_36, e86_37, e86_40, e86_43, e86_44, e86_47, e86_48, e86_51, e86_52, e86_54, e86_57, e86_60, e86_62, e86_63, e86_64, e86_66, e86_67, e86_70, e86_73, e86_76, e86_77, e86_80, e86_83, e86_84, e86_85, e86_88, e86_89, e86_92, e86_95, e86_96, e86_97, e86_98, e86_101, e86_104, e86_106, e86_107, e86_110, e86_113, e86_114, am_k_some, va_rf_some, va_rf_none, tl_some, tl_none, am_clr_int, am_clr_ref, am_clr_none, am_clr_long, am_w_nil, am_w_int, am_w_ref, am_w_long, am_w_null, am_bb_0, am_bb_1, am_bb_bI, xK_sI, xR_sI, xS_sI, xN_sI, xK_sL, xR_sL, xS_sL, xN_sL, xK_sR, xR_sR, xS_sR, xN_sR, xK_sA, xR_sA, xS_sA, xN_sA, Nat.reduceAdd, Nat.reduceLeDiff, sI_sA, I_sA', sA_sA, I_sA, I_sA', nI_add, mul_nI, bI_0, bI_1, k.k, k.r0, k.k0, k.rl, k.r1, ko.k, ko.r3, ko.k3, ko.r6, ko.k6, ix_nI, cl_nI, lt_nI, eq_nI, sub_nI, Nat.reduceEqDiff, Nat.one_ne_zero, Nat.not_lt_zero, ↓reduceIte, sp_130, qu, c1, a2]
  rw [if_neg a2]
  cases a3 : anyR (ckL S) 0 20 with
  | true =>
    rw [if_pos rfl]
    rw [a3, bI_t] at ch
    simp (disch := first | (simp (disch := omega) only [am_k_some, va_rf_some, va_rf_none, tl_some, tl_none, am_clr_int, am_clr_ref, am_clr_none, am_clr_long, am_w_nil, am_w_int, am_w_ref, am_w_long, am_w_null, am_bb_0, am_bb_1, am_bb_bI, xK_sI, xR_sI, xS_sI, xN_sI, xK_sL, xR_sL, xS_sL, xN_sL, xK_sR, xR_sR, xS_sR, xN_sR, xK_sA, xR_sA, xS_sA, xN_sA, Nat.reduceAdd, Nat.reduceLeDiff, sI_sA, I_sA', sA_sA, I_sA, I_sA', nI_add, mul_nI, bI_0, bI_1, k.k, k.r0, k.k0, k.rl, k.r1, ko.k, ko.r3, ko.k3, ko.r6, ko.k6, ix_nI, cl_nI]; done) | omega | assumption) only [c86, e86_0, e86_1, e86_4, e86_7, e86_9, e86_10, e86_11, e86_14, e86_15, e86_18, e86_21, e86_22, e86_25, e86_28, e86_30, e86_31, e86_32, e86_35, e86_36, e86_37, e86_40, e86_43, e86_44, e86_47, e86_48, e86_51, e86_52, e86_54, e86_57, e86_60, e86_62, e86_63, e86_64, e86_66, e86_67, e86_70, e86_73, e86_76, e86_77, e86_80, e86_83, e86_84, e86_85, e86_88, e86_89, e86_92, e86_95, e86_96, e86_97, e86_98, e86_101, e86_104, e86_106, e86_107, e86_110, e86_113, e86_114, am_k_some, va_rf_some, va_rf_none, tl_some, tl_none, am_clr_int, am_clr_ref, am_clr_none, am_clr_long, am_w_nil, am_w_int, am_w_ref, am_w_long, am_w_null, am_bb_0, am_bb_1, am_bb_bI, xK_sI, xR_sI, xS_sI, xN_sI, xK_sL, xR_sL, xS_sL, xN_sL, xK_sR, xR_sR, xS_sR, xN_sR, xK_sA, xR_sA, xS_sA, xN_sA, Nat.reduceAdd, Nat.reduceLeDiff, sI_sA, I_sA', sA_sA, I_sA, I_sA', nI_add, mul_nI, bI_0, bI_1, k.k, k.r0, k.k0, k.rl, k.r1, ko.k, ko.r3, ko.k3, ko.r6, ko.k6, ix_nI, cl_nI, lt_nI, eq_nI, sub_nI, Nat.reduceEqDiff, Nat.one_ne_zero, Nat.not_lt_zero, ↓reduceIte, sp_130, qu, c1, a2, ch]
  | false =>
    rw [if_neg (by decide)]
    rw [a3, bI_f] at ch
    by_cases a4 : dN S < 1
    · rw [if_pos a4]
      simp (disch := first | (simp (disch := omega) only [am_k_some, va_rf_some, va_rf_none, tl_some, tl_none, am_clr_int, am_clr_ref, am_clr_none, am_clr_long, am_w_nil, am_w_int, am_w_ref, am_w_long, am_w_null, am_bb_0, am_bb_1, am_bb_bI, xK_sI, xR_sI, xS_sI, xN_sI, xK_sL, xR_sL, xS_sL, xN_sL, xK_sR, xR_sR, xS_sR, xN_sR, xK_sA, xR_sA, xS_sA, xN_sA, Nat.reduceAdd, Nat.reduceLeDiff, sI_sA, I_sA', sA_sA, I_sA, I_sA', nI_add, mul_nI, bI_0, bI_1, k.k, k.r0, k.k0, k.rl, k.r1, ko.k, ko.r3, ko.k3, ko.r6, ko.k6, ix_nI, cl_nI]; done) | omega | assumption) only [c86, e86_0, e86_1, e86_4, e86_7, e86_9, e86_10, e86_11, e86_14, e86_15, e86_18, e86_21, e86_22, e86_25, e86_28, e86_30, e86_31, e86_32, e86_35, e86_36, e86_37, e86_40, e86_43, e86_44, e86_47, e86_48, e86_51, e86_52, e86_54, e86_57, e86_60, e86_62, e86_63, e86_64, e86_66, e86_67, e86_70, e86_73, e86_76, e86_77, e86_80, e86_83, e86_84, e86_85, e86_88, e86_89, e86_92, e86_95, e86_96, e86_97, e86_98, e86_101, e86_104, e86_106, e86_107, e86_110, e86_113, e86_114, am_k_some, va_rf_some, va_rf_none, tl_some, tl_none, am_clr_int, am_clr_ref, am_clr_none, am_clr_long, am_w_nil, am_w_int, am_w_ref, am_w_long, am_w_null, am_bb_0, am_bb_1, am_bb_bI, xK_sI, xR_sI, xS_sI, xN_sI, xK_sL, xR_sL, xS_sL, xN_sL, xK_sR, xR_sR, xS_sR, xN_sR, xK_sA, xR_sA, xS_sA, xN_sA, Nat.reduceAdd, Nat.reduceLeDiff, sI_sA, I_sA', sA_sA, I_sA, I_sA', nI_add, mul_nI, bI_0, bI_1, k.k, k.r0, k.k0, k.rl, k.r1, ko.k, ko.r3, ko.k3, ko.r6, ko.k6, ix_nI, cl_nI, lt_nI, eq_nI, sub_nI, Nat.reduceEqDiff, Nat.one_ne_zero, Nat.not_lt_zero, ↓reduceIte, sp_130, qu, c1, a2, ch, cn, a4]
    rw [if_neg a4]
    by_cases a5 : 3 < dN S
    · rw [if_pos a5]
      simp (disch := first | (simp (disch := omega) only [am_k_some, va_rf_some, va_rf_none, tl_some, tl_none, am_clr_int, am_clr_ref, am_clr_none, am_clr_long, am_w_nil, am_w_int, am_w_ref, am_w_long, am_w_null, am_bb_0, am_bb_1, am_bb_bI, xK_sI, xR_sI, xS_sI, xN_sI, xK_sL, xR_sL, xS_sL, xN_sL, xK_sR, xR_sR, xS_sR, xN_sR, xK_sA, xR_sA, xS_sA, xN_sA, Nat.reduceAdd, Nat.reduceLeDiff, sI_sA, I_sA', sA_sA, I_sA, I_sA', nI_add, mul_nI, bI_0, bI_1, k.k, k.r0, k.k0, k.rl, k.r1, ko.k, ko.r3, ko.k3, ko.r6, ko.k6, ix_nI, cl_nI]; done) | omega | assumption) only [c86, e86_0, e86_1, e86_4, e86_7, e86_9, e86_10, e86_11, e86_14, e86_15, e86_18, e86_21, e86_22, e86_25, e86_28, e86_30, e86_31, e86_32, e86_35, e86_36, e86_37, e86_40, e86_43, e86_44, e86_47, e86_48, e86_51, e86_52, e86_54, e86_57, e86_60, e86_62, e86_63, e86_64, e86_66, e86_67, e86_70, e86_73, e86_76, e86_77, e86_80, e86_83, e86_84, e86_85, e86_88, e86_89, e86_92, e86_95, e86_96, e86_97, e86_98, e86_101, e86_104, e86_106, e86_107, e86_110, e86_113, e86_114, am_k_some, va_rf_some, va_rf_none, tl_some, tl_none, am_clr_int, am_clr_ref, am_clr_none, am_clr_long, am_w_nil, am_w_int, am_w_ref, am_w_long, am_w_null, am_bb_0, am_bb_1, am_bb_bI, xK_sI, xR_sI, xS_sI, xN_sI, xK_sL, xR_sL, xS_sL, xN_sL, xK_sR, xR_sR, xS_sR, xN_sR, xK_sA, xR_sA, xS_sA, xN_sA, Nat.reduceAdd, Nat.reduceLeDiff, sI_sA, I_sA', sA_sA, I_sA, I_sA', nI_add, mul_nI, bI_0, bI_1, k.k, k.r0, k.k0, k.rl, k.r1, ko.k, ko.r3, ko.k3, ko.r6, ko.k6, ix_nI, cl_nI, lt_nI, eq_nI, sub_nI, Nat.reduceEqDiff, Nat.one_ne_zero, Nat.not_lt_zero, ↓reduceIte, sp_130, qu, c1, a2, ch, cn, a4, a5]
    rw [if_neg a5]
    by_cases a6 : qN S < 1
    · rw [if_pos a6]
      simp (disch := first | (simp (disch := omega) only [am_k_some, va_rf_some, va_rf_none, tl_some, tl_none, am_clr_int, am_clr_ref, am_clr_none, am_clr_long, am_w_nil, am_w_int, am_w_ref, am_w_long, am_w_null, am_bb_0, am_bb_1, am_bb_bI, xK_sI, xR_sI, xS_sI, xN_sI, xK_sL, xR_sL, xS_sL, xN_sL, xK_sR, xR_sR, xS_sR, xN_sR, xK_sA, xR_sA, xS_sA, xN_sA, Nat.reduceAdd, Nat.reduceLeDiff, sI_sA, I_sA', sA_sA, I_sA, I_sA', nI_add, mul_nI, bI_0, bI_1, k.k, k.r0, k.k0, k.rl, k.r1, ko.k, ko.r3, ko.k3, ko.r6, ko.k6, ix_nI, cl_nI]; done) | omega | assumption) only [c86, e86_0, e86_1, e86_4, e86_7, e86_9, e86_10, e86_11, e86_14, e86_15, e86_18, e86_21, e86_22, e86_25, e86_28, e86_30, e86_31, e86_32, e86_35, e86_36, e86_37, e86_40, e86_43, e86_44, e86_47, e86_48, e86_51, e86_52, e86_54, e86_57, e86_60, e86_62, e86_63, e86_64, e86_66, e86_67, e86_70, e86_73, e86_76, e86_77, e86_80, e86_83, e86_84, e86_85, e86_88, e86_89, e86_92, e86_95, e86_96, e86_97, e86_98, e86_101, e86_104, e86_106, e86_107, e86_110, e86_113, e86_114, am_k_some, va_rf_some, va_rf_none, tl_some, tl_none, am_clr_int, am_clr_ref, am_clr_none, am_clr_long, am_w_nil, am_w_int, am_w_ref, am_w_long, am_w_null, am_bb_0, am_bb_1, am_bb_bI, xK_sI, xR_sI, xS_sI, xN_sI, xK_sL, xR_sL, xS_sL, xN_sL, xK_sR, xR_sR, xS_sR, xN_sR, xK_sA, xR_sA, xS_sA, xN_sA, Nat.reduceAdd, Nat.reduceLeDiff, sI_sA, I_sA', sA_sA, I_sA, I_sA', nI_add, mul_nI, bI_0, bI_1, k.k, k.r0, k.k0, k.rl, k.r1, ko.k, ko.r3, ko.k3, ko.r6, ko.k6, ix_nI, cl_nI, lt_nI, eq_nI, sub_nI, Nat.reduceEqDiff, Nat.one_ne_zero, Nat.not_lt_zero, ↓reduceIte, sp_130, qu, c1, a2, ch, cn, a4, a5, c0, a6]
    rw [if_neg a6]
    by_cases a7 : 6 < qN S
    · rw [if_pos a7]
      simp (disch := first | (simp (disch := omega) only [am_k_some, va_rf_some, va_rf_none, tl_some, tl_none, am_clr_int, am_clr_ref, am_clr_none, am_clr_long, am_w_nil, am_w_int, am_w_ref, am_w_long, am_w_null, am_bb_0, am_bb_1, am_bb_bI, xK_sI, xR_sI, xS_sI, xN_sI, xK_sL, xR_sL, xS_sL, xN_sL, xK_sR, xR_sR, xS_sR, xN_sR, xK_sA, xR_sA, xS_sA, xN_sA, Nat.reduceAdd, Nat.reduceLeDiff, sI_sA, I_sA', sA_sA, I_sA, I_sA', nI_add, mul_nI, bI_0, bI_1, k.k, k.r0, k.k0, k.rl, k.r1, ko.k, ko.r3, ko.k3, ko.r6, ko.k6, ix_nI, cl_nI]; done) | omega | assumption) only [c86, e86_0, e86_1, e86_4, e86_7, e86_9, e86_10, e86_11, e86_14, e86_15, e86_18, e86_21, e86_22, e86_25, e86_28, e86_30, e86_31, e86_32, e86_35, e86_36, e86_37, e86_40, e86_43, e86_44, e86_47, e86_48, e86_51, e86_52, e86_54, e86_57, e86_60, e86_62, e86_63, e86_64, e86_66, e86_67, e86_70, e86_73, e86_76, e86_77, e86_80, e86_83, e86_84, e86_85, e86_88, e86_89, e86_92, e86_95, e86_96, e86_97, e86_98, e86_101, e86_104, e86_106, e86_107, e86_110, e86_113, e86_114, am_k_some, va_rf_some, va_rf_none, tl_some, tl_none, am_clr_int, am_clr_ref, am_clr_none, am_clr_long, am_w_nil, am_w_int, am_w_ref, am_w_long, am_w_null, am_bb_0, am_bb_1, am_bb_bI, xK_sI, xR_sI, xS_sI, xN_sI, xK_sL, xR_sL, xS_sL, xN_sL, xK_sR, xR_sR, xS_sR, xN_sR, xK_sA, xR_sA, xS_sA, xN_sA, Nat.reduceAdd, Nat.reduceLeDiff, sI_sA, I_sA', sA_sA, I_sA, I_sA', nI_add, mul_nI, bI_0, bI_1, k.k, k.r0, k.k0, k.rl, k.r1, ko.k, ko.r3, ko.k3, ko.r6, ko.k6, ix_nI, cl_nI, lt_nI, eq_nI, sub_nI, Nat.reduceEqDiff, Nat.one_ne_zero, Nat.not_lt_zero, ↓reduceIte, sp_130, qu, c1, a2, ch, cn, a4, a5, c0, a6, a7]
    rw [if_neg a7, ← sp_86l (d := d) k v W rfl (nm S) 0 (Nat.zero_add _)]
    simp (disch := first | (simp (disch := omega) only [am_k_some, va_rf_some, va_rf_none, tl_some, tl_none, am_clr_int, am_clr_ref, am_clr_none, am_clr_long, am_w_nil, am_w_int, am_w_ref, am_w_long, am_w_null, am_bb_0, am_bb_1, am_bb_bI, xK_sI, xR_sI, xS_sI, xN_sI, xK_sL, xR_sL, xS_sL, xN_sL, xK_sR, xR_sR, xS_sR, xN_sR, xK_sA, xR_sA, xS_sA, xN_sA, Nat.reduceAdd, Nat.reduceLeDiff, sI_sA, I_sA', sA_sA, I_sA, I_sA', nI_add, mul_nI, bI_0, bI_1, k.k, k.r0, k.k0, k.rl, k.r1, ko.k, ko.r3, ko.k3, ko.r6, ko.k6, ix_nI, cl_nI]; done) | omega | assumption) only [c86, e86_0, e86_1, e86_4, e86_7, e86_9, e86_10, e86_11, e86_14, e86_15, e86_18, e86_21, e86_22, e86_25, e86_28, e86_30, e86_31, e86_32, e86_35, e86_36, e86_37, e86_40, e86_43, e86_44, e86_47, e86_48, e86_51, e86_52, e86_54, e86_57, e86_60, e86_62, e86_63, e86_64, e86_66, e86_67, e86_70, e86_73, e86_76, e86_77, e86_80, e86_83, e86_84, e86_85, e86_88, e86_89, e86_92, e86_95, e86_96, e86_97, e86_98, e86_101, e86_104, e86_106, e86_107, e86_110, e86_113, e86_114, am_k_some, va_rf_some, va_rf_none, tl_some, tl_none, am_clr_int, am_clr_ref, am_clr_none, am_clr_long, am_w_nil, am_w_int, am_w_ref, am_w_long, am_w_null, am_bb_0, am_bb_1, am_bb_bI, xK_sI, xR_sI, xS_sI, xN_sI, xK_sL, xR_sL, xS_sL, xN_sL, xK_sR, xR_sR, xS_sR, xN_sR, xK_sA, xR_sA, xS_sA, xN_sA, Nat.reduceAdd, Nat.reduceLeDiff, sI_sA, I_sA', sA_sA, I_sA, I_sA', nI_add, mul_nI, bI_0, bI_1, k.k, k.r0, k.k0, k.rl, k.r1, ko.k, ko.r3, ko.k3, ko.r6, ko.k6, ix_nI, cl_nI, lt_nI, eq_nI, sub_nI, Nat.reduceEqDiff, Nat.one_ne_zero, Nat.not_lt_zero, ↓reduceIte, sp_130, qu, c1, a2, ch, cn, a4, a5, c0, a6, a7]
end RF
/-! what the plan changes -/
theorem wf_pl {S S' : Nat → Int32} (h : ∀ y, (y < 5300 ∨ 6100 ≤ y) → S' y = S y) (W : Wf S) : Wf S' := by
  have l : AgL S S' := ⟨fun y hy => h y (by omega), h _ (by omega)⟩
  have n2 := W.nm.2
  have k2 := W.a.2
  have e0 : ak S' = ak S := by unfold ak; rw [h _ (by omega)]
  have hL := l.lnok W.ln
  have hN := l.nmok W.nm
  have eq : EqU S S' := by
    refine ⟨by rw [l.nmE]; omega, fun y hy => h y ?_⟩
    rcases hy with q | ⟨x, hx, q⟩ <;> omega
  refine ⟨hL, hN, l.t W.t, l.d W.nm W.d, l.w W.nm W.ln W.w, l.c W.nm W.ln W.c, W.y.of (h _ (by omega)) (h _ (by omega)) (h _ (by omega)), ?_, ?_, W.m1.of (h _ (by omega)), W.m2.of (h _ (by omega)), ?_, ?_⟩
  · unfold AkOk; rw [e0, h _ (by omega)]; exact W.a
  · rw [e0]
    refine UV_eq _ eq W.ln hL W.nm hN (UV_A _ (fun j hj => ?_) W.u)
    unfold acR
    exact h _ (by omega)
  · rw [h _ (by omega), h _ (by omega)]; exact W.s
  · intro q p h1 h2 i hi
    rw [l.ef W.nm W.ln W.c.ok hi]
    rw [h _ (by omega)] at q h2
    refine W.k q p ?_ h2 i hi
    have e : p0S S' = p0S S := by unfold p0S; rw [h _ (by omega), h _ (by omega)]
    rw [← e]; exact h1
theorem sh_pl {S S' : Nat → Int32} {m m' : am_M} {a : Nat} {L : Int64} (h : ∀ y, (y < 5300 ∨ 6100 ≤ y) → S' y = S y) (W : Wf S) (v : ShV m a S L) (hm : ∀ x, a ≤ x → x < a + 66 → (x < a + 17 ∨ a + 20 < x) → mI m' x = mI m x) (hl : mL m' a = mL m a) (hp : PlV m' (a + 17) S') : ShV m' a S' L := by
  have l : AgL S S' := ⟨fun y hy => h y (by omega), h _ (by omega)⟩
  exact ⟨fun i hi => l.la W.nm W.ln hi ((v.la hi).mem (hm _ (by omega) (by omega) (by omega)) (hm _ (by omega) (by omega) (by omega))), l.lo W.nm (v.lo.mem (fun k hk => hm _ (by omega) (by omega) (by omega))), (v.ac.mem (fun k hk => hm _ (by omega) (by omega) (by omega))).arr (fun y hy => h y (by omega)) W.a, hp, (v.ash.mem (hm _ (by omega) (by omega) (by omega)) (hm _ (by omega) (by omega) (by omega))).arr W.m1 (h _ (by omega)) (fun j hj => h _ (by omega)), (v.dep.mem (hm _ (by omega) (by omega) (by omega)) (hm _ (by omega) (by omega) (by omega))).arr W.m2 (h _ (by omega)) (fun j hj => h _ (by omega)), (v.sc.mem (hm _ (by omega) (by omega) (by omega)) hl).arr (fun y h1 h2 => h y (by omega))⟩
theorem plv_bs {S S' : Nat → Int32} {m : am_M} {o a n : Nat} {th : Nat → Nat} {b : Bst} (n6 : n ≤ 6) (t4 : ∀ k, k < n → th k < 400) (hb : BsC m o a n th b) (hp : PlS S S' n th b) : PlV m (a + 17) S' := by
  obtain ⟨-, p2, p3⟩ := hp
  rcases b with _ | ⟨c, bl, bp⟩
  · refine ⟨0, by omega, hb.2, fun j hj => absurd hj (Nat.not_lt_zero _), fun l hl => ?_⟩
    exact p3 l hl
  · obtain ⟨-, h2, h3⟩ := hb
    refine ⟨n, n6, h2, fun j hj => ⟨th j, t4 j hj, (h3 j hj).1⟩, fun l hl => ?_⟩
    cases e : fstR (fun j => decide (mI m (a + 17 + 1) j = nI l)) n 0 with
    | none =>
      show S' (5300 + l) = -1 ∧ S' (5700 + l) = -1
      rw [fstR_none] at e
      refine p2 l hl (fun k hk z => ?_)
      have := e k (by omega) (by omega)
      rw [show a + 17 + 1 = a + 18 from rfl, (h3 k hk).1, ← z, decide_eq_true rfl] at this
      cases this
    | some j =>
      show S' (5300 + l) = mI m (a + 17 + 2) j ∧ S' (5700 + l) = mI m (a + 17 + 3) j
      obtain ⟨-, e2, e3, -⟩ := fstR_some _ _ _ e
      have jn : j < n := by omega
      obtain ⟨q1, q2, q3⟩ := h3 j jn
      have z := of_decide_eq_true e3
      rw [show a + 17 + 1 = a + 18 from rfl, q1, eq_nI (by have := t4 j jn; omega) (by omega)] at z
      have := p3 j jn
      rw [z] at this
      rw [show a + 17 + 2 = a + 19 from rfl, show a + 17 + 3 = a + 20 from rfl, q2, q3]
      exact this
theorem mi_pl {m m' : am_M} {M : Nat} {s : St} {S' : Nat → Int32} (w : MI m M s) (F : FrI (fun x => x = M ∨ x = M + 1 ∨ (M + 10 ≤ x ∧ x ≤ M + 15)) m m') (O : ∀ j, j ≠ 16 → j ≠ 18 → j ≠ 23 → mI m' M j = mI m M j) (h : mI m' (M + 1) = S') : MI m' M (S', stL s, stP s, stN s, stF s, stD s, stZ s, stW s, stK s) := by
  obtain ⟨w0, w1, w2, w3, w4, w5, w6, w7, w8, w9⟩ := w
  refine ⟨w0.frI F, h, ?_, ?_, ?_, ?_, ?_, ?_, ?_, fun k hk => ?_⟩
  · rw [F.2]; exact w2
  · rw [F.i (by omega)]; exact w3
  · rw [O _ (by omega) (by omega) (by omega)]; exact w4
  · rw [F.i (by omega)]; exact w5
  · rw [F.i (by omega)]; exact w6
  · rw [O _ (by omega) (by omega) (by omega)]; exact w7
  · rw [O _ (by omega) (by omega) (by omega), O _ (by omega) (by omega) (by omega), O _ (by omega) (by omega) (by omega), F.2]; exact w8
  · obtain ⟨q1, q2, q3⟩ := w9 k hk
    exact ⟨by rw [F.i (by omega)]; exact q1, by rw [F.i (by omega)]; exact q2, by rw [F.2]; exact q3⟩
