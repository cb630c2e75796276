/-! THE CALLS: arrive .. ship, planned, step, forget, found -/
theorem op_24 {B : Nat} {m : am_M} (G : Good B m) : Op1 B 114 202 [] m := by
  obtain ⟨s, c, w, W⟩ := G
  have f := c.1
  have k := f.sh
  have v := c.2.1
  have Q := W.1
  by_cases a1 : stS s 6501 = nI 1
  · obtain ⟨m1, e1, F1, V'⟩ := sp_83 (d := 33) k v Q a1
    obtain ⟨g1, g2⟩ := good_S c w W F1 V' (wf_arrive Q a1)
    have w' := w.fr F1.p (fun x h1 h2 => by omega)
    refine ⟨_, _, _, ?_, sp_202 (d := 34) w'.1 w'.2.1 Q a1, g1, g2⟩
    simp (disch := first | (simp (disch := omega) only [am_k_some, va_rf_some, va_rf_none, tl_some, tl_none, am_clr_int, am_clr_ref, am_clr_none, am_clr_long, am_w_nil, am_w_int, am_w_ref, am_w_long, am_w_null, am_bb_0, am_bb_1, am_bb_bI, xK_sI, xR_sI, xS_sI, xN_sI, xK_sL, xR_sL, xS_sL, xN_sL, xK_sR, xR_sR, xS_sR, xN_sR, xK_sA, xR_sA, xS_sA, xN_sA, Nat.reduceAdd, Nat.reduceLeDiff, sI_sA, I_sA', sA_sA, I_sA, I_sA', nI_add, mul_nI, bI_0, bI_1, f.k, f.r0, f.r1, f.r2, f.k2, f.r4, f.k4, f.r5, f.k5, f.r6, f.k6, f.r7, f.k7, f.r9, f.k9, k.k, k.r0, k.k0, k.rl, k.r1, k.r2, k.ac.k, k.lo.k, ix_nI, cl_nI]; done) | omega | assumption) only [c114, e114_0, e114_1, e114_4, e114_7, am_k_some, va_rf_some, va_rf_none, tl_some, tl_none, am_clr_int, am_clr_ref, am_clr_none, am_clr_long, am_w_nil, am_w_int, am_w_ref, am_w_long, am_w_null, am_bb_0, am_bb_1, am_bb_bI, xK_sI, xR_sI, xS_sI, xN_sI, xK_sL, xR_sL, xS_sL, xN_sL, xK_sR, xR_sR, xS_sR, xN_sR, xK_sA, xR_sA, xS_sA, xN_sA, Nat.reduceAdd, Nat.reduceLeDiff, sI_sA, I_sA', sA_sA, I_sA, I_sA', nI_add, mul_nI, bI_0, bI_1, f.k, f.r0, f.r1, f.r2, f.k2, f.r4, f.k4, f.r5, f.k5, f.r6, f.k6, f.r7, f.k7, f.r9, f.k9, k.k, k.r0, k.k0, k.rl, k.r1, k.r2, k.ac.k, k.lo.k, ix_nI, cl_nI, lt_nI, eq_nI, sub_nI, Nat.reduceEqDiff, Nat.one_ne_zero, Nat.not_lt_zero, ↓reduceIte, e1]
  · refine op_r c w W (-2) ?_ (sp_202q (d := 34) w.1 (by rw [w.2.1]; exact a1))
    have e1 := sp_83q (d := 33) k v Q a1
    simp (disch := first | (simp (disch := omega) only [am_k_some, va_rf_some, va_rf_none, tl_some, tl_none, am_clr_int, am_clr_ref, am_clr_none, am_clr_long, am_w_nil, am_w_int, am_w_ref, am_w_long, am_w_null, am_bb_0, am_bb_1, am_bb_bI, xK_sI, xR_sI, xS_sI, xN_sI, xK_sL, xR_sL, xS_sL, xN_sL, xK_sR, xR_sR, xS_sR, xN_sR, xK_sA, xR_sA, xS_sA, xN_sA, Nat.reduceAdd, Nat.reduceLeDiff, sI_sA, I_sA', sA_sA, I_sA, I_sA', nI_add, mul_nI, bI_0, bI_1, f.k, f.r0, f.r1, f.r2, f.k2, f.r4, f.k4, f.r5, f.k5, f.r6, f.k6, f.r7, f.k7, f.r9, f.k9, k.k, k.r0, k.k0, k.rl, k.r1, k.r2, k.ac.k, k.lo.k, ix_nI, cl_nI]; done) | omega | assumption) only [c114, e114_0, e114_1, e114_4, e114_7, am_k_some, va_rf_some, va_rf_none, tl_some, tl_none, am_clr_int, am_clr_ref, am_clr_none, am_clr_long, am_w_nil, am_w_int, am_w_ref, am_w_long, am_w_null, am_bb_0, am_bb_1, am_bb_bI, xK_sI, xR_sI, xS_sI, xN_sI, xK_sL, xR_sL, xS_sL, xN_sL, xK_sR, xR_sR, xS_sR, xN_sR, xK_sA, xR_sA, xS_sA, xN_sA, Nat.reduceAdd, Nat.reduceLeDiff, sI_sA, I_sA', sA_sA, I_sA, I_sA', nI_add, mul_nI, bI_0, bI_1, f.k, f.r0, f.r1, f.r2, f.k2, f.r4, f.k4, f.r5, f.k5, f.r6, f.k6, f.r7, f.k7, f.r9, f.k9, k.k, k.r0, k.k0, k.rl, k.r1, k.r2, k.ac.k, k.lo.k, ix_nI, cl_nI, lt_nI, eq_nI, sub_nI, Nat.reduceEqDiff, Nat.one_ne_zero, Nat.not_lt_zero, ↓reduceIte, e1]
theorem row_eq {m : am_M} {o b c : Nat} {S : Nat → Int32} {x : Int32} (v : RwV m o S b c) (hM : MvOk S c) : (if x < nI 0 then -1 else if x < nI (S c).toNatClampNeg then mI m (o + 1) x.toNatClampNeg else -1) = rowA S b c x := by
  have h2 := hM.2
  unfold rowA
  by_cases h0 : x < nI 0
  · rw [if_pos h0, if_pos h0]
  · rw [if_neg h0, if_neg h0, ← hM.1]
    by_cases h1 : x < S c
    · rw [if_pos h1, if_pos h1]
      rw [hM.1] at h1
      rcases rng x (S c).toNatClampNeg (by omega) with q | ⟨p, hp, rfl⟩
      · rcases q with q | q
        · exact absurd q h0
        · exact absurd h1 q
      · rw [cl_nI (by omega)]
        exact v.2 p hp
    · rw [if_neg h1, if_neg h1]
theorem op_25 {B : Nat} {m : am_M} {x : Int32} (G : Good B m) : Op1 B 115 203 [.int x] m := by
  obtain ⟨s, c, w, W⟩ := G
  have f := c.1
  have k := f.sh
  have v := c.2.1
  have Q := W.1
  have M := sp_203 (d := 39) (x := x) w.1 (by rw [w.2.1]; exact Q.m1)
  rw [w.2.1] at M
  refine op_r c w W _ ?_ M
  have it := sp_61 (d := 38) (x := x) k.ash (n := (stS s 6505).toNatClampNeg) (by rw [v.ash.1]; exact Q.m1.1) Q.m1.2
  rw [row_eq v.ash Q.m1] at it
  have kas := k.ash.k
  simp (disch := first | (simp (disch := omega) only [am_k_some, va_rf_some, va_rf_none, tl_some, tl_none, am_clr_int, am_clr_ref, am_clr_none, am_clr_long, am_w_nil, am_w_int, am_w_ref, am_w_long, am_w_null, am_bb_0, am_bb_1, am_bb_bI, xK_sI, xR_sI, xS_sI, xN_sI, xK_sL, xR_sL, xS_sL, xN_sL, xK_sR, xR_sR, xS_sR, xN_sR, xK_sA, xR_sA, xS_sA, xN_sA, Nat.reduceAdd, Nat.reduceLeDiff, sI_sA, I_sA', sA_sA, I_sA, I_sA', nI_add, mul_nI, bI_0, bI_1, f.k, f.r0, f.r1, f.r2, f.k2, f.r4, f.k4, f.r5, f.k5, f.r6, f.k6, f.r7, f.k7, f.r9, f.k9, k.k, k.r0, k.k0, k.rl, k.r1, k.r2, k.ac.k, k.lo.k, k.r4, kas, ix_nI, cl_nI]; done) | omega | assumption) only [c115, e115_0, e115_1, e115_4, e115_7, e115_8, e115_11, am_k_some, va_rf_some, va_rf_none, tl_some, tl_none, am_clr_int, am_clr_ref, am_clr_none, am_clr_long, am_w_nil, am_w_int, am_w_ref, am_w_long, am_w_null, am_bb_0, am_bb_1, am_bb_bI, xK_sI, xR_sI, xS_sI, xN_sI, xK_sL, xR_sL, xS_sL, xN_sL, xK_sR, xR_sR, xS_sR, xN_sR, xK_sA, xR_sA, xS_sA, xN_sA, Nat.reduceAdd, Nat.reduceLeDiff, sI_sA, I_sA', sA_sA, I_sA, I_sA', nI_add, mul_nI, bI_0, bI_1, f.k, f.r0, f.r1, f.r2, f.k2, f.r4, f.k4, f.r5, f.k5, f.r6, f.k6, f.r7, f.k7, f.r9, f.k9, k.k, k.r0, k.k0, k.rl, k.r1, k.r2, k.ac.k, k.lo.k, k.r4, kas, ix_nI, cl_nI, lt_nI, eq_nI, sub_nI, Nat.reduceEqDiff, Nat.one_ne_zero, Nat.not_lt_zero, ↓reduceIte, it]
theorem op_26 {B : Nat} {m : am_M} {x : Int32} (G : Good B m) : Op1 B 116 204 [.int x] m := by
  obtain ⟨s, c, w, W⟩ := G
  have f := c.1
  have k := f.sh
  have v := c.2.1
  have Q := W.1
  have M := sp_204 (d := 39) (x := x) w.1 (by rw [w.2.1]; exact Q.m2)
  rw [w.2.1] at M
  refine op_r c w W _ ?_ M
  have it := sp_61 (d := 38) (x := x) k.dep (n := (stS s 6506).toNatClampNeg) (by rw [v.dep.1]; exact Q.m2.1) Q.m2.2
  rw [row_eq v.dep Q.m2] at it
  have kde := k.dep.k
  simp (disch := first | (simp (disch := omega) only [am_k_some, va_rf_some, va_rf_none, tl_some, tl_none, am_clr_int, am_clr_ref, am_clr_none, am_clr_long, am_w_nil, am_w_int, am_w_ref, am_w_long, am_w_null, am_bb_0, am_bb_1, am_bb_bI, xK_sI, xR_sI, xS_sI, xN_sI, xK_sL, xR_sL, xS_sL, xN_sL, xK_sR, xR_sR, xS_sR, xN_sR, xK_sA, xR_sA, xS_sA, xN_sA, Nat.reduceAdd, Nat.reduceLeDiff, sI_sA, I_sA', sA_sA, I_sA, I_sA', nI_add, mul_nI, bI_0, bI_1, f.k, f.r0, f.r1, f.r2, f.k2, f.r4, f.k4, f.r5, f.k5, f.r6, f.k6, f.r7, f.k7, f.r9, f.k9, k.k, k.r0, k.k0, k.rl, k.r1, k.r2, k.ac.k, k.lo.k, k.r5, kde, ix_nI, cl_nI]; done) | omega | assumption) only [c116, e116_0, e116_1, e116_4, e116_7, e116_8, e116_11, am_k_some, va_rf_some, va_rf_none, tl_some, tl_none, am_clr_int, am_clr_ref, am_clr_none, am_clr_long, am_w_nil, am_w_int, am_w_ref, am_w_long, am_w_null, am_bb_0, am_bb_1, am_bb_bI, xK_sI, xR_sI, xS_sI, xN_sI, xK_sL, xR_sL, xS_sL, xN_sL, xK_sR, xR_sR, xS_sR, xN_sR, xK_sA, xR_sA, xS_sA, xN_sA, Nat.reduceAdd, Nat.reduceLeDiff, sI_sA, I_sA', sA_sA, I_sA, I_sA', nI_add, mul_nI, bI_0, bI_1, f.k, f.r0, f.r1, f.r2, f.k2, f.r4, f.k4, f.r5, f.k5, f.r6, f.k6, f.r7, f.k7, f.r9, f.k9, k.k, k.r0, k.k0, k.rl, k.r1, k.r2, k.ac.k, k.lo.k, k.r5, kde, ix_nI, cl_nI, lt_nI, eq_nI, sub_nI, Nat.reduceEqDiff, Nat.one_ne_zero, Nat.not_lt_zero, ↓reduceIte, it]
theorem op_27 {B : Nat} {m : am_M} (G : Good B m) : Op1 B 117 205 [] m := by
  obtain ⟨s, c, w, W⟩ := G
  have f := c.1
  have k := f.sh
  have v := c.2.1
  have Q := W.1
  obtain ⟨F, e1⟩ := sp_82 (d := 34) k v Q
  have F1 : Fr (B + 1) m (sA m (B + 1 + 25) F) := (Fr.refl _ m).sA (by omega) (by omega)
  obtain ⟨g1, g2⟩ := good_F c w W F1 v.gate
  have w' := w.fr F1.p (fun x h1 h2 => by omega)
  have M := sp_205 (d := 32) w'.1 (by rw [w'.2.1]; exact Q.ln) (by rw [w'.2.1]; exact Q.nm) (by rw [w'.2.1]; exact Q.c.ok) (by rw [w'.2.1]; exact Q.y)
  rw [w'.2.1] at M
  refine ⟨_, _, _, ?_, M, g1, g2⟩
  simp (disch := first | (simp (disch := omega) only [am_k_some, va_rf_some, va_rf_none, tl_some, tl_none, am_clr_int, am_clr_ref, am_clr_none, am_clr_long, am_w_nil, am_w_int, am_w_ref, am_w_long, am_w_null, am_bb_0, am_bb_1, am_bb_bI, xK_sI, xR_sI, xS_sI, xN_sI, xK_sL, xR_sL, xS_sL, xN_sL, xK_sR, xR_sR, xS_sR, xN_sR, xK_sA, xR_sA, xS_sA, xN_sA, Nat.reduceAdd, Nat.reduceLeDiff, sI_sA, I_sA', sA_sA, I_sA, I_sA', nI_add, mul_nI, bI_0, bI_1, f.k, f.r0, f.r1, f.r2, f.k2, f.r4, f.k4, f.r5, f.k5, f.r6, f.k6, f.r7, f.k7, f.r9, f.k9, k.k, k.r0, k.k0, k.rl, k.r1, k.r2, k.ac.k, k.lo.k, ix_nI, cl_nI]; done) | omega | assumption) only [c117, e117_0, e117_1, e117_4, e117_7, am_k_some, va_rf_some, va_rf_none, tl_some, tl_none, am_clr_int, am_clr_ref, am_clr_none, am_clr_long, am_w_nil, am_w_int, am_w_ref, am_w_long, am_w_null, am_bb_0, am_bb_1, am_bb_bI, xK_sI, xR_sI, xS_sI, xN_sI, xK_sL, xR_sL, xS_sL, xN_sL, xK_sR, xR_sR, xS_sR, xN_sR, xK_sA, xR_sA, xS_sA, xN_sA, Nat.reduceAdd, Nat.reduceLeDiff, sI_sA, I_sA', sA_sA, I_sA, I_sA', nI_add, mul_nI, bI_0, bI_1, f.k, f.r0, f.r1, f.r2, f.k2, f.r4, f.k4, f.r5, f.k5, f.r6, f.k6, f.r7, f.k7, f.r9, f.k9, k.k, k.r0, k.k0, k.rl, k.r1, k.r2, k.ac.k, k.lo.k, ix_nI, cl_nI, lt_nI, eq_nI, sub_nI, Nat.reduceEqDiff, Nat.one_ne_zero, Nat.not_lt_zero, ↓reduceIte, e1]
theorem sp_67_loop {d a : Nat} {m : am_M} {S : Nat → Int32} {L : Int64} (k : ShK m a) (v : ShV m a S L) (W : Wb S) : ∀ r i, i + r = 20 →
    ev (d + 1) 67 4 [some (.ref a), some (.int (nI (cntR (fun y => decide (S y = nI 1)) 800 i))), some (.int (nI i))] [] m = some (some (.int (nI (cntR (fun y => decide (S y = nI 1)) 800 20))), m) := by
  intro r
  induction r with
  | zero =>
    intro i hi
    have hi' : i = 20 := by omega
    subst hi'
    have hnl : ¬ 20 < 20 := by omega
    rw [e67_4]
    simp (disch := first | (simp (disch := omega) only [am_k_some, va_rf_some, va_rf_none, tl_some, tl_none, am_clr_int, am_clr_ref, am_clr_none, am_clr_long, am_w_nil, am_w_int, am_w_ref, am_w_long, am_w_null, am_bb_0, am_bb_1, am_bb_bI, xK_sI, xR_sI, xS_sI, xN_sI, xK_sL, xR_sL, xS_sL, xN_sL, xK_sR, xR_sR, xS_sR, xN_sR, xK_sA, xR_sA, xS_sA, xN_sA, Nat.reduceAdd, Nat.reduceLeDiff, sI_sA, I_sA', sA_sA, I_sA, I_sA', nI_add, mul_nI, bI_0, bI_1, k.k, ix_nI, cl_nI]; done) | omega | assumption) only [e67_0, e67_1, e67_2, e67_3, e67_5, e67_7, e67_10, e67_11, e67_14, e67_15, e67_16, e67_19, e67_22, e67_25, e67_28, e67_31, e67_32, am_k_some, va_rf_some, va_rf_none, tl_some, tl_none, am_clr_int, am_clr_ref, am_clr_none, am_clr_long, am_w_nil, am_w_int, am_w_ref, am_w_long, am_w_null, am_bb_0, am_bb_1, am_bb_bI, xK_sI, xR_sI, xS_sI, xN_sI, xK_sL, xR_sL, xS_sL, xN_sL, xK_sR, xR_sR, xS_sR, xN_sR, xK_sA, xR_sA, xS_sA, xN_sA, Nat.reduceAdd, Nat.reduceLeDiff, sI_sA, I_sA', sA_sA, I_sA, I_sA', nI_add, mul_nI, bI_0, bI_1, ix_nI, cl_nI, lt_nI, eq_nI, sub_nI, Nat.reduceEqDiff, Nat.one_ne_zero, Nat.not_lt_zero, ↓reduceIte, hnl]
  | succ r ih =>
    intro i hi
    have hnl : i < 20 := by omega
    have ih := ih (i + 1) (by omega)
    rw [cntR] at ih
    have kl := k.la i hnl
    have th := sh_th (d := d) k v W.t W.ln hnl
    rw [e67_4]
    by_cases ht : S (800 + i) = nI 1
    · rw [decide_eq_true ht, if_pos rfl] at ih
      rw [decide_eq_true ht] at th
      simp (disch := first | (simp (disch := omega) only [am_k_some, va_rf_some, va_rf_none, tl_some, tl_none, am_clr_int, am_clr_ref, am_clr_none, am_clr_long, am_w_nil, am_w_int, am_w_ref, am_w_long, am_w_null, am_bb_0, am_bb_1, am_bb_bI, xK_sI, xR_sI, xS_sI, xN_sI, xK_sL, xR_sL, xS_sL, xN_sL, xK_sR, xR_sR, xS_sR, xN_sR, xK_sA, xR_sA, xS_sA, xN_sA, Nat.reduceAdd, Nat.reduceLeDiff, sI_sA, I_sA', sA_sA, I_sA, I_sA', nI_add, mul_nI, bI_0, bI_1, k.k, k.r0, k.k0, k.rl, kl.k, ix_nI, cl_nI]; done) | omega | assumption) only [e67_0, e67_1, e67_2, e67_3, e67_5, e67_7, e67_10, e67_11, e67_14, e67_15, e67_16, e67_19, e67_22, e67_25, e67_28, e67_31, e67_32, am_k_some, va_rf_some, va_rf_none, tl_some, tl_none, am_clr_int, am_clr_ref, am_clr_none, am_clr_long, am_w_nil, am_w_int, am_w_ref, am_w_long, am_w_null, am_bb_0, am_bb_1, am_bb_bI, xK_sI, xR_sI, xS_sI, xN_sI, xK_sL, xR_sL, xS_sL, xN_sL, xK_sR, xR_sR, xS_sR, xN_sR, xK_sA, xR_sA, xS_sA, xN_sA, Nat.reduceAdd, Nat.reduceLeDiff, sI_sA, I_sA', sA_sA, I_sA, I_sA', nI_add, mul_nI, bI_0, bI_1, k.k, k.r0, k.k0, k.rl, ix_nI, cl_nI, lt_nI, eq_nI, sub_nI, Nat.reduceEqDiff, Nat.one_ne_zero, Nat.not_lt_zero, ↓reduceIte, n10, hnl, th, bI_t, ih]
    · rw [decide_eq_false ht, if_neg (by decide)] at ih
      simp only [Nat.add_zero] at ih
      rw [decide_eq_false ht] at th
      simp (disch := first | (simp (disch := omega) only [am_k_some, va_rf_some, va_rf_none, tl_some, tl_none, am_clr_int, am_clr_ref, am_clr_none, am_clr_long, am_w_nil, am_w_int, am_w_ref, am_w_long, am_w_null, am_bb_0, am_bb_1, am_bb_bI, xK_sI, xR_sI, xS_sI, xN_sI, xK_sL, xR_sL, xS_sL, xN_sL, xK_sR, xR_sR, xS_sR, xN_sR, xK_sA, xR_sA, xS_sA, xN_sA, Nat.reduceAdd, Nat.reduceLeDiff, sI_sA, I_sA', sA_sA, I_sA, I_sA', nI_add, mul_nI, bI_0, bI_1, k.k, k.r0, k.k0, k.rl, kl.k, ix_nI, cl_nI]; done) | omega | assumption) only [e67_0, e67_1, e67_2, e67_3, e67_5, e67_7, e67_10, e67_11, e67_14, e67_15, e67_16, e67_19, e67_22, e67_25, e67_28, e67_31, e67_32, am_k_some, va_rf_some, va_rf_none, tl_some, tl_none, am_clr_int, am_clr_ref, am_clr_none, am_clr_long, am_w_nil, am_w_int, am_w_ref, am_w_long, am_w_null, am_bb_0, am_bb_1, am_bb_bI, xK_sI, xR_sI, xS_sI, xN_sI, xK_sL, xR_sL, xS_sL, xN_sL, xK_sR, xR_sR, xS_sR, xN_sR, xK_sA, xR_sA, xS_sA, xN_sA, Nat.reduceAdd, Nat.reduceLeDiff, sI_sA, I_sA', sA_sA, I_sA, I_sA', nI_add, mul_nI, bI_0, bI_1, k.k, k.r0, k.k0, k.rl, ix_nI, cl_nI, lt_nI, eq_nI, sub_nI, Nat.reduceEqDiff, Nat.one_ne_zero, Nat.not_lt_zero, ↓reduceIte, n10, hnl, th, bI_f, ih]
theorem sp_67 {d a : Nat} {m : am_M} {S : Nat → Int32} {L : Int64} (k : ShK m a) (v : ShV m a S L) (W : Wb S) : cal (d + 1) 67 [.ref a] m = some (some (.int (nI (cntR (fun y => decide (S y = nI 1)) 800 20))), m) := by
  have e := sp_67_loop (d := d) k v W 20 0 rfl
  rw [cntR] at e
  simp only [c67, e67_0, e67_1, e67_2, e67_3, e67_5, e67_7, e67_10, e67_11, e67_14, e67_15, e67_16, e67_19, e67_22, e67_25, e67_28, e67_31, e67_32, am_k_some, va_rf_some, va_rf_none, tl_some, tl_none, am_clr_int, am_clr_ref, am_clr_none, am_clr_long, am_w_nil, am_w_int, am_w_ref, am_w_long, am_w_null, am_bb_0, am_bb_1, am_bb_bI, xK_sI, xR_sI, xS_sI, xN_sI, xK_sL, xR_sL, xS_sL, xN_sL, xK_sR, xR_sR, xS_sR, xN_sR, xK_sA, xR_sA, xS_sA, xN_sA, Nat.reduceAdd, Nat.reduceLeDiff, sI_sA, I_sA', sA_sA, I_sA, I_sA', nI_add, mul_nI, bI_0, bI_1]
  exact e
theorem op_28 {B : Nat} {m : am_M} {x : Int32} (G : Good B m) : Op1 B 118 206 [.int x] m := by
  obtain ⟨s, c, w, W⟩ := G
  have f := c.1
  have k := f.sh
  have v := c.2.1
  have Q := W.1
  have ko := k.lo
  have n2 := Q.nm.2
  by_cases hb : x < nI 0 ∨ nI 8 < x
  · refine op_r c w W (-1) ?_ (sp_206b (d := 37) w.1 hb)
    have hx : x.toInt < 0 ∨ 8 < x.toInt := by
      have z0 : (nI 0).toInt = 0 := by decide
      have z8 : (nI 8).toInt = 8 := by decide
      rw [Int32.lt_iff_toInt_lt, Int32.lt_iff_toInt_lt, z0, z8] at hb
      exact hb
    simp (disch := first | (simp (disch := omega) only [am_k_some, va_rf_some, va_rf_none, tl_some, tl_none, am_clr_int, am_clr_ref, am_clr_none, am_clr_long, am_w_nil, am_w_int, am_w_ref, am_w_long, am_w_null, am_bb_0, am_bb_1, am_bb_bI, xK_sI, xR_sI, xS_sI, xN_sI, xK_sL, xR_sL, xS_sL, xN_sL, xK_sR, xR_sR, xS_sR, xN_sR, xK_sA, xR_sA, xS_sA, xN_sA, Nat.reduceAdd, Nat.reduceLeDiff, sI_sA, I_sA', sA_sA, I_sA, I_sA', nI_add, mul_nI, bI_0, bI_1, f.k, f.r0, f.r1, f.r2, f.k2, f.r4, f.k4, f.r5, f.k5, f.r6, f.k6, f.r7, f.k7, f.r9, f.k9, k.k, k.r0, k.k0, k.rl, k.r1, k.r2, k.ac.k, k.lo.k, ix_nI, cl_nI]; done) | omega | assumption) only [c118, e118_0, e118_1_x hx, e118_140, e118_141, am_k_some, va_rf_some, va_rf_none, tl_some, tl_none, am_clr_int, am_clr_ref, am_clr_none, am_clr_long, am_w_nil, am_w_int, am_w_ref, am_w_long, am_w_null, am_bb_0, am_bb_1, am_bb_bI, xK_sI, xR_sI, xS_sI, xN_sI, xK_sL, xR_sL, xS_sL, xN_sL, xK_sR, xR_sR, xS_sR, xN_sR, xK_sA, xR_sA, xS_sA, xN_sA, Nat.reduceAdd, Nat.reduceLeDiff, sI_sA, I_sA', sA_sA, I_sA, I_sA', nI_add, mul_nI, bI_0, bI_1, f.k, f.r0, f.r1, f.r2, f.k2, f.r4, f.k4, f.r5, f.k5, f.r6, f.k6, f.r7, f.k7, f.r9, f.k9, k.k, k.r0, k.k0, k.rl, k.r1, k.r2, k.ac.k, k.lo.k, ix_nI, cl_nI, lt_nI, eq_nI, sub_nI, Nat.reduceEqDiff, Nat.one_ne_zero, Nat.not_lt_zero, ↓reduceIte]
  obtain ⟨q, hq, rfl⟩ := rngU x 8 (by omega) (fun z => hb (Or.inl z)) (fun z => hb (Or.inr z))
  have M := sp_206 (d := 37) w.1 (by rw [w.2.1]; exact Q.nm) hq
  rw [w.2.1, w.2.2.2.2.1] at M
  refine op_r c w W _ ?_ M
  have hcn : mI m (B + 1 + 2) 9 = nI (nm (stS s)) := by rw [v.lo.1]; exact Q.nm.1
  have co : ∀ x, cal 38 31 [.ref (B + 1 + 2), .int x] m = some (some (.int (nI (whS (stS s) x))), m) := fun x => by
    rw [sp_31 ko hcn n2]
    have : cntR (fun y => decide (mI m (B + 1 + 2 + 7) y = x)) 0 (nm (stS s)) = whS (stS s) x := by
      unfold whS
      refine cntR_congr fun p _ hp => ?_
      rw [(v.lo.2 p (by omega)).2.2.2.2.2.2.1]
    rw [this]
  have qu := sp_65w (d := 38) k v Q.y
  have cl := sp_67 (d := 37) k v Q.b
  obtain ⟨s6, s7, s8, s9⟩ := v.sc
  have h4 := v.ac.1
  have h8 := c.2.2.2.1
  have q0 : stS s 6501 = nI 1 ∨ stS s 6501 = nI 0 := by
    rcases Q.y with ⟨-, ⟨z, -⟩ | ⟨z, -⟩⟩
    · exact Or.inr z
    · exact Or.inl z
  have hc : q = 0 ∨ q = 1 ∨ q = 2 ∨ q = 3 ∨ q = 4 ∨ q = 5 ∨ q = 6 ∨ q = 7 ∨ q = 8 := by omega
  rcases hc with rfl | rfl | rfl | rfl | rfl | rfl | rfl | rfl | rfl
  · rcases q0 with z | z
    · rw [z, decide_eq_true rfl] at qu
      simp (disch := first | (simp (disch := omega) only [am_k_some, va_rf_some, va_rf_none, tl_some, tl_none, am_clr_int, am_clr_ref, am_clr_none, am_clr_long, am_w_nil, am_w_int, am_w_ref, am_w_long, am_w_null, am_bb_0, am_bb_1, am_bb_bI, xK_sI, xR_sI, xS_sI, xN_sI, xK_sL, xR_sL, xS_sL, xN_sL, xK_sR, xR_sR, xS_sR, xN_sR, xK_sA, xR_sA, xS_sA, xN_sA, Nat.reduceAdd, Nat.reduceLeDiff, sI_sA, I_sA', sA_sA, I_sA, I_sA', nI_add, mul_nI, bI_0, bI_1, f.k, f.r0, f.r1, f.r2, f.k2, f.r4, f.k4, f.r5, f.k5, f.r6, f.k6, f.r7, f.k7, f.r9, f.k9, k.k, k.r0, k.k0, k.rl, k.r1, k.r2, k.ac.k, k.lo.k, ix_nI, cl_nI]; done) | omega | assumption) only [c118, e118_0, e118_1_0, e118_1_1, e118_1_2, e118_1_3, e118_1_4, e118_1_5, e118_1_6, e118_1_7, e118_1_8, e118_52, e118_53, e118_56, e118_59, e118_62, e118_63, e118_66, e118_67, e118_68, e118_69, e118_72, e118_75, e118_76, e118_77, e118_80, e118_83, e118_84, e118_85, e118_88, e118_91, e118_92, e118_95, e118_96, e118_97, e118_100, e118_103, e118_104, e118_107, e118_108, e118_109, e118_112, e118_115, e118_116, e118_117, e118_120, e118_123, e118_126, e118_127, e118_128, e118_131, e118_132, e118_133, e118_136, e118_139, e118_140, e118_141, am_k_some, va_rf_some, va_rf_none, tl_some, tl_none, am_clr_int, am_clr_ref, am_clr_none, am_clr_long, am_w_nil, am_w_int, am_w_ref, am_w_long, am_w_null, am_bb_0, am_bb_1, am_bb_bI, xK_sI, xR_sI, xS_sI, xN_sI, xK_sL, xR_sL, xS_sL, xN_sL, xK_sR, xR_sR, xS_sR, xN_sR, xK_sA, xR_sA, xS_sA, xN_sA, Nat.reduceAdd, Nat.reduceLeDiff, sI_sA, I_sA', sA_sA, I_sA, I_sA', nI_add, mul_nI, bI_0, bI_1, f.k, f.r0, f.r1, f.r2, f.k2, f.r4, f.k4, f.r5, f.k5, f.r6, f.k6, f.r7, f.k7, f.r9, f.k9, k.k, k.r0, k.k0, k.rl, k.r1, k.r2, k.ac.k, k.lo.k, ix_nI, cl_nI, lt_nI, eq_nI, sub_nI, Nat.reduceEqDiff, Nat.one_ne_zero, Nat.not_lt_zero, ↓reduceIte, n10, n01, qu, Bool.not_true, bI_f, shipA, z]
    · rw [z, decide_eq_false (by decide)] at qu
      simp (disch := first | (simp (disch := omega) only [am_k_some, va_rf_some, va_rf_none, tl_some, tl_none, am_clr_int, am_clr_ref, am_clr_none, am_clr_long, am_w_nil, am_w_int, am_w_ref, am_w_long, am_w_null, am_bb_0, am_bb_1, am_bb_bI, xK_sI, xR_sI, xS_sI, xN_sI, xK_sL, xR_sL, xS_sL, xN_sL, xK_sR, xR_sR, xS_sR, xN_sR, xK_sA, xR_sA, xS_sA, xN_sA, Nat.reduceAdd, Nat.reduceLeDiff, sI_sA, I_sA', sA_sA, I_sA, I_sA', nI_add, mul_nI, bI_0, bI_1, f.k, f.r0, f.r1, f.r2, f.k2, f.r4, f.k4, f.r5, f.k5, f.r6, f.k6, f.r7, f.k7, f.r9, f.k9, k.k, k.r0, k.k0, k.rl, k.r1, k.r2, k.ac.k, k.lo.k, ix_nI, cl_nI]; done) | omega | assumption) only [c118, e118_0, e118_1_0, e118_1_1, e118_1_2, e118_1_3, e118_1_4, e118_1_5, e118_1_6, e118_1_7, e118_1_8, e118_52, e118_53, e118_56, e118_59, e118_62, e118_63, e118_66, e118_67, e118_68, e118_69, e118_72, e118_75, e118_76, e118_77, e118_80, e118_83, e118_84, e118_85, e118_88, e118_91, e118_92, e118_95, e118_96, e118_97, e118_100, e118_103, e118_104, e118_107, e118_108, e118_109, e118_112, e118_115, e118_116, e118_117, e118_120, e118_123, e118_126, e118_127, e118_128, e118_131, e118_132, e118_133, e118_136, e118_139, e118_140, e118_141, am_k_some, va_rf_some, va_rf_none, tl_some, tl_none, am_clr_int, am_clr_ref, am_clr_none, am_clr_long, am_w_nil, am_w_int, am_w_ref, am_w_long, am_w_null, am_bb_0, am_bb_1, am_bb_bI, xK_sI, xR_sI, xS_sI, xN_sI, xK_sL, xR_sL, xS_sL, xN_sL, xK_sR, xR_sR, xS_sR, xN_sR, xK_sA, xR_sA, xS_sA, xN_sA, Nat.reduceAdd, Nat.reduceLeDiff, sI_sA, I_sA', sA_sA, I_sA, I_sA', nI_add, mul_nI, bI_0, bI_1, f.k, f.r0, f.r1, f.r2, f.k2, f.r4, f.k4, f.r5, f.k5, f.r6, f.k6, f.r7, f.k7, f.r9, f.k9, k.k, k.r0, k.k0, k.rl, k.r1, k.r2, k.ac.k, k.lo.k, ix_nI, cl_nI, lt_nI, eq_nI, sub_nI, Nat.reduceEqDiff, Nat.one_ne_zero, Nat.not_lt_zero, ↓reduceIte, n10, n01, qu, Bool.not_false, bI_t, shipA, z]
  all_goals simp (disch := first | (simp (disch := omega) only [am_k_some, va_rf_some, va_rf_none, tl_some, tl_none, am_clr_int, am_clr_ref, am_clr_none, am_clr_long, am_w_nil, am_w_int, am_w_ref, am_w_long, am_w_null, am_bb_0, am_bb_1, am_bb_bI, xK_sI, xR_sI, xS_sI, xN_sI, xK_sL, xR_sL, xS_sL, xN_sL, xK_sR, xR_sR, xS_sR, xN_sR, xK_sA, xR_sA, xS_sA, xN_sA, Nat.reduceAdd, Nat.reduceLeDiff, sI_sA, I_sA', sA_sA, I_sA, I_sA', nI_add, mul_nI, bI_0, bI_1, f.k, f.r0, f.r1, f.r2, f.k2, f.r4, f.k4, f.r5, f.k5, f.r6, f.k6, f.r7, f.k7, f.r9, f.k9, k.k, k.r0, k.k0, k.rl, k.r1, k.r2, k.ac.k, k.lo.k, ix_nI, cl_nI]; done) | omega | assumption) only [c118, e118_0, e118_1_0, e118_1_1, e118_1_2, e118_1_3, e118_1_4, e118_1_5, e118_1_6, e118_1_7, e118_1_8, e118_52, e118_53, e118_56, e118_59, e118_62, e118_63, e118_66, e118_67, e118_68, e118_69, e118_72, e118_75, e118_76, e118_77, e118_80, e118_83, e118_84, e118_85, e118_88, e118_91, e118_92, e118_95, e118_96, e118_97, e118_100, e118_103, e118_104, e118_107, e118_108, e118_109, e118_112, e118_115, e118_116, e118_117, e118_120, e118_123, e118_126, e118_127, e118_128, e118_131, e118_132, e118_133, e118_136, e118_139, e118_140, e118_141, am_k_some, va_rf_some, va_rf_none, tl_some, tl_none, am_clr_int, am_clr_ref, am_clr_none, am_clr_long, am_w_nil, am_w_int, am_w_ref, am_w_long, am_w_null, am_bb_0, am_bb_1, am_bb_bI, xK_sI, xR_sI, xS_sI, xN_sI, xK_sL, xR_sL, xS_sL, xN_sL, xK_sR, xR_sR, xS_sR, xN_sR, xK_sA, xR_sA, xS_sA, xN_sA, Nat.reduceAdd, Nat.reduceLeDiff, sI_sA, I_sA', sA_sA, I_sA, I_sA', nI_add, mul_nI, bI_0, bI_1, f.k, f.r0, f.r1, f.r2, f.k2, f.r4, f.k4, f.r5, f.k5, f.r6, f.k6, f.r7, f.k7, f.r9, f.k9, k.k, k.r0, k.k0, k.rl, k.r1, k.r2, k.ac.k, k.lo.k, ix_nI, cl_nI, lt_nI, eq_nI, sub_nI, Nat.reduceEqDiff, Nat.one_ne_zero, Nat.not_lt_zero, ↓reduceIte, s6, s7, s9, h4, h8, co, cl, shipA]
theorem op_30 {B : Nat} {m : am_M} {x y : Int32} (G : Good B m) : Op1 B 120 215 [.int x, .int y] m := by
  obtain ⟨s, c, w, W⟩ := G
  have f := c.1
  have k := f.sh
  have v := c.2.1
  have M := sp_215 (d := 39) (x := x) (y := y) w.1
  rw [w.2.1] at M
  refine op_r c w W _ ?_ M
  obtain ⟨n, n1, n2, n3, n4⟩ := v.pl
  have kp := k.pl
  have io := sp_35 (d := 38) (x := x) kp n2 n1
  have non : fstR (fun j => decide (mI m (B + 1 + 17 + 1) j = x)) n 0 = none → cal 39 120 [.ref B, .int x, .int y] m = some (some (.int (-1)), m) := by
    intro h
    rw [h] at io
    simp (disch := first | (simp (disch := omega) only [am_k_some, va_rf_some, va_rf_none, tl_some, tl_none, am_clr_int, am_clr_ref, am_clr_none, am_clr_long, am_w_nil, am_w_int, am_w_ref, am_w_long, am_w_null, am_bb_0, am_bb_1, am_bb_bI, xK_sI, xR_sI, xS_sI, xN_sI, xK_sL, xR_sL, xS_sL, xN_sL, xK_sR, xR_sR, xS_sR, xN_sR, xK_sA, xR_sA, xS_sA, xN_sA, Nat.reduceAdd, Nat.reduceLeDiff, sI_sA, I_sA', sA_sA, I_sA, I_sA', nI_add, mul_nI, bI_0, bI_1, f.k, f.r0, f.r1, f.r2, f.k2, f.r4, f.k4, f.r5, f.k5, f.r6, f.k6, f.r7, f.k7, f.r9, f.k9, k.k, k.r0, k.k0, k.rl, k.r1, k.r2, k.ac.k, k.lo.k, k.r3, kp.k, kp.r1, kp.k1, kp.r2, kp.k2, ix_nI, cl_nI]; done) | omega | assumption) only [c120, e120_0, e120_1, e120_4, e120_7, e120_8, e120_11, e120_12, e120_13, e120_16, e120_17, e120_18, e120_19, e120_22, e120_25, e120_26, e120_27, e120_28, e120_31, e120_32, e120_35, e120_38, e120_41, e120_42, e120_43, e120_46, e120_47, e120_50, e120_53, e120_56, e120_57, e120_58, am_k_some, va_rf_some, va_rf_none, tl_some, tl_none, am_clr_int, am_clr_ref, am_clr_none, am_clr_long, am_w_nil, am_w_int, am_w_ref, am_w_long, am_w_null, am_bb_0, am_bb_1, am_bb_bI, xK_sI, xR_sI, xS_sI, xN_sI, xK_sL, xR_sL, xS_sL, xN_sL, xK_sR, xR_sR, xS_sR, xN_sR, xK_sA, xR_sA, xS_sA, xN_sA, Nat.reduceAdd, Nat.reduceLeDiff, sI_sA, I_sA', sA_sA, I_sA, I_sA', nI_add, mul_nI, bI_0, bI_1, f.k, f.r0, f.r1, f.r2, f.k2, f.r4, f.k4, f.r5, f.k5, f.r6, f.k6, f.r7, f.k7, f.r9, f.k9, k.k, k.r0, k.k0, k.rl, k.r1, k.r2, k.ac.k, k.lo.k, k.r3, kp.k, kp.r1, kp.k1, kp.r2, kp.k2, ix_nI, cl_nI, lt_nI, eq_nI, sub_nI, Nat.reduceEqDiff, Nat.one_ne_zero, Nat.not_lt_zero, ↓reduceIte, n10, n01, sp_130, io, u1]
  unfold planA
  by_cases h1 : x < nI 0 ∨ nI 399 < x
  · have e : (if x < nI 0 then (-1 : Int32) else if nI 399 < x then -1 else if y < nI 0 then -1 else if nI 1 < y then -1 else if y = nI 0 then stS s (5300 + x.toNatClampNeg) else stS s (5700 + x.toNatClampNeg)) = -1 := by
      by_cases q : x < nI 0
      · rw [if_pos q]
      · rw [if_neg q, if_pos]
        rcases h1 with z | z
        · exact absurd z q
        · exact z
    rw [e]
    refine non ((fstR_none _ _).mpr fun j _ hj => ?_)
    obtain ⟨l, l1, l2⟩ := n3 j (by omega)
    refine decide_eq_false fun z => ?_
    rw [l2] at z
    rw [← z, lt_nI (by omega) (by omega), lt_nI (by omega) (by omega)] at h1
    omega
  have h1a : ¬ x < nI 0 := fun q => h1 (Or.inl q)
  have h1b : ¬ nI 399 < x := fun q => h1 (Or.inr q)
  obtain ⟨l, hl, rfl⟩ := rngU x 399 (by omega) h1a h1b
  rw [if_neg h1a, if_neg h1b, cl_nI (by omega)]
  have pl := n4 l (by omega)
  cases hf : fstR (fun j => decide (mI m (B + 1 + 17 + 1) j = nI l)) n 0 with
  | none =>
    rw [hf] at pl
    rw [non hf]
    obtain ⟨p1, p2⟩ := pl
    rw [p1, p2]
    repeat' split
    all_goals rfl
  | some j =>
    rw [hf] at pl io
    obtain ⟨p1, p2⟩ := pl
    have hj := (fstR_some _ _ _ hf).2.1
    have j0 : ¬ j < 0 := by omega
    by_cases c1 : y < nI 0
    · rw [if_pos c1]
      simp (disch := first | (simp (disch := omega) only [am_k_some, va_rf_some, va_rf_none, tl_some, tl_none, am_clr_int, am_clr_ref, am_clr_none, am_clr_long, am_w_nil, am_w_int, am_w_ref, am_w_long, am_w_null, am_bb_0, am_bb_1, am_bb_bI, xK_sI, xR_sI, xS_sI, xN_sI, xK_sL, xR_sL, xS_sL, xN_sL, xK_sR, xR_sR, xS_sR, xN_sR, xK_sA, xR_sA, xS_sA, xN_sA, Nat.reduceAdd, Nat.reduceLeDiff, sI_sA, I_sA', sA_sA, I_sA, I_sA', nI_add, mul_nI, bI_0, bI_1, f.k, f.r0, f.r1, f.r2, f.k2, f.r4, f.k4, f.r5, f.k5, f.r6, f.k6, f.r7, f.k7, f.r9, f.k9, k.k, k.r0, k.k0, k.rl, k.r1, k.r2, k.ac.k, k.lo.k, k.r3, kp.k, kp.r1, kp.k1, kp.r2, kp.k2, ix_nI, cl_nI]; done) | omega | assumption) only [c120, e120_0, e120_1, e120_4, e120_7, e120_8, e120_11, e120_12, e120_13, e120_16, e120_17, e120_18, e120_19, e120_22, e120_25, e120_26, e120_27, e120_28, e120_31, e120_32, e120_35, e120_38, e120_41, e120_42, e120_43, e120_46, e120_47, e120_50, e120_53, e120_56, e120_57, e120_58, am_k_some, va_rf_some, va_rf_none, tl_some, tl_none, am_clr_int, am_clr_ref, am_clr_none, am_clr_long, am_w_nil, am_w_int, am_w_ref, am_w_long, am_w_null, am_bb_0, am_bb_1, am_bb_bI, xK_sI, xR_sI, xS_sI, xN_sI, xK_sL, xR_sL, xS_sL, xN_sL, xK_sR, xR_sR, xS_sR, xN_sR, xK_sA, xR_sA, xS_sA, xN_sA, Nat.reduceAdd, Nat.reduceLeDiff, sI_sA, I_sA', sA_sA, I_sA, I_sA', nI_add, mul_nI, bI_0, bI_1, f.k, f.r0, f.r1, f.r2, f.k2, f.r4, f.k4, f.r5, f.k5, f.r6, f.k6, f.r7, f.k7, f.r9, f.k9, k.k, k.r0, k.k0, k.rl, k.r1, k.r2, k.ac.k, k.lo.k, k.r3, kp.k, kp.r1, kp.k1, kp.r2, kp.k2, ix_nI, cl_nI, lt_nI, eq_nI, sub_nI, Nat.reduceEqDiff, Nat.one_ne_zero, Nat.not_lt_zero, ↓reduceIte, n10, n01, sp_130, io, j0, c1]
    by_cases c2 : nI 1 < y
    · rw [if_neg c1, if_pos c2]
      simp (disch := first | (simp (disch := omega) only [am_k_some, va_rf_some, va_rf_none, tl_some, tl_none, am_clr_int, am_clr_ref, am_clr_none, am_clr_long, am_w_nil, am_w_int, am_w_ref, am_w_long, am_w_null, am_bb_0, am_bb_1, am_bb_bI, xK_sI, xR_sI, xS_sI, xN_sI, xK_sL, xR_sL, xS_sL, xN_sL, xK_sR, xR_sR, xS_sR, xN_sR, xK_sA, xR_sA, xS_sA, xN_sA, Nat.reduceAdd, Nat.reduceLeDiff, sI_sA, I_sA', sA_sA, I_sA, I_sA', nI_add, mul_nI, bI_0, bI_1, f.k, f.r0, f.r1, f.r2, f.k2, f.r4, f.k4, f.r5, f.k5, f.r6, f.k6, f.r7, f.k7, f.r9, f.k9, k.k, k.r0, k.k0, k.rl, k.r1, k.r2, k.ac.k, k.lo.k, k.r3, kp.k, kp.r1, kp.k1, kp.r2, kp.k2, ix_nI, cl_nI]; done) | omega | assumption) only [c120, e120_0, e120_1, e120_4, e120_7, e120_8, e120_11, e120_12, e120_13, e120_16, e120_17, e120_18, e120_19, e120_22, e120_25, e120_26, e120_27, e120_28, e120_31, e120_32, e120_35, e120_38, e120_41, e120_42, e120_43, e120_46, e120_47, e120_50, e120_53, e120_56, e120_57, e120_58, am_k_some, va_rf_some, va_rf_none, tl_some, tl_none, am_clr_int, am_clr_ref, am_clr_none, am_clr_long, am_w_nil, am_w_int, am_w_ref, am_w_long, am_w_null, am_bb_0, am_bb_1, am_bb_bI, xK_sI, xR_sI, xS_sI, xN_sI, xK_sL, xR_sL, xS_sL, xN_sL, xK_sR, xR_sR, xS_sR, xN_sR, xK_sA, xR_sA, xS_sA, xN_sA, Nat.reduceAdd, Nat.reduceLeDiff, sI_sA, I_sA', sA_sA, I_sA, I_sA', nI_add, mul_nI, bI_0, bI_1, f.k, f.r0, f.r1, f.r2, f.k2, f.r4, f.k4, f.r5, f.k5, f.r6, f.k6, f.r7, f.k7, f.r9, f.k9, k.k, k.r0, k.k0, k.rl, k.r1, k.r2, k.ac.k, k.lo.k, k.r3, kp.k, kp.r1, kp.k1, kp.r2, kp.k2, ix_nI, cl_nI, lt_nI, eq_nI, sub_nI, Nat.reduceEqDiff, Nat.one_ne_zero, Nat.not_lt_zero, ↓reduceIte, n10, n01, sp_130, io, j0, c1, c2]
    rw [if_neg c1, if_neg c2]
    by_cases c3 : y = nI 0
    · rw [if_pos c3, p1]
      simp (disch := first | (simp (disch := omega) only [am_k_some, va_rf_some, va_rf_none, tl_some, tl_none, am_clr_int, am_clr_ref, am_clr_none, am_clr_long, am_w_nil, am_w_int, am_w_ref, am_w_long, am_w_null, am_bb_0, am_bb_1, am_bb_bI, xK_sI, xR_sI, xS_sI, xN_sI, xK_sL, xR_sL, xS_sL, xN_sL, xK_sR, xR_sR, xS_sR, xN_sR, xK_sA, xR_sA, xS_sA, xN_sA, Nat.reduceAdd, Nat.reduceLeDiff, sI_sA, I_sA', sA_sA, I_sA, I_sA', nI_add, mul_nI, bI_0, bI_1, f.k, f.r0, f.r1, f.r2, f.k2, f.r4, f.k4, f.r5, f.k5, f.r6, f.k6, f.r7, f.k7, f.r9, f.k9, k.k, k.r0, k.k0, k.rl, k.r1, k.r2, k.ac.k, k.lo.k, k.r3, kp.k, kp.r1, kp.k1, kp.r2, kp.k2, ix_nI, cl_nI]; done) | omega | assumption) only [c120, e120_0, e120_1, e120_4, e120_7, e120_8, e120_11, e120_12, e120_13, e120_16, e120_17, e120_18, e120_19, e120_22, e120_25, e120_26, e120_27, e120_28, e120_31, e120_32, e120_35, e120_38, e120_41, e120_42, e120_43, e120_46, e120_47, e120_50, e120_53, e120_56, e120_57, e120_58, am_k_some, va_rf_some, va_rf_none, tl_some, tl_none, am_clr_int, am_clr_ref, am_clr_none, am_clr_long, am_w_nil, am_w_int, am_w_ref, am_w_long, am_w_null, am_bb_0, am_bb_1, am_bb_bI, xK_sI, xR_sI, xS_sI, xN_sI, xK_sL, xR_sL, xS_sL, xN_sL, xK_sR, xR_sR, xS_sR, xN_sR, xK_sA, xR_sA, xS_sA, xN_sA, Nat.reduceAdd, Nat.reduceLeDiff, sI_sA, I_sA', sA_sA, I_sA, I_sA', nI_add, mul_nI, bI_0, bI_1, f.k, f.r0, f.r1, f.r2, f.k2, f.r4, f.k4, f.r5, f.k5, f.r6, f.k6, f.r7, f.k7, f.r9, f.k9, k.k, k.r0, k.k0, k.rl, k.r1, k.r2, k.ac.k, k.lo.k, k.r3, kp.k, kp.r1, kp.k1, kp.r2, kp.k2, ix_nI, cl_nI, lt_nI, eq_nI, sub_nI, Nat.reduceEqDiff, Nat.one_ne_zero, Nat.not_lt_zero, ↓reduceIte, n10, n01, sp_130, io, j0, c1, c2, eq_true c3]
    · rw [if_neg c3, p2]
      simp (disch := first | (simp (disch := omega) only [am_k_some, va_rf_some, va_rf_none, tl_some, tl_none, am_clr_int, am_clr_ref, am_clr_none, am_clr_long, am_w_nil, am_w_int, am_w_ref, am_w_long, am_w_null, am_bb_0, am_bb_1, am_bb_bI, xK_sI, xR_sI, xS_sI, xN_sI, xK_sL, xR_sL, xS_sL, xN_sL, xK_sR, xR_sR, xS_sR, xN_sR, xK_sA, xR_sA, xS_sA, xN_sA, Nat.reduceAdd, Nat.reduceLeDiff, sI_sA, I_sA', sA_sA, I_sA, I_sA', nI_add, mul_nI, bI_0, bI_1, f.k, f.r0, f.r1, f.r2, f.k2, f.r4, f.k4, f.r5, f.k5, f.r6, f.k6, f.r7, f.k7, f.r9, f.k9, k.k, k.r0, k.k0, k.rl, k.r1, k.r2, k.ac.k, k.lo.k, k.r3, kp.k, kp.r1, kp.k1, kp.r2, kp.k2, ix_nI, cl_nI]; done) | omega | assumption) only [c120, e120_0, e120_1, e120_4, e120_7, e120_8, e120_11, e120_12, e120_13, e120_16, e120_17, e120_18, e120_19, e120_22, e120_25, e120_26, e120_27, e120_28, e120_31, e120_32, e120_35, e120_38, e120_41, e120_42, e120_43, e120_46, e120_47, e120_50, e120_53, e120_56, e120_57, e120_58, am_k_some, va_rf_some, va_rf_none, tl_some, tl_none, am_clr_int, am_clr_ref, am_clr_none, am_clr_long, am_w_nil, am_w_int, am_w_ref, am_w_long, am_w_null, am_bb_0, am_bb_1, am_bb_bI, xK_sI, xR_sI, xS_sI, xN_sI, xK_sL, xR_sL, xS_sL, xN_sL, xK_sR, xR_sR, xS_sR, xN_sR, xK_sA, xR_sA, xS_sA, xN_sA, Nat.reduceAdd, Nat.reduceLeDiff, sI_sA, I_sA', sA_sA, I_sA, I_sA', nI_add, mul_nI, bI_0, bI_1, f.k, f.r0, f.r1, f.r2, f.k2, f.r4, f.k4, f.r5, f.k5, f.r6, f.k6, f.r7, f.k7, f.r9, f.k9, k.k, k.r0, k.k0, k.rl, k.r1, k.r2, k.ac.k, k.lo.k, k.r3, kp.k, kp.r1, kp.k1, kp.r2, kp.k2, ix_nI, cl_nI, lt_nI, eq_nI, sub_nI, Nat.reduceEqDiff, Nat.one_ne_zero, Nat.not_lt_zero, ↓reduceIte, n10, n01, sp_130, io, j0, c1, c2, c3]
theorem op_37 {B : Nat} {m : am_M} {x : Int32} (G : Good B m) : Op1 B 127 224 [.int x] m := by
  obtain ⟨s, c, w, W⟩ := G
  have f := c.1
  have k := f.sh
  have M := sp_224 (d := 39) (x := x) w.1
  rw [w.2.2.2.2.2.2.1] at M
  refine op_r c w W _ ?_ M
  unfold fndA
  by_cases h1 : x < nI 0
  · rw [if_pos h1]
    simp (disch := first | (simp (disch := omega) only [am_k_some, va_rf_some, va_rf_none, tl_some, tl_none, am_clr_int, am_clr_ref, am_clr_none, am_clr_long, am_w_nil, am_w_int, am_w_ref, am_w_long, am_w_null, am_bb_0, am_bb_1, am_bb_bI, xK_sI, xR_sI, xS_sI, xN_sI, xK_sL, xR_sL, xS_sL, xN_sL, xK_sR, xR_sR, xS_sR, xN_sR, xK_sA, xR_sA, xS_sA, xN_sA, Nat.reduceAdd, Nat.reduceLeDiff, sI_sA, I_sA', sA_sA, I_sA, I_sA', nI_add, mul_nI, bI_0, bI_1, f.k, f.r0, f.r1, f.r2, f.k2, f.r4, f.k4, f.r5, f.k5, f.r6, f.k6, f.r7, f.k7, f.r9, f.k9, k.k, k.r0, k.k0, k.rl, k.r1, k.r2, k.ac.k, k.lo.k, ix_nI, cl_nI]; done) | omega | assumption) only [c127, e127_0, e127_1, e127_2, e127_4, e127_7, e127_10, e127_11, e127_14, e127_15, e127_16, e127_19, e127_20, am_k_some, va_rf_some, va_rf_none, tl_some, tl_none, am_clr_int, am_clr_ref, am_clr_none, am_clr_long, am_w_nil, am_w_int, am_w_ref, am_w_long, am_w_null, am_bb_0, am_bb_1, am_bb_bI, xK_sI, xR_sI, xS_sI, xN_sI, xK_sL, xR_sL, xS_sL, xN_sL, xK_sR, xR_sR, xS_sR, xN_sR, xK_sA, xR_sA, xS_sA, xN_sA, Nat.reduceAdd, Nat.reduceLeDiff, sI_sA, I_sA', sA_sA, I_sA, I_sA', nI_add, mul_nI, bI_0, bI_1, f.k, f.r0, f.r1, f.r2, f.k2, f.r4, f.k4, f.r5, f.k5, f.r6, f.k6, f.r7, f.k7, f.r9, f.k9, k.k, k.r0, k.k0, k.rl, k.r1, k.r2, k.ac.k, k.lo.k, ix_nI, cl_nI, lt_nI, eq_nI, sub_nI, Nat.reduceEqDiff, Nat.one_ne_zero, Nat.not_lt_zero, ↓reduceIte, sp_130, h1]
  by_cases h2 : nI 6 < x
  · rw [if_neg h1, if_pos h2]
    simp (disch := first | (simp (disch := omega) only [am_k_some, va_rf_some, va_rf_none, tl_some, tl_none, am_clr_int, am_clr_ref, am_clr_none, am_clr_long, am_w_nil, am_w_int, am_w_ref, am_w_long, am_w_null, am_bb_0, am_bb_1, am_bb_bI, xK_sI, xR_sI, xS_sI, xN_sI, xK_sL, xR_sL, xS_sL, xN_sL, xK_sR, xR_sR, xS_sR, xN_sR, xK_sA, xR_sA, xS_sA, xN_sA, Nat.reduceAdd, Nat.reduceLeDiff, sI_sA, I_sA', sA_sA, I_sA, I_sA', nI_add, mul_nI, bI_0, bI_1, f.k, f.r0, f.r1, f.r2, f.k2, f.r4, f.k4, f.r5, f.k5, f.r6, f.k6, f.r7, f.k7, f.r9, f.k9, k.k, k.r0, k.k0, k.rl, k.r1, k.r2, k.ac.k, k.lo.k, ix_nI, cl_nI]; done) | omega | assumption) only [c127, e127_0, e127_1, e127_2, e127_4, e127_7, e127_10, e127_11, e127_14, e127_15, e127_16, e127_19, e127_20, am_k_some, va_rf_some, va_rf_none, tl_some, tl_none, am_clr_int, am_clr_ref, am_clr_none, am_clr_long, am_w_nil, am_w_int, am_w_ref, am_w_long, am_w_null, am_bb_0, am_bb_1, am_bb_bI, xK_sI, xR_sI, xS_sI, xN_sI, xK_sL, xR_sL, xS_sL, xN_sL, xK_sR, xR_sR, xS_sR, xN_sR, xK_sA, xR_sA, xS_sA, xN_sA, Nat.reduceAdd, Nat.reduceLeDiff, sI_sA, I_sA', sA_sA, I_sA, I_sA', nI_add, mul_nI, bI_0, bI_1, f.k, f.r0, f.r1, f.r2, f.k2, f.r4, f.k4, f.r5, f.k5, f.r6, f.k6, f.r7, f.k7, f.r9, f.k9, k.k, k.r0, k.k0, k.rl, k.r1, k.r2, k.ac.k, k.lo.k, ix_nI, cl_nI, lt_nI, eq_nI, sub_nI, Nat.reduceEqDiff, Nat.one_ne_zero, Nat.not_lt_zero, ↓reduceIte, sp_130, h1, h2]
  rw [if_neg h1, if_neg h2]
  obtain ⟨l, hl, rfl⟩ := rngU x 6 (by omega) h1 h2
  have h := c.2.2.2.2.2.1 l (by omega)
  have h1' : ¬ l < 0 := by omega
  have h2' : ¬ 6 < l := by omega
  rw [cl_nI (by omega)]
  simp (disch := first | (simp (disch := omega) only [am_k_some, va_rf_some, va_rf_none, tl_some, tl_none, am_clr_int, am_clr_ref, am_clr_none, am_clr_long, am_w_nil, am_w_int, am_w_ref, am_w_long, am_w_null, am_bb_0, am_bb_1, am_bb_bI, xK_sI, xR_sI, xS_sI, xN_sI, xK_sL, xR_sL, xS_sL, xN_sL, xK_sR, xR_sR, xS_sR, xN_sR, xK_sA, xR_sA, xS_sA, xN_sA, Nat.reduceAdd, Nat.reduceLeDiff, sI_sA, I_sA', sA_sA, I_sA, I_sA', nI_add, mul_nI, bI_0, bI_1, f.k, f.r0, f.r1, f.r2, f.k2, f.r4, f.k4, f.r5, f.k5, f.r6, f.k6, f.r7, f.k7, f.r9, f.k9, k.k, k.r0, k.k0, k.rl, k.r1, k.r2, k.ac.k, k.lo.k, ix_nI, cl_nI]; done) | omega | assumption) only [c127, e127_0, e127_1, e127_2, e127_4, e127_7, e127_10, e127_11, e127_14, e127_15, e127_16, e127_19, e127_20, am_k_some, va_rf_some, va_rf_none, tl_some, tl_none, am_clr_int, am_clr_ref, am_clr_none, am_clr_long, am_w_nil, am_w_int, am_w_ref, am_w_long, am_w_null, am_bb_0, am_bb_1, am_bb_bI, xK_sI, xR_sI, xS_sI, xN_sI, xK_sL, xR_sL, xS_sL, xN_sL, xK_sR, xR_sR, xS_sR, xN_sR, xK_sA, xR_sA, xS_sA, xN_sA, Nat.reduceAdd, Nat.reduceLeDiff, sI_sA, I_sA', sA_sA, I_sA, I_sA', nI_add, mul_nI, bI_0, bI_1, f.k, f.r0, f.r1, f.r2, f.k2, f.r4, f.k4, f.r5, f.k5, f.r6, f.k6, f.r7, f.k7, f.r9, f.k9, k.k, k.r0, k.k0, k.rl, k.r1, k.r2, k.ac.k, k.lo.k, ix_nI, cl_nI, lt_nI, eq_nI, sub_nI, Nat.reduceEqDiff, Nat.one_ne_zero, Nat.not_lt_zero, ↓reduceIte, n10, sp_130, h1', h2', h]
theorem good_T {m m1 : am_M} {B N' : Nat} {s : St} {F C : Nat → Int32} (c : CI m B s) (w : MI m (B + 82) s) (W : Wst s) (hn : N' ≤ 200) (hC : ∀ j, j < 4 * N' → C j = F j) (h1 : m1 = sA (sA (sA (sA m (B + 80) C) B (up1 (mI m B) 8 (nI N'))) (B + 82 + 7) F) (B + 82) (up1 (mI m (B + 82)) 7 (nI N'))) : Good B m1 ∧ Bel B m m1 := by
  obtain ⟨c0, c1, c2, c3, c4, c5, c6, c7, ix, c8⟩ := id c
  obtain ⟨w0, w1, w2, w3, w4, w5, w6, w7, w8, w9⟩ := id w
  have fr : FrP (fun x => x = B + 80 ∨ x = B ∨ x = B + 82 + 7 ∨ x = B + 82) m m1 := by rw [h1]; exact ((((FrP.refl _ m).sA (Or.inl rfl)).sA (Or.inr (Or.inl rfl))).sA (Or.inr (Or.inr (Or.inl rfl)))).sA (Or.inr (Or.inr (Or.inr rfl)))
  have iB : mI m1 B = up1 (mI m B) 8 (nI N') := by rw [h1, I_sA' _ _ (by omega), I_sA' _ _ (by omega), I_sA]
  have iC : mI m1 (B + 80) = C := by rw [h1, I_sA' _ _ (by omega), I_sA' _ _ (by omega), I_sA' _ _ (by omega), I_sA]
  have iM : mI m1 (B + 82) = up1 (mI m (B + 82)) 7 (nI N') := by rw [h1, I_sA]
  have iF : mI m1 (B + 82 + 7) = F := by rw [h1, I_sA' _ _ (by omega), I_sA]
  have lM : mL m1 = mL m := by rw [h1, mL_sA, mL_sA, mL_sA, mL_sA]
  refine good_G (S' := stS s) (F' := F) (L' := stL s) (Z' := stZ s) (W' := stW s) (N' := N') c w W (fr.mono (fun x hx => by omega)) (c1.keep (fun y y1 y2 => fr.i (by omega)) (by rw [lM])) ?_ ?_ ?_ ?_ ?_ ?_ ?_ ?_ ?_ ?_ ?_ W.1 W.2.1 hn
  · rw [iB, up1_eq]
  · rw [iC]; exact hC
  · rw [iB, up1_ne (by omega)]; exact c6
  · unfold ReV; rw [lM]; exact c7
  · rw [fr.i (by omega)]; exact w1
  · rw [lM]; exact w2
  · intro k hk; rw [lM]
  · rw [iM, up1_eq]
  · exact iF
  · rw [iM, up1_ne (by omega)]; exact w7
  · rw [iM, lM, up1_ne (by omega), up1_ne (by omega), up1_ne (by omega)]; exact w8
theorem op_32 {B : Nat} {m : am_M} {x1 x2 x3 x4 : Int32} (G : Good B m) : Op1 B 122 217 [.int x1, .int x2, .int x3, .int x4] m := by
  obtain ⟨s, c, w, W⟩ := G
  have f := c.1
  have k := f.sh
  have h8 := c.2.2.2.1
  have n2 := W.2.2.1
  by_cases hf : stN s = 200
  · rw [hf] at h8
    have h7 := w.2.2.2.2.1
    rw [hf] at h7
    refine op_r c w W (-10) ?_ (sp_217f (d := 39) w.1 h7)
    have z : ¬ (200 : Nat) < 200 := by omega
    simp (disch := first | (simp (disch := omega) only [am_k_some, va_rf_some, va_rf_none, tl_some, tl_none, am_clr_int, am_clr_ref, am_clr_none, am_clr_long, am_w_nil, am_w_int, am_w_ref, am_w_long, am_w_null, am_bb_0, am_bb_1, am_bb_bI, xK_sI, xR_sI, xS_sI, xN_sI, xK_sL, xR_sL, xS_sL, xN_sL, xK_sR, xR_sR, xS_sR, xN_sR, xK_sA, xR_sA, xS_sA, xN_sA, Nat.reduceAdd, Nat.reduceLeDiff, sI_sA, I_sA', sA_sA, I_sA, I_sA', nI_add, mul_nI, bI_0, bI_1, f.k, f.r0, f.r1, f.r2, f.k2, f.r4, f.k4, f.r5, f.k5, f.r6, f.k6, f.r7, f.k7, f.r9, f.k9, k.k, k.r0, k.k0, k.rl, k.r1, k.r2, k.ac.k, k.lo.k, ix_nI, cl_nI]; done) | omega | assumption) only [c122, e122_0, e122_1, e122_4, e122_7, e122_10, e122_12, e122_13, e122_14, e122_17, e122_18, e122_19, e122_21, e122_22, e122_25, e122_27, e122_28, e122_29, e122_30, e122_33, e122_35, e122_36, e122_37, e122_38, e122_39, e122_40, e122_43, e122_45, e122_46, e122_47, e122_48, e122_49, e122_50, e122_53, e122_55, e122_56, e122_57, e122_59, e122_60, e122_61, e122_61r, e122_62, e122_65, e122_66, e122_67, e122_70, e122_71, e122_74, am_k_some, va_rf_some, va_rf_none, tl_some, tl_none, am_clr_int, am_clr_ref, am_clr_none, am_clr_long, am_w_nil, am_w_int, am_w_ref, am_w_long, am_w_null, am_bb_0, am_bb_1, am_bb_bI, xK_sI, xR_sI, xS_sI, xN_sI, xK_sL, xR_sL, xS_sL, xN_sL, xK_sR, xR_sR, xS_sR, xN_sR, xK_sA, xR_sA, xS_sA, xN_sA, Nat.reduceAdd, Nat.reduceLeDiff, sI_sA, I_sA', sA_sA, I_sA, I_sA', nI_add, mul_nI, bI_0, bI_1, f.k, f.r0, f.r1, f.r2, f.k2, f.r4, f.k4, f.r5, f.k5, f.r6, f.k6, f.r7, f.k7, f.r9, f.k9, k.k, k.r0, k.k0, k.rl, k.r1, k.r2, k.ac.k, k.lo.k, ix_nI, cl_nI, lt_nI, eq_nI, sub_nI, Nat.reduceEqDiff, Nat.one_ne_zero, Nat.not_lt_zero, ↓reduceIte, h8, z]
  have hn : stN s < 200 := by omega
  obtain ⟨g1, g2⟩ := good_T (N' := stN s + 1) (C := stpS (mI m (B + 80)) (stN s) x1 x2 x3 x4) (F := stpS (stF s) (stN s) x1 x2 x3 x4) c w W (by omega) (fun j hj => by
    unfold stpS
    simp only [up1_at]
    by_cases e3 : j = 4 * stN s + 3
    · rw [if_pos e3, if_pos e3]
    by_cases e2 : j = 4 * stN s + 2
    · rw [if_neg e3, if_neg e3, if_pos e2, if_pos e2]
    by_cases e1 : j = 4 * stN s + 1
    · rw [if_neg e3, if_neg e3, if_neg e2, if_neg e2, if_pos e1, if_pos e1]
    by_cases e0 : j = 4 * stN s
    · rw [if_neg e3, if_neg e3, if_neg e2, if_neg e2, if_neg e1, if_neg e1, if_pos e0, if_pos e0]
    · rw [if_neg e3, if_neg e3, if_neg e2, if_neg e2, if_neg e1, if_neg e1, if_neg e0, if_neg e0]
      exact c.2.2.2.2.1 j (by omega)) rfl
  have fr : FrP (fun x => x = B + 80 ∨ x = B) m (sA (sA m (B + 80) (stpS (mI m (B + 80)) (stN s) x1 x2 x3 x4)) B (up1 (mI m B) 8 (nI (stN s + 1)))) := ((FrP.refl _ m).sA (Or.inl rfl)).sA (Or.inr rfl)
  have w' := w.fr fr (fun x h1 h2 => by omega)
  have M := sp_217 (d := 39) (k := stN s) (a := x1) (b := x2) (c := x3) (e := x4) w'.1 w'.2.2.2.2.1 hn
  rw [w'.2.2.2.2.2.1, fr.i (show ¬ (B + 82 = B + 80 ∨ B + 82 = B) by omega)] at M
  refine ⟨_, _, _, ?_, M, g1, g2⟩
  have h8' : up1 (mI m B) 8 (nI (stN s + 1)) 8 = nI (stN s + 1) := up1_eq
  have e4 : stN s * 4 = 4 * stN s := by omega
  unfold stpS
  simp (disch := first | (simp (disch := omega) only [am_k_some, va_rf_some, va_rf_none, tl_some, tl_none, am_clr_int, am_clr_ref, am_clr_none, am_clr_long, am_w_nil, am_w_int, am_w_ref, am_w_long, am_w_null, am_bb_0, am_bb_1, am_bb_bI, xK_sI, xR_sI, xS_sI, xN_sI, xK_sL, xR_sL, xS_sL, xN_sL, xK_sR, xR_sR, xS_sR, xN_sR, xK_sA, xR_sA, xS_sA, xN_sA, Nat.reduceAdd, Nat.reduceLeDiff, sI_sA, I_sA', sA_sA, I_sA, I_sA', nI_add, mul_nI, bI_0, bI_1, f.k, f.r0, f.r1, f.r2, f.k2, f.r4, f.k4, f.r5, f.k5, f.r6, f.k6, f.r7, f.k7, f.r9, f.k9, k.k, k.r0, k.k0, k.rl, k.r1, k.r2, k.ac.k, k.lo.k, ix_nI, cl_nI]; done) | omega | assumption) only [c122, e122_0, e122_1, e122_4, e122_7, e122_10, e122_12, e122_13, e122_14, e122_17, e122_18, e122_19, e122_21, e122_22, e122_25, e122_27, e122_28, e122_29, e122_30, e122_33, e122_35, e122_36, e122_37, e122_38, e122_39, e122_40, e122_43, e122_45, e122_46, e122_47, e122_48, e122_49, e122_50, e122_53, e122_55, e122_56, e122_57, e122_59, e122_60, e122_61, e122_61r, e122_62, e122_65, e122_66, e122_67, e122_70, e122_71, e122_74, am_k_some, va_rf_some, va_rf_none, tl_some, tl_none, am_clr_int, am_clr_ref, am_clr_none, am_clr_long, am_w_nil, am_w_int, am_w_ref, am_w_long, am_w_null, am_bb_0, am_bb_1, am_bb_bI, xK_sI, xR_sI, xS_sI, xN_sI, xK_sL, xR_sL, xS_sL, xN_sL, xK_sR, xR_sR, xS_sR, xN_sR, xK_sA, xR_sA, xS_sA, xN_sA, Nat.reduceAdd, Nat.reduceLeDiff, sI_sA, I_sA', sA_sA, I_sA, I_sA', nI_add, mul_nI, bI_0, bI_1, f.k, f.r0, f.r1, f.r2, f.k2, f.r4, f.k4, f.r5, f.k5, f.r6, f.k6, f.r7, f.k7, f.r9, f.k9, k.k, k.r0, k.k0, k.rl, k.r1, k.r2, k.ac.k, k.lo.k, ix_nI, cl_nI, lt_nI, eq_nI, sub_nI, Nat.reduceEqDiff, Nat.one_ne_zero, Nat.not_lt_zero, ↓reduceIte, h8, hn, e4, h8']
theorem op_33 {B : Nat} {m : am_M} (G : Good B m) : Op1 B 123 218 [] m := by
  obtain ⟨s, c, w, W⟩ := G
  have f := c.1
  have k := f.sh
  have h8 := c.2.2.2.1
  have C : cal 39 123 [.ref B] m = some (some (.int (nI (stN s))), sA m B (up1 (mI m B) 8 (nI 0))) := by
    simp (disch := first | (simp (disch := omega) only [am_k_some, va_rf_some, va_rf_none, tl_some, tl_none, am_clr_int, am_clr_ref, am_clr_none, am_clr_long, am_w_nil, am_w_int, am_w_ref, am_w_long, am_w_null, am_bb_0, am_bb_1, am_bb_bI, xK_sI, xR_sI, xS_sI, xN_sI, xK_sL, xR_sL, xS_sL, xN_sL, xK_sR, xR_sR, xS_sR, xN_sR, xK_sA, xR_sA, xS_sA, xN_sA, Nat.reduceAdd, Nat.reduceLeDiff, sI_sA, I_sA', sA_sA, I_sA, I_sA', nI_add, mul_nI, bI_0, bI_1, f.k, f.r0, f.r1, f.r2, f.k2, f.r4, f.k4, f.r5, f.k5, f.r6, f.k6, f.r7, f.k7, f.r9, f.k9, k.k, k.r0, k.k0, k.rl, k.r1, k.r2, k.ac.k, k.lo.k, ix_nI, cl_nI]; done) | omega | assumption) only [c123, e123_0, e123_1, e123_4, e123_5, e123_6, e123_7, e123_10, e123_11, am_k_some, va_rf_some, va_rf_none, tl_some, tl_none, am_clr_int, am_clr_ref, am_clr_none, am_clr_long, am_w_nil, am_w_int, am_w_ref, am_w_long, am_w_null, am_bb_0, am_bb_1, am_bb_bI, xK_sI, xR_sI, xS_sI, xN_sI, xK_sL, xR_sL, xS_sL, xN_sL, xK_sR, xR_sR, xS_sR, xN_sR, xK_sA, xR_sA, xS_sA, xN_sA, Nat.reduceAdd, Nat.reduceLeDiff, sI_sA, I_sA', sA_sA, I_sA, I_sA', nI_add, mul_nI, bI_0, bI_1, f.k, f.r0, f.r1, f.r2, f.k2, f.r4, f.k4, f.r5, f.k5, f.r6, f.k6, f.r7, f.k7, f.r9, f.k9, k.k, k.r0, k.k0, k.rl, k.r1, k.r2, k.ac.k, k.lo.k, ix_nI, cl_nI, lt_nI, eq_nI, sub_nI, Nat.reduceEqDiff, Nat.one_ne_zero, Nat.not_lt_zero, ↓reduceIte, h8]
  have fr : FrP (fun x => x = B) m (sA m B (up1 (mI m B) 8 (nI 0))) := (FrP.refl _ m).sA rfl
  have w' := w.fr fr (fun x h1 h2 => by omega)
  have M := sp_218 (d := 39) w'.1
  rw [w'.2.2.2.2.1, fr.i (show ¬ (B + 82 = B) by omega)] at M
  obtain ⟨g1, g2⟩ := good_T (m1 := sA (sA m B (up1 (mI m B) 8 (nI 0))) (B + 82) (up1 (mI m (B + 82)) 7 (nI 0))) (N' := 0) (C := mI m (B + 80)) (F := mI m (B + 82 + 7)) c w W (by omega) (fun j hj => by omega) (by
    have e1 : sA (sA (sA m (B + 80) (mI m (B + 80))) B (up1 (mI m B) 8 (nI 0))) (B + 82 + 7) (mI m (B + 82 + 7)) = sA m B (up1 (mI m B) 8 (nI 0)) := by
      rw [sA_self]
      have := sA_self (sA m B (up1 (mI m B) 8 (nI 0))) (B + 82 + 7)
      rw [I_sA' _ _ (by omega)] at this
      exact this
    rw [e1])
  exact ⟨_, _, _, C, M, g1, g2⟩
