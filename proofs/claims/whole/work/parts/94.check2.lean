/-! THE CALL: check, its loops -/
theorem mi_go {m m' : am_M} {M : Nat} {s : St} {S' : Nat → Int32} (w : MI m M s) (F : FrP (fun x => x = M ∨ x = M + 1) m m') (h1 : mI m' (M + 1) = S') (O : ∀ j, j ≠ 11 → j ≠ 12 → j ≠ 14 → mI m' M j = mI m M j) : MI m' M (S', stL s, stP s, stN s, stF s, stD s, stZ s, ((mI m' M 11).toInt64, (mI m' M 12).toInt64, mL m' M 13, (mI m' M 14).toInt64), stK s) := by
  obtain ⟨w0, w1, w2, w3, w4, w5, w6, w7, w8, w9⟩ := w
  refine ⟨w0.frP F, h1, ?_, ?_, ?_, ?_, ?_, ?_, rfl, fun k hk => ?_⟩
  · rw [F.l (by omega)]; exact w2
  · rw [F.i (by omega)]; exact w3
  · rw [O _ (by omega) (by omega) (by omega)]; exact w4
  · rw [F.i (by omega)]; exact w5
  · rw [F.i (by omega)]; exact w6
  · rw [O _ (by omega) (by omega) (by omega)]; exact w7
  · obtain ⟨a, b, c⟩ := w9 k hk
    exact ⟨by rw [F.i (by omega)]; exact a, by rw [F.i (by omega)]; exact b, by rw [F.l (by omega)]; exact c⟩
/-- what the class does from step i on -/
def LpC (F : Nat → Int32) (N : Nat) (L : Int64) (i j : Nat) (S : Nat → Int32) : Prop := ∀ (B a : Nat) (m : am_M), FdK m B → ShK m a → ShV m a S L → B + 98 ≤ a → mR m B 3 = some a → mI m B 8 = nI N → (∀ y, y < 4 * N → mI m (B + 80) y = F y) → ∃ m', ev 39 124 40 [some (.ref B), some (.int (nI i))] [] m = some (some (.int (nI j)), m') ∧ FrR a (B + 78) m m'
def LpM (F : Nat → Int32) (N : Nat) (L : Int64) (i j : Nat) (S : Nat → Int32) : Prop := ∀ (M : Nat) (m : am_M) (s : St) (x1 x2 x3 x4 : Option Value) (x5 : Int32), MI m M s → Wst s → stS s = S → stL s = L → stN s = N → stF s = F → ∃ m', ev 39 221 47 [some (.ref M), x1, x2, x3, x4, some (.int x5), some (.int (nI i))] [] m = ev 39 221 111 [some (.ref M), x1, x2, x3, x4, some (.int x5), some (.int (nI j))] [] m' ∧ FrP (fun x => x = M ∨ x = M + 1) m m' ∧ (∀ j, j ≠ 11 → j ≠ 12 → j ≠ 14 → mI m' M j = mI m M j)
theorem sp_129p {d B a i : Nat} {m : am_M} {op xa xb xc : Int32} (f : FdK m B) (hi : i < 200) (h0 : mI m (B + 80) (4 * i) = op) (h1 : mI m (B + 80) (4 * i + 1) = xa) (h2 : mI m (B + 80) (4 * i + 2) = xb) (h3 : mI m (B + 80) (4 * i + 3) = xc) : cal d 129 [.ref B, .ref a, .int (nI (4 * i))] m = ev d 129 35 [some (.ref B), some (.ref a), some (.int (nI (4 * i))), some (.int xa), some (.int xb), some (.int xc)] [.int op] m := by
  have k := f.sh
  simp (disch := first | (simp (disch := omega) only [am_k_some, va_rf_some, va_rf_none, tl_some, tl_none, am_clr_int, am_clr_ref, am_clr_none, am_clr_long, am_w_nil, am_w_int, am_w_ref, am_w_long, am_w_null, am_bb_0, am_bb_1, am_bb_bI, xK_sI, xR_sI, xS_sI, xN_sI, xK_sL, xR_sL, xS_sL, xN_sL, xK_sR, xR_sR, xS_sR, xN_sR, xK_sA, xR_sA, xS_sA, xN_sA, Nat.reduceAdd, Nat.reduceLeDiff, sI_sA, I_sA', sA_sA, I_sA, I_sA', nI_add, mul_nI, bI_0, bI_1, f.k, f.r0, f.r1, f.r2, f.k2, f.r4, f.k4, f.r5, f.k5, f.r6, f.k6, f.r7, f.k7, f.r9, f.k9, k.k, k.r0, k.k0, k.rl, k.r1, k.r2, k.ac.k, k.lo.k, ix_nI, cl_nI]; done) | omega | assumption) only [c129, e129_0, e129_1, e129_4, e129_5, e129_6, e129_7, e129_8, e129_9, e129_10, e129_13, e129_14, e129_15, e129_16, e129_17, e129_19, e129_20, e129_23, e129_24, e129_25, e129_26, e129_27, e129_29, e129_30, e129_33, e129_34, am_k_some, va_rf_some, va_rf_none, tl_some, tl_none, am_clr_int, am_clr_ref, am_clr_none, am_clr_long, am_w_nil, am_w_int, am_w_ref, am_w_long, am_w_null, am_bb_0, am_bb_1, am_bb_bI, xK_sI, xR_sI, xS_sI, xN_sI, xK_sL, xR_sL, xS_sL, xN_sL, xK_sR, xR_sR, xS_sR, xN_sR, xK_sA, xR_sA, xS_sA, xN_sA, Nat.reduceAdd, Nat.reduceLeDiff, sI_sA, I_sA', sA_sA, I_sA, I_sA', nI_add, mul_nI, bI_0, bI_1, f.k, f.r0, f.r1, f.r2, f.k2, f.r4, f.k4, f.r5, f.k5, f.r6, f.k6, f.r7, f.k7, f.r9, f.k9, k.k, k.r0, k.k0, k.rl, k.r1, k.r2, k.ac.k, k.lo.k, ix_nI, cl_nI, lt_nI, eq_nI, sub_nI, Nat.reduceEqDiff, Nat.one_ne_zero, Nat.not_lt_zero, ↓reduceIte, h0, h1, h2, h3]
theorem lp_go {F : Nat → Int32} {N : Nat} {L : Int64} (hN : N ≤ 200) : ∀ r i (S : Nat → Int32), i + r = N → Wf S → ∃ j, j ≤ N ∧ LpC F N L i j S ∧ LpM F N L i j S
  | 0, i, S, hi, Q => by
    have hi' : i = N := by omega
    subst hi'
    refine ⟨i, by omega, fun B a m f k v ha hr h8 hF => ⟨m, ?_, FrR.refl _ _ m⟩, fun M m s x1 x2 x3 x4 x5 w W hs hL hn hf => ⟨m, ?_, FrP.refl _ m, fun _ _ _ _ => rfl⟩⟩
    · have hz := Nat.lt_irrefl i
      simp (disch := first | (simp (disch := omega) only [am_k_some, va_rf_some, va_rf_none, tl_some, tl_none, am_clr_int, am_clr_ref, am_clr_none, am_clr_long, am_w_nil, am_w_int, am_w_ref, am_w_long, am_w_null, am_bb_0, am_bb_1, am_bb_bI, xK_sI, xR_sI, xS_sI, xN_sI, xK_sL, xR_sL, xS_sL, xN_sL, xK_sR, xR_sR, xS_sR, xN_sR, xK_sA, xR_sA, xS_sA, xN_sA, Nat.reduceAdd, Nat.reduceLeDiff, sI_sA, I_sA', sA_sA, I_sA, I_sA', nI_add, mul_nI, bI_0, bI_1, f.k, f.r0, f.r1, f.r2, f.k2, f.r4, f.k4, f.r5, f.k5, f.r6, f.k6, f.r7, f.k7, f.r9, f.k9, k.k, k.r0, k.k0, k.rl, k.r1, k.r2, k.ac.k, k.lo.k, ix_nI, cl_nI]; done) | omega | assumption) only [e124_0, e124_1, e124_4, e124_7, e124_8, e124_9, e124_10, e124_13, e124_13n, e124_16, e124_17, e124_20, e124_20r, e124_21, e124_24, e124_27, e124_28, e124_31, e124_32, e124_35, e124_38, e124_39, e124_40, e124_41, e124_42, e124_45, e124_48, e124_49, e124_50, e124_53, e124_54, e124_55, e124_56, e124_59, e124_62, e124_63, e124_64, e124_67, e124_70, e124_71, e124_74, am_k_some, va_rf_some, va_rf_none, tl_some, tl_none, am_clr_int, am_clr_ref, am_clr_none, am_clr_long, am_w_nil, am_w_int, am_w_ref, am_w_long, am_w_null, am_bb_0, am_bb_1, am_bb_bI, xK_sI, xR_sI, xS_sI, xN_sI, xK_sL, xR_sL, xS_sL, xN_sL, xK_sR, xR_sR, xS_sR, xN_sR, xK_sA, xR_sA, xS_sA, xN_sA, Nat.reduceAdd, Nat.reduceLeDiff, sI_sA, I_sA', sA_sA, I_sA, I_sA', nI_add, mul_nI, bI_0, bI_1, f.k, f.r0, f.r1, f.r2, f.k2, f.r4, f.k4, f.r5, f.k5, f.r6, f.k6, f.r7, f.k7, f.r9, f.k9, k.k, k.r0, k.k0, k.rl, k.r1, k.r2, k.ac.k, k.lo.k, ix_nI, cl_nI, lt_nI, eq_nI, sub_nI, Nat.reduceEqDiff, Nat.one_ne_zero, Nat.not_lt_zero, ↓reduceIte, h8, hz]
    · have h := w.1
      have h7 : mI m M 7 = nI i := by rw [w.2.2.2.2.1, hn]
      have hz := Nat.lt_irrefl i
      simp (disch := first | (simp (disch := omega) only [am_k_some, va_rf_some, va_rf_none, tl_some, tl_none, am_clr_int, am_clr_ref, am_clr_none, am_clr_long, am_w_nil, am_w_int, am_w_ref, am_w_long, am_w_null, am_bb_0, am_bb_1, am_bb_bI, xK_sI, xR_sI, xS_sI, xN_sI, xK_sL, xR_sL, xS_sL, xN_sL, xK_sR, xR_sR, xS_sR, xN_sR, xK_sA, xR_sA, xS_sA, xN_sA, Nat.reduceAdd, Nat.reduceLeDiff, sI_sA, I_sA', sA_sA, I_sA, I_sA', nI_add, mul_nI, bI_0, bI_1, h.k, h.r0, h.k0, h.r1, h.k1, h.r2, h.k2, h.r3, h.k3, h.r4, h.k4, h.r5, h.k5, h.r6, h.k6, h.r8, h.k8, h.r9, h.k9, h.r15, h.k15, h.r17, h.k17, h.r19, h.k19, h.r20, h.k20, h.r21, h.k21, h.r22, h.k22, h, Mo_sA, Mo_sL, ix_nI, cl_nI]; done) | omega | (simp only [I_sA]; assumption)) only [e221_47, e221_49, e221_50, e221_53, am_k_some, va_rf_some, va_rf_none, tl_some, tl_none, am_clr_int, am_clr_ref, am_clr_none, am_clr_long, am_w_nil, am_w_int, am_w_ref, am_w_long, am_w_null, am_bb_0, am_bb_1, am_bb_bI, xK_sI, xR_sI, xS_sI, xN_sI, xK_sL, xR_sL, xS_sL, xN_sL, xK_sR, xR_sR, xS_sR, xN_sR, xK_sA, xR_sA, xS_sA, xN_sA, Nat.reduceAdd, Nat.reduceLeDiff, sI_sA, I_sA', sA_sA, I_sA, I_sA', nI_add, mul_nI, bI_0, bI_1, h.k, h.r0, h.k0, h.r1, h.k1, h.r2, h.k2, h.r3, h.k3, h.r4, h.k4, h.r5, h.k5, h.r6, h.k6, h.r8, h.k8, h.r9, h.k9, h.r15, h.k15, h.r17, h.k17, h.r19, h.k19, h.r20, h.k20, h.r21, h.k21, h.r22, h.k22, ix_nI, cl_nI, lt_nI, eq_nI, sub_nI, Nat.reduceEqDiff, Nat.one_ne_zero, Nat.not_lt_zero, ↓reduceIte, h7, hz]
  | r + 1, i, S, hi, Q => by
    have hlt : i < N := by omega
    obtain ⟨b, S', W', C, Mo'⟩ := st_any (S := S) (L := L) (o := F (4 * i)) (x := F (4 * i + 1)) (y := F (4 * i + 2)) (c := F (4 * i + 3)) Q
    have CC : ∀ (B a : Nat) (m : am_M), FdK m B → ShK m a → ShV m a S L → B + 98 ≤ a → (∀ y, y < 4 * N → mI m (B + 80) y = F y) → ∃ m', cal 38 129 [.ref B, .ref a, .int (nI (4 * i))] m = some (some (.int (bI b)), m') ∧ FrR a (B + 78) m m' ∧ ShV m' a S' L := fun B a m f k v ha hF => by
      rw [sp_129p f (by omega) (hF _ (by omega)) (hF _ (by omega)) (hF _ (by omega)) (hF _ (by omega))]
      exact C B a m _ f k v ha
    have c4 : nI i * nI 4 = nI (4 * i) := by rw [mul_nI, Nat.mul_comm]
    have c5 : nI 4 * nI i = nI (4 * i) := by rw [mul_nI]
    cases b with
    | false =>
      refine ⟨i, by omega, fun B a m f k v ha hr h8 hF => ?_, fun M m s x1 x2 x3 x4 x5 w W hs hL hn hf => ?_⟩
      · obtain ⟨m1, e1, F1, V1⟩ := CC B a m f k v ha hF
        refine ⟨m1, ?_, F1⟩
        rw [bI_ff] at e1
        rw [e124_40]
        simp (disch := first | (simp (disch := omega) only [am_k_some, va_rf_some, va_rf_none, tl_some, tl_none, am_clr_int, am_clr_ref, am_clr_none, am_clr_long, am_w_nil, am_w_int, am_w_ref, am_w_long, am_w_null, am_bb_0, am_bb_1, am_bb_bI, xK_sI, xR_sI, xS_sI, xN_sI, xK_sL, xR_sL, xS_sL, xN_sL, xK_sR, xR_sR, xS_sR, xN_sR, xK_sA, xR_sA, xS_sA, xN_sA, Nat.reduceAdd, Nat.reduceLeDiff, sI_sA, I_sA', sA_sA, I_sA, I_sA', nI_add, mul_nI, bI_0, bI_1, f.k, f.r0, f.r1, f.r2, f.k2, f.r4, f.k4, f.r5, f.k5, f.r6, f.k6, f.r7, f.k7, f.r9, f.k9, k.k, k.r0, k.k0, k.rl, k.r1, k.r2, k.ac.k, k.lo.k, ix_nI, cl_nI]; done) | omega | assumption) only [e124_0, e124_1, e124_4, e124_7, e124_8, e124_9, e124_10, e124_13, e124_13n, e124_16, e124_17, e124_20, e124_20r, e124_21, e124_24, e124_27, e124_28, e124_31, e124_32, e124_35, e124_38, e124_39, e124_41, e124_42, e124_45, e124_48, e124_49, e124_50, e124_53, e124_54, e124_55, e124_56, e124_59, e124_62, e124_63, e124_64, e124_67, e124_70, e124_71, e124_74, am_k_some, va_rf_some, va_rf_none, tl_some, tl_none, am_clr_int, am_clr_ref, am_clr_none, am_clr_long, am_w_nil, am_w_int, am_w_ref, am_w_long, am_w_null, am_bb_0, am_bb_1, am_bb_bI, xK_sI, xR_sI, xS_sI, xN_sI, xK_sL, xR_sL, xS_sL, xN_sL, xK_sR, xR_sR, xS_sR, xN_sR, xK_sA, xR_sA, xS_sA, xN_sA, Nat.reduceAdd, Nat.reduceLeDiff, sI_sA, I_sA', sA_sA, I_sA, I_sA', nI_add, mul_nI, bI_0, bI_1, f.k, f.r0, f.r1, f.r2, f.k2, f.r4, f.k4, f.r5, f.k5, f.r6, f.k6, f.r7, f.k7, f.r9, f.k9, k.k, k.r0, k.k0, k.rl, k.r1, k.r2, k.ac.k, k.lo.k, ix_nI, cl_nI, lt_nI, eq_nI, sub_nI, Nat.reduceEqDiff, Nat.one_ne_zero, Nat.not_lt_zero, ↓reduceIte, h8, hlt, hr, c4, e1]
      · have h := w.1
        obtain ⟨m1, e1, F1, S1, O1⟩ := Mo' m M s w W hs hL
        rw [bI_ff] at e1
        refine ⟨m1, ?_, F1, O1⟩
        have h7 : mI m M 7 = nI N := by rw [w.2.2.2.2.1, hn]
        have hM : mI m (M + 7) = F := by rw [w.2.2.2.2.2.1, hf]
        rw [e221_47]
        simp (disch := first | (simp (disch := omega) only [am_k_some, va_rf_some, va_rf_none, tl_some, tl_none, am_clr_int, am_clr_ref, am_clr_none, am_clr_long, am_w_nil, am_w_int, am_w_ref, am_w_long, am_w_null, am_bb_0, am_bb_1, am_bb_bI, xK_sI, xR_sI, xS_sI, xN_sI, xK_sL, xR_sL, xS_sL, xN_sL, xK_sR, xR_sR, xS_sR, xN_sR, xK_sA, xR_sA, xS_sA, xN_sA, Nat.reduceAdd, Nat.reduceLeDiff, sI_sA, I_sA', sA_sA, I_sA, I_sA', nI_add, mul_nI, bI_0, bI_1, h.k, h.r0, h.k0, h.r1, h.k1, h.r2, h.k2, h.r3, h.k3, h.r4, h.k4, h.r5, h.k5, h.r6, h.k6, h.r8, h.k8, h.r9, h.k9, h.r15, h.k15, h.r17, h.k17, h.r19, h.k19, h.r20, h.k20, h.r21, h.k21, h.r22, h.k22, h, Mo_sA, Mo_sL, ix_nI, cl_nI]; done) | omega | (simp only [I_sA]; assumption)) only [e221_0, e221_1, e221_4, e221_5, e221_6, e221_9, e221_10, e221_11, e221_14, e221_15, e221_16, e221_19, e221_21, e221_22, e221_25, e221_26, e221_29, e221_32, e221_33, e221_36, e221_37, e221_38, e221_41, e221_42, e221_43, e221_44, e221_45, e221_49, e221_50, e221_53, e221_56, e221_57, e221_58, e221_61, e221_62, e221_64, e221_65, e221_66, e221_67, e221_70, e221_71, e221_73, e221_74, e221_75, e221_76, e221_77, e221_78, e221_81, e221_82, e221_84, e221_85, e221_86, e221_87, e221_88, e221_89, e221_92, e221_93, e221_95, e221_96, e221_97, e221_98, e221_99, e221_102, e221_105, e221_108, e221_112, e221_115, e221_116, e221_119, e221_122, e221_123, e221_126, e221_127, e221_128, e221_131, e221_132, e221_133, e221_134, e221_135, e221_136, e221_137, e221_138, e221_140, e221_143, e221_145, am_k_some, va_rf_some, va_rf_none, tl_some, tl_none, am_clr_int, am_clr_ref, am_clr_none, am_clr_long, am_w_nil, am_w_int, am_w_ref, am_w_long, am_w_null, am_bb_0, am_bb_1, am_bb_bI, xK_sI, xR_sI, xS_sI, xN_sI, xK_sL, xR_sL, xS_sL, xN_sL, xK_sR, xR_sR, xS_sR, xN_sR, xK_sA, xR_sA, xS_sA, xN_sA, Nat.reduceAdd, Nat.reduceLeDiff, sI_sA, I_sA', sA_sA, I_sA, I_sA', nI_add, mul_nI, bI_0, bI_1, h.k, h.r0, h.k0, h.r1, h.k1, h.r2, h.k2, h.r3, h.k3, h.r4, h.k4, h.r5, h.k5, h.r6, h.k6, h.r8, h.k8, h.r9, h.k9, h.r15, h.k15, h.r17, h.k17, h.r19, h.k19, h.r20, h.k20, h.r21, h.k21, h.r22, h.k22, ix_nI, cl_nI, lt_nI, eq_nI, sub_nI, Nat.reduceEqDiff, Nat.one_ne_zero, Nat.not_lt_zero, ↓reduceIte, h7, hlt, hM, c5, e1]
    | true =>
      obtain ⟨j, hj, C2, M2⟩ := lp_go hN r (i + 1) S' (by omega) W'
      refine ⟨j, hj, fun B a m f k v ha hr h8 hF => ?_, fun M m s x1 x2 x3 x4 x5 w W hs hL hn hf => ?_⟩
      · obtain ⟨m1, e1, F1, V1⟩ := CC B a m f k v ha hF
        rw [bI_tt] at e1
        obtain ⟨m2, e2, F2⟩ := C2 B a m1 (f.fr F1.p) (k.frP F1.p) V1 ha (by rw [F1.2.2.2.1]; exact hr) (by rw [(F1.2.2.2.2 B (by omega) (by omega)).1]; exact h8) (fun y hy => by rw [(F1.2.2.2.2 (B + 80) (by omega) (by omega)).1]; exact hF y hy)
        refine ⟨m2, ?_, F1.trans F2⟩
        rw [← e2, e124_40]
        simp (disch := first | (simp (disch := omega) only [am_k_some, va_rf_some, va_rf_none, tl_some, tl_none, am_clr_int, am_clr_ref, am_clr_none, am_clr_long, am_w_nil, am_w_int, am_w_ref, am_w_long, am_w_null, am_bb_0, am_bb_1, am_bb_bI, xK_sI, xR_sI, xS_sI, xN_sI, xK_sL, xR_sL, xS_sL, xN_sL, xK_sR, xR_sR, xS_sR, xN_sR, xK_sA, xR_sA, xS_sA, xN_sA, Nat.reduceAdd, Nat.reduceLeDiff, sI_sA, I_sA', sA_sA, I_sA, I_sA', nI_add, mul_nI, bI_0, bI_1, f.k, f.r0, f.r1, f.r2, f.k2, f.r4, f.k4, f.r5, f.k5, f.r6, f.k6, f.r7, f.k7, f.r9, f.k9, k.k, k.r0, k.k0, k.rl, k.r1, k.r2, k.ac.k, k.lo.k, ix_nI, cl_nI]; done) | omega | assumption) only [e124_0, e124_1, e124_4, e124_7, e124_8, e124_9, e124_10, e124_13, e124_13n, e124_16, e124_17, e124_20, e124_20r, e124_21, e124_24, e124_27, e124_28, e124_31, e124_32, e124_35, e124_38, e124_39, e124_41, e124_42, e124_45, e124_48, e124_49, e124_50, e124_53, e124_54, e124_55, e124_56, e124_59, e124_62, e124_63, e124_64, e124_67, e124_70, e124_71, e124_74, am_k_some, va_rf_some, va_rf_none, tl_some, tl_none, am_clr_int, am_clr_ref, am_clr_none, am_clr_long, am_w_nil, am_w_int, am_w_ref, am_w_long, am_w_null, am_bb_0, am_bb_1, am_bb_bI, xK_sI, xR_sI, xS_sI, xN_sI, xK_sL, xR_sL, xS_sL, xN_sL, xK_sR, xR_sR, xS_sR, xN_sR, xK_sA, xR_sA, xS_sA, xN_sA, Nat.reduceAdd, Nat.reduceLeDiff, sI_sA, I_sA', sA_sA, I_sA, I_sA', nI_add, mul_nI, bI_0, bI_1, f.k, f.r0, f.r1, f.r2, f.k2, f.r4, f.k4, f.r5, f.k5, f.r6, f.k6, f.r7, f.k7, f.r9, f.k9, k.k, k.r0, k.k0, k.rl, k.r1, k.r2, k.ac.k, k.lo.k, ix_nI, cl_nI, lt_nI, eq_nI, sub_nI, Nat.reduceEqDiff, Nat.one_ne_zero, Nat.not_lt_zero, ↓reduceIte, h8, hlt, hr, c4, e1]
      · have h := w.1
        obtain ⟨m1, e1, F1, S1, O1⟩ := Mo' m M s w W hs hL
        rw [bI_tt] at e1
        have w1 := mi_go w F1 S1 O1
        obtain ⟨m2, e2, F2, O2⟩ := M2 M m1 _ x1 x2 x3 x4 x5 w1 ⟨W', W.2⟩ rfl hL hn hf
        refine ⟨m2, ?_, F1.trans F2, fun j a b c => (O2 j a b c).trans (O1 j a b c)⟩
        have h7 : mI m M 7 = nI N := by rw [w.2.2.2.2.1, hn]
        have hM : mI m (M + 7) = F := by rw [w.2.2.2.2.2.1, hf]
        rw [← e2, e221_47]
        simp (disch := first | (simp (disch := omega) only [am_k_some, va_rf_some, va_rf_none, tl_some, tl_none, am_clr_int, am_clr_ref, am_clr_none, am_clr_long, am_w_nil, am_w_int, am_w_ref, am_w_long, am_w_null, am_bb_0, am_bb_1, am_bb_bI, xK_sI, xR_sI, xS_sI, xN_sI, xK_sL, xR_sL, xS_sL, xN_sL, xK_sR, xR_sR, xS_sR, xN_sR, xK_sA, xR_sA, xS_sA, xN_sA, Nat.reduceAdd, Nat.reduceLeDiff, sI_sA, I_sA', sA_sA, I_sA, I_sA', nI_add, mul_nI, bI_0, bI_1, h.k, h.r0, h.k0, h.r1, h.k1, h.r2, h.k2, h.r3, h.k3, h.r4, h.k4, h.r5, h.k5, h.r6, h.k6, h.r8, h.k8, h.r9, h.k9, h.r15, h.k15, h.r17, h.k17, h.r19, h.k19, h.r20, h.k20, h.r21, h.k21, h.r22, h.k22, h, Mo_sA, Mo_sL, ix_nI, cl_nI]; done) | omega | (simp only [I_sA]; assumption)) only [e221_0, e221_1, e221_4, e221_5, e221_6, e221_9, e221_10, e221_11, e221_14, e221_15, e221_16, e221_19, e221_21, e221_22, e221_25, e221_26, e221_29, e221_32, e221_33, e221_36, e221_37, e221_38, e221_41, e221_42, e221_43, e221_44, e221_45, e221_49, e221_50, e221_53, e221_56, e221_57, e221_58, e221_61, e221_62, e221_64, e221_65, e221_66, e221_67, e221_70, e221_71, e221_73, e221_74, e221_75, e221_76, e221_77, e221_78, e221_81, e221_82, e221_84, e221_85, e221_86, e221_87, e221_88, e221_89, e221_92, e221_93, e221_95, e221_96, e221_97, e221_98, e221_99, e221_102, e221_105, e221_108, e221_112, e221_115, e221_116, e221_119, e221_122, e221_123, e221_126, e221_127, e221_128, e221_131, e221_132, e221_133, e221_134, e221_135, e221_136, e221_137, e221_138, e221_140, e221_143, e221_145, am_k_some, va_rf_some, va_rf_none, tl_some, tl_none, am_clr_int, am_clr_ref, am_clr_none, am_clr_long, am_w_nil, am_w_int, am_w_ref, am_w_long, am_w_null, am_bb_0, am_bb_1, am_bb_bI, xK_sI, xR_sI, xS_sI, xN_sI, xK_sL, xR_sL, xS_sL, xN_sL, xK_sR, xR_sR, xS_sR, xN_sR, xK_sA, xR_sA, xS_sA, xN_sA, Nat.reduceAdd, Nat.reduceLeDiff, sI_sA, I_sA', sA_sA, I_sA, I_sA', nI_add, mul_nI, bI_0, bI_1, h.k, h.r0, h.k0, h.r1, h.k1, h.r2, h.k2, h.r3, h.k3, h.r4, h.k4, h.r5, h.k5, h.r6, h.k6, h.r8, h.k8, h.r9, h.k9, h.r15, h.k15, h.r17, h.k17, h.r19, h.k19, h.r20, h.k20, h.r21, h.k21, h.r22, h.k22, ix_nI, cl_nI, lt_nI, eq_nI, sub_nI, Nat.reduceEqDiff, Nat.one_ne_zero, Nat.not_lt_zero, ↓reduceIte, h7, hlt, hM, c5, e1]
/-- check's first half: the trial's ship is there -/
theorem sp_124 {B n : Nat} {m : am_M} {ix : Nat → Option Nat} {K : Nat → Bool × (Nat → Int32) × Int64} (f : FdK m B) (kp : KpV m B ix K) (h8 : mI m B 8 = nI n) (n1 : 0 < n) (n2 : n ≤ 200) : ∃ m1 ix' j, cal 39 124 [.ref B] m = ev 39 124 27 [some (.ref B), none] [] m1 ∧ Nc B (B + 98) m m1 ∧ KpW m1 B ix' K 2 ∧ ix' 2 = some j := by
  have k := f.sh
  have hz : ¬ n = 0 := by omega
  have r := kp.2.1
  rcases hix : ix 2 with _ | j
  · rw [hix] at r
    simp only [Option.map_none] at r
    obtain ⟨b0, e0, w0⟩ := mk_63 (d := 37) (m := m) rfl
    have hS := kp.2.2.1
    have g : ∀ x, x < mS m → Sa x m b0 := fun x hx => w0.2.2.1 x hx
    have B0 : mK b0 B = (1, 9, 0) := by rw [(g _ (by omega)).1]; exact f.k
    have nc : Nc B (B + 98 + 66 * cnI ix) m (sR b0 B 3 (some (mS m))) := by
      refine ⟨fun x hx => ?_, fun x hx h1 h2 => ?_, fun i hi => ?_⟩
      · rw [xK_sR, yI_sR, yL_sR]
        have := g x (by omega)
        exact ⟨this.1, this.2.1, this.2.2.1⟩
      · rw [yR_sR _ _ h1]
        exact (g x (by omega)).2.2.2
      · rw [xR_sR, if_neg (fun q => hi q.2), (g B (by omega)).2.2.2]
    refine ⟨sR b0 B 3 (some (mS m)), ixU ix 2 (cnI ix), cnI ix, ?_, nc.mono (by omega), ?_, ?_⟩
    · simp (disch := first | (simp (disch := omega) only [am_k_some, va_rf_some, va_rf_none, tl_some, tl_none, am_clr_int, am_clr_ref, am_clr_none, am_clr_long, am_w_nil, am_w_int, am_w_ref, am_w_long, am_w_null, am_bb_0, am_bb_1, am_bb_bI, xK_sI, xR_sI, xS_sI, xN_sI, xK_sL, xR_sL, xS_sL, xN_sL, xK_sR, xR_sR, xS_sR, xN_sR, xK_sA, xR_sA, xS_sA, xN_sA, Nat.reduceAdd, Nat.reduceLeDiff, sI_sA, I_sA', sA_sA, I_sA, I_sA', nI_add, mul_nI, bI_0, bI_1, f.k, f.r0, f.r1, f.r2, f.k2, f.r4, f.k4, f.r5, f.k5, f.r6, f.k6, f.r7, f.k7, f.r9, f.k9, k.k, k.r0, k.k0, k.rl, k.r1, k.r2, k.ac.k, k.lo.k, B0, ix_nI, cl_nI]; done) | omega | assumption) only [c124, e124_0, e124_1, e124_4, e124_9, e124_10, e124_13, e124_13n, e124_16, e124_17, e124_20, e124_20r, e124_21, e124_24, am_k_some, va_rf_some, va_rf_none, tl_some, tl_none, am_clr_int, am_clr_ref, am_clr_none, am_clr_long, am_w_nil, am_w_int, am_w_ref, am_w_long, am_w_null, am_bb_0, am_bb_1, am_bb_bI, xK_sI, xR_sI, xS_sI, xN_sI, xK_sL, xR_sL, xS_sL, xN_sL, xK_sR, xR_sR, xS_sR, xN_sR, xK_sA, xR_sA, xS_sA, xN_sA, Nat.reduceAdd, Nat.reduceLeDiff, sI_sA, I_sA', sA_sA, I_sA, I_sA', nI_add, mul_nI, bI_0, bI_1, f.k, f.r0, f.r1, f.r2, f.k2, f.r4, f.k4, f.r5, f.k5, f.r6, f.k6, f.r7, f.k7, f.r9, f.k9, k.k, k.r0, k.k0, k.rl, k.r1, k.r2, k.ac.k, k.lo.k, ix_nI, cl_nI, lt_nI, eq_nI, sub_nI, Nat.reduceEqDiff, Nat.one_ne_zero, Nat.not_lt_zero, ↓reduceIte, h8, hz, r, e0, B0]
    · refine KpW.new kp (by omega) hix nc ?_ ?_ ?_ ?_ ?_
      · rw [xS_sR, w0.1, hS]
      · rw [xN_sR, w0.2.1]
      · rw [← hS]
        exact sh_same (fun x g1 g2 => ⟨by rw [xK_sR], by rw [yR_sR _ _ (by omega)]⟩) w0.2.2.2.1
      · intro y hy
        rw [if_neg (by omega), yR_sR _ _ (by omega), (g _ (by omega)).2.2.2]
      · rw [xR_sR, if_pos ⟨rfl, rfl⟩, if_pos rfl, hS]
    · unfold ixU; rw [if_pos rfl]
  · rw [hix] at r
    simp only [Option.map_some] at r
    refine ⟨m, ix, j, ?_, Nc.refl _ _ m, kp.w 2, hix⟩
    simp (disch := first | (simp (disch := omega) only [am_k_some, va_rf_some, va_rf_none, tl_some, tl_none, am_clr_int, am_clr_ref, am_clr_none, am_clr_long, am_w_nil, am_w_int, am_w_ref, am_w_long, am_w_null, am_bb_0, am_bb_1, am_bb_bI, xK_sI, xR_sI, xS_sI, xN_sI, xK_sL, xR_sL, xS_sL, xN_sL, xK_sR, xR_sR, xS_sR, xN_sR, xK_sA, xR_sA, xS_sA, xN_sA, Nat.reduceAdd, Nat.reduceLeDiff, sI_sA, I_sA', sA_sA, I_sA, I_sA', nI_add, mul_nI, bI_0, bI_1, f.k, f.r0, f.r1, f.r2, f.k2, f.r4, f.k4, f.r5, f.k5, f.r6, f.k6, f.r7, f.k7, f.r9, f.k9, k.k, k.r0, k.k0, k.rl, k.r1, k.r2, k.ac.k, k.lo.k, ix_nI, cl_nI]; done) | omega | assumption) only [c124, e124_0, e124_1, e124_4, e124_9, e124_10, e124_13, e124_13n, am_k_some, va_rf_some, va_rf_none, tl_some, tl_none, am_clr_int, am_clr_ref, am_clr_none, am_clr_long, am_w_nil, am_w_int, am_w_ref, am_w_long, am_w_null, am_bb_0, am_bb_1, am_bb_bI, xK_sI, xR_sI, xS_sI, xN_sI, xK_sL, xR_sL, xS_sL, xN_sL, xK_sR, xR_sR, xS_sR, xN_sR, xK_sA, xR_sA, xS_sA, xN_sA, Nat.reduceAdd, Nat.reduceLeDiff, sI_sA, I_sA', sA_sA, I_sA, I_sA', nI_add, mul_nI, bI_0, bI_1, f.k, f.r0, f.r1, f.r2, f.k2, f.r4, f.k4, f.r5, f.k5, f.r6, f.k6, f.r7, f.k7, f.r9, f.k9, k.k, k.r0, k.k0, k.rl, k.r1, k.r2, k.ac.k, k.lo.k, ix_nI, cl_nI, lt_nI, eq_nI, sub_nI, Nat.reduceEqDiff, Nat.one_ne_zero, Nat.not_lt_zero, ↓reduceIte, h8, hz, r]
/-- the model's check, from what its loop gives -/
theorem ml_221 {B N j : Nat} {m : am_M} {s : St} {F : Nat → Int32} {L : Int64} (w : MI m (B + 82) s) (W : Wst s) (hL : stL s = L) (hn : stN s = N) (hf : stF s = F) (lp : LpM F N L 0 j (stS s)) : ∃ m', cal 39 221 [.ref (B + 82)] m = some (some (.int (nI j)), m') ∧ FrP (fun x => B + 82 ≤ x ∧ x < B + 98) m m' ∧ ∃ S', Ag8 (stS s) S' ∧ MI m' (B + 82) (S', stL s, stP s, stN s, stF s, stD s, stZ s, stW s, stK s) := by
  have h := w.1
  have cp := sp_220 (d := 38) h.k0 h.k3 (show B + 82 + 1 ≠ B + 82 + 4 by omega)
  generalize hm1 : sL (sA m (B + 82 + 4) (cpS (mI m (B + 82 + 4)) (mI m (B + 82 + 1)) 0 6508)) (B + 82 + 6) 3 (mL m (B + 82 + 6) 0) = m1
  have P1 : FrP (fun x => x = B + 82 + 4 ∨ x = B + 82 + 6) m m1 := by
    rw [← hm1]; exact ((FrP.refl _ m).sA (Or.inl rfl)).sL (Or.inr rfl)
  have X1 : cal 39 221 [.ref (B + 82)] m = ev 39 221 47 [some (.ref (B + 82)), some (.int (mI m (B + 82) 11)), some (.int (mI m (B + 82) 12)), some (.long (mL m (B + 82) 13)), none, some (.int (mI m (B + 82) 14)), some (.int (nI 0))] [] m1 := by
    rw [← hm1]
    simp (disch := first | (simp (disch := omega) only [am_k_some, va_rf_some, va_rf_none, tl_some, tl_none, am_clr_int, am_clr_ref, am_clr_none, am_clr_long, am_w_nil, am_w_int, am_w_ref, am_w_long, am_w_null, am_bb_0, am_bb_1, am_bb_bI, xK_sI, xR_sI, xS_sI, xN_sI, xK_sL, xR_sL, xS_sL, xN_sL, xK_sR, xR_sR, xS_sR, xN_sR, xK_sA, xR_sA, xS_sA, xN_sA, Nat.reduceAdd, Nat.reduceLeDiff, sI_sA, I_sA', sA_sA, I_sA, I_sA', nI_add, mul_nI, bI_0, bI_1, h.k, h.r0, h.k0, h.r1, h.k1, h.r2, h.k2, h.r3, h.k3, h.r4, h.k4, h.r5, h.k5, h.r6, h.k6, h.r8, h.k8, h.r9, h.k9, h.r15, h.k15, h.r17, h.k17, h.r19, h.k19, h.r20, h.k20, h.r21, h.k21, h.r22, h.k22, h, Mo_sA, Mo_sL, ix_nI, cl_nI]; done) | omega | (simp only [I_sA]; assumption)) only [c221, e221_0, e221_1, e221_4, e221_5, e221_6, e221_9, e221_10, e221_11, e221_14, e221_15, e221_16, e221_19, e221_21, e221_22, e221_25, e221_26, e221_29, e221_32, e221_33, e221_36, e221_37, e221_38, e221_41, e221_42, e221_43, e221_44, e221_45, am_k_some, va_rf_some, va_rf_none, tl_some, tl_none, am_clr_int, am_clr_ref, am_clr_none, am_clr_long, am_w_nil, am_w_int, am_w_ref, am_w_long, am_w_null, am_bb_0, am_bb_1, am_bb_bI, xK_sI, xR_sI, xS_sI, xN_sI, xK_sL, xR_sL, xS_sL, xN_sL, xK_sR, xR_sR, xS_sR, xN_sR, xK_sA, xR_sA, xS_sA, xN_sA, Nat.reduceAdd, Nat.reduceLeDiff, sI_sA, I_sA', sA_sA, I_sA, I_sA', nI_add, mul_nI, bI_0, bI_1, h.k, h.r0, h.k0, h.r1, h.k1, h.r2, h.k2, h.r3, h.k3, h.r4, h.k4, h.r5, h.k5, h.r6, h.k6, h.r8, h.k8, h.r9, h.k9, h.r15, h.k15, h.r17, h.k17, h.r19, h.k19, h.r20, h.k20, h.r21, h.k21, h.r22, h.k22, ix_nI, cl_nI, lt_nI, eq_nI, sub_nI, Nat.reduceEqDiff, Nat.one_ne_zero, Nat.not_lt_zero, ↓reduceIte, cp, xL_sA]
  have l1 : ∀ y, y ≠ 3 → mL m1 (B + 82 + 6) y = mL m (B + 82 + 6) y := fun y hy => by rw [← hm1, xL_sL, if_neg (fun q => hy q.2), mL_sA]
  have l3 : mL m1 (B + 82 + 6) 3 = stL s := by rw [← hm1, xL_sL, if_pos ⟨rfl, rfl⟩]; exact w.2.2.1
  have i4 : mI m1 (B + 82 + 4) = cpS (mI m (B + 82 + 4)) (stS s) 0 6508 := by rw [← hm1, mI_sL, I_sA, w.2.1]
  clear hm1
  have w1 : MI m1 (B + 82) s := by
    obtain ⟨w0, w1, w2, w3, w4, w5, w6, w7, w8, w9⟩ := id w
    refine ⟨w0.frP P1, ?_, ?_, ?_, ?_, ?_, ?_, ?_, ?_, fun k hk => ?_⟩
    · rw [P1.i (by omega)]; exact w1
    · rw [l1 _ (by omega)]; exact w2
    · rw [P1.i (by omega)]; exact w3
    · rw [P1.i (by omega)]; exact w4
    · rw [P1.i (by omega)]; exact w5
    · rw [P1.i (by omega)]; exact w6
    · rw [P1.i (by omega)]; exact w7
    · rw [P1.i (by omega), P1.l (by omega)]; exact w8
    · rw [P1.i (by omega), P1.i (by omega), l1 _ (by omega)]; exact w9 k hk
  obtain ⟨m2, e2, F2, O2⟩ := lp (B + 82) m1 s (some (.int (mI m (B + 82) 11))) (some (.int (mI m (B + 82) 12))) (some (.long (mL m (B + 82) 13))) none (mI m (B + 82) 14) w1 W rfl hL hn hf
  have h2 := w1.1.frP F2
  have cp2 := sp_220 (d := 38) h2.k3 h2.k0 (show B + 82 + 4 ≠ B + 82 + 1 by omega)
  have i42 : mI m2 (B + 82 + 4) = cpS (mI m (B + 82 + 4)) (stS s) 0 6508 := by rw [F2.i (by omega)]; exact i4
  have l32 : mL m2 (B + 82 + 6) 3 = stL s := by rw [F2.l (by omega)]; exact l3
  have ag : Ag8 (stS s) (cpS (mI m2 (B + 82 + 1)) (cpS (mI m (B + 82 + 4)) (stS s) 0 6508) 0 6508) := fun y hy => by rw [cp_ag8 _ _ y hy, cp_ag8 _ _ y hy]
  rw [i42] at cp2
  generalize cpS (mI m2 (B + 82 + 1)) (cpS (mI m (B + 82 + 4)) (stS s) 0 6508) 0 6508 = S' at *
  generalize hm3 : sL (sA m2 (B + 82 + 1) S') (B + 82 + 6) 0 (stL s) = m3
  have P3 : FrP (fun x => x = B + 82 + 1 ∨ x = B + 82 + 6) m2 m3 := by
    rw [← hm3]; exact ((FrP.refl _ m2).sA (Or.inl rfl)).sL (Or.inr rfl)
  have h3 := h2.frP P3
  have bc := sp_197b (d := 38) (a := mI m (B + 82) 11) (b := mI m (B + 82) 12) (c := mL m (B + 82) 13) (e := mI m (B + 82) 14) h3
  have X3 : ev 39 221 111 [some (.ref (B + 82)), some (.int (mI m (B + 82) 11)), some (.int (mI m (B + 82) 12)), some (.long (mL m (B + 82) 13)), none, some (.int (mI m (B + 82) 14)), some (.int (nI j))] [] m2 = some (some (.int (nI j)), beM m3 (B + 82) (mI m (B + 82) 11) (mI m (B + 82) 12) (mL m (B + 82) 13) (mI m (B + 82) 14)) := by
    have h := h2
    rw [← hm3] at bc ⊢
    simp (disch := first | (simp (disch := omega) only [am_k_some, va_rf_some, va_rf_none, tl_some, tl_none, am_clr_int, am_clr_ref, am_clr_none, am_clr_long, am_w_nil, am_w_int, am_w_ref, am_w_long, am_w_null, am_bb_0, am_bb_1, am_bb_bI, xK_sI, xR_sI, xS_sI, xN_sI, xK_sL, xR_sL, xS_sL, xN_sL, xK_sR, xR_sR, xS_sR, xN_sR, xK_sA, xR_sA, xS_sA, xN_sA, Nat.reduceAdd, Nat.reduceLeDiff, sI_sA, I_sA', sA_sA, I_sA, I_sA', nI_add, mul_nI, bI_0, bI_1, h.k, h.r0, h.k0, h.r1, h.k1, h.r2, h.k2, h.r3, h.k3, h.r4, h.k4, h.r5, h.k5, h.r6, h.k6, h.r8, h.k8, h.r9, h.k9, h.r15, h.k15, h.r17, h.k17, h.r19, h.k19, h.r20, h.k20, h.r21, h.k21, h.r22, h.k22, h, Mo_sA, Mo_sL, ix_nI, cl_nI]; done) | omega | (simp only [I_sA]; assumption)) only [e221_111, e221_112, e221_115, e221_116, e221_119, e221_122, e221_123, e221_126, e221_127, e221_128, e221_131, e221_132, e221_133, e221_134, e221_135, e221_136, e221_137, e221_138, e221_140, e221_143, e221_145, am_k_some, va_rf_some, va_rf_none, tl_some, tl_none, am_clr_int, am_clr_ref, am_clr_none, am_clr_long, am_w_nil, am_w_int, am_w_ref, am_w_long, am_w_null, am_bb_0, am_bb_1, am_bb_bI, xK_sI, xR_sI, xS_sI, xN_sI, xK_sL, xR_sL, xS_sL, xN_sL, xK_sR, xR_sR, xS_sR, xN_sR, xK_sA, xR_sA, xS_sA, xN_sA, Nat.reduceAdd, Nat.reduceLeDiff, sI_sA, I_sA', sA_sA, I_sA, I_sA', nI_add, mul_nI, bI_0, bI_1, h.k, h.r0, h.k0, h.r1, h.k1, h.r2, h.k2, h.r3, h.k3, h.r4, h.k4, h.r5, h.k5, h.r6, h.k6, h.r8, h.k8, h.r9, h.k9, h.r15, h.k15, h.r17, h.k17, h.r19, h.k19, h.r20, h.k20, h.r21, h.k21, h.r22, h.k22, ix_nI, cl_nI, lt_nI, eq_nI, sub_nI, Nat.reduceEqDiff, Nat.one_ne_zero, Nat.not_lt_zero, ↓reduceIte, cp2, xL_sA, l32, bc]
  have l5 : mL m3 (B + 82 + 6) 0 = stL s := by rw [← hm3, xL_sL, if_pos ⟨rfl, rfl⟩]
  have l6 : ∀ y, y ≠ 0 → mL m3 (B + 82 + 6) y = mL m2 (B + 82 + 6) y := fun y hy => by rw [← hm3, xL_sL, if_neg (fun q => hy q.2), mL_sA]
  have i5 : mI m3 (B + 82 + 1) = S' := by rw [← hm3, mI_sL, I_sA]
  clear hm3
  have bi : ∀ x, x ≠ B + 82 → mI (beM m3 (B + 82) (mI m (B + 82) 11) (mI m (B + 82) 12) (mL m (B + 82) 13) (mI m (B + 82) 14)) x = mI m3 x := fun x hx => by
    unfold beM; rw [mI_sL, I_sA' _ _ hx]
  have bl : ∀ x, x ≠ B + 82 → mL (beM m3 (B + 82) (mI m (B + 82) 11) (mI m (B + 82) 12) (mL m (B + 82) 13) (mI m (B + 82) 14)) x = mL m3 x := fun x hx => by
    unfold beM; funext y; rw [xL_sL, if_neg (fun q => hx q.1), mL_sA]
  have bM : mI (beM m3 (B + 82) (mI m (B + 82) 11) (mI m (B + 82) 12) (mL m (B + 82) 13) (mI m (B + 82) 14)) (B + 82) = up1 (up1 (up1 (mI m3 (B + 82)) 11 (mI m (B + 82) 11)) 12 (mI m (B + 82) 12)) 14 (mI m (B + 82) 14) := by
    unfold beM; rw [mI_sL, I_sA]
  have bL : mL (beM m3 (B + 82) (mI m (B + 82) 11) (mI m (B + 82) 12) (mL m (B + 82) 13) (mI m (B + 82) 14)) (B + 82) 13 = mL m (B + 82) 13 := by
    unfold beM; rw [xL_sL, if_pos ⟨rfl, rfl⟩]
  have P4 : FrP (fun x => x = B + 82) m3 (beM m3 (B + 82) (mI m (B + 82) 11) (mI m (B + 82) 12) (mL m (B + 82) 13) (mI m (B + 82) 14)) := by
    unfold beM; exact ((FrP.refl (fun x => x = B + 82) m3).sA rfl).sL rfl
  generalize beM m3 (B + 82) (mI m (B + 82) 11) (mI m (B + 82) 12) (mL m (B + 82) 13) (mI m (B + 82) 14) = m4 at *
  have oM : ∀ j, j ≠ 11 → j ≠ 12 → j ≠ 14 → mI m4 (B + 82) j = mI m (B + 82) j := fun j a b c => by
    rw [bM, up1_ne c, up1_ne b, up1_ne a, P3.i (by omega), O2 j a b c, P1.i (by omega)]
  refine ⟨m4, ?_, ?_, S', ag, ?_⟩
  · rw [X1, e2, X3]
  · exact (((P1.mono (fun x hx => by omega)).trans (F2.mono (fun x hx => by omega))).trans (P3.mono (fun x hx => by omega))).trans (P4.mono (fun x hx => by omega))
  · obtain ⟨w0, w1', w2, w3, w4, w5, w6, w7, w8, w9⟩ := id w1
    refine ⟨h3.frP P4, by rw [bi _ (by omega)]; exact i5, by rw [bl _ (by omega)]; exact l5, ?_, ?_, ?_, ?_, ?_, ?_, fun k hk => ?_⟩
    · rw [bi _ (by omega), P3.i (by omega), F2.i (by omega)]; exact w3
    · rw [oM _ (by omega) (by omega) (by omega)]; exact w.2.2.2.2.1
    · rw [bi _ (by omega), P3.i (by omega), F2.i (by omega)]; exact w5
    · rw [bi _ (by omega), P3.i (by omega), F2.i (by omega)]; exact w6
    · rw [oM _ (by omega) (by omega) (by omega)]; exact w.2.2.2.2.2.2.2.1
    · rw [bL, bM, up1_ne (by omega), up1_ne (by omega), up1_eq, up1_ne (by omega), up1_eq, up1_eq]
      exact w.2.2.2.2.2.2.2.2.1
    · rw [bi _ (by omega), bi _ (by omega), bl _ (by omega), P3.i (by omega), P3.i (by omega), l6 _ (by omega), F2.i (by omega), F2.i (by omega), F2.l (by omega)]
      exact w9 k hk
theorem op_34 {B : Nat} {m : am_M} (G : Good B m) : Op1 B 124 221 [] m := by
  obtain ⟨s, c, w, W⟩ := G
  have f := c.1
  have k := f.sh
  have v := c.2.1
  have Q := W.1
  have nn := W.2.2.1
  obtain ⟨j, hj, lc, lm⟩ := lp_go (F := stF s) (N := stN s) (L := stL s) nn (stN s) 0 (stS s) (by omega) Q
  have h8 := c.2.2.2.1
  -- the class
  have CL : ∃ m1, cal 39 124 [.ref B] m = some (some (.int (nI j)), m1) ∧ MI m1 (B + 82) s ∧ CI m1 B s ∧ Bel B m m1 := by
    by_cases hz : stN s = 0
    · refine ⟨m, ?_, w, c, Bel.refl _ _⟩
      have hj0 : j = 0 := by omega
      rw [hz] at h8
      rw [hj0]
      simp (disch := first | (simp (disch := omega) only [am_k_some, va_rf_some, va_rf_none, tl_some, tl_none, am_clr_int, am_clr_ref, am_clr_none, am_clr_long, am_w_nil, am_w_int, am_w_ref, am_w_long, am_w_null, am_bb_0, am_bb_1, am_bb_bI, xK_sI, xR_sI, xS_sI, xN_sI, xK_sL, xR_sL, xS_sL, xN_sL, xK_sR, xR_sR, xS_sR, xN_sR, xK_sA, xR_sA, xS_sA, xN_sA, Nat.reduceAdd, Nat.reduceLeDiff, sI_sA, I_sA', sA_sA, I_sA, I_sA', nI_add, mul_nI, bI_0, bI_1, f.k, f.r0, f.r1, f.r2, f.k2, f.r4, f.k4, f.r5, f.k5, f.r6, f.k6, f.r7, f.k7, f.r9, f.k9, k.k, k.r0, k.k0, k.rl, k.r1, k.r2, k.ac.k, k.lo.k, ix_nI, cl_nI]; done) | omega | assumption) only [c124, e124_0, e124_1, e124_4, e124_7, e124_8, am_k_some, va_rf_some, va_rf_none, tl_some, tl_none, am_clr_int, am_clr_ref, am_clr_none, am_clr_long, am_w_nil, am_w_int, am_w_ref, am_w_long, am_w_null, am_bb_0, am_bb_1, am_bb_bI, xK_sI, xR_sI, xS_sI, xN_sI, xK_sL, xR_sL, xS_sL, xN_sL, xK_sR, xR_sR, xS_sR, xN_sR, xK_sA, xR_sA, xS_sA, xN_sA, Nat.reduceAdd, Nat.reduceLeDiff, sI_sA, I_sA', sA_sA, I_sA, I_sA', nI_add, mul_nI, bI_0, bI_1, f.k, f.r0, f.r1, f.r2, f.k2, f.r4, f.k4, f.r5, f.k5, f.r6, f.k6, f.r7, f.k7, f.r9, f.k9, k.k, k.r0, k.k0, k.rl, k.r1, k.r2, k.ac.k, k.lo.k, ix_nI, cl_nI, lt_nI, eq_nI, sub_nI, Nat.reduceEqDiff, Nat.one_ne_zero, Nat.not_lt_zero, ↓reduceIte, h8]
    · obtain ⟨ix, kp⟩ := c.2.2.2.2.2.2.2.2
      obtain ⟨m1, ix', t, e1, n1, kw, ht⟩ := sp_124 f kp h8 (by omega) nn
      have f1 := f.nc n1 (by omega)
      have k1' := f1.sh
      have v1 : ShV m1 (B + 1) (stS s) (stL s) := v.keep (fun y y1 y2 => (n1.1 y (by omega)).2.1) (n1.1 _ (by omega)).2.2
      have ks := (kw.2.2.2.2.1 2 t (by omega) ht).2
      obtain ⟨m2, e2, F2, v2⟩ := sp_64 (d := 36) (a := B + 98 + 66 * t) ks k1' v1 Q (by omega)
      have kw2 := kw.put (by omega) ht F2
      have r := kw.2.1
      rw [ht] at r
      simp only [Option.map_some] at r
      have f2 := f1.fr F2.p
      have i2 : ∀ x, x < B + 98 → mI m2 x = mI m x ∧ mL m2 x = mL m x := fun x hx => by
        rw [(F2.2.2.2.2 x (by omega)).1, (F2.2.2.2.2 x (by omega)).2]
        exact (n1.1 x (by omega)).2
      obtain ⟨m3, e3, F3⟩ := lc B (B + 98 + 66 * t) m2 f2 (ks.fr F2) v2 (by omega) (by rw [F2.2.2.2.1]; exact r) (by rw [(i2 B (by omega)).1]; exact h8) (fun y hy => by rw [(i2 _ (by omega)).1]; exact c.2.2.2.2.1 y hy)
      have F3' : Fr (B + 98 + 66 * t) m2 m3 ∨ True := Or.inr trivial
      have kv : KpV m3 B ix' (stK s) := by
        obtain ⟨h1, h2, h3, h4, h5, h6, h7⟩ := kw2
        refine KpW.v ⟨fun y hy => by rw [F3.2.2.2.1]; exact h1 y hy, by rw [F3.2.2.2.1]; exact h2, by rw [F3.1]; exact h3, by rw [F3.2.1]; exact h4, fun y i hy hi => ⟨(h5 y i hy hi).1, (h5 y i hy hi).2.frP F3.p⟩, h6, fun y hy hne => ?_⟩
        rcases h7 y hy hne with q | ⟨q1, i, q2, q3⟩
        · exact Or.inl q
        · have : i ≠ t := fun q => hne (h6 y 2 t (by omega) (by omega) (by rw [q2, q]) ht)
          exact Or.inr ⟨q1, i, q2, q3.keep (fun z z1 z2 => (F3.2.2.2.2 z (by omega) (by omega)).1) (F3.2.2.2.2 _ (by omega) (by omega)).2⟩
      have i3 : ∀ x, x < B + 98 → x ≠ B + 78 → mI m3 x = mI m x ∧ mL m3 x = mL m x := fun x hx hne => by
        rw [(F3.2.2.2.2 x (by omega) hne).1, (F3.2.2.2.2 x (by omega) hne).2]
        exact i2 x hx
      refine ⟨m3, ?_, ((w.nc n1).fr F2.p (fun x h1 h2 => by omega)).fr F3.p (fun x h1 h2 => by omega), ?_, ?_⟩
      · rw [e1, ← e3]
        have q1 := f1.k
        have q4 := f1.r0
        have q5 := ks.k
        simp (disch := first | (simp (disch := omega) only [am_k_some, va_rf_some, va_rf_none, tl_some, tl_none, am_clr_int, am_clr_ref, am_clr_none, am_clr_long, am_w_nil, am_w_int, am_w_ref, am_w_long, am_w_null, am_bb_0, am_bb_1, am_bb_bI, xK_sI, xR_sI, xS_sI, xN_sI, xK_sL, xR_sL, xS_sL, xN_sL, xK_sR, xR_sR, xS_sR, xN_sR, xK_sA, xR_sA, xS_sA, xN_sA, Nat.reduceAdd, Nat.reduceLeDiff, sI_sA, I_sA', sA_sA, I_sA, I_sA', nI_add, mul_nI, bI_0, bI_1, q1, q4, q5, ix_nI, cl_nI]; done) | omega | assumption) only [e124_27, e124_28, e124_31, e124_32, e124_35, e124_38, e124_39, am_k_some, va_rf_some, va_rf_none, tl_some, tl_none, am_clr_int, am_clr_ref, am_clr_none, am_clr_long, am_w_nil, am_w_int, am_w_ref, am_w_long, am_w_null, am_bb_0, am_bb_1, am_bb_bI, xK_sI, xR_sI, xS_sI, xN_sI, xK_sL, xR_sL, xS_sL, xN_sL, xK_sR, xR_sR, xS_sR, xN_sR, xK_sA, xR_sA, xS_sA, xN_sA, Nat.reduceAdd, Nat.reduceLeDiff, sI_sA, I_sA', sA_sA, I_sA, I_sA', nI_add, mul_nI, bI_0, bI_1, q1, q4, ix_nI, cl_nI, lt_nI, eq_nI, sub_nI, Nat.reduceEqDiff, Nat.one_ne_zero, Nat.not_lt_zero, ↓reduceIte, r, e2]
      · obtain ⟨c0, c1, c2, c3, c4, c5, c6, c7, -⟩ := id c
        refine ⟨f2.fr F3.p, c1.keep (fun y y1 y2 => (i3 y (by omega) (by omega)).1) (i3 _ (by omega) (by omega)).2, ?_, ?_, ?_, ?_, ?_, ?_, ix', kv⟩
        · intro j hj; rw [(i3 _ (by omega) (by omega)).1]; exact c2 j hj
        · rw [(i3 _ (by omega) (by omega)).1]; exact c3
        · intro j hj; rw [(i3 _ (by omega) (by omega)).1]; exact c4 j hj
        · intro j hj; rw [(i3 _ (by omega) (by omega)).1]; exact c5 j hj
        · rw [(i3 _ (by omega) (by omega)).1]; exact c6
        · unfold ReV; rw [(i3 _ (by omega) (by omega)).2]; exact c7
      · intro x hx
        rw [(i3 x (by omega) (by omega)).1, F3.2.2.1, F2.2.2.1, (n1.1 x (by omega)).1]
        exact ⟨rfl, rfl⟩
  obtain ⟨m1, e1, w1, c1, b1⟩ := CL
  obtain ⟨m2, e2, F2, S', ag, w2⟩ := ml_221 w1 W rfl rfl rfl lm
  refine ⟨nI j, m1, m2, e1, e2, ⟨_, ?_, w2, wf_ag8 ag Q, W.2⟩, b1.trans (F2.bel (fun x hx => by omega))⟩
  have c2 := c1.fr F2 (fun x h1 h2 => by omega)
  obtain ⟨c0, c1', c2', c3, c4, c5, c6, c7, c8⟩ := c2
  exact ⟨c0, sh_ag8 ag Q c1', c2', c3, c4, c5, c6, c7, c8⟩
