/-! THE PLANNER, 12: the model: least, stow -/
section LS
variable {S : Nat → Int32} {n dl : Nat} {th dk : Nat → Nat}
def lsV : Bst → Int32
  | none => -15
  | some (c, _, _) => nI c
theorem pl_neg (S : Nat → Int32) : plA S = nI 0 ∨ plA S < nI 0 := by
  unfold plA
  repeat' split
  all_goals first | exact Or.inr (by decide) | exact Or.inl rfl
/-- least, where nothing hinders -/
theorem sp_214 {d M : Nat} {m : am_M} {L : Int64} {b : Bst} (h : Mo m M) (hS : mI m (M + 1) = S) (W : Wf S) (hp : plA S = nI 0) (hL : mL m (M + 6) 0 = L) (hb : exA S L (qN S) (dN S) (qT S) (dT S) (qN S) [] 0 none = b) : ∃ m', cal (d + 9) 214 [.ref M] m = some (some (.int (lsV b)), m') ∧ FrI (fun x => x = M ∨ x = M + 1 ∨ (M + 10 ≤ x ∧ x ≤ M + 15)) m m' ∧ (∀ j, j ≠ 16 → j ≠ 18 → j ≠ 23 → mI m' M j = mI m M j) ∧ PlS S (mI m' (M + 1)) (qN S) (qT S) b ∧ BsM m' M (qN S) b ∧ BsOk (qN S) b ∧ mI m' M 16 = nI (qN S) ∧ ∀ k, k < qN S → mI m' (M + 10) k = nI (qT S k) := by
  have H := pl_H W hp
  obtain ⟨m1, e1, F1, O1, Q1⟩ := sp_207 (d := d + 6) h hS W
  obtain ⟨tm, dm, ts, ds⟩ := Q1 hp
  rw [hp] at e1
  have h1 := h.frI F1
  obtain ⟨m2, e2, F2, ok, A⟩ := sp_213 (d := d) (L := L) H h1 (by rw [F1.i (by omega)]; exact hS) tm dm ts ds (by rw [F1.l (by omega)]; exact hL)
  rw [hb] at ok A
  have h2 := A.mo
  have X : cal (d + 9) 214 [.ref M] m = ev (d + 9) 214 17 [some (.ref M), some (.int (nI 0)), some (.int (nI 0))] [] m2 := by
    have z : ¬ 0 < 0 := by omega
    have k1' := h1.k
    simp (disch := first | (simp (disch := omega) only [am_k_some, va_rf_some, va_rf_none, tl_some, tl_none, am_clr_int, am_clr_ref, am_clr_none, am_clr_long, am_w_nil, am_w_int, am_w_ref, am_w_long, am_w_null, am_bb_0, am_bb_1, am_bb_bI, xK_sI, xR_sI, xS_sI, xN_sI, xK_sL, xR_sL, xS_sL, xN_sL, xK_sR, xR_sR, xS_sR, xN_sR, xK_sA, xR_sA, xS_sA, xN_sA, Nat.reduceAdd, Nat.reduceLeDiff, sI_sA, I_sA', sA_sA, I_sA, I_sA', nI_add, mul_nI, bI_0, bI_1, h.k, h.r0, h.k0, h.r1, h.k1, h.r2, h.k2, h.r3, h.k3, h.r4, h.k4, h.r5, h.k5, h.r6, h.k6, h.r8, h.k8, h.r9, h.k9, h.r15, h.k15, h.r17, h.k17, h.r19, h.k19, h.r20, h.k20, h.r21, h.k21, h.r22, h.k22, h, Mo_sA, Mo_sL, ix_nI, cl_nI]; done) | omega | (simp only [I_sA]; assumption)) only [c214, e214_0, e214_1, e214_4, e214_5, e214_6, e214_11, am_k_some, va_rf_some, va_rf_none, tl_some, tl_none, am_clr_int, am_clr_ref, am_clr_none, am_clr_long, am_w_nil, am_w_int, am_w_ref, am_w_long, am_w_null, am_bb_0, am_bb_1, am_bb_bI, xK_sI, xR_sI, xS_sI, xN_sI, xK_sL, xR_sL, xS_sL, xN_sL, xK_sR, xR_sR, xS_sR, xN_sR, xK_sA, xR_sA, xS_sA, xN_sA, Nat.reduceAdd, Nat.reduceLeDiff, sI_sA, I_sA', sA_sA, I_sA, I_sA', nI_add, mul_nI, bI_0, bI_1, h.k, h.r0, h.k0, h.r1, h.k1, h.r2, h.k2, h.r3, h.k3, h.r4, h.k4, h.r5, h.k5, h.r6, h.k6, h.r8, h.k8, h.r9, h.k9, h.r15, h.k15, h.r17, h.k17, h.r19, h.k19, h.r20, h.k20, h.r21, h.k21, h.r22, h.k22, ix_nI, cl_nI, lt_nI, eq_nI, sub_nI, Nat.reduceEqDiff, Nat.one_ne_zero, Nat.not_lt_zero, ↓reduceIte, e1, z]
    have h := h1
    simp (disch := first | (simp (disch := omega) only [am_k_some, va_rf_some, va_rf_none, tl_some, tl_none, am_clr_int, am_clr_ref, am_clr_none, am_clr_long, am_w_nil, am_w_int, am_w_ref, am_w_long, am_w_null, am_bb_0, am_bb_1, am_bb_bI, xK_sI, xR_sI, xS_sI, xN_sI, xK_sL, xR_sL, xS_sL, xN_sL, xK_sR, xR_sR, xS_sR, xN_sR, xK_sA, xR_sA, xS_sA, xN_sA, Nat.reduceAdd, Nat.reduceLeDiff, sI_sA, I_sA', sA_sA, I_sA, I_sA', nI_add, mul_nI, bI_0, bI_1, h.k, h.r0, h.k0, h.r1, h.k1, h.r2, h.k2, h.r3, h.k3, h.r4, h.k4, h.r5, h.k5, h.r6, h.k6, h.r8, h.k8, h.r9, h.k9, h.r15, h.k15, h.r17, h.k17, h.r19, h.k19, h.r20, h.k20, h.r21, h.k21, h.r22, h.k22, h, Mo_sA, Mo_sL, ix_nI, cl_nI]; done) | omega | (simp only [I_sA]; assumption)) only [e214_12, e214_15, e214_16, am_k_some, va_rf_some, va_rf_none, tl_some, tl_none, am_clr_int, am_clr_ref, am_clr_none, am_clr_long, am_w_nil, am_w_int, am_w_ref, am_w_long, am_w_null, am_bb_0, am_bb_1, am_bb_bI, xK_sI, xR_sI, xS_sI, xN_sI, xK_sL, xR_sL, xS_sL, xN_sL, xK_sR, xR_sR, xS_sR, xN_sR, xK_sA, xR_sA, xS_sA, xN_sA, Nat.reduceAdd, Nat.reduceLeDiff, sI_sA, I_sA', sA_sA, I_sA, I_sA', nI_add, mul_nI, bI_0, bI_1, h.k, h.r0, h.k0, h.r1, h.k1, h.r2, h.k2, h.r3, h.k3, h.r4, h.k4, h.r5, h.k5, h.r6, h.k6, h.r8, h.k8, h.r9, h.k9, h.r15, h.k15, h.r17, h.k17, h.r19, h.k19, h.r20, h.k20, h.r21, h.k21, h.r22, h.k22, ix_nI, cl_nI, lt_nI, eq_nI, sub_nI, Nat.reduceEqDiff, Nat.one_ne_zero, Nat.not_lt_zero, ↓reduceIte, e2]
  have e3 := sp_214a (d := d + 9) (M := M) (x1 := none) 400 0 m2 rfl h2
  rw [A.a] at e3
  change _ = ev (d + 9) 214 52 [some (.ref M), some (.int (nI 0)), some (.int (nI 400))] [] (sA m2 (M + 1) (flB 0 S)) at e3
  have F3 : FrI (fun x => x = M + 1) m2 (sA m2 (M + 1) (flB 0 S)) := (FrI.refl (fun x => x = M + 1) m2).sA rfl
  have i3 : mI (sA m2 (M + 1) (flB 0 S)) (M + 1) = flB 0 S := I_sA ..
  generalize sA m2 (M + 1) (flB 0 S) = m3 at *
  have h3 := h2.frI F3
  have FF : FrI (fun x => x = M ∨ x = M + 1 ∨ (M + 10 ≤ x ∧ x ≤ M + 15)) m m3 := ((F1.mono (fun x hx => by omega)).trans (F2.1.mono (fun x hx => by omega))).trans (F3.mono (fun x hx => by omega))
  have OO : ∀ j, j ≠ 16 → j ≠ 18 → j ≠ 23 → mI m3 M j = mI m M j := fun j a b c => by rw [F3.i (by omega), F2.2 j c, O1 j a b]
  have tm3 : mI m3 M 16 = nI (qN S) := by rw [F3.i (by omega), F2.2 _ (by omega)]; exact tm
  have ts3 : ∀ k, k < qN S → mI m3 (M + 10) k = nI (qT S k) := fun k hk => by rw [F3.i (by omega), F2.1.i (by omega)]; exact ts k hk
  have bs3 : BsM m3 M (qN S) b := A.bs.of (by rw [F3.i (by omega)]) (F3.i (by omega)) (F3.i (by omega))
  rw [X, e3]
  have X2 : ev (d + 9) 214 52 [some (.ref M), some (.int (nI 0)), some (.int (nI 400))] [] m3 = ev (d + 9) 214 54 [some (.ref M), some (.int (nI 0)), some (.int (nI 0))] [] m3 := by
    simp only [e214_52, e214_53, am_k_some, va_rf_some, va_rf_none, tl_some, tl_none, am_clr_int, am_clr_ref, am_clr_none, am_clr_long, am_w_nil, am_w_int, am_w_ref, am_w_long, am_w_null, am_bb_0, am_bb_1, am_bb_bI, xK_sI, xR_sI, xS_sI, xN_sI, xK_sL, xR_sL, xS_sL, xN_sL, xK_sR, xR_sR, xS_sR, xN_sR, xK_sA, xR_sA, xS_sA, xN_sA, Nat.reduceAdd, Nat.reduceLeDiff, sI_sA, I_sA', sA_sA, I_sA, I_sA', nI_add, mul_nI, bI_0, bI_1]
  rw [X2]
  have n1 := H.n1
  have n6 := H.n6
  rcases b with _ | ⟨c, bl, bp⟩
  · have hb3 : mI m3 M 23 = -1 := bs3
    refine ⟨m3, ?_, FF, OO, ⟨fun y hy => ?_, fun l hl _ => ?_, fun l hl => ?_⟩, bs3, ok, tm3, ts3⟩
    · have z : 0 < qN S := by omega
      have h := h3
      show _ = some (some (Value.int (-15)), m3)
      rw [e214_54]
      simp (disch := first | (simp (disch := omega) only [am_k_some, va_rf_some, va_rf_none, tl_some, tl_none, am_clr_int, am_clr_ref, am_clr_none, am_clr_long, am_w_nil, am_w_int, am_w_ref, am_w_long, am_w_null, am_bb_0, am_bb_1, am_bb_bI, xK_sI, xR_sI, xS_sI, xN_sI, xK_sL, xR_sL, xS_sL, xN_sL, xK_sR, xR_sR, xS_sR, xN_sR, xK_sA, xR_sA, xS_sA, xN_sA, Nat.reduceAdd, Nat.reduceLeDiff, sI_sA, I_sA', sA_sA, I_sA, I_sA', nI_add, mul_nI, bI_0, bI_1, h.k, h.r0, h.k0, h.r1, h.k1, h.r2, h.k2, h.r3, h.k3, h.r4, h.k4, h.r5, h.k5, h.r6, h.k6, h.r8, h.k8, h.r9, h.k9, h.r15, h.k15, h.r17, h.k17, h.r19, h.k19, h.r20, h.k20, h.r21, h.k21, h.r22, h.k22, h, Mo_sA, Mo_sL, ix_nI, cl_nI]; done) | omega | (simp only [I_sA]; assumption)) only [e214_0, e214_1, e214_4, e214_5, e214_6, e214_9, e214_10, e214_11, e214_12, e214_15, e214_16, e214_18, e214_21, e214_24, e214_25, e214_28, e214_31, e214_32, e214_33, e214_34, e214_35, e214_36, e214_39, e214_42, e214_43, e214_44, e214_45, e214_46, e214_49, e214_52, e214_53, e214_55, e214_56, e214_59, e214_62, e214_63, e214_66, e214_69, e214_70, e214_73, e214_76, e214_77, e214_80, e214_81, e214_82, e214_83, e214_84, e214_87, e214_88, e214_89, e214_90, e214_91, e214_94, e214_97, e214_98, e214_101, e214_102, e214_103, e214_104, e214_105, e214_108, e214_109, e214_110, e214_111, e214_114, e214_117, e214_118, e214_121, e214_124, e214_126, e214_129, e214_130, e214_133, am_k_some, va_rf_some, va_rf_none, tl_some, tl_none, am_clr_int, am_clr_ref, am_clr_none, am_clr_long, am_w_nil, am_w_int, am_w_ref, am_w_long, am_w_null, am_bb_0, am_bb_1, am_bb_bI, xK_sI, xR_sI, xS_sI, xN_sI, xK_sL, xR_sL, xS_sL, xN_sL, xK_sR, xR_sR, xS_sR, xN_sR, xK_sA, xR_sA, xS_sA, xN_sA, Nat.reduceAdd, Nat.reduceLeDiff, sI_sA, I_sA', sA_sA, I_sA, I_sA', nI_add, mul_nI, bI_0, bI_1, h.k, h.r0, h.k0, h.r1, h.k1, h.r2, h.k2, h.r3, h.k3, h.r4, h.k4, h.r5, h.k5, h.r6, h.k6, h.r8, h.k8, h.r9, h.k9, h.r15, h.k15, h.r17, h.k17, h.r19, h.k19, h.r20, h.k20, h.r21, h.k21, h.r22, h.k22, ix_nI, cl_nI, lt_nI, eq_nI, sub_nI, Nat.reduceEqDiff, Nat.one_ne_zero, Nat.not_lt_zero, ↓reduceIte, k1, k2, k3, k4, k5, k6, k7, k8, k9, n10, n01, if_true, if_false, decide_true, decide_false, Bool.true_eq_false, Bool.false_eq_true, not_true_eq_false, not_false_eq_true, and_true, true_and, and_false, false_and, tm3, z, hb3, u1]
    · rw [i3, flB_at, if_neg (by omega)]
    · rw [i3, flB_at, flB_at, if_pos (by omega), if_pos (by omega)]; exact ⟨rfl, rfl⟩
    · rw [i3, flB_at, flB_at, if_pos (by omega), if_pos (by omega)]; exact ⟨rfl, rfl⟩
  · obtain ⟨hb3, hbs⟩ : mI m3 M 23 = nI c ∧ ∀ k, k < qN S → mI m3 (M + 14) k = nI (bl k) ∧ mI m3 (M + 15) k = nI (bp k) := id bs3
    obtain ⟨hc, -⟩ : c < 1000 ∧ ∀ k, k < qN S → bl k < 20 ∧ bp k < 40 := id ok
    obtain ⟨m4, e4, F4, r1, r2, r3⟩ := sp_214b (d := d + 9) (M := M) (bl := bl) (bp := bp) hc n6 (fun k hk => H.t4 hk) (fun k k' a b e => H.inj a b e) S (qN S) 0 m3 (Nat.zero_add _) h3 tm3 hb3 ts3 hbs (fun y hy => by rw [i3, flB_at, if_neg (by omega)]) (fun l hl _ => by rw [i3, flB_at, flB_at, if_pos (by omega), if_pos (by omega)]; exact ⟨rfl, rfl⟩) (fun k' hk' => absurd hk' (Nat.not_lt_zero _))
    refine ⟨m4, ?_, FF.trans (F4.mono (fun x hx => by omega)), fun j a b c => by rw [F4.i (by omega)]; exact OO j a b c, ⟨r1, r2, r3⟩, ?_, ok, by rw [F4.i (by omega)]; exact tm3, fun k hk => by rw [F4.i (by omega)]; exact ts3 k hk⟩
    · rw [e4]
      have h := h3.frI F4
      have hb4 : mI m4 M 23 = nI c := by rw [F4.i (by omega)]; exact hb3
      have z : ¬ c < 0 := by omega
      show _ = some (some (Value.int (nI c)), m4)
      simp (disch := first | (simp (disch := omega) only [am_k_some, va_rf_some, va_rf_none, tl_some, tl_none, am_clr_int, am_clr_ref, am_clr_none, am_clr_long, am_w_nil, am_w_int, am_w_ref, am_w_long, am_w_null, am_bb_0, am_bb_1, am_bb_bI, xK_sI, xR_sI, xS_sI, xN_sI, xK_sL, xR_sL, xS_sL, xN_sL, xK_sR, xR_sR, xS_sR, xN_sR, xK_sA, xR_sA, xS_sA, xN_sA, Nat.reduceAdd, Nat.reduceLeDiff, sI_sA, I_sA', sA_sA, I_sA, I_sA', nI_add, mul_nI, bI_0, bI_1, h.k, h.r0, h.k0, h.r1, h.k1, h.r2, h.k2, h.r3, h.k3, h.r4, h.k4, h.r5, h.k5, h.r6, h.k6, h.r8, h.k8, h.r9, h.k9, h.r15, h.k15, h.r17, h.k17, h.r19, h.k19, h.r20, h.k20, h.r21, h.k21, h.r22, h.k22, h, Mo_sA, Mo_sL, ix_nI, cl_nI]; done) | omega | (simp only [I_sA]; assumption)) only [e214_0, e214_1, e214_4, e214_5, e214_6, e214_9, e214_10, e214_11, e214_12, e214_15, e214_16, e214_18, e214_21, e214_24, e214_25, e214_28, e214_31, e214_32, e214_33, e214_34, e214_35, e214_36, e214_39, e214_42, e214_43, e214_44, e214_45, e214_46, e214_49, e214_52, e214_53, e214_55, e214_56, e214_59, e214_62, e214_63, e214_66, e214_69, e214_70, e214_73, e214_76, e214_77, e214_80, e214_81, e214_82, e214_83, e214_84, e214_87, e214_88, e214_89, e214_90, e214_91, e214_94, e214_97, e214_98, e214_101, e214_102, e214_103, e214_104, e214_105, e214_108, e214_109, e214_110, e214_111, e214_114, e214_117, e214_118, e214_121, e214_124, e214_126, e214_129, e214_130, e214_133, am_k_some, va_rf_some, va_rf_none, tl_some, tl_none, am_clr_int, am_clr_ref, am_clr_none, am_clr_long, am_w_nil, am_w_int, am_w_ref, am_w_long, am_w_null, am_bb_0, am_bb_1, am_bb_bI, xK_sI, xR_sI, xS_sI, xN_sI, xK_sL, xR_sL, xS_sL, xN_sL, xK_sR, xR_sR, xS_sR, xN_sR, xK_sA, xR_sA, xS_sA, xN_sA, Nat.reduceAdd, Nat.reduceLeDiff, sI_sA, I_sA', sA_sA, I_sA, I_sA', nI_add, mul_nI, bI_0, bI_1, h.k, h.r0, h.k0, h.r1, h.k1, h.r2, h.k2, h.r3, h.k3, h.r4, h.k4, h.r5, h.k5, h.r6, h.k6, h.r8, h.k8, h.r9, h.k9, h.r15, h.k15, h.r17, h.k17, h.r19, h.k19, h.r20, h.k20, h.r21, h.k21, h.r22, h.k22, ix_nI, cl_nI, lt_nI, eq_nI, sub_nI, Nat.reduceEqDiff, Nat.one_ne_zero, Nat.not_lt_zero, ↓reduceIte, k1, k2, k3, k4, k5, k6, k7, k8, k9, n10, n01, if_true, if_false, decide_true, decide_false, Bool.true_eq_false, Bool.false_eq_true, not_true_eq_false, not_false_eq_true, and_true, true_and, and_false, false_and, hb4, z]
    · exact bs3.of (by rw [F4.i (by omega)]) (F4.i (by omega)) (F4.i (by omega))
theorem sp_214n {d M : Nat} {m : am_M} (h : Mo m M) (hS : mI m (M + 1) = S) (W : Wf S) (hp : plA S < nI 0) : ∃ m', cal (d + 9) 214 [.ref M] m = some (some (.int (plA S)), m') ∧ FrI (fun x => x = M ∨ x = M + 10 ∨ x = M + 11) m m' ∧ (∀ j, j ≠ 16 → j ≠ 18 → mI m' M j = mI m M j) := by
  obtain ⟨m1, e1, F1, O1, -⟩ := sp_207 (d := d + 6) h hS W
  refine ⟨m1, ?_, F1, O1⟩
  simp (disch := first | (simp (disch := omega) only [am_k_some, va_rf_some, va_rf_none, tl_some, tl_none, am_clr_int, am_clr_ref, am_clr_none, am_clr_long, am_w_nil, am_w_int, am_w_ref, am_w_long, am_w_null, am_bb_0, am_bb_1, am_bb_bI, xK_sI, xR_sI, xS_sI, xN_sI, xK_sL, xR_sL, xS_sL, xN_sL, xK_sR, xR_sR, xS_sR, xN_sR, xK_sA, xR_sA, xS_sA, xN_sA, Nat.reduceAdd, Nat.reduceLeDiff, sI_sA, I_sA', sA_sA, I_sA, I_sA', nI_add, mul_nI, bI_0, bI_1, h.k, h.r0, h.k0, h.r1, h.k1, h.r2, h.k2, h.r3, h.k3, h.r4, h.k4, h.r5, h.k5, h.r6, h.k6, h.r8, h.k8, h.r9, h.k9, h.r15, h.k15, h.r17, h.k17, h.r19, h.k19, h.r20, h.k20, h.r21, h.k21, h.r22, h.k22, h, Mo_sA, Mo_sL, ix_nI, cl_nI]; done) | omega | (simp only [I_sA]; assumption)) only [c214, e214_0, e214_1, e214_4, e214_5, e214_6, e214_9, e214_10, am_k_some, va_rf_some, va_rf_none, tl_some, tl_none, am_clr_int, am_clr_ref, am_clr_none, am_clr_long, am_w_nil, am_w_int, am_w_ref, am_w_long, am_w_null, am_bb_0, am_bb_1, am_bb_bI, xK_sI, xR_sI, xS_sI, xN_sI, xK_sL, xR_sL, xS_sL, xN_sL, xK_sR, xR_sR, xS_sR, xN_sR, xK_sA, xR_sA, xS_sA, xN_sA, Nat.reduceAdd, Nat.reduceLeDiff, sI_sA, I_sA', sA_sA, I_sA, I_sA', nI_add, mul_nI, bI_0, bI_1, h.k, h.r0, h.k0, h.r1, h.k1, h.r2, h.k2, h.r3, h.k3, h.r4, h.k4, h.r5, h.k5, h.r6, h.k6, h.r8, h.k8, h.r9, h.k9, h.r15, h.k15, h.r17, h.k17, h.r19, h.k19, h.r20, h.k20, h.r21, h.k21, h.r22, h.k22, ix_nI, cl_nI, lt_nI, eq_nI, sub_nI, Nat.reduceEqDiff, Nat.one_ne_zero, Nat.not_lt_zero, ↓reduceIte, e1, hp]
/-! stow -/
def swS (X : Nat → Int32) (th bl bp : Nat → Nat) : Nat → Nat → Int32
  | 0 => X
  | k + 1 => putS (swS X th bl bp k) (th k) (bl k) (bp k)
theorem sp_216l {d M : Nat} {X : Nat → Int32} {bl bp : Nat → Nat} {x1 : Int32} (n6 : n ≤ 6) (t4 : ∀ k, k < n → th k < 400) (hb : ∀ k, k < n → bl k < 20 ∧ bp k < 40 ∧ bp k + spanS (swS X th bl bp k) (th k) ≤ 40) : ∀ r k (m : am_M), k + r = n → Mo m M → mI m (M + 1) = swS X th bl bp k → mI m M 16 = nI n → (∀ k, k < n → mI m (M + 10) k = nI (th k)) → (∀ k, k < n → mI m (M + 14) k = nI (bl k) ∧ mI m (M + 15) k = nI (bp k)) →
    ∃ m', ev (d + 3) 216 13 [some (.ref M), some (.int x1), some (.int (nI k))] [] m = some (some (.int x1), m') ∧ FrI (fun x => x = M + 1) m m' ∧ mI m' (M + 1) = up1 (swS X th bl bp n) 6507 (nI 0) := by
  intro r
  induction r with
  | zero =>
    intro k m hk h hX tm ts hbs
    have hk' : k = n := by omega
    subst hk'
    have hnl : ¬ k < k := by omega
    refine ⟨sA m (M + 1) (up1 (mI m (M + 1)) 6507 (nI 0)), ?_, (FrI.refl (fun x => x = M + 1) m).sA rfl, by rw [I_sA, hX]⟩
    rw [e216_13]
    simp (disch := first | (simp (disch := omega) only [am_k_some, va_rf_some, va_rf_none, tl_some, tl_none, am_clr_int, am_clr_ref, am_clr_none, am_clr_long, am_w_nil, am_w_int, am_w_ref, am_w_long, am_w_null, am_bb_0, am_bb_1, am_bb_bI, xK_sI, xR_sI, xS_sI, xN_sI, xK_sL, xR_sL, xS_sL, xN_sL, xK_sR, xR_sR, xS_sR, xN_sR, xK_sA, xR_sA, xS_sA, xN_sA, Nat.reduceAdd, Nat.reduceLeDiff, sI_sA, I_sA', sA_sA, I_sA, I_sA', nI_add, mul_nI, bI_0, bI_1, h.k, h.r0, h.k0, h.r1, h.k1, h.r2, h.k2, h.r3, h.k3, h.r4, h.k4, h.r5, h.k5, h.r6, h.k6, h.r8, h.k8, h.r9, h.k9, h.r15, h.k15, h.r17, h.k17, h.r19, h.k19, h.r20, h.k20, h.r21, h.k21, h.r22, h.k22, h, Mo_sA, Mo_sL, ix_nI, cl_nI]; done) | omega | (simp only [I_sA]; assumption)) only [e216_0, e216_1, e216_4, e216_5, e216_6, e216_9, e216_10, e216_11, e216_12, e216_14, e216_15, e216_18, e216_21, e216_22, e216_23, e216_26, e216_27, e216_28, e216_29, e216_32, e216_33, e216_34, e216_35, e216_38, e216_39, e216_40, e216_43, e216_46, e216_49, e216_50, e216_53, e216_56, e216_57, e216_58, e216_59, am_k_some, va_rf_some, va_rf_none, tl_some, tl_none, am_clr_int, am_clr_ref, am_clr_none, am_clr_long, am_w_nil, am_w_int, am_w_ref, am_w_long, am_w_null, am_bb_0, am_bb_1, am_bb_bI, xK_sI, xR_sI, xS_sI, xN_sI, xK_sL, xR_sL, xS_sL, xN_sL, xK_sR, xR_sR, xS_sR, xN_sR, xK_sA, xR_sA, xS_sA, xN_sA, Nat.reduceAdd, Nat.reduceLeDiff, sI_sA, I_sA', sA_sA, I_sA, I_sA', nI_add, mul_nI, bI_0, bI_1, h.k, h.r0, h.k0, h.r1, h.k1, h.r2, h.k2, h.r3, h.k3, h.r4, h.k4, h.r5, h.k5, h.r6, h.k6, h.r8, h.k8, h.r9, h.k9, h.r15, h.k15, h.r17, h.k17, h.r19, h.k19, h.r20, h.k20, h.r21, h.k21, h.r22, h.k22, ix_nI, cl_nI, lt_nI, eq_nI, sub_nI, Nat.reduceEqDiff, Nat.one_ne_zero, Nat.not_lt_zero, ↓reduceIte, k1, k2, k3, k4, k5, k6, k7, k8, k9, n10, n01, if_true, if_false, decide_true, decide_false, Bool.true_eq_false, Bool.false_eq_true, not_true_eq_false, not_false_eq_true, and_true, true_and, and_false, false_and, tm, hnl]
  | succ r ih =>
    intro k m hk h hX tm ts hbs
    have hnl : k < n := by omega
    have t1 := ts k hnl
    have t2 := t4 k hnl
    obtain ⟨b1, b2⟩ := hbs k hnl
    obtain ⟨c1, c2, c3⟩ := hb k hnl
    have pt := sp_156 (d := d) (q := bp k) h t2 c1 (by rw [hX]; exact c3)
    rw [hX] at pt
    have F1 : FrI (fun x => x = M + 1) m (sA m (M + 1) (swS X th bl bp (k + 1))) := (FrI.refl (fun x => x = M + 1) m).sA rfl
    obtain ⟨m', e, F2, q⟩ := ih (k + 1) (sA m (M + 1) (swS X th bl bp (k + 1))) (by omega) (h.frI F1) (I_sA ..) (by rw [F1.i (by omega)]; exact tm) (fun k hk => by rw [F1.i (by omega)]; exact ts k hk) (fun k hk => by rw [F1.i (by omega), F1.i (by omega)]; exact hbs k hk)
    refine ⟨m', ?_, F1.trans F2, q⟩
    change ev (d + 3) 216 13 [some (.ref M), some (.int x1), some (.int (nI (k + 1)))] [] (sA m (M + 1) (putS (swS X th bl bp k) (th k) (bl k) (bp k))) = _ at e
    rw [← e, e216_13]
    simp (disch := first | (simp (disch := omega) only [am_k_some, va_rf_some, va_rf_none, tl_some, tl_none, am_clr_int, am_clr_ref, am_clr_none, am_clr_long, am_w_nil, am_w_int, am_w_ref, am_w_long, am_w_null, am_bb_0, am_bb_1, am_bb_bI, xK_sI, xR_sI, xS_sI, xN_sI, xK_sL, xR_sL, xS_sL, xN_sL, xK_sR, xR_sR, xS_sR, xN_sR, xK_sA, xR_sA, xS_sA, xN_sA, Nat.reduceAdd, Nat.reduceLeDiff, sI_sA, I_sA', sA_sA, I_sA, I_sA', nI_add, mul_nI, bI_0, bI_1, h.k, h.r0, h.k0, h.r1, h.k1, h.r2, h.k2, h.r3, h.k3, h.r4, h.k4, h.r5, h.k5, h.r6, h.k6, h.r8, h.k8, h.r9, h.k9, h.r15, h.k15, h.r17, h.k17, h.r19, h.k19, h.r20, h.k20, h.r21, h.k21, h.r22, h.k22, h, Mo_sA, Mo_sL, ix_nI, cl_nI]; done) | omega | (simp only [I_sA]; assumption)) only [e216_0, e216_1, e216_4, e216_5, e216_6, e216_9, e216_10, e216_11, e216_12, e216_14, e216_15, e216_18, e216_21, e216_22, e216_23, e216_26, e216_27, e216_28, e216_29, e216_32, e216_33, e216_34, e216_35, e216_38, e216_39, e216_40, e216_43, e216_46, e216_49, e216_50, e216_53, e216_56, e216_57, e216_58, e216_59, am_k_some, va_rf_some, va_rf_none, tl_some, tl_none, am_clr_int, am_clr_ref, am_clr_none, am_clr_long, am_w_nil, am_w_int, am_w_ref, am_w_long, am_w_null, am_bb_0, am_bb_1, am_bb_bI, xK_sI, xR_sI, xS_sI, xN_sI, xK_sL, xR_sL, xS_sL, xN_sL, xK_sR, xR_sR, xS_sR, xN_sR, xK_sA, xR_sA, xS_sA, xN_sA, Nat.reduceAdd, Nat.reduceLeDiff, sI_sA, I_sA', sA_sA, I_sA, I_sA', nI_add, mul_nI, bI_0, bI_1, h.k, h.r0, h.k0, h.r1, h.k1, h.r2, h.k2, h.r3, h.k3, h.r4, h.k4, h.r5, h.k5, h.r6, h.k6, h.r8, h.k8, h.r9, h.k9, h.r15, h.k15, h.r17, h.k17, h.r19, h.k19, h.r20, h.k20, h.r21, h.k21, h.r22, h.k22, ix_nI, cl_nI, lt_nI, eq_nI, sub_nI, Nat.reduceEqDiff, Nat.one_ne_zero, Nat.not_lt_zero, ↓reduceIte, k1, k2, k3, k4, k5, k6, k7, k8, k9, n10, n01, if_true, if_false, decide_true, decide_false, Bool.true_eq_false, Bool.false_eq_true, not_true_eq_false, not_false_eq_true, and_true, true_and, and_false, false_and, tm, hnl, t1, b1, b2, pt]
end LS
