/-! THE PLANNER, 22: the class: search -/
section SE
variable {o a : Nat} {S : Nat → Int32} {L : Int64} {n dl : Nat} {th dk : Nat → Nat} {pi : Nat → Nat}
/-- what search does at a node -/
def SrC (o a : Nat) (S : Nat → Int32) (L : Int64) (n dl : Nat) (th dk pi : Nat → Nat) (d : Nat) (P : List (Nat × Nat)) (j : Nat) : Prop := ∀ (m : am_M) (b : Bst), PC m o a S L n dl th dk → PD m o S n dl th dk P j → BsC m o a n th b → BsOk n b → FpV (mI m (o + 2)) (ptS S th) n pi → ∃ m', cal d 44 [.ref o, .int (nI j), .int (nI P.length), .int (nI (csP S th dk P j))] m = some (none, m') ∧ FqC o a m m' ∧ PD m' o S n dl th dk P j ∧ BsC m' o a n th (exA S L n dl th dk (n - P.length) P j b)
theorem cs_lt (H : PlH S n dl th dk) {P : List (Nat × Nat)} (V : Vd S n dl th dk P) {j : Nat} (hj : j ≤ dl) : csP S th dk P j < 1000 := by
  have := cost_lt H V
  have h : csP S th dk P j ≤ cost S dl th dk P := sumN_mono _ hj
  omega
theorem fp_fq {m m' : am_M} (h : FqC o a m m') (ha : a + 66 ≤ o) (f : FpV (mI m (o + 2)) (ptS S th) n pi) : FpV (mI m' (o + 2)) (ptS S th) n pi := by
  rw [h.1.i (by omega)]; exact f
/-- the loads that may be driven next -/
theorem sp_44l {d j : Nat} {P : List (Nat × Nat)} (H : PlH S n dl th dk) (V : Vd S n dl th dk P) (hj : j < dl) (hl : ∀ x, x ∈ P → x.2 ≤ j) (ha : a + 66 ≤ o) (ih : ∀ x, x < n → Vd S n dl th dk ((x, j) :: P) → SrC o a S L n dl th dk pi (d + 4) ((x, j) :: P) j) : ∀ r i (m : am_M) (b : Bst), i + r = n → PC m o a S L n dl th dk → PD m o S n dl th dk P j → BsC m o a n th b → BsOk n b → FpV (mI m (o + 2)) (ptS S th) n pi →
    ∃ m', ev (d + 5) 44 28 [some (.ref o), some (.int (nI j)), some (.int (nI P.length)), some (.int (nI (csP S th dk P j))), some (.int (nI i))] [] m = ev (d + 5) 44 108 [some (.ref o), some (.int (nI j)), some (.int (nI P.length)), some (.int (nI (csP S th dk P j))), some (.int (nI n))] [] m' ∧ FqC o a m m' ∧ PD m' o S n dl th dk P j ∧ BsC m' o a n th (fld (stp S L n dl th dk (n - P.length - 1) P) r (6 * j + i) b) ∧ BsOk n (fld (stp S L n dl th dk (n - P.length - 1) P) r (6 * j + i) b) := by
  have n6 := H.n6
  have d3 := H.d3
  have K := V.pk H
  intro r
  induction r with
  | zero =>
    intro i m b hi C D hb ok fp
    have p := C.p; have rs := C.rs; have k := C.sk; have ko := k.lo
    have nn := C.nn
    have hi' : i = n := by omega
    subst hi'
    have hnl : ¬ i < i := by omega
    refine ⟨m, ?_, FqC.refl o a m, D, hb, ok⟩
    rw [e44_28]
    simp (disch := first | (simp (disch := omega) only [am_k_some, va_rf_some, va_rf_none, tl_some, tl_none, am_clr_int, am_clr_ref, am_clr_none, am_clr_long, am_w_nil, am_w_int, am_w_ref, am_w_long, am_w_null, am_bb_0, am_bb_1, am_bb_bI, xK_sI, xR_sI, xS_sI, xN_sI, xK_sL, xR_sL, xS_sL, xN_sL, xK_sR, xR_sR, xS_sR, xN_sR, xK_sA, xR_sA, xS_sA, xN_sA, Nat.reduceAdd, Nat.reduceLeDiff, sI_sA, I_sA', sA_sA, I_sA, I_sA', nI_add, mul_nI, bI_0, bI_1, p.k, rs, p.r1, p.k1, p.r2, p.k2, p.r3, p.k3, p.r4, p.k4, p.r5, p.k5, p.r6, p.k6, p.r7, p.k7, p.r8, p.k8, k.k, k.r0, k.k0, k.rl, k.r1, k.r3, ko.k, ko.r0, ko.k0, ko.r1, ko.k1, ko.r2, ko.k2, ko.r3, ko.k3, ko.r4, ko.k4, ix_nI, cl_nI]; done) | omega | assumption) only [e44_0, e44_1, e44_2, e44_5, e44_8, e44_9, e44_10, e44_13, e44_16, e44_17, e44_18, e44_21, e44_24, e44_25, e44_26, e44_30, e44_31, e44_34, e44_37, e44_38, e44_41, e44_43, e44_44, e44_45, e44_48, e44_49, e44_51, e44_52, e44_53, e44_56, e44_59, e44_60, e44_62, e44_63, e44_64, e44_67, e44_68, e44_69, e44_70, e44_71, e44_72, e44_73, e44_76, e44_77, e44_80, e44_81, e44_82, e44_83, e44_84, e44_86, e44_89, e44_92, e44_93, e44_94, e44_95, e44_98, e44_100, e44_101, e44_102, e44_105, e44_109, e44_110, e44_111, e44_112, e44_115, e44_118, e44_119, e44_122, e44_123, e44_124, e44_125, e44_126, e44_127, e44_128, e44_129, e44_130, e44_131, e44_132, e44_133, e44_134, e44_135, e44_136, e44_139, e44_140, e44_143, e44_146, e44_147, e44_148, e44_151, e44_154, e44_155, e44_156, e44_157, e44_158, e44_159, e44_162, e44_163, e44_166, am_k_some, va_rf_some, va_rf_none, tl_some, tl_none, am_clr_int, am_clr_ref, am_clr_none, am_clr_long, am_w_nil, am_w_int, am_w_ref, am_w_long, am_w_null, am_bb_0, am_bb_1, am_bb_bI, xK_sI, xR_sI, xS_sI, xN_sI, xK_sL, xR_sL, xS_sL, xN_sL, xK_sR, xR_sR, xS_sR, xN_sR, xK_sA, xR_sA, xS_sA, xN_sA, Nat.reduceAdd, Nat.reduceLeDiff, sI_sA, I_sA', sA_sA, I_sA, I_sA', nI_add, mul_nI, bI_0, bI_1, p.k, rs, p.r1, p.k1, p.r2, p.k2, p.r3, p.k3, p.r4, p.k4, p.r5, p.k5, p.r6, p.k6, p.r7, p.k7, p.r8, p.k8, k.k, k.r0, k.k0, k.rl, k.r1, k.r3, ko.k, ko.r0, ko.k0, ko.r1, ko.k1, ko.r2, ko.k2, ko.r3, ko.k3, ko.r4, ko.k4, ix_nI, cl_nI, lt_nI, eq_nI, sub_nI, Nat.reduceEqDiff, Nat.one_ne_zero, Nat.not_lt_zero, ↓reduceIte, nn, hnl]
  | succ r ihr =>
    intro i m b hi C D hb ok fp
    have p := C.p; have rs := C.rs; have k := C.sk; have ko := k.lo
    have nn := C.nn
    have hnl : i < n := by omega
    have c6 : (6 * j + i) % 6 = i := by omega
    have c7 : (6 * j + i) / 6 = j := by omega
    have go : fld (stp S L n dl th dk (n - P.length - 1) P) (r + 1) (6 * j + i) b = fld (stp S L n dl th dk (n - P.length - 1) P) r (6 * j + (i + 1)) (stp S L n dl th dk (n - P.length - 1) P (6 * j + i) b) := rfl
    rw [go]
    have skip : okB S n th dk P (6 * j + i) = false → ev (d + 5) 44 28 [some (.ref o), some (.int (nI j)), some (.int (nI P.length)), some (.int (nI (csP S th dk P j))), some (.int (nI i))] [] m = ev (d + 5) 44 28 [some (.ref o), some (.int (nI j)), some (.int (nI P.length)), some (.int (nI (csP S th dk P j))), some (.int (nI (i + 1)))] [] m → ∃ m', ev (d + 5) 44 28 [some (.ref o), some (.int (nI j)), some (.int (nI P.length)), some (.int (nI (csP S th dk P j))), some (.int (nI i))] [] m = ev (d + 5) 44 108 [some (.ref o), some (.int (nI j)), some (.int (nI P.length)), some (.int (nI (csP S th dk P j))), some (.int (nI n))] [] m' ∧ FqC o a m m' ∧ PD m' o S n dl th dk P j ∧ BsC m' o a n th (fld (stp S L n dl th dk (n - P.length - 1) P) r (6 * j + (i + 1)) (stp S L n dl th dk (n - P.length - 1) P (6 * j + i) b)) ∧ BsOk n (fld (stp S L n dl th dk (n - P.length - 1) P) r (6 * j + (i + 1)) (stp S L n dl th dk (n - P.length - 1) P (6 * j + i) b)) := by
      intro h1 h2
      have e : stp S L n dl th dk (n - P.length - 1) P (6 * j + i) b = b := by
        unfold stp
        rw [h1, if_neg (by decide)]
      rw [e, h2]
      exact ihr (i + 1) m b (by omega) C D hb ok fp
    cases u : usB P i with
    | true =>
      refine skip ?_ ?_
      · unfold okB
        rw [c6, u]
        simp
      · obtain ⟨j', a1, a2, -⟩ := lan_x H K D u
        have nm1 : ¬ nI j' = (-1 : Int32) := ne_m1 (by omega)
        rw [e44_28]
        simp (disch := first | (simp (disch := omega) only [am_k_some, va_rf_some, va_rf_none, tl_some, tl_none, am_clr_int, am_clr_ref, am_clr_none, am_clr_long, am_w_nil, am_w_int, am_w_ref, am_w_long, am_w_null, am_bb_0, am_bb_1, am_bb_bI, xK_sI, xR_sI, xS_sI, xN_sI, xK_sL, xR_sL, xS_sL, xN_sL, xK_sR, xR_sR, xS_sR, xN_sR, xK_sA, xR_sA, xS_sA, xN_sA, Nat.reduceAdd, Nat.reduceLeDiff, sI_sA, I_sA', sA_sA, I_sA, I_sA', nI_add, mul_nI, bI_0, bI_1, p.k, rs, p.r1, p.k1, p.r2, p.k2, p.r3, p.k3, p.r4, p.k4, p.r5, p.k5, p.r6, p.k6, p.r7, p.k7, p.r8, p.k8, k.k, k.r0, k.k0, k.rl, k.r1, k.r3, ko.k, ko.r0, ko.k0, ko.r1, ko.k1, ko.r2, ko.k2, ko.r3, ko.k3, ko.r4, ko.k4, ix_nI, cl_nI]; done) | omega | assumption) only [e44_0, e44_1, e44_2, e44_5, e44_8, e44_9, e44_10, e44_13, e44_16, e44_17, e44_18, e44_21, e44_24, e44_25, e44_26, e44_30, e44_31, e44_34, e44_37, e44_38, e44_41, e44_43, e44_44, e44_45, e44_48, e44_49, e44_51, e44_52, e44_53, e44_56, e44_59, e44_60, e44_62, e44_63, e44_64, e44_67, e44_68, e44_69, e44_70, e44_71, e44_72, e44_73, e44_76, e44_77, e44_80, e44_81, e44_82, e44_83, e44_84, e44_86, e44_89, e44_92, e44_93, e44_94, e44_95, e44_98, e44_100, e44_101, e44_102, e44_105, e44_108, e44_109, e44_110, e44_111, e44_112, e44_115, e44_118, e44_119, e44_122, e44_123, e44_124, e44_125, e44_126, e44_127, e44_128, e44_129, e44_130, e44_131, e44_132, e44_133, e44_134, e44_135, e44_136, e44_139, e44_140, e44_143, e44_146, e44_147, e44_148, e44_151, e44_154, e44_155, e44_156, e44_157, e44_158, e44_159, e44_162, e44_163, e44_166, am_k_some, va_rf_some, va_rf_none, tl_some, tl_none, am_clr_int, am_clr_ref, am_clr_none, am_clr_long, am_w_nil, am_w_int, am_w_ref, am_w_long, am_w_null, am_bb_0, am_bb_1, am_bb_bI, xK_sI, xR_sI, xS_sI, xN_sI, xK_sL, xR_sL, xS_sL, xN_sL, xK_sR, xR_sR, xS_sR, xN_sR, xK_sA, xR_sA, xS_sA, xN_sA, Nat.reduceAdd, Nat.reduceLeDiff, sI_sA, I_sA', sA_sA, I_sA, I_sA', nI_add, mul_nI, bI_0, bI_1, p.k, rs, p.r1, p.k1, p.r2, p.k2, p.r3, p.k3, p.r4, p.k4, p.r5, p.k5, p.r6, p.k6, p.r7, p.k7, p.r8, p.k8, k.k, k.r0, k.k0, k.rl, k.r1, k.r3, ko.k, ko.r0, ko.k0, ko.r1, ko.k1, ko.r2, ko.k2, ko.r3, ko.k3, ko.r4, ko.k4, ix_nI, cl_nI, lt_nI, eq_nI, sub_nI, Nat.reduceEqDiff, Nat.one_ne_zero, Nat.not_lt_zero, ↓reduceIte, nn, hnl, a1, nm1]
    | false =>
      have lf := D.lf i hnl u
      have hP : P.length < n := by
        have := V.len
        rcases Nat.eq_or_lt_of_le this with e | e
        · rw [V.all e hnl] at u; cases u
        · exact e
      have ft := sp_45 (d := d + 1) C H V D hnl hj hl u hP
      by_cases cd : cdA (qS S th dk P) (th i) (dk j) (enS S (dk j)) < nI 0
      · rw [decide_eq_true cd, Bool.not_true, bI_f] at ft
        refine skip ?_ ?_
        · unfold okB
          rw [c6, c7, decide_eq_true cd]
          simp
        · rw [e44_28]
          simp (disch := first | (simp (disch := omega) only [am_k_some, va_rf_some, va_rf_none, tl_some, tl_none, am_clr_int, am_clr_ref, am_clr_none, am_clr_long, am_w_nil, am_w_int, am_w_ref, am_w_long, am_w_null, am_bb_0, am_bb_1, am_bb_bI, xK_sI, xR_sI, xS_sI, xN_sI, xK_sL, xR_sL, xS_sL, xN_sL, xK_sR, xR_sR, xS_sR, xN_sR, xK_sA, xR_sA, xS_sA, xN_sA, Nat.reduceAdd, Nat.reduceLeDiff, sI_sA, I_sA', sA_sA, I_sA, I_sA', nI_add, mul_nI, bI_0, bI_1, p.k, rs, p.r1, p.k1, p.r2, p.k2, p.r3, p.k3, p.r4, p.k4, p.r5, p.k5, p.r6, p.k6, p.r7, p.k7, p.r8, p.k8, k.k, k.r0, k.k0, k.rl, k.r1, k.r3, ko.k, ko.r0, ko.k0, ko.r1, ko.k1, ko.r2, ko.k2, ko.r3, ko.k3, ko.r4, ko.k4, ix_nI, cl_nI]; done) | omega | assumption) only [e44_0, e44_1, e44_2, e44_5, e44_8, e44_9, e44_10, e44_13, e44_16, e44_17, e44_18, e44_21, e44_24, e44_25, e44_26, e44_30, e44_31, e44_34, e44_37, e44_38, e44_41, e44_43, e44_44, e44_45, e44_48, e44_49, e44_51, e44_52, e44_53, e44_56, e44_59, e44_60, e44_62, e44_63, e44_64, e44_67, e44_68, e44_69, e44_70, e44_71, e44_72, e44_73, e44_76, e44_77, e44_80, e44_81, e44_82, e44_83, e44_84, e44_86, e44_89, e44_92, e44_93, e44_94, e44_95, e44_98, e44_100, e44_101, e44_102, e44_105, e44_108, e44_109, e44_110, e44_111, e44_112, e44_115, e44_118, e44_119, e44_122, e44_123, e44_124, e44_125, e44_126, e44_127, e44_128, e44_129, e44_130, e44_131, e44_132, e44_133, e44_134, e44_135, e44_136, e44_139, e44_140, e44_143, e44_146, e44_147, e44_148, e44_151, e44_154, e44_155, e44_156, e44_157, e44_158, e44_159, e44_162, e44_163, e44_166, am_k_some, va_rf_some, va_rf_none, tl_some, tl_none, am_clr_int, am_clr_ref, am_clr_none, am_clr_long, am_w_nil, am_w_int, am_w_ref, am_w_long, am_w_null, am_bb_0, am_bb_1, am_bb_bI, xK_sI, xR_sI, xS_sI, xN_sI, xK_sL, xR_sL, xS_sL, xN_sL, xK_sR, xR_sR, xS_sR, xN_sR, xK_sA, xR_sA, xS_sA, xN_sA, Nat.reduceAdd, Nat.reduceLeDiff, sI_sA, I_sA', sA_sA, I_sA, I_sA', nI_add, mul_nI, bI_0, bI_1, p.k, rs, p.r1, p.k1, p.r2, p.k2, p.r3, p.k3, p.r4, p.k4, p.r5, p.k5, p.r6, p.k6, p.r7, p.k7, p.r8, p.k8, k.k, k.r0, k.k0, k.rl, k.r1, k.r3, ko.k, ko.r0, ko.k0, ko.r1, ko.k1, ko.r2, ko.k2, ko.r3, ko.k3, ko.r4, ko.k4, ix_nI, cl_nI, lt_nI, eq_nI, sub_nI, Nat.reduceEqDiff, Nat.one_ne_zero, Nat.not_lt_zero, ↓reduceIte, nn, hnl, lf, ft]
      · rw [decide_eq_false cd, Bool.not_false, bI_t] at ft
        have okc : okB S n th dk P (6 * j + i) = true := ok_iff.2 (by rw [c6, c7]; exact ⟨hnl, u, cd⟩)
        have V' : Vd S n dl th dk ((i, j) :: P) := by
          have := ok_vd V hl (show 6 * j ≤ 6 * j + i by omega) (by omega) okc
          rw [c6, c7] at this
          exact this
        obtain ⟨m1, e1, F1, D1⟩ := sp_48 (d := d + 1) C H V V' D ha
        have Q1 : FqC o a m m1 := ⟨F1.mono (fun x hx => Or.inr (Or.inl ⟨hx.1, hx.2.1⟩)), fun j hj => by rw [F1.i (by omega)]⟩
        have C1 := C.fq ha Q1
        have b1 : BsC m1 o a n th b := by
          rcases b with _ | ⟨c, bl, bp⟩
          · exact ⟨by rw [F1.i (by omega)]; exact hb.1, by rw [F1.i (by omega)]; exact hb.2⟩
          · exact ⟨by rw [F1.i (by omega)]; exact hb.1, by rw [F1.i (by omega)]; exact hb.2.1, fun x hx => by rw [F1.i (by omega), F1.i (by omega), F1.i (by omega)]; exact hb.2.2 x hx⟩
        obtain ⟨m2, e2, Q2, D2, b2⟩ := ih i hnl V' m1 b C1 D1 b1 ok (fp_fq Q1 ha fp)
        have cse : csP S th dk ((i, j) :: P) j = csP S th dk P j := sumN_congr (fun x hx => lc_ne (by show j ≠ x; omega))
        have est : exA S L n dl th dk (n - ((i, j) :: P).length) ((i, j) :: P) j b = stp S L n dl th dk (n - P.length - 1) P (6 * j + i) b := by
          unfold stp
          rw [if_pos okc, c6, c7, List.length_cons, show n - (P.length + 1) = n - P.length - 1 by omega]
        rw [est] at b2
        rw [cse, List.length_cons] at e2
        have ok2 : BsOk n (stp S L n dl th dk (n - P.length - 1) P (6 * j + i) b) := by
          rw [← est]
          exact ex_ok H _ V' (fun x hx => by
            rcases List.mem_cons.1 hx with e | e
            · rw [e]; exact Nat.le_refl _
            · exact hl x e) (by rw [List.length_cons]; omega) ok
        have C2 := C1.fq ha Q2
        have e43 := sp_43 (d := d + 4) C2 H hnl
        have sp : (if S (900 + th i) = nI 3 then 3 else 1) = spanS S (th i) := rfl
        have hs : spanS S (th i) ≤ rmP S th dk P j := cd_rm H K hnl hj cd
        have l4 := H.l40 hj
        have rl : rmP S th dk P j ≤ 40 := by unfold rmP; omega
        have ro2 : mI m2 (o + 6) j = nI (rmP S th dk P j - spanS S (th i)) := by
          rw [D2.ro j hj, rm_c H, if_pos rfl]
        have rr : rmP S th dk P j - spanS S (th i) + spanS S (th i) = rmP S th dk P j := by omega
        generalize hm3 : sA (sA m2 (o + 6) (up1 (mI m2 (o + 6)) j (nI (rmP S th dk P j)))) (o + 7) (up1 (mI m2 (o + 7)) i (-1)) = m3
        have Q3 : FqC o a m2 m3 := by
          rw [← hm3]
          exact ((FqC.refl o a m2).sA ha (by omega)).sA ha (by omega)
        have F3 : FrP (fun x => x = o + 6 ∨ x = o + 7) m2 m3 := by
          rw [← hm3]
          exact ((FrP.refl _ m2).sA (Or.inl rfl)).sA (Or.inr rfl)
        have D3 : PD m3 o S n dl th dk P j := pd_back H V V' D2 (F3.i (by omega)) (F3.i (by omega)) (by rw [← hm3, I_sA' _ _ (by omega), I_sA]) (by rw [← hm3, I_sA]) (F3.i (by omega))
        have b3 : BsC m3 o a n th (stp S L n dl th dk (n - P.length - 1) P (6 * j + i) b) := by
          rcases hst : stp S L n dl th dk (n - P.length - 1) P (6 * j + i) b with _ | ⟨c, bl, bp⟩
          · rw [hst] at b2
            exact ⟨by rw [F3.i (by omega)]; exact b2.1, by rw [F3.i (by omega)]; exact b2.2⟩
          · rw [hst] at b2
            exact ⟨by rw [F3.i (by omega)]; exact b2.1, by rw [F3.i (by omega)]; exact b2.2.1, fun x hx => by rw [F3.i (by omega), F3.i (by omega), F3.i (by omega)]; exact b2.2.2 x hx⟩
        have Q13 := (Q1.trans Q2).trans Q3
        obtain ⟨m4, e4, Q4, D4, b4, ok4⟩ := ihr (i + 1) m3 _ (by omega) (C2.fq ha Q3) D3 b3 ok2 (fp_fq Q13 ha fp)
        refine ⟨m4, ?_, Q13.trans Q4, D4, b4, ok4⟩
        rw [← e4, e44_28]
        have vl : P.length ≤ 6 := by omega
        have p1 := C1.p.k
        have X1 : ev (d + 5) 44 30 [some (.ref o), some (.int (nI j)), some (.int (nI P.length)), some (.int (nI (csP S th dk P j))), some (.int (nI i))] [.int (nI i)] m = ev (d + 5) 44 76 [some (.ref o), some (.int (nI j)), some (.int (nI P.length)), some (.int (nI (csP S th dk P j))), some (.int (nI i))] [] m2 := by
          simp (disch := first | (simp (disch := omega) only [am_k_some, va_rf_some, va_rf_none, tl_some, tl_none, am_clr_int, am_clr_ref, am_clr_none, am_clr_long, am_w_nil, am_w_int, am_w_ref, am_w_long, am_w_null, am_bb_0, am_bb_1, am_bb_bI, xK_sI, xR_sI, xS_sI, xN_sI, xK_sL, xR_sL, xS_sL, xN_sL, xK_sR, xR_sR, xS_sR, xN_sR, xK_sA, xR_sA, xS_sA, xN_sA, Nat.reduceAdd, Nat.reduceLeDiff, sI_sA, I_sA', sA_sA, I_sA, I_sA', nI_add, mul_nI, bI_0, bI_1, p.k, rs, p.r1, p.k1, p.r2, p.k2, p.r3, p.k3, p.r4, p.k4, p.r5, p.k5, p.r6, p.k6, p.r7, p.k7, p.r8, p.k8, k.k, k.r0, k.k0, k.rl, k.r1, k.r3, ko.k, ko.r0, ko.k0, ko.r1, ko.k1, ko.r2, ko.k2, ko.r3, ko.k3, ko.r4, ko.k4, p1, ix_nI, cl_nI]; done) | omega | assumption) only [e44_0, e44_1, e44_2, e44_5, e44_8, e44_9, e44_10, e44_13, e44_16, e44_17, e44_18, e44_21, e44_24, e44_25, e44_26, e44_30, e44_31, e44_34, e44_37, e44_38, e44_41, e44_43, e44_44, e44_45, e44_48, e44_49, e44_51, e44_52, e44_53, e44_56, e44_59, e44_60, e44_62, e44_63, e44_64, e44_67, e44_68, e44_69, e44_70, e44_71, e44_72, e44_73, e44_77, e44_80, e44_81, e44_82, e44_83, e44_84, e44_86, e44_89, e44_92, e44_93, e44_94, e44_95, e44_98, e44_100, e44_101, e44_102, e44_105, e44_108, e44_109, e44_110, e44_111, e44_112, e44_115, e44_118, e44_119, e44_122, e44_123, e44_124, e44_125, e44_126, e44_127, e44_128, e44_129, e44_130, e44_131, e44_132, e44_133, e44_134, e44_135, e44_136, e44_139, e44_140, e44_143, e44_146, e44_147, e44_148, e44_151, e44_154, e44_155, e44_156, e44_157, e44_158, e44_159, e44_162, e44_163, e44_166, am_k_some, va_rf_some, va_rf_none, tl_some, tl_none, am_clr_int, am_clr_ref, am_clr_none, am_clr_long, am_w_nil, am_w_int, am_w_ref, am_w_long, am_w_null, am_bb_0, am_bb_1, am_bb_bI, xK_sI, xR_sI, xS_sI, xN_sI, xK_sL, xR_sL, xS_sL, xN_sL, xK_sR, xR_sR, xS_sR, xN_sR, xK_sA, xR_sA, xS_sA, xN_sA, Nat.reduceAdd, Nat.reduceLeDiff, sI_sA, I_sA', sA_sA, I_sA, I_sA', nI_add, mul_nI, bI_0, bI_1, p.k, rs, p.r1, p.k1, p.r2, p.k2, p.r3, p.k3, p.r4, p.k4, p.r5, p.k5, p.r6, p.k6, p.r7, p.k7, p.r8, p.k8, k.k, k.r0, k.k0, k.rl, k.r1, k.r3, ko.k, ko.r0, ko.k0, ko.r1, ko.k1, ko.r2, ko.k2, ko.r3, ko.k3, ko.r4, ko.k4, p1, ix_nI, cl_nI, lt_nI, eq_nI, sub_nI, Nat.reduceEqDiff, Nat.one_ne_zero, Nat.not_lt_zero, ↓reduceIte, nn, hnl, lf, ft, e1, e2]
        have X2 : ev (d + 5) 44 76 [some (.ref o), some (.int (nI j)), some (.int (nI P.length)), some (.int (nI (csP S th dk P j))), some (.int (nI i))] [] m2 = ev (d + 5) 44 28 [some (.ref o), some (.int (nI j)), some (.int (nI P.length)), some (.int (nI (csP S th dk P j))), some (.int (nI (i + 1)))] [] m3 := by
          rw [← hm3]
          clear hm3 e1 e2 ft X1
          have p := C2.p
          have rs := C2.rs
          have k := C2.sk
          have ko := k.lo
          simp (disch := first | (simp (disch := omega) only [am_k_some, va_rf_some, va_rf_none, tl_some, tl_none, am_clr_int, am_clr_ref, am_clr_none, am_clr_long, am_w_nil, am_w_int, am_w_ref, am_w_long, am_w_null, am_bb_0, am_bb_1, am_bb_bI, xK_sI, xR_sI, xS_sI, xN_sI, xK_sL, xR_sL, xS_sL, xN_sL, xK_sR, xR_sR, xS_sR, xN_sR, xK_sA, xR_sA, xS_sA, xN_sA, Nat.reduceAdd, Nat.reduceLeDiff, sI_sA, I_sA', sA_sA, I_sA, I_sA', nI_add, mul_nI, bI_0, bI_1, p.k, rs, p.r1, p.k1, p.r2, p.k2, p.r3, p.k3, p.r4, p.k4, p.r5, p.k5, p.r6, p.k6, p.r7, p.k7, p.r8, p.k8, k.k, k.r0, k.k0, k.rl, k.r1, k.r3, ko.k, ko.r0, ko.k0, ko.r1, ko.k1, ko.r2, ko.k2, ko.r3, ko.k3, ko.r4, ko.k4, ix_nI, cl_nI]; done) | omega | assumption) only [e44_0, e44_1, e44_2, e44_5, e44_8, e44_9, e44_10, e44_13, e44_16, e44_17, e44_18, e44_21, e44_24, e44_25, e44_26, e44_30, e44_31, e44_34, e44_37, e44_38, e44_41, e44_43, e44_44, e44_45, e44_48, e44_49, e44_51, e44_52, e44_53, e44_56, e44_59, e44_60, e44_62, e44_63, e44_64, e44_67, e44_68, e44_69, e44_70, e44_71, e44_72, e44_73, e44_76, e44_77, e44_80, e44_81, e44_82, e44_83, e44_84, e44_86, e44_89, e44_92, e44_93, e44_94, e44_95, e44_98, e44_100, e44_101, e44_102, e44_105, e44_108, e44_109, e44_110, e44_111, e44_112, e44_115, e44_118, e44_119, e44_122, e44_123, e44_124, e44_125, e44_126, e44_127, e44_128, e44_129, e44_130, e44_131, e44_132, e44_133, e44_134, e44_135, e44_136, e44_139, e44_140, e44_143, e44_146, e44_147, e44_148, e44_151, e44_154, e44_155, e44_156, e44_157, e44_158, e44_159, e44_162, e44_163, e44_166, am_k_some, va_rf_some, va_rf_none, tl_some, tl_none, am_clr_int, am_clr_ref, am_clr_none, am_clr_long, am_w_nil, am_w_int, am_w_ref, am_w_long, am_w_null, am_bb_0, am_bb_1, am_bb_bI, xK_sI, xR_sI, xS_sI, xN_sI, xK_sL, xR_sL, xS_sL, xN_sL, xK_sR, xR_sR, xS_sR, xN_sR, xK_sA, xR_sA, xS_sA, xN_sA, Nat.reduceAdd, Nat.reduceLeDiff, sI_sA, I_sA', sA_sA, I_sA, I_sA', nI_add, mul_nI, bI_0, bI_1, p.k, rs, p.r1, p.k1, p.r2, p.k2, p.r3, p.k3, p.r4, p.k4, p.r5, p.k5, p.r6, p.k6, p.r7, p.k7, p.r8, p.k8, k.k, k.r0, k.k0, k.rl, k.r1, k.r3, ko.k, ko.r0, ko.k0, ko.r1, ko.k1, ko.r2, ko.k2, ko.r3, ko.k3, ko.r4, ko.k4, ix_nI, cl_nI, lt_nI, eq_nI, sub_nI, Nat.reduceEqDiff, Nat.one_ne_zero, Nat.not_lt_zero, ↓reduceIte, e43, ro2, sp_134, sp, rr]
        rw [X1, X2]
end SE
