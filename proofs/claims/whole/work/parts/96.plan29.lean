/-! THE CALL: stow -/
section OS
variable {B : Nat} {m : am_M}
theorem op_31 (G : Good B m) : Op1 B 121 216 [] m := by
  obtain ⟨s, c, w, W⟩ := G
  have f := c.1
  have k := f.sh
  have v := c.2.1
  have Q := W.1
  rcases pl_neg (stS s) with hp | hp
  · have H := pl_H Q hp
    generalize hb : exA (stS s) (stL s) (qN (stS s)) (dN (stS s)) (qT (stS s)) (dT (stS s)) (qN (stS s)) [] 0 none = b
    have fb : FromB (stS s) (qN (stS s)) (dN (stS s)) (qT (stS s)) (dT (stS s)) b := by
      rw [← hb]
      exact ex_from (qN (stS s)) (P := []) trivial (fun x hx => absurd hx (List.not_mem_nil)) (Nat.zero_add _) trivial
    obtain ⟨m1, e1, F1, b1⟩ := ls_c (d := 17) f v W hp hb
    have ti : ∀ k k', k < qN (stS s) → k' < qN (stS s) → qT (stS s) k = qT (stS s) k' → k = k' := fun k k' a b e => H.inj a b e
    have t4 : ∀ k, k < qN (stS s) → qT (stS s) k < 400 := fun k hk => H.t4 hk
    rcases b with _ | ⟨cc, bl, bp⟩
    · have w1 : MI m1 (B + 82) s := w.fr F1 (fun x h1 h2 => by omega)
      obtain ⟨m2, e2, F2, O2, P2, -⟩ := sp_214 (d := 29) w1.1 w1.2.1 Q hp w1.2.2.1 hb
      have w2 := mi_pl w1 F2 O2 rfl
      have FF : FrP (fun x => (B + 67 ≤ x ∧ x ≤ B + 75) ∨ (B + 18 ≤ x ∧ x ≤ B + 21) ∨ (B + 82 ≤ x ∧ x ≤ B + 97)) m m2 := (F1.mono (fun x hx => by omega)).trans (F2.1.mono (fun x hx => by omega))
      have b2 : BsC m2 (B + 67) (B + 1) (qN (stS s)) (qT (stS s)) none := ⟨by rw [F2.i (by omega)]; exact b1.1, by rw [F2.i (by omega)]; exact b1.2⟩
      have pv := plv_bs H.n6 t4 b2 P2
      have V2 : ShV m2 (B + 1) (mI m2 (B + 82 + 1)) (stL s) := sh_pl P2.1 Q v (fun x h1 h2 h3 => FF.i (by omega)) (FF.l (by omega)) pv
      have E1 : cal 39 121 [.ref B] m = some (some (.int (-15)), m1) := by
        have lt : (-15 : Int32) < nI 0 := by decide
        change cal 38 119 [.ref B] m = some (some (Value.int (-15)), m1) at e1
        simp (disch := first | (simp (disch := omega) only [am_k_some, va_rf_some, va_rf_none, tl_some, tl_none, am_clr_int, am_clr_ref, am_clr_none, am_clr_long, am_w_nil, am_w_int, am_w_ref, am_w_long, am_w_null, am_bb_0, am_bb_1, am_bb_bI, xK_sI, xR_sI, xS_sI, xN_sI, xK_sL, xR_sL, xS_sL, xN_sL, xK_sR, xR_sR, xS_sR, xN_sR, xK_sA, xR_sA, xS_sA, xN_sA, Nat.reduceAdd, Nat.reduceLeDiff, sI_sA, I_sA', sA_sA, I_sA, I_sA', nI_add, mul_nI, bI_0, bI_1, f.k, f.r0, f.r1, f.r2, f.k2, f.r4, f.k4, f.r5, f.k5, f.r6, f.k6, f.r7, f.k7, f.r9, f.k9, k.k, k.r0, k.k0, k.rl, k.r1, k.r2, k.ac.k, k.lo.k, ix_nI, cl_nI]; done) | omega | assumption) only [c121, e121_0, e121_1, e121_4, e121_5, e121_6, e121_9, e121_10, e121_13, e121_16, e121_17, e121_20, e121_23, e121_26, e121_27, am_k_some, va_rf_some, va_rf_none, tl_some, tl_none, am_clr_int, am_clr_ref, am_clr_none, am_clr_long, am_w_nil, am_w_int, am_w_ref, am_w_long, am_w_null, am_bb_0, am_bb_1, am_bb_bI, xK_sI, xR_sI, xS_sI, xN_sI, xK_sL, xR_sL, xS_sL, xN_sL, xK_sR, xR_sR, xS_sR, xN_sR, xK_sA, xR_sA, xS_sA, xN_sA, Nat.reduceAdd, Nat.reduceLeDiff, sI_sA, I_sA', sA_sA, I_sA, I_sA', nI_add, mul_nI, bI_0, bI_1, f.k, f.r0, f.r1, f.r2, f.k2, f.r4, f.k4, f.r5, f.k5, f.r6, f.k6, f.r7, f.k7, f.r9, f.k9, k.k, k.r0, k.k0, k.rl, k.r1, k.r2, k.ac.k, k.lo.k, ix_nI, cl_nI, lt_nI, eq_nI, sub_nI, Nat.reduceEqDiff, Nat.one_ne_zero, Nat.not_lt_zero, ↓reduceIte, e1, lt]
      have E2 : cal 39 216 [.ref (B + 82)] m1 = some (some (.int (-15)), m2) := by
        have lt : (-15 : Int32) < nI 0 := by decide
        change cal 38 214 [.ref (B + 82)] m1 = some (some (Value.int (-15)), m2) at e2
        have h := w1.1
        simp (disch := first | (simp (disch := omega) only [am_k_some, va_rf_some, va_rf_none, tl_some, tl_none, am_clr_int, am_clr_ref, am_clr_none, am_clr_long, am_w_nil, am_w_int, am_w_ref, am_w_long, am_w_null, am_bb_0, am_bb_1, am_bb_bI, xK_sI, xR_sI, xS_sI, xN_sI, xK_sL, xR_sL, xS_sL, xN_sL, xK_sR, xR_sR, xS_sR, xN_sR, xK_sA, xR_sA, xS_sA, xN_sA, Nat.reduceAdd, Nat.reduceLeDiff, sI_sA, I_sA', sA_sA, I_sA, I_sA', nI_add, mul_nI, bI_0, bI_1, h.k, h.r0, h.k0, h.r1, h.k1, h.r2, h.k2, h.r3, h.k3, h.r4, h.k4, h.r5, h.k5, h.r6, h.k6, h.r8, h.k8, h.r9, h.k9, h.r15, h.k15, h.r17, h.k17, h.r19, h.k19, h.r20, h.k20, h.r21, h.k21, h.r22, h.k22, h, Mo_sA, Mo_sL, ix_nI, cl_nI]; done) | omega | (simp only [I_sA]; assumption)) only [c216, e216_0, e216_1, e216_4, e216_5, e216_6, e216_9, e216_10, am_k_some, va_rf_some, va_rf_none, tl_some, tl_none, am_clr_int, am_clr_ref, am_clr_none, am_clr_long, am_w_nil, am_w_int, am_w_ref, am_w_long, am_w_null, am_bb_0, am_bb_1, am_bb_bI, xK_sI, xR_sI, xS_sI, xN_sI, xK_sL, xR_sL, xS_sL, xN_sL, xK_sR, xR_sR, xS_sR, xN_sR, xK_sA, xR_sA, xS_sA, xN_sA, Nat.reduceAdd, Nat.reduceLeDiff, sI_sA, I_sA', sA_sA, I_sA, I_sA', nI_add, mul_nI, bI_0, bI_1, h.k, h.r0, h.k0, h.r1, h.k1, h.r2, h.k2, h.r3, h.k3, h.r4, h.k4, h.r5, h.k5, h.r6, h.k6, h.r8, h.k8, h.r9, h.k9, h.r15, h.k15, h.r17, h.k17, h.r19, h.k19, h.r20, h.k20, h.r21, h.k21, h.r22, h.k22, ix_nI, cl_nI, lt_nI, eq_nI, sub_nI, Nat.reduceEqDiff, Nat.one_ne_zero, Nat.not_lt_zero, ↓reduceIte, e2, lt]
      obtain ⟨c0, c1, c2, c3, c4, c5, c6, c7, ix, c8⟩ := c
      refine ⟨-15, m1, m2, E1, E2, ⟨(mI m2 (B + 82 + 1), stL s, stP s, stN s, stF s, stD s, stZ s, stW s, stK s), ⟨c0.fr FF, V2, ?_, ?_, ?_, ?_, ?_, ?_, ix, c8.fr FF (fun x hx => by omega)⟩, w2, wf_pl P2.1 Q, W.2⟩, FF.bel (fun x hx => by omega)⟩
      · intro j hj; rw [FF.i (by omega)]; exact c2 j hj
      · rw [FF.i (by omega)]; exact c3
      · intro j hj; rw [FF.i (by omega)]; exact c4 j hj
      · intro j hj; rw [FF.i (by omega)]; exact c5 j hj
      · rw [FF.i (by omega)]; exact c6
      · unfold ReV; rw [FF.l (by omega)]; exact c7
    · obtain ⟨P, V, hl, -, rfl, rfl⟩ := fb
      obtain ⟨q1, q2, q3⟩ := id b1
      have PX := pln_s (S := stS s) (b := some (cc, vL (stS s) (qT (stS s)) (dT (stS s)) P, vP (stS s) (qT (stS s)) (dT (stS s)) P)) t4 ti
      generalize hX : plnS (stS s) (qN (stS s)) (qT (stS s)) (some (cc, vL (stS s) (qT (stS s)) (dT (stS s)) P, vP (stS s) (qT (stS s)) (dT (stS s)) P)) = X at *
      have hXS := PX.1
      have WX := wf_pl hXS Q
      have sea : ¬ X 6501 = nI 1 := by rw [hXS _ (by omega)]; exact H.sea
      have pv := plv_bs (m := m1) (o := B + 67) (a := B + 1) H.n6 t4 b1 PX
      have V1 : ShV m1 (B + 1) X (stL s) := sh_pl hXS Q v (fun x h1 h2 h3 => F1.i (by omega)) (F1.l (by omega)) pv
      have f1 := f.fr F1
      have k1' := f1.sh
      obtain ⟨m2, e2, F2, V2⟩ := sp_88 (d := 35) H V hl hXS WX k1' V1 q2 q3
      have I := sw_all H V hl hXS WX _ (Nat.le_refl _)
      have WF := wf_sw WX sea I
      obtain ⟨ag, -, -, -, -⟩ := id I
      have k2' := k1'.fr F2
      have e3 := sp_1 (d := 38) k2'.ac
      have V3 := sh_clear V2 (ag.nmok WX.nm) (ag.lnok WX.ln) (ag.mv (by omega) WX.m1) (ag.mv (by omega) WX.m2)
      generalize hm3 : sA m2 (B + 1 + 12) (up1 (up1 (mI m2 (B + 1 + 12)) 4 (nI 0)) 5 (nI 0)) = m3 at *
      have F3 : FrP (fun x => x = B + 13) m2 m3 := by rw [← hm3]; exact (FrP.refl (fun x => x = B + 13) m2).sA (by omega)
      have FC : FrP (fun x => (B + 67 ≤ x ∧ x ≤ B + 75) ∨ (B + 1 ≤ x ∧ x < B + 67)) m m3 := ((F1.mono (fun x hx => by omega)).trans (F2.p.mono (fun x hx => by omega))).trans (F3.mono (fun x hx => by omega))
      have w3 : MI m3 (B + 82) s := w.fr FC (fun x h1 h2 => by omega)
      obtain ⟨m4, e4, F4, O4, P4, bm4, ok4, tm4, ts4⟩ := sp_214 (d := 29) w3.1 w3.2.1 Q hp w3.2.2.1 hb
      have eX : mI m4 (B + 82 + 1) = X := pls_u P4 PX
      have h4 := w3.1.frI F4
      obtain ⟨-, bs4⟩ := bm4
      obtain ⟨m5, e5, F5, a5⟩ := sp_216l (d := 36) (M := B + 82) (X := X) (bl := vL (stS s) (qT (stS s)) (dT (stS s)) P) (bp := vP (stS s) (qT (stS s)) (dT (stS s)) P) (x1 := nI cc) H.n6 t4 (fun k hk => by
        obtain ⟨a1, a2, a3, a4, a5, a6, a7⟩ := sw_k H V hl hXS hk (sw_all H V hl hXS WX k (by omega))
        exact ⟨a1, a2, a5⟩) (qN (stS s)) 0 m4 (Nat.zero_add _) h4 eX tm4 ts4 bs4
      have O5 : ∀ j, j ≠ 16 → j ≠ 18 → j ≠ 23 → mI m5 (B + 82) j = mI m3 (B + 82) j := fun j a b c => by rw [F5.i (by omega)]; exact O4 j a b c
      have w5 := mi_pl w3 (F4.trans (F5.mono (fun x hx => by omega))) O5 a5
      have FF : FrP (fun x => (B + 67 ≤ x ∧ x ≤ B + 75) ∨ (B + 1 ≤ x ∧ x < B + 67) ∨ (B + 82 ≤ x ∧ x ≤ B + 97)) m m5 := (FC.mono (fun x hx => by omega)).trans ((F4.1.mono (fun x hx => by omega)).trans (F5.1.mono (fun x hx => by omega)))
      have V5 : ShV m5 (B + 1) (up1 (swS X (qT (stS s)) (vL (stS s) (qT (stS s)) (dT (stS s)) P) (vP (stS s) (qT (stS s)) (dT (stS s)) P) (qN (stS s))) 6507 (nI 0)) (stL s) := V3.keep (fun y y1 y2 => by rw [F5.i (by omega), F4.i (by omega)]) (by rw [F5.2, F4.2])
      have oc : cc < 1000 := ok4.1
      have z : ¬ cc < 0 := by omega
      have E1 : cal 39 121 [.ref B] m = some (some (.int (nI cc)), m3) := by
        change cal 38 119 [.ref B] m = some (some (Value.int (nI cc)), m1) at e1
        have g1 := f1.k
        have g2 := f1.r0
        have g3 := k1'.k
        have f2 := f1.fr F2.p
        have g4 := f2.k
        have g5 := f2.r0
        have g6 := k2'.k
        have g7 := k2'.r2
        have g8 := k2'.ac.k
        rw [← hm3] at e3 ⊢
        simp (disch := first | (simp (disch := omega) only [am_k_some, va_rf_some, va_rf_none, tl_some, tl_none, am_clr_int, am_clr_ref, am_clr_none, am_clr_long, am_w_nil, am_w_int, am_w_ref, am_w_long, am_w_null, am_bb_0, am_bb_1, am_bb_bI, xK_sI, xR_sI, xS_sI, xN_sI, xK_sL, xR_sL, xS_sL, xN_sL, xK_sR, xR_sR, xS_sR, xN_sR, xK_sA, xR_sA, xS_sA, xN_sA, Nat.reduceAdd, Nat.reduceLeDiff, sI_sA, I_sA', sA_sA, I_sA, I_sA', nI_add, mul_nI, bI_0, bI_1, f.k, f.r0, f.r1, f.r2, f.k2, f.r4, f.k4, f.r5, f.k5, f.r6, f.k6, f.r7, f.k7, f.r9, f.k9, k.k, k.r0, k.k0, k.rl, k.r1, k.r2, k.ac.k, k.lo.k, g1, g2, g3, g4, g5, g6, g7, g8, ix_nI, cl_nI]; done) | omega | assumption) only [c121, e121_0, e121_1, e121_4, e121_5, e121_6, e121_9, e121_10, e121_13, e121_16, e121_17, e121_20, e121_23, e121_26, e121_27, am_k_some, va_rf_some, va_rf_none, tl_some, tl_none, am_clr_int, am_clr_ref, am_clr_none, am_clr_long, am_w_nil, am_w_int, am_w_ref, am_w_long, am_w_null, am_bb_0, am_bb_1, am_bb_bI, xK_sI, xR_sI, xS_sI, xN_sI, xK_sL, xR_sL, xS_sL, xN_sL, xK_sR, xR_sR, xS_sR, xN_sR, xK_sA, xR_sA, xS_sA, xN_sA, Nat.reduceAdd, Nat.reduceLeDiff, sI_sA, I_sA', sA_sA, I_sA, I_sA', nI_add, mul_nI, bI_0, bI_1, f.k, f.r0, f.r1, f.r2, f.k2, f.r4, f.k4, f.r5, f.k5, f.r6, f.k6, f.r7, f.k7, f.r9, f.k9, k.k, k.r0, k.k0, k.rl, k.r1, k.r2, k.ac.k, k.lo.k, g1, g2, g3, g4, g5, g6, g7, g8, ix_nI, cl_nI, lt_nI, eq_nI, sub_nI, Nat.reduceEqDiff, Nat.one_ne_zero, Nat.not_lt_zero, ↓reduceIte, e1, z, e2, e3]
      have E2 : cal 39 216 [.ref (B + 82)] m3 = some (some (.int (nI cc)), m5) := by
        change cal 38 214 [.ref (B + 82)] m3 = some (some (Value.int (nI cc)), m4) at e4
        rw [← e5]
        have h := w3.1
        simp (disch := first | (simp (disch := omega) only [am_k_some, va_rf_some, va_rf_none, tl_some, tl_none, am_clr_int, am_clr_ref, am_clr_none, am_clr_long, am_w_nil, am_w_int, am_w_ref, am_w_long, am_w_null, am_bb_0, am_bb_1, am_bb_bI, xK_sI, xR_sI, xS_sI, xN_sI, xK_sL, xR_sL, xS_sL, xN_sL, xK_sR, xR_sR, xS_sR, xN_sR, xK_sA, xR_sA, xS_sA, xN_sA, Nat.reduceAdd, Nat.reduceLeDiff, sI_sA, I_sA', sA_sA, I_sA, I_sA', nI_add, mul_nI, bI_0, bI_1, h.k, h.r0, h.k0, h.r1, h.k1, h.r2, h.k2, h.r3, h.k3, h.r4, h.k4, h.r5, h.k5, h.r6, h.k6, h.r8, h.k8, h.r9, h.k9, h.r15, h.k15, h.r17, h.k17, h.r19, h.k19, h.r20, h.k20, h.r21, h.k21, h.r22, h.k22, h, Mo_sA, Mo_sL, ix_nI, cl_nI]; done) | omega | (simp only [I_sA]; assumption)) only [c216, e216_0, e216_1, e216_4, e216_5, e216_6, e216_11, e216_12, am_k_some, va_rf_some, va_rf_none, tl_some, tl_none, am_clr_int, am_clr_ref, am_clr_none, am_clr_long, am_w_nil, am_w_int, am_w_ref, am_w_long, am_w_null, am_bb_0, am_bb_1, am_bb_bI, xK_sI, xR_sI, xS_sI, xN_sI, xK_sL, xR_sL, xS_sL, xN_sL, xK_sR, xR_sR, xS_sR, xN_sR, xK_sA, xR_sA, xS_sA, xN_sA, Nat.reduceAdd, Nat.reduceLeDiff, sI_sA, I_sA', sA_sA, I_sA, I_sA', nI_add, mul_nI, bI_0, bI_1, h.k, h.r0, h.k0, h.r1, h.k1, h.r2, h.k2, h.r3, h.k3, h.r4, h.k4, h.r5, h.k5, h.r6, h.k6, h.r8, h.k8, h.r9, h.k9, h.r15, h.k15, h.r17, h.k17, h.r19, h.k19, h.r20, h.k20, h.r21, h.k21, h.r22, h.k22, ix_nI, cl_nI, lt_nI, eq_nI, sub_nI, Nat.reduceEqDiff, Nat.one_ne_zero, Nat.not_lt_zero, ↓reduceIte, e4, z]
      obtain ⟨c0, c1, c2, c3, c4, c5, c6, c7, ix, c8⟩ := c
      refine ⟨nI cc, m3, m5, E1, E2, ⟨(up1 (swS X (qT (stS s)) (vL (stS s) (qT (stS s)) (dT (stS s)) P) (vP (stS s) (qT (stS s)) (dT (stS s)) P) (qN (stS s))) 6507 (nI 0), stL s, stP s, stN s, stF s, stD s, stZ s, stW s, stK s), ⟨c0.fr FF, V5, ?_, ?_, ?_, ?_, ?_, ?_, ix, c8.fr FF (fun x hx => by omega)⟩, w5, WF, W.2⟩, FF.bel (fun x hx => by omega)⟩
      · intro j hj; rw [FF.i (by omega)]; exact c2 j hj
      · rw [FF.i (by omega)]; exact c3
      · intro j hj; rw [FF.i (by omega)]; exact c4 j hj
      · intro j hj; rw [FF.i (by omega)]; exact c5 j hj
      · rw [FF.i (by omega)]; exact c6
      · unfold ReV; rw [FF.l (by omega)]; exact c7
  · have e1 := ls_n (d := 17) f v W hp
    obtain ⟨m2, e2, F2, O2⟩ := sp_214n (d := 29) w.1 w.2.1 Q hp
    have w2 := mi_pl w (F2.mono (fun x hx => by omega)) (fun j a b _ => O2 j a b) (S' := stS s) (by rw [F2.i (by omega)]; exact w.2.1)
    have E1 : cal 39 121 [.ref B] m = some (some (.int (plA (stS s))), m) := by
      simp (disch := first | (simp (disch := omega) only [am_k_some, va_rf_some, va_rf_none, tl_some, tl_none, am_clr_int, am_clr_ref, am_clr_none, am_clr_long, am_w_nil, am_w_int, am_w_ref, am_w_long, am_w_null, am_bb_0, am_bb_1, am_bb_bI, xK_sI, xR_sI, xS_sI, xN_sI, xK_sL, xR_sL, xS_sL, xN_sL, xK_sR, xR_sR, xS_sR, xN_sR, xK_sA, xR_sA, xS_sA, xN_sA, Nat.reduceAdd, Nat.reduceLeDiff, sI_sA, I_sA', sA_sA, I_sA, I_sA', nI_add, mul_nI, bI_0, bI_1, f.k, f.r0, f.r1, f.r2, f.k2, f.r4, f.k4, f.r5, f.k5, f.r6, f.k6, f.r7, f.k7, f.r9, f.k9, k.k, k.r0, k.k0, k.rl, k.r1, k.r2, k.ac.k, k.lo.k, ix_nI, cl_nI]; done) | omega | assumption) only [c121, e121_0, e121_1, e121_4, e121_5, e121_6, e121_9, e121_10, e121_13, e121_16, e121_17, e121_20, e121_23, e121_26, e121_27, am_k_some, va_rf_some, va_rf_none, tl_some, tl_none, am_clr_int, am_clr_ref, am_clr_none, am_clr_long, am_w_nil, am_w_int, am_w_ref, am_w_long, am_w_null, am_bb_0, am_bb_1, am_bb_bI, xK_sI, xR_sI, xS_sI, xN_sI, xK_sL, xR_sL, xS_sL, xN_sL, xK_sR, xR_sR, xS_sR, xN_sR, xK_sA, xR_sA, xS_sA, xN_sA, Nat.reduceAdd, Nat.reduceLeDiff, sI_sA, I_sA', sA_sA, I_sA, I_sA', nI_add, mul_nI, bI_0, bI_1, f.k, f.r0, f.r1, f.r2, f.k2, f.r4, f.k4, f.r5, f.k5, f.r6, f.k6, f.r7, f.k7, f.r9, f.k9, k.k, k.r0, k.k0, k.rl, k.r1, k.r2, k.ac.k, k.lo.k, ix_nI, cl_nI, lt_nI, eq_nI, sub_nI, Nat.reduceEqDiff, Nat.one_ne_zero, Nat.not_lt_zero, ↓reduceIte, e1, hp]
    have E2 : cal 39 216 [.ref (B + 82)] m = some (some (.int (plA (stS s))), m2) := by
      have h := w.1
      simp (disch := first | (simp (disch := omega) only [am_k_some, va_rf_some, va_rf_none, tl_some, tl_none, am_clr_int, am_clr_ref, am_clr_none, am_clr_long, am_w_nil, am_w_int, am_w_ref, am_w_long, am_w_null, am_bb_0, am_bb_1, am_bb_bI, xK_sI, xR_sI, xS_sI, xN_sI, xK_sL, xR_sL, xS_sL, xN_sL, xK_sR, xR_sR, xS_sR, xN_sR, xK_sA, xR_sA, xS_sA, xN_sA, Nat.reduceAdd, Nat.reduceLeDiff, sI_sA, I_sA', sA_sA, I_sA, I_sA', nI_add, mul_nI, bI_0, bI_1, h.k, h.r0, h.k0, h.r1, h.k1, h.r2, h.k2, h.r3, h.k3, h.r4, h.k4, h.r5, h.k5, h.r6, h.k6, h.r8, h.k8, h.r9, h.k9, h.r15, h.k15, h.r17, h.k17, h.r19, h.k19, h.r20, h.k20, h.r21, h.k21, h.r22, h.k22, h, Mo_sA, Mo_sL, ix_nI, cl_nI]; done) | omega | (simp only [I_sA]; assumption)) only [c216, e216_0, e216_1, e216_4, e216_5, e216_6, e216_9, e216_10, am_k_some, va_rf_some, va_rf_none, tl_some, tl_none, am_clr_int, am_clr_ref, am_clr_none, am_clr_long, am_w_nil, am_w_int, am_w_ref, am_w_long, am_w_null, am_bb_0, am_bb_1, am_bb_bI, xK_sI, xR_sI, xS_sI, xN_sI, xK_sL, xR_sL, xS_sL, xN_sL, xK_sR, xR_sR, xS_sR, xN_sR, xK_sA, xR_sA, xS_sA, xN_sA, Nat.reduceAdd, Nat.reduceLeDiff, sI_sA, I_sA', sA_sA, I_sA, I_sA', nI_add, mul_nI, bI_0, bI_1, h.k, h.r0, h.k0, h.r1, h.k1, h.r2, h.k2, h.r3, h.k3, h.r4, h.k4, h.r5, h.k5, h.r6, h.k6, h.r8, h.k8, h.r9, h.k9, h.r15, h.k15, h.r17, h.k17, h.r19, h.k19, h.r20, h.k20, h.r21, h.k21, h.r22, h.k22, ix_nI, cl_nI, lt_nI, eq_nI, sub_nI, Nat.reduceEqDiff, Nat.one_ne_zero, Nat.not_lt_zero, ↓reduceIte, e2, hp]
    exact ⟨_, m, m2, E1, E2, ⟨s, c.fr F2.1 (fun x h1 h2 => by omega), w2, W⟩, F2.1.bel (fun x hx => by omega)⟩
end OS
