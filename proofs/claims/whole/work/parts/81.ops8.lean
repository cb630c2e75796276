/-! THE CALLS: sail, why -/
theorem i64_0 : (nI 0).toInt64 = 0 := by decide
theorem i64_1 : (nI 1).toInt64 = 1 := by decide
theorem i64_m : (-1 : Int32).toInt64 = -1 := by decide
theorem lim_neg {L v : Int64} (h : LmOk L) : (L < v → 0 < v) ∧ (v < -L → ¬ 0 < v) := by
  obtain ⟨h1, h2⟩ := h
  have z0 : (0 : Int64).toInt = 0 := by decide
  have zm : (1000000000000 : Int64).toInt = 1000000000000 := by decide
  rw [Int64.lt_iff_toInt_lt, z0] at h1
  rw [Int64.lt_iff_toInt_lt, zm] at h2
  constructor
  · intro q
    rw [Int64.lt_iff_toInt_lt] at q ⊢
    omega
  · intro q
    rw [Int64.lt_iff_toInt_lt, Int64.toInt_neg, Int.bmod_eq_of_le (by omega) (by omega)] at q
    rw [Int64.lt_iff_toInt_lt]
    omega
/-- what the model's sail does, in the same words -/
theorem ml_198 {d M : Nat} {m : am_M} {s : St} (w : MI m M s) (W : Wst s) : ∃ m', cal (d + 6) 198 [.ref M] m = some (some (.int (saA (stS s) (stL s))), m') ∧ FrP (fun x => x = M ∨ x = M + 1) m m' ∧ mI m' (M + 1) = (if saA (stS s) (stL s) = nI 1 then sailE (stS s) else stS s) ∧ (∀ j, j ≠ 11 → j ≠ 12 → j ≠ 14 → mI m' M j = mI m M j) ∧ ((mI m' M 11).toInt64, (mI m' M 12).toInt64, mL m' M 13, (mI m' M 14).toInt64) = saW (stS s) (stL s) := by
  have h := w.1
  have hS := w.2.1
  have hLm := w.2.2.1
  have Q := W.1
  obtain ⟨d1, d2, d3⟩ := dy_ok Q.y
  have hL := Q.ln
  have hN := Q.nm
  have hC := Q.c.ok
  have hA := Q.w.ok Q.ln
  have beF : ∀ a b c e, FrP (fun x => x = M ∨ x = M + 1) m (beM m M a b c e) := fun a b c e => ((FrP.refl _ m).sA (Or.inl rfl)).sL (Or.inl rfl)
  have beF2 : ∀ a b c e a' b' c' e', FrP (fun x => x = M ∨ x = M + 1) m (beM (beM m M a b c e) M a' b' c' e') := fun a b c e a' b' c' e' => ((beF a b c e).sA (Or.inl rfl)).sL (Or.inl rfl)
  have beI : ∀ (m0 : am_M) a b c e, mI (beM m0 M a b c e) M = up1 (up1 (up1 (mI m0 M) 11 a) 12 b) 14 e := fun m0 a b c e => by unfold beM; rw [mI_sL, I_sA]
  have beL : ∀ (m0 : am_M) a b c e, mL (beM m0 M a b c e) M 13 = c := fun m0 a b c e => by unfold beM; rw [xL_sL, if_pos ⟨rfl, rfl⟩]
  have beW : ∀ (m0 : am_M) a b c e, ((mI (beM m0 M a b c e) M 11).toInt64, (mI (beM m0 M a b c e) M 12).toInt64, mL (beM m0 M a b c e) M 13, (mI (beM m0 M a b c e) M 14).toInt64) = (a.toInt64, b.toInt64, c, e.toInt64) := fun m0 a b c e => by
    rw [beI, beL, up1_ne (by omega), up1_ne (by omega), up1_eq, up1_ne (by omega), up1_eq, up1_eq]
  have beO : ∀ (m0 : am_M) a b c e j, j ≠ 11 → j ≠ 12 → j ≠ 14 → mI (beM m0 M a b c e) M j = mI m0 M j := fun m0 a b c e j j1 j2 j3 => by rw [beI, up1_ne j3, up1_ne j2, up1_ne j1]
  by_cases hs : stS s 6501 = nI 1
  · have e1 : saA (stS s) (stL s) = -2 := by unfold saA; rw [if_pos hs]
    have e2 : saW (stS s) (stL s) = (0, 0, 0, -1) := by unfold saW; rw [if_pos hs]
    rw [e1, e2, if_neg (by decide)]
    refine ⟨_, sp_198s h (by rw [hS]; exact hs), beF _ _ _ _, by rw [beM_S]; exact hS, fun j => beO m _ _ _ _ j, ?_⟩
    rw [beW, i64_0, i64_m]
  have hs' : ¬ mI m (M + 1) 6501 = nI 1 := by rw [hS]; exact hs
  cases h1 : fstR (farB (stS s)) (nm (stS s)) 0 with
  | some j =>
    have e1 : saA (stS s) (stL s) = -12 := by unfold saA; rw [if_neg hs, h1]
    have e2 : saW (stS s) (stL s) = ((nI j).toInt64, 0, 0, -1) := by unfold saW; rw [if_neg hs, h1]
    rw [e1, e2, if_neg (by decide)]
    refine ⟨_, sp_198f (n := 0) h (by rw [hS]; exact hN) hs' (by rw [hS]; exact h1), beF2 _ _ _ _ _ _ _ _, by rw [beM_S, beM_S]; exact hS, fun j' j1 j2 j3 => by rw [beO _ _ _ _ _ j' j1 j2 j3, beO _ _ _ _ _ j' j1 j2 j3], ?_⟩
    rw [beW, i64_0, i64_m]
  | none =>
    cases h2 : fstR (leB (stS s) (stL s)) (stS s 6503).toNatClampNeg 0 with
    | some j =>
      have e1 : saA (stS s) (stL s) = -11 := by unfold saA; rw [if_neg hs, h1, h2]
      have e2 : saW (stS s) (stL s) = if stL s < leanA (stS s) (nI j) then ((nI j).toInt64, 1, leanA (stS s) (nI j) - stL s, -1) else ((nI j).toInt64, -1, -stL s - leanA (stS s) (nI j), -1) := by unfold saW; rw [if_neg hs, h1, h2]
      rw [e1, e2, if_neg (by decide)]
      have M1 := sp_198l (d := d) (j := j) h (by rw [hS]; exact hN) (by rw [hS]; exact hA) (n := (stS s 6503).toNatClampNeg) (by rw [hS]; exact d1) d3 hs' (by rw [hS]; exact h1) (by rw [hS, hLm]; exact h2)
      rw [hS, hLm] at M1
      unfold leM at M1
      refine ⟨_, M1, beF2 _ _ _ _ _ _ _ _, by rw [beM_S, beM_S]; exact hS, fun j' j1 j2 j3 => by rw [beO _ _ _ _ _ j' j1 j2 j3, beO _ _ _ _ _ j' j1 j2 j3], ?_⟩
      have hf := (fstR_some _ _ _ h2).2.2.1
      unfold leB at hf
      rw [Bool.or_eq_true, decide_eq_true_eq, decide_eq_true_eq] at hf
      obtain ⟨n1, n2⟩ := lim_neg (v := leanA (stS s) (nI j)) W.2.1
      rw [beW, i64_m]
      by_cases hl : stL s < leanA (stS s) (nI j)
      · rw [if_pos hl, if_pos (n1 hl), if_pos (n1 hl), i64_1]
      · have hl2 : leanA (stS s) (nI j) < -stL s := by
          rcases hf with z | z
          · exact absurd z hl
          · exact z
        rw [if_neg hl, if_neg (n2 hl2), if_neg (n2 hl2), i64_m]
        have : -leanA (stS s) (nI j) - stL s = -stL s - leanA (stS s) (nI j) := by
          rw [Int64.sub_eq_add_neg, Int64.sub_eq_add_neg, Int64.add_comm]
        rw [this]
    | none =>
      cases h3 : fstR (skB (stS s)) (stS s 6503).toNatClampNeg 0 with
      | some j =>
        have e1 : saA (stS s) (stL s) = -13 := by unfold saA; rw [if_neg hs, h1, h2, h3]
        have e2 : saW (stS s) (stL s) = ((nI j).toInt64, 0, 0, (skA (stS s) (nI j)).toInt64) := by unfold saW; rw [if_neg hs, h1, h2, h3]
        rw [e1, e2, if_neg (by decide)]
        have M1 := sp_198k (d := d) (j := j) h (by rw [hS]; exact hL) (by rw [hS]; exact hN) (by rw [hS]; exact hC) (by rw [hS]; exact hA) (n := (stS s 6503).toNatClampNeg) (by rw [hS]; exact d1) d3 hs' (by rw [hS]; exact h1) (by rw [hS, hLm]; exact h2) (by rw [hS]; exact h3)
        rw [hS] at M1
        refine ⟨_, M1, beF2 _ _ _ _ _ _ _ _, by rw [beM_S, beM_S]; exact hS, fun j' j1 j2 j3 => by rw [beO _ _ _ _ _ j' j1 j2 j3, beO _ _ _ _ _ j' j1 j2 j3], ?_⟩
        rw [beW, i64_0]
      | none =>
        have e1 : saA (stS s) (stL s) = nI 1 := by unfold saA; rw [if_neg hs, h1, h2, h3]
        have e2 : saW (stS s) (stL s) = (0, 0, 0, -1) := by unfold saW; rw [if_neg hs, h1, h2, h3]
        rw [e1, e2, if_pos rfl]
        have M1 := sp_198o (d := d) h (by rw [hS]; exact hL) (by rw [hS]; exact hN) (by rw [hS]; exact hC) (by rw [hS]; exact hA) (n := (stS s 6503).toNatClampNeg) (by rw [hS]; exact d1) d3 hs' (by rw [hS]; exact h1) (by rw [hS, hLm]; exact h2) (by rw [hS]; exact h3)
        rw [hS] at M1
        refine ⟨_, M1, (beF _ _ _ _).sA (Or.inr rfl), I_sA .., fun j' j1 j2 j3 => by rw [I_sA' _ _ (by omega), beO _ _ _ _ _ j' j1 j2 j3], ?_⟩
        rw [I_sA' _ _ (by omega), mL_sA, beW, i64_0, i64_m]
theorem op_22 {B : Nat} {m : am_M} (G : Good B m) : Op1 B 112 199 [] m := by
  obtain ⟨s, c, w, W⟩ := G
  have f := c.1
  have k := f.sh
  have v := c.2.1
  have Q := W.1
  obtain ⟨m1, e1, F1, V', R'⟩ := sp_78 (d := 33) k v Q f.k4 (by omega)
  have w' := w.fr F1.p (fun x h1 h2 => by omega)
  obtain ⟨m2, e2, F2, S2, O2, W2⟩ := ml_198 (d := 32) w' W
  have C : cal 39 112 [.ref B] m = some (some (.int (saA (stS s) (stL s))), m1) := by
    simp (disch := first | (simp (disch := omega) only [am_k_some, va_rf_some, va_rf_none, tl_some, tl_none, am_clr_int, am_clr_ref, am_clr_none, am_clr_long, am_w_nil, am_w_int, am_w_ref, am_w_long, am_w_null, am_bb_0, am_bb_1, am_bb_bI, xK_sI, xR_sI, xS_sI, xN_sI, xK_sL, xR_sL, xS_sL, xN_sL, xK_sR, xR_sR, xS_sR, xN_sR, xK_sA, xR_sA, xS_sA, xN_sA, Nat.reduceAdd, Nat.reduceLeDiff, sI_sA, I_sA', sA_sA, I_sA, I_sA', nI_add, mul_nI, bI_0, bI_1, f.k, f.r0, f.r1, f.r2, f.k2, f.r4, f.k4, f.r5, f.k5, f.r6, f.k6, f.r7, f.k7, f.r9, f.k9, k.k, k.r0, k.k0, k.rl, k.r1, k.r2, k.ac.k, k.lo.k, ix_nI, cl_nI]; done) | omega | assumption) only [c112, e112_0, e112_1, e112_4, e112_5, e112_8, e112_11, am_k_some, va_rf_some, va_rf_none, tl_some, tl_none, am_clr_int, am_clr_ref, am_clr_none, am_clr_long, am_w_nil, am_w_int, am_w_ref, am_w_long, am_w_null, am_bb_0, am_bb_1, am_bb_bI, xK_sI, xR_sI, xS_sI, xN_sI, xK_sL, xR_sL, xS_sL, xN_sL, xK_sR, xR_sR, xS_sR, xN_sR, xK_sA, xR_sA, xS_sA, xN_sA, Nat.reduceAdd, Nat.reduceLeDiff, sI_sA, I_sA', sA_sA, I_sA, I_sA', nI_add, mul_nI, bI_0, bI_1, f.k, f.r0, f.r1, f.r2, f.k2, f.r4, f.k4, f.r5, f.k5, f.r6, f.k6, f.r7, f.k7, f.r9, f.k9, k.k, k.r0, k.k0, k.rl, k.r1, k.r2, k.ac.k, k.lo.k, ix_nI, cl_nI, lt_nI, eq_nI, sub_nI, Nat.reduceEqDiff, Nat.one_ne_zero, Nat.not_lt_zero, ↓reduceIte, e1]
  have M : cal 39 199 [.ref (B + 82)] m1 = some (some (.int (saA (stS s) (stL s))), m2) := by
    have := sp_199 (d := 32) w'.1
    rw [e2] at this
    rw [this]
    simp only [am_k_some, tl_some, e199_4]
  obtain ⟨c0, c1, c2, c3, c4, c5, c6, c7, ix, c8⟩ := id c
  obtain ⟨w0, w1, w2, w3, w4, w5, w6, w7, w8, w9⟩ := id w'
  have fr : FrP (fun x => (B ≤ x ∧ x < B + 67) ∨ x = B + 77 ∨ x = B + 80 ∨ x = B + 82 ∨ x = B + 82 + 1 ∨ x = B + 82 + 6 ∨ x = B + 82 + 7) m m2 := (F1.p.mono (fun x hx => by omega)).trans (F2.mono (fun x hx => by omega))
  have fr' : FrP (fun x => (B + 1 ≤ x ∧ x < B + 1 + 66) ∨ x = B + 77 ∨ x = B + 82 ∨ x = B + 82 + 1) m m2 := (F1.p.mono (fun x hx => by omega)).trans (F2.mono (fun x hx => by omega))
  obtain ⟨g1, g2⟩ := good_G (S' := if saA (stS s) (stL s) = nI 1 then sailE (stS s) else stS s) (F' := stF s) (L' := stL s) (Z' := stZ s) (W' := saW (stS s) (stL s)) (N' := stN s) c w W fr (V'.keep (fun y y1 y2 => F2.i (by omega)) (F2.l (by omega))) (by rw [fr'.i (by omega)]; exact c3) (by rw [fr'.i (by omega)]; exact c4) (by rw [fr'.i (by omega)]; exact c6) (by unfold ReV; rw [F2.l (by omega)]; exact R') S2 (by rw [F2.l (by omega)]; exact w2) (fun k hk => by rw [fr'.l (by omega)]) (by rw [O2 7 (by omega) (by omega) (by omega)]; exact w4) (by rw [fr'.i (by omega)]; exact w.2.2.2.2.2.1) (by rw [O2 10 (by omega) (by omega) (by omega)]; exact w7) W2 (wf_sa Q) W.2.1 W.2.2.1
  exact ⟨_, _, _, C, M, g1, g2⟩
theorem op_23 {B : Nat} {m : am_M} {x : Int32} (G : Good B m) : Op2 B 113 200 [.int x] m := by
  obtain ⟨s, c, w, W⟩ := G
  have f := c.1
  have k := f.sh
  obtain ⟨r0, r1, r2, r3⟩ := c.2.2.2.2.2.2.2.1
  have M := sp_200 (d := 39) (x := x) w.1
  have hw := w.2.2.2.2.2.2.2.2.1
  have y0 : (mI m (B + 82) 11).toInt64 = (stW s).1 := by rw [← hw]
  have y1 : (mI m (B + 82) 12).toInt64 = (stW s).2.1 := by rw [← hw]
  have y2 : mL m (B + 82) 13 = (stW s).2.2.1 := by rw [← hw]
  have y3 : (mI m (B + 82) 14).toInt64 = (stW s).2.2.2 := by rw [← hw]
  unfold whyA at M
  rw [y0, y1, y2, y3] at M
  refine ⟨_, m, m, ?_, M, ⟨s, c, w, W⟩, Bel.refl B m⟩
  by_cases h0 : x = nI 0
  · subst h0
    rw [if_pos rfl]
    simp (disch := first | (simp (disch := omega) only [am_k_some, va_rf_some, va_rf_none, tl_some, tl_none, am_clr_int, am_clr_ref, am_clr_none, am_clr_long, am_w_nil, am_w_int, am_w_ref, am_w_long, am_w_null, am_bb_0, am_bb_1, am_bb_bI, xK_sI, xR_sI, xS_sI, xN_sI, xK_sL, xR_sL, xS_sL, xN_sL, xK_sR, xR_sR, xS_sR, xN_sR, xK_sA, xR_sA, xS_sA, xN_sA, Nat.reduceAdd, Nat.reduceLeDiff, sI_sA, I_sA', sA_sA, I_sA, I_sA', nI_add, mul_nI, bI_0, bI_1, f.k, f.r0, f.r1, f.r2, f.k2, f.r4, f.k4, f.r5, f.k5, f.r6, f.k6, f.r7, f.k7, f.r9, f.k9, k.k, k.r0, k.k0, k.rl, k.r1, k.r2, k.ac.k, k.lo.k, ix_nI, cl_nI]; done) | omega | assumption) only [c113, e113_0, e113_1_0, e113_1_1, e113_1_2, e113_1_3, e113_32, e113_33, e113_36, e113_39, e113_40, e113_41, e113_44, e113_47, e113_48, e113_49, e113_52, e113_55, e113_56, e113_57, e113_60, e113_63, e113_64, e113_67, am_k_some, va_rf_some, va_rf_none, tl_some, tl_none, am_clr_int, am_clr_ref, am_clr_none, am_clr_long, am_w_nil, am_w_int, am_w_ref, am_w_long, am_w_null, am_bb_0, am_bb_1, am_bb_bI, xK_sI, xR_sI, xS_sI, xN_sI, xK_sL, xR_sL, xS_sL, xN_sL, xK_sR, xR_sR, xS_sR, xN_sR, xK_sA, xR_sA, xS_sA, xN_sA, Nat.reduceAdd, Nat.reduceLeDiff, sI_sA, I_sA', sA_sA, I_sA, I_sA', nI_add, mul_nI, bI_0, bI_1, f.k, f.r0, f.r1, f.r2, f.k2, f.r4, f.k4, f.r5, f.k5, f.r6, f.k6, f.r7, f.k7, f.r9, f.k9, k.k, k.r0, k.k0, k.rl, k.r1, k.r2, k.ac.k, k.lo.k, ix_nI, cl_nI, lt_nI, eq_nI, sub_nI, Nat.reduceEqDiff, Nat.one_ne_zero, Nat.not_lt_zero, ↓reduceIte, r0]
  by_cases h1 : x = nI 1
  · subst h1
    rw [if_neg (by decide), if_pos rfl]
    simp (disch := first | (simp (disch := omega) only [am_k_some, va_rf_some, va_rf_none, tl_some, tl_none, am_clr_int, am_clr_ref, am_clr_none, am_clr_long, am_w_nil, am_w_int, am_w_ref, am_w_long, am_w_null, am_bb_0, am_bb_1, am_bb_bI, xK_sI, xR_sI, xS_sI, xN_sI, xK_sL, xR_sL, xS_sL, xN_sL, xK_sR, xR_sR, xS_sR, xN_sR, xK_sA, xR_sA, xS_sA, xN_sA, Nat.reduceAdd, Nat.reduceLeDiff, sI_sA, I_sA', sA_sA, I_sA, I_sA', nI_add, mul_nI, bI_0, bI_1, f.k, f.r0, f.r1, f.r2, f.k2, f.r4, f.k4, f.r5, f.k5, f.r6, f.k6, f.r7, f.k7, f.r9, f.k9, k.k, k.r0, k.k0, k.rl, k.r1, k.r2, k.ac.k, k.lo.k, ix_nI, cl_nI]; done) | omega | assumption) only [c113, e113_0, e113_1_0, e113_1_1, e113_1_2, e113_1_3, e113_32, e113_33, e113_36, e113_39, e113_40, e113_41, e113_44, e113_47, e113_48, e113_49, e113_52, e113_55, e113_56, e113_57, e113_60, e113_63, e113_64, e113_67, am_k_some, va_rf_some, va_rf_none, tl_some, tl_none, am_clr_int, am_clr_ref, am_clr_none, am_clr_long, am_w_nil, am_w_int, am_w_ref, am_w_long, am_w_null, am_bb_0, am_bb_1, am_bb_bI, xK_sI, xR_sI, xS_sI, xN_sI, xK_sL, xR_sL, xS_sL, xN_sL, xK_sR, xR_sR, xS_sR, xN_sR, xK_sA, xR_sA, xS_sA, xN_sA, Nat.reduceAdd, Nat.reduceLeDiff, sI_sA, I_sA', sA_sA, I_sA, I_sA', nI_add, mul_nI, bI_0, bI_1, f.k, f.r0, f.r1, f.r2, f.k2, f.r4, f.k4, f.r5, f.k5, f.r6, f.k6, f.r7, f.k7, f.r9, f.k9, k.k, k.r0, k.k0, k.rl, k.r1, k.r2, k.ac.k, k.lo.k, ix_nI, cl_nI, lt_nI, eq_nI, sub_nI, Nat.reduceEqDiff, Nat.one_ne_zero, Nat.not_lt_zero, ↓reduceIte, r1]
  by_cases h2 : x = nI 2
  · subst h2
    rw [if_neg (by decide), if_neg (by decide), if_pos rfl]
    simp (disch := first | (simp (disch := omega) only [am_k_some, va_rf_some, va_rf_none, tl_some, tl_none, am_clr_int, am_clr_ref, am_clr_none, am_clr_long, am_w_nil, am_w_int, am_w_ref, am_w_long, am_w_null, am_bb_0, am_bb_1, am_bb_bI, xK_sI, xR_sI, xS_sI, xN_sI, xK_sL, xR_sL, xS_sL, xN_sL, xK_sR, xR_sR, xS_sR, xN_sR, xK_sA, xR_sA, xS_sA, xN_sA, Nat.reduceAdd, Nat.reduceLeDiff, sI_sA, I_sA', sA_sA, I_sA, I_sA', nI_add, mul_nI, bI_0, bI_1, f.k, f.r0, f.r1, f.r2, f.k2, f.r4, f.k4, f.r5, f.k5, f.r6, f.k6, f.r7, f.k7, f.r9, f.k9, k.k, k.r0, k.k0, k.rl, k.r1, k.r2, k.ac.k, k.lo.k, ix_nI, cl_nI]; done) | omega | assumption) only [c113, e113_0, e113_1_0, e113_1_1, e113_1_2, e113_1_3, e113_32, e113_33, e113_36, e113_39, e113_40, e113_41, e113_44, e113_47, e113_48, e113_49, e113_52, e113_55, e113_56, e113_57, e113_60, e113_63, e113_64, e113_67, am_k_some, va_rf_some, va_rf_none, tl_some, tl_none, am_clr_int, am_clr_ref, am_clr_none, am_clr_long, am_w_nil, am_w_int, am_w_ref, am_w_long, am_w_null, am_bb_0, am_bb_1, am_bb_bI, xK_sI, xR_sI, xS_sI, xN_sI, xK_sL, xR_sL, xS_sL, xN_sL, xK_sR, xR_sR, xS_sR, xN_sR, xK_sA, xR_sA, xS_sA, xN_sA, Nat.reduceAdd, Nat.reduceLeDiff, sI_sA, I_sA', sA_sA, I_sA, I_sA', nI_add, mul_nI, bI_0, bI_1, f.k, f.r0, f.r1, f.r2, f.k2, f.r4, f.k4, f.r5, f.k5, f.r6, f.k6, f.r7, f.k7, f.r9, f.k9, k.k, k.r0, k.k0, k.rl, k.r1, k.r2, k.ac.k, k.lo.k, ix_nI, cl_nI, lt_nI, eq_nI, sub_nI, Nat.reduceEqDiff, Nat.one_ne_zero, Nat.not_lt_zero, ↓reduceIte, r2]
  by_cases h3 : x = nI 3
  · subst h3
    rw [if_neg (by decide), if_neg (by decide), if_neg (by decide), if_pos rfl]
    simp (disch := first | (simp (disch := omega) only [am_k_some, va_rf_some, va_rf_none, tl_some, tl_none, am_clr_int, am_clr_ref, am_clr_none, am_clr_long, am_w_nil, am_w_int, am_w_ref, am_w_long, am_w_null, am_bb_0, am_bb_1, am_bb_bI, xK_sI, xR_sI, xS_sI, xN_sI, xK_sL, xR_sL, xS_sL, xN_sL, xK_sR, xR_sR, xS_sR, xN_sR, xK_sA, xR_sA, xS_sA, xN_sA, Nat.reduceAdd, Nat.reduceLeDiff, sI_sA, I_sA', sA_sA, I_sA, I_sA', nI_add, mul_nI, bI_0, bI_1, f.k, f.r0, f.r1, f.r2, f.k2, f.r4, f.k4, f.r5, f.k5, f.r6, f.k6, f.r7, f.k7, f.r9, f.k9, k.k, k.r0, k.k0, k.rl, k.r1, k.r2, k.ac.k, k.lo.k, ix_nI, cl_nI]; done) | omega | assumption) only [c113, e113_0, e113_1_0, e113_1_1, e113_1_2, e113_1_3, e113_32, e113_33, e113_36, e113_39, e113_40, e113_41, e113_44, e113_47, e113_48, e113_49, e113_52, e113_55, e113_56, e113_57, e113_60, e113_63, e113_64, e113_67, am_k_some, va_rf_some, va_rf_none, tl_some, tl_none, am_clr_int, am_clr_ref, am_clr_none, am_clr_long, am_w_nil, am_w_int, am_w_ref, am_w_long, am_w_null, am_bb_0, am_bb_1, am_bb_bI, xK_sI, xR_sI, xS_sI, xN_sI, xK_sL, xR_sL, xS_sL, xN_sL, xK_sR, xR_sR, xS_sR, xN_sR, xK_sA, xR_sA, xS_sA, xN_sA, Nat.reduceAdd, Nat.reduceLeDiff, sI_sA, I_sA', sA_sA, I_sA, I_sA', nI_add, mul_nI, bI_0, bI_1, f.k, f.r0, f.r1, f.r2, f.k2, f.r4, f.k4, f.r5, f.k5, f.r6, f.k6, f.r7, f.k7, f.r9, f.k9, k.k, k.r0, k.k0, k.rl, k.r1, k.r2, k.ac.k, k.lo.k, ix_nI, cl_nI, lt_nI, eq_nI, sub_nI, Nat.reduceEqDiff, Nat.one_ne_zero, Nat.not_lt_zero, ↓reduceIte, r3]
  rw [if_neg h0, if_neg h1, if_neg h2, if_neg h3]
  have hx : x.toInt < 0 ∨ 3 < x.toInt := by
    by_cases q : x.toInt < 0 ∨ 3 < x.toInt
    · exact q
    · exfalso
      have z3 : (nI 3).toInt = 3 := by decide
      have z0 : (nI 0).toInt = 0 := by decide
      obtain ⟨n, hn, rfl⟩ := rngU x 3 (by omega) (by rw [Int32.lt_iff_toInt_lt, z0]; omega) (by rw [Int32.lt_iff_toInt_lt, z3]; omega)
      have : n = 0 ∨ n = 1 ∨ n = 2 ∨ n = 3 := by omega
      rcases this with rfl | rfl | rfl | rfl
      · exact h0 rfl
      · exact h1 rfl
      · exact h2 rfl
      · exact h3 rfl
  simp (disch := first | (simp (disch := omega) only [am_k_some, va_rf_some, va_rf_none, tl_some, tl_none, am_clr_int, am_clr_ref, am_clr_none, am_clr_long, am_w_nil, am_w_int, am_w_ref, am_w_long, am_w_null, am_bb_0, am_bb_1, am_bb_bI, xK_sI, xR_sI, xS_sI, xN_sI, xK_sL, xR_sL, xS_sL, xN_sL, xK_sR, xR_sR, xS_sR, xN_sR, xK_sA, xR_sA, xS_sA, xN_sA, Nat.reduceAdd, Nat.reduceLeDiff, sI_sA, I_sA', sA_sA, I_sA, I_sA', nI_add, mul_nI, bI_0, bI_1, f.k, f.r0, f.r1, f.r2, f.k2, f.r4, f.k4, f.r5, f.k5, f.r6, f.k6, f.r7, f.k7, f.r9, f.k9, k.k, k.r0, k.k0, k.rl, k.r1, k.r2, k.ac.k, k.lo.k, ix_nI, cl_nI]; done) | omega | assumption) only [c113, e113_0, e113_1_x hx, e113_64, e113_67, am_k_some, va_rf_some, va_rf_none, tl_some, tl_none, am_clr_int, am_clr_ref, am_clr_none, am_clr_long, am_w_nil, am_w_int, am_w_ref, am_w_long, am_w_null, am_bb_0, am_bb_1, am_bb_bI, xK_sI, xR_sI, xS_sI, xN_sI, xK_sL, xR_sL, xS_sL, xN_sL, xK_sR, xR_sR, xS_sR, xN_sR, xK_sA, xR_sA, xS_sA, xN_sA, Nat.reduceAdd, Nat.reduceLeDiff, sI_sA, I_sA', sA_sA, I_sA, I_sA', nI_add, mul_nI, bI_0, bI_1, f.k, f.r0, f.r1, f.r2, f.k2, f.r4, f.k4, f.r5, f.k5, f.r6, f.k6, f.r7, f.k7, f.r9, f.k9, k.k, k.r0, k.k0, k.rl, k.r1, k.r2, k.ac.k, k.lo.k, ix_nI, cl_nI, lt_nI, eq_nI, sub_nI, Nat.reduceEqDiff, Nat.one_ne_zero, Nat.not_lt_zero, ↓reduceIte]
