/-! THE CALLS: drive .. again, day .. ship -/
theorem good_G {m m2 : am_M} {B N' : Nat} {s : St} {S' F' : Nat → Int32} {L' : Int64} {Z' : Int32} {W' : Int64 × Int64 × Int64 × Int64} (c : CI m B s) (w : MI m (B + 82) s) (W : Wst s)
    (h : FrP (fun x => (B ≤ x ∧ x < B + 67) ∨ x = B + 77 ∨ x = B + 80 ∨ x = B + 82 ∨ x = B + 82 + 1 ∨ x = B + 82 + 6 ∨ x = B + 82 + 7) m m2) (v : ShV m2 (B + 1) S' L') (hN : mI m2 B 8 = nI N') (hF : ∀ j, j < 4 * N' → mI m2 (B + 80) j = F' j) (hZ : mI m2 B 10 = Z') (hW : ReV m2 (B + 77) W')
    (mS' : mI m2 (B + 82 + 1) = S') (mL' : mL m2 (B + 82 + 6) 0 = L') (mLk : ∀ k, k < 2 → mL m2 (B + 82 + 6) (k + 1) = mL m (B + 82 + 6) (k + 1)) (mN' : mI m2 (B + 82) 7 = nI N') (mF : mI m2 (B + 82 + 7) = F') (mZ : mI m2 (B + 82) 10 = Z') (mW : ((mI m2 (B + 82) 11).toInt64, (mI m2 (B + 82) 12).toInt64, mL m2 (B + 82) 13, (mI m2 (B + 82) 14).toInt64) = W') (Q' : Wf S') (l' : LmOk L') (n' : N' ≤ 200) : Good B m2 ∧ Bel B m m2 := by
  obtain ⟨c0, c1, c2, c3, c4, c5, c6, c7, ix, c8⟩ := c
  obtain ⟨w0, w1, w2, w3, w4, w5, w6, w7, w8, w9⟩ := w
  refine ⟨⟨(S', L', stP s, N', F', stD s, Z', W', stK s), ⟨c0.fr h, v, ?_, hN, hF, ?_, hZ, hW, ix, c8.fr h (fun x hx => by omega)⟩, ⟨w0.frP h, mS', mL', ?_, mN', mF, ?_, mZ, mW, fun k hk => ?_⟩, Q', l', n', W.2.2.2⟩, h.bel (fun x hx => by omega)⟩
  · rw [h.i (by omega)]; exact c2
  · rw [h.i (by omega)]; exact c5
  · rw [h.i (by omega)]; exact w3
  · rw [h.i (by omega)]; exact w6
  · rw [h.i (by omega), h.i (by omega), mLk k hk]
    exact w9 k hk
/-- a refusal of drive -/
theorem good_Z {m m1 : am_M} {B : Nat} {s : St} {z : Int32} (c : CI m B s) (w : MI m (B + 82) s) (W : Wst s) (h1 : m1 = sA (sA m B (up1 (mI m B) 10 z)) (B + 82) (up1 (mI m (B + 82)) 10 z)) : Good B m1 ∧ Bel B m m1 := by
  obtain ⟨c0, c1, c2, c3, c4, c5, c6, c7, ix, c8⟩ := id c
  obtain ⟨w0, w1, w2, w3, w4, w5, w6, w7, w8, w9⟩ := id w
  have fr : FrP (fun x => x = B ∨ x = B + 82) m m1 := by rw [h1]; exact ((FrP.refl _ m).sA (Or.inl rfl)).sA (Or.inr rfl)
  have iB : mI m1 B = up1 (mI m B) 10 z := by rw [h1, I_sA' _ _ (by omega), I_sA]
  have iM : mI m1 (B + 82) = up1 (mI m (B + 82)) 10 z := by rw [h1, I_sA]
  have lM : mL m1 = mL m := by rw [h1, mL_sA, mL_sA]
  refine good_G (S' := stS s) (F' := stF s) (L' := stL s) (Z' := z) (W' := stW s) (N' := stN s) c w W (fr.mono (fun x hx => by omega)) (c1.keep (fun y y1 y2 => fr.i (by omega)) (by rw [lM])) ?_ ?_ ?_ ?_ ?_ ?_ ?_ ?_ ?_ ?_ ?_ W.1 W.2.1 W.2.2.1
  · rw [iB, up1_ne (by omega)]; exact c3
  · rw [fr.i (by omega)]; exact c4
  · rw [iB, up1_eq]
  · unfold ReV; rw [lM]; exact c7
  · rw [fr.i (by omega)]; exact w1
  · rw [lM]; exact w2
  · intro k hk; rw [lM]
  · rw [iM, up1_ne (by omega)]; exact w4
  · rw [fr.i (by omega)]; exact w5
  · rw [iM, up1_eq]
  · rw [iM, lM, up1_ne (by omega), up1_ne (by omega), up1_ne (by omega)]; exact w8
theorem up1_self (f : Nat → Int32) (k : Nat) : up1 f k (f k) = f := by
  funext y
  by_cases h : y = k
  · rw [h, up1_eq]
  · rw [up1_ne h]
theorem op_16 {B : Nat} {m : am_M} {x y e : Int32} (G : Good B m) : Op1 B 106 184 [.int x, .int y, .int e] m := by
  obtain ⟨s, c, w, W⟩ := G
  have f := c.1
  have k := f.sh
  have v := c.2.1
  have Q := W.1
  have n2 := Q.nm.2
  have ref : ∀ z : Int32, z < nI 0 → cal 38 69 [.ref (B + 1), .int x, .int y, .int e] m = some (some (.int z), m) → (∀ m1, MI m1 (B + 82) s → cal 39 184 [.ref (B + 82), .int x, .int y, .int e] m1 = some (some (.int z), sA m1 (B + 82) (up1 (mI m1 (B + 82)) 10 z))) → Op1 B 106 184 [.int x, .int y, .int e] m := by
    intro z hz hc hm
    obtain ⟨g1, g2⟩ := good_Z (z := z) c w W rfl
    have fr : FrP (fun x => x = B) m (sA m B (up1 (mI m B) 10 z)) := (FrP.refl _ m).sA rfl
    have M := hm _ (w.fr fr (fun x h1 h2 => by omega))
    rw [I_sA' _ _ (by omega)] at M
    refine ⟨z, _, _, ?_, M, g1, g2⟩
    simp (disch := first | (simp (disch := omega) only [am_k_some, va_rf_some, va_rf_none, tl_some, tl_none, am_clr_int, am_clr_ref, am_clr_none, am_clr_long, am_w_nil, am_w_int, am_w_ref, am_w_long, am_w_null, am_bb_0, am_bb_1, am_bb_bI, xK_sI, xR_sI, xS_sI, xN_sI, xK_sL, xR_sL, xS_sL, xN_sL, xK_sR, xR_sR, xS_sR, xN_sR, xK_sA, xR_sA, xS_sA, xN_sA, Nat.reduceAdd, Nat.reduceLeDiff, sI_sA, I_sA', sA_sA, I_sA, I_sA', nI_add, mul_nI, bI_0, bI_1, f.k, f.r0, f.r1, f.r2, f.k2, f.r4, f.k4, f.r5, f.k5, f.r6, f.k6, f.r7, f.k7, f.r9, f.k9, k.k, k.r0, k.k0, k.rl, k.r1, k.r2, k.ac.k, k.lo.k, ix_nI, cl_nI]; done) | omega | assumption) only [c106, e106_0, e106_1, e106_4, e106_5, e106_6, e106_7, e106_10, e106_12, e106_14, e106_17, e106_18, e106_20, e106_23, e106_25, am_k_some, va_rf_some, va_rf_none, tl_some, tl_none, am_clr_int, am_clr_ref, am_clr_none, am_clr_long, am_w_nil, am_w_int, am_w_ref, am_w_long, am_w_null, am_bb_0, am_bb_1, am_bb_bI, xK_sI, xR_sI, xS_sI, xN_sI, xK_sL, xR_sL, xS_sL, xN_sL, xK_sR, xR_sR, xS_sR, xN_sR, xK_sA, xR_sA, xS_sA, xN_sA, Nat.reduceAdd, Nat.reduceLeDiff, sI_sA, I_sA', sA_sA, I_sA, I_sA', nI_add, mul_nI, bI_0, bI_1, f.k, f.r0, f.r1, f.r2, f.k2, f.r4, f.k4, f.r5, f.k5, f.r6, f.k6, f.r7, f.k7, f.r9, f.k9, k.k, k.r0, k.k0, k.rl, k.r1, k.r2, k.ac.k, k.lo.k, ix_nI, cl_nI, lt_nI, eq_nI, sub_nI, Nat.reduceEqDiff, Nat.one_ne_zero, Nat.not_lt_zero, ↓reduceIte, hc, hz]
  have MN : ∀ m1, MI m1 (B + 82) s → NmOk (mI m1 (B + 82 + 1)) := fun m1 w' => by rw [w'.2.1]; exact Q.nm
  by_cases hb : (x < nI 0 ∨ ¬ x < nI (nm (stS s))) ∨ (y < nI 0 ∨ ¬ y < nI 20) ∨ (e < nI 0 ∨ nI 1 < e)
  · exact ref (-1) u1 (sp_69b (d := 34) k v Q.nm hb) (fun m1 w' => sp_184b (d := 34) w'.1 (MN m1 w') (by rw [w'.2.1]; exact hb))
  rcases rng x (nm (stS s)) (by omega) with h | ⟨l, hl, rfl⟩
  · exact absurd (Or.inl h) hb
  rcases rng y 20 (by omega) with h | ⟨i, hi, rfl⟩
  · exact absurd (Or.inr (Or.inl h)) hb
  rcases rngE e with he | h
  · obtain ⟨m1, e1, F1, V', W'⟩ := sp_69 (d := 34) k v Q hl hi he
    have MM : ∀ m1, MI m1 (B + 82) s → cal 39 184 [.ref (B + 82), .int (nI l), .int (nI i), .int e] m1 = some (some (.int (cdA (stS s) l i e)), if cdA (stS s) l i e < nI 0 then sA m1 (B + 82) (up1 (mI m1 (B + 82)) 10 (cdA (stS s) l i e)) else sA (sA m1 (B + 82 + 1) (drS (stS s) l i (plS (stS s) l i e))) (B + 82) (up1 (mI m1 (B + 82)) 10 (mI m1 (B + 82) 10))) := fun m1 w' => by
      have M := sp_184 (d := 34) w'.1 (by rw [w'.2.1]; exact Q.ln) (MN m1 w') (by rw [w'.2.1]; exact Q.w.ok Q.ln) (by rw [w'.2.1]; exact Q.a) (show l < nm (mI m1 (B + 82 + 1)) by rw [w'.2.1]; exact hl) hi he
      rw [w'.2.1] at M
      exact M
    by_cases hc : cdA (stS s) l i e < nI 0
    · have hm1 : cal 38 69 [.ref (B + 1), .int (nI l), .int (nI i), .int e] m = some (some (.int (cdA (stS s) l i e)), m) := by
        have := sp_69r (d := 34) k v Q hl hi he hc
        exact this
      exact ref _ hc hm1 (fun m1 w' => by have M := MM m1 w'; rw [if_pos hc] at M; exact M)
    · rw [if_neg hc] at V' W'
      obtain ⟨g1, g2⟩ := good_S c w W F1 V' W'
      have w' := w.fr F1.p (fun x h1 h2 => by omega)
      have M := MM _ w'
      have hM : mI m1 (B + 82) = mI (sA m1 (B + 82 + 1) (drS (stS s) l i (plS (stS s) l i e))) (B + 82) := (I_sA' _ _ (by omega)).symm
      rw [if_neg hc, up1_self, hM, sA_self] at M
      refine ⟨_, _, _, ?_, M, g1, g2⟩
      simp (disch := first | (simp (disch := omega) only [am_k_some, va_rf_some, va_rf_none, tl_some, tl_none, am_clr_int, am_clr_ref, am_clr_none, am_clr_long, am_w_nil, am_w_int, am_w_ref, am_w_long, am_w_null, am_bb_0, am_bb_1, am_bb_bI, xK_sI, xR_sI, xS_sI, xN_sI, xK_sL, xR_sL, xS_sL, xN_sL, xK_sR, xR_sR, xS_sR, xN_sR, xK_sA, xR_sA, xS_sA, xN_sA, Nat.reduceAdd, Nat.reduceLeDiff, sI_sA, I_sA', sA_sA, I_sA, I_sA', nI_add, mul_nI, bI_0, bI_1, f.k, f.r0, f.r1, f.r2, f.k2, f.r4, f.k4, f.r5, f.k5, f.r6, f.k6, f.r7, f.k7, f.r9, f.k9, k.k, k.r0, k.k0, k.rl, k.r1, k.r2, k.ac.k, k.lo.k, ix_nI, cl_nI]; done) | omega | assumption) only [c106, e106_0, e106_1, e106_4, e106_5, e106_6, e106_7, e106_10, e106_12, e106_14, e106_17, e106_18, e106_20, e106_23, e106_25, am_k_some, va_rf_some, va_rf_none, tl_some, tl_none, am_clr_int, am_clr_ref, am_clr_none, am_clr_long, am_w_nil, am_w_int, am_w_ref, am_w_long, am_w_null, am_bb_0, am_bb_1, am_bb_bI, xK_sI, xR_sI, xS_sI, xN_sI, xK_sL, xR_sL, xS_sL, xN_sL, xK_sR, xR_sR, xS_sR, xN_sR, xK_sA, xR_sA, xS_sA, xN_sA, Nat.reduceAdd, Nat.reduceLeDiff, sI_sA, I_sA', sA_sA, I_sA, I_sA', nI_add, mul_nI, bI_0, bI_1, f.k, f.r0, f.r1, f.r2, f.k2, f.r4, f.k4, f.r5, f.k5, f.r6, f.k6, f.r7, f.k7, f.r9, f.k9, k.k, k.r0, k.k0, k.rl, k.r1, k.r2, k.ac.k, k.lo.k, ix_nI, cl_nI, lt_nI, eq_nI, sub_nI, Nat.reduceEqDiff, Nat.one_ne_zero, Nat.not_lt_zero, ↓reduceIte, e1, hc]
  · exact absurd (Or.inr (Or.inr h)) hb
