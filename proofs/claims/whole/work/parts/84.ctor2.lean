/-! CONSTRUCTORS, 2: objects made within, the ship -/
/-- made at t: n cells, w slots -/
def Nw (n w : Nat) (P : am_M → Nat → Prop) (t : Nat) (m m' : am_M) : Prop := mS m' = t + n ∧ mN m' = mN m + w ∧ Ke t m m' ∧ P m' t ∧ ∀ x, t ≤ x → x < t + n → mI m' x = (fun _ => 0)
def Bk (n : Nat) (P : am_M → Nat → Prop) : Prop := ∀ t m m', (∀ x, t ≤ x → x < t + n → mK m' x = mK m x ∧ mR m' x = mR m x) → P m t → P m' t
/-- below t, but at a and at a + 1, as it was -/
def Sx (a t : Nat) (m m' : am_M) : Prop := ∀ x, x < t → x ≠ a → x ≠ a + 1 → mK m' x = mK m x ∧ mI m' x = mI m x ∧ mL m' x = mL m x ∧ mR m' x = mR m x
theorem Sx.refl (a t : Nat) (m : am_M) : Sx a t m m := fun _ _ _ _ => ⟨rfl, rfl, rfl, rfl⟩
theorem Sx.trans {a t u : Nat} {m1 m2 m3 : am_M} (h : Sx a t m1 m2) (g : Sx a u m2 m3) (hu : t ≤ u) : Sx a t m1 m3 := fun x hx h1 h2 => ⟨(g x (by omega) h1 h2).1.trans (h x hx h1 h2).1, (g x (by omega) h1 h2).2.1.trans (h x hx h1 h2).2.1, (g x (by omega) h1 h2).2.2.1.trans (h x hx h1 h2).2.2.1, (g x (by omega) h1 h2).2.2.2.trans (h x hx h1 h2).2.2.2⟩
theorem Bk.go {n a u t : Nat} {P : am_M → Nat → Prop} (b : Bk n P) {m m' : am_M} (s : Sx a u m m') (h1 : a + 1 < t) (h2 : t + n ≤ u) (h : P m t) : P m' t := b t m m' (fun x g1 g2 => ⟨(s x (by omega) (by omega) (by omega)).1, (s x (by omega) (by omega) (by omega)).2.2.2⟩) h
theorem nw_put {n w t a j : Nat} {P : am_M → Nat → Prop} {m m2 : am_M} (b : Bk n P) (ha : a < t) (h : Nw n w P t m m2) :
    mS (sR m2 a j (some t)) = t + n ∧ mN (sR m2 a j (some t)) = mN m + w ∧ P (sR m2 a j (some t)) t ∧ (∀ x, t ≤ x → x < t + n → mI (sR m2 a j (some t)) x = (fun _ => 0)) ∧ mR (sR m2 a j (some t)) a j = some t ∧ (∀ i, i ≠ j → mR (sR m2 a j (some t)) a i = mR m a i) ∧ (mK (sR m2 a j (some t)) a = mK m a ∧ mI (sR m2 a j (some t)) a = mI m a ∧ mL (sR m2 a j (some t)) a = mL m a) ∧
    (∀ x, x < t → x ≠ a → mK (sR m2 a j (some t)) x = mK m x ∧ mI (sR m2 a j (some t)) x = mI m x ∧ mL (sR m2 a j (some t)) x = mL m x ∧ mR (sR m2 a j (some t)) x = mR m x) := by
  obtain ⟨h1, h2, h3, h4, h5⟩ := h
  refine ⟨by rw [xS_sR, h1], by rw [xN_sR, h2], b t m2 _ (fun x g1 g2 => ⟨by rw [xK_sR], by rw [yR_sR _ _ (by omega)]⟩) h4, fun x g1 g2 => by rw [yI_sR, h5 x g1 g2], by rw [xR_sR, if_pos ⟨rfl, rfl⟩], fun i hi => by rw [xR_sR, if_neg (fun q => hi q.2), (h3 a ha).2.2.2], ⟨by rw [xK_sR, (h3 a ha).1], by rw [yI_sR, (h3 a ha).2.1], by rw [yL_sR, (h3 a ha).2.2.1]⟩, fun x g1 g2 => ⟨by rw [xK_sR, (h3 x g1).1], by rw [yI_sR, (h3 x g1).2.1], by rw [yL_sR, (h3 x g1).2.2.1], by rw [yR_sR _ _ g2, (h3 x g1).2.2.2]⟩⟩
def GaK (m : am_M) (o : Nat) : Prop := mK m o = (1, 1, 0)
def LaA (m : am_M) (o : Nat) : Prop := mK m o = (5, 2, 20)
theorem bk_ga : Bk 1 GaK := fun t m m' e h => by unfold GaK at *; rw [(e t (by omega) (by omega)).1]; exact h
theorem bk_la20 : Bk 1 LaA := fun t m m' e h => by unfold LaA at *; rw [(e t (by omega) (by omega)).1]; exact h
theorem bk_LaK : Bk 2 LaK := fun t m m' e h => by
  simpa only [LaK, (e t (by omega) (by omega)).1, (e t (by omega) (by omega)).2, (e (t + 1) (by omega) (by omega)).1] using h
theorem bk_LoK : Bk 10 LoK := fun t m m' e h => by
  simpa only [LoK, (e t (by omega) (by omega)).1, (e t (by omega) (by omega)).2, (e (t + 1) (by omega) (by omega)).1, (e (t + 2) (by omega) (by omega)).1, (e (t + 3) (by omega) (by omega)).1, (e (t + 4) (by omega) (by omega)).1, (e (t + 5) (by omega) (by omega)).1, (e (t + 6) (by omega) (by omega)).1, (e (t + 7) (by omega) (by omega)).1, (e (t + 8) (by omega) (by omega)).1, (e (t + 9) (by omega) (by omega)).1] using h
theorem bk_AcK : Bk 5 AcK := fun t m m' e h => by
  simpa only [AcK, (e t (by omega) (by omega)).1, (e t (by omega) (by omega)).2, (e (t + 1) (by omega) (by omega)).1, (e (t + 2) (by omega) (by omega)).1, (e (t + 3) (by omega) (by omega)).1, (e (t + 4) (by omega) (by omega)).1] using h
theorem bk_PlK : Bk 4 PlK := fun t m m' e h => by
  simpa only [PlK, (e t (by omega) (by omega)).1, (e t (by omega) (by omega)).2, (e (t + 1) (by omega) (by omega)).1, (e (t + 2) (by omega) (by omega)).1, (e (t + 3) (by omega) (by omega)).1] using h
theorem bk_RoK : Bk 2 RoK := fun t m m' e h => by
  simpa only [RoK, (e t (by omega) (by omega)).1, (e t (by omega) (by omega)).2, (e (t + 1) (by omega) (by omega)).1] using h
theorem mk_10 {d t : Nat} {m : am_M} (hS : mS m = t) : ∃ m', cal d 10 [.ref t] (nw m (1, 2, 0) 7) = some (none, m') ∧ Nw 2 47 LaK t m m' := by
  obtain ⟨m', e, s, w, k, q, i, l, z⟩ := sp_10 (d := d) (o := t) (m := nw m (1, 2, 0) 7) (by rw [xK_nw, if_pos hS.symm]) (by rw [xS_nw, hS])
  refine ⟨m', e, by rw [s], by rw [w, xN_nw], (Ke.nw (by omega)).trans k, q, fun x h1 h2 => ?_⟩
  by_cases hx : x = t
  · rw [hx, i, xI_nw, if_pos hS.symm]
  · exact z x (by omega) (by omega)
theorem mk_25 {d t : Nat} {m : am_M} (hS : mS m = t) : ∃ m', cal d 25 [.ref t] (nw m (1, 3, 0) 10) = some (none, m') ∧ Nw 10 3610 LoK t m m' := by
  obtain ⟨m', e, s, w, k, q, i, l, z⟩ := sp_25 (d := d) (o := t) (m := nw m (1, 3, 0) 10) (by rw [xK_nw, if_pos hS.symm]) (by rw [xS_nw, hS])
  refine ⟨m', e, by rw [s], by rw [w, xN_nw], (Ke.nw (by omega)).trans k, q, fun x h1 h2 => ?_⟩
  by_cases hx : x = t
  · rw [hx, i, xI_nw, if_pos hS.symm]
  · exact z x (by omega) (by omega)
theorem mk_0 {d t : Nat} {m : am_M} (hS : mS m = t) : ∃ m', cal d 0 [.ref t] (nw m (1, 0, 0) 6) = some (none, m') ∧ Nw 5 406 AcK t m m' := by
  obtain ⟨m', e, s, w, k, q, i, l, z⟩ := sp_0 (d := d) (o := t) (m := nw m (1, 0, 0) 6) (by rw [xK_nw, if_pos hS.symm]) (by rw [xS_nw, hS])
  refine ⟨m', e, by rw [s], by rw [w, xN_nw], (Ke.nw (by omega)).trans k, q, fun x h1 h2 => ?_⟩
  by_cases hx : x = t
  · rw [hx, i, xI_nw, if_pos hS.symm]
  · exact z x (by omega) (by omega)
theorem mk_34 {d t : Nat} {m : am_M} (hS : mS m = t) : ∃ m', cal d 34 [.ref t] (nw m (1, 4, 0) 4) = some (none, m') ∧ Nw 4 22 PlK t m m' := by
  obtain ⟨m', e, s, w, k, q, i, l, z⟩ := sp_34 (d := d) (o := t) (m := nw m (1, 4, 0) 4) (by rw [xK_nw, if_pos hS.symm]) (by rw [xS_nw, hS])
  refine ⟨m', e, by rw [s], by rw [w, xN_nw], (Ke.nw (by omega)).trans k, q, fun x h1 h2 => ?_⟩
  by_cases hx : x = t
  · rw [hx, i, xI_nw, if_pos hS.symm]
  · exact z x (by omega) (by omega)
theorem mk_58 {d t : Nat} {m : am_M} (hS : mS m = t) : ∃ m', cal d 58 [.ref t] (nw m (1, 7, 0) 2) = some (none, m') ∧ Nw 2 402 RoK t m m' := by
  obtain ⟨m', e, s, w, k, q, i, l, z⟩ := sp_58 (d := d) (o := t) (m := nw m (1, 7, 0) 2) (by rw [xK_nw, if_pos hS.symm]) (by rw [xS_nw, hS])
  refine ⟨m', e, by rw [s], by rw [w, xN_nw], (Ke.nw (by omega)).trans k, q, fun x h1 h2 => ?_⟩
  by_cases hx : x = t
  · rw [hx, i, xI_nw, if_pos hS.symm]
  · exact z x (by omega) (by omega)
theorem mk_5 {d t : Nat} {m : am_M} (hS : mS m = t) : ∃ m', cal d 5 [.ref t] (nw m (1, 1, 0) 6) = some (none, m') ∧ Nw 1 6 GaK t m m' := by
  refine ⟨nw m (1, 1, 0) 6, by simp only [c5, e5_0, e5_1, e5_4, am_k_some, va_rf_some, va_rf_none, tl_some, tl_none, am_clr_int, am_clr_ref, am_clr_none, am_clr_long, am_w_nil, am_w_int, am_w_ref, am_w_long, am_w_null, am_bb_0, am_bb_1, am_bb_bI, xK_sI, xR_sI, xS_sI, xN_sI, xK_sL, xR_sL, xS_sL, xN_sL, xK_sR, xR_sR, xS_sR, xN_sR, xK_sA, xR_sA, xS_sA, xN_sA, Nat.reduceAdd, Nat.reduceLeDiff, sI_sA, I_sA', sA_sA, I_sA, I_sA', nI_add, mul_nI, bI_0, bI_1], by rw [xS_nw, hS], by rw [xN_nw], Ke.nw (by omega), by unfold GaK; rw [xK_nw, if_pos hS.symm], fun x h1 h2 => ?_⟩
  rw [xI_nw, if_pos (by omega)]
/-- the loop: twenty lanes -/
theorem sp_63l {d a : Nat} : ∀ (n i : Nat) (m : am_M) (hi : i + n = 20) (hS : mS m = a + 26 + 2 * i) (hK : mK m a = (1, 8, 0)) (hR : mR m a 0 = some (a + 1)) (hA : mK m (a + 1) = (5, 2, 20)),
    ∃ m', ev (d + 1) 63 98 [some (.ref a), some (.int (nI i))] [] m = some (none, m') ∧ mS m' = a + 66 ∧ mN m' = mN m + 47 * n ∧ (∀ x, x < a + 26 + 2 * i → x ≠ a + 1 → mK m' x = mK m x ∧ mI m' x = mI m x ∧ mL m' x = mL m x ∧ mR m' x = mR m x) ∧ (mK m' (a + 1) = mK m (a + 1) ∧ mI m' (a + 1) = mI m (a + 1)) ∧ (∀ l, l < i → mR m' (a + 1) l = mR m (a + 1) l) ∧ (∀ l, i ≤ l → l < 20 → mR m' (a + 1) l = some (a + 26 + 2 * l) ∧ LaK m' (a + 26 + 2 * l)) ∧ (∀ x, a + 26 + 2 * i ≤ x → x < a + 66 → mI m' x = (fun _ => 0))
  | 0, i, m, hi, hS, hK, hR, hA => by
    have hi' : i = 20 := by omega
    subst hi'
    refine ⟨m, ?_, by rw [hS], rfl, fun _ _ _ => ⟨rfl, rfl, rfl, rfl⟩, ⟨rfl, rfl⟩, fun _ _ => rfl, fun l h1 h2 => absurd h2 (by omega), fun x h1 h2 => absurd h2 (by omega)⟩
    simp (disch := omega) only [e63_0, e63_1, e63_4, e63_5, e63_7, e63_10, e63_13, e63_14, e63_17, e63_17r, e63_18, e63_21, e63_24, e63_25, e63_28, e63_28r, e63_29, e63_32, e63_35, e63_36, e63_39, e63_39r, e63_40, e63_43, e63_46, e63_47, e63_50, e63_50r, e63_51, e63_54, e63_57, e63_58, e63_61, e63_61r, e63_62, e63_65, e63_68, e63_69, e63_70, e63_73, e63_74, e63_77, e63_80, e63_81, e63_82, e63_85, e63_86, e63_89, e63_89r, e63_90, e63_93, e63_96, e63_97, e63_98, e63_99, e63_101, e63_104, e63_105, e63_108, e63_109, e63_112, e63_112r, e63_113, e63_116, e63_117, e63_120, e63_123, am_k_some, va_rf_some, va_rf_none, tl_some, tl_none, am_clr_int, am_clr_ref, am_clr_none, am_clr_long, am_w_nil, am_w_int, am_w_ref, am_w_long, am_w_null, am_bb_0, am_bb_1, am_bb_bI, xK_sI, xR_sI, xS_sI, xN_sI, xK_sL, xR_sL, xS_sL, xN_sL, xK_sR, xR_sR, xS_sR, xN_sR, xK_sA, xR_sA, xS_sA, xN_sA, Nat.reduceAdd, Nat.reduceLeDiff, sI_sA, I_sA', sA_sA, I_sA, I_sA', nI_add, mul_nI, bI_0, bI_1, ix_nI, cl_nI, lt_nI, eq_nI, sub_nI, Nat.reduceEqDiff, Nat.one_ne_zero, Nat.not_lt_zero, ↓reduceIte, Nat.lt_irrefl]
  | n + 1, i, m, hi, hS, hK, hR, hA => by
    obtain ⟨m2, e, w⟩ := mk_10 (d := d) (t := a + 26 + 2 * i) (m := m) hS
    have wk := w.2.2.1
    have wl := w.2.2.2.1
    obtain ⟨p1, p2, p3, p4, p5, p6, p7, p8⟩ := nw_put (a := a + 1) (j := i) bk_LaK (by omega) w
    obtain ⟨m', g, s1, s2, s3, s4, s5, s6, s7⟩ := sp_63l (d := d) (a := a) n (i + 1) (sR m2 (a + 1) i (some (a + 26 + 2 * i))) (by omega) (by rw [p1]; omega) (by rw [(p8 a (by omega) (by omega)).1]; exact hK) (by rw [(p8 a (by omega) (by omega)).2.2.2]; exact hR) (by rw [p7.1]; exact hA)
    have q1 : mK m2 (a + 1) = (5, 2, 20) := by rw [(wk (a + 1) (by omega)).1]; exact hA
    have q2 : mK m2 (a + 26 + 2 * i) = (1, 2, 0) := wl.k
    have hlt : i < 20 := by omega
    have h20 : i < 1000 := by omega
    refine ⟨m', ?_, s1, by rw [s2, p2]; omega, fun x h1 h2 => ?_, ?_, fun l hl => ?_, fun l h1 h2 => ?_, fun x h1 h2 => ?_⟩
    · rw [← g]
      rw [e63_98]
      simp (disch := first | (simp (disch := omega) only [am_k_some, va_rf_some, va_rf_none, tl_some, tl_none, am_clr_int, am_clr_ref, am_clr_none, am_clr_long, am_w_nil, am_w_int, am_w_ref, am_w_long, am_w_null, am_bb_0, am_bb_1, am_bb_bI, xK_sI, xR_sI, xS_sI, xN_sI, xK_sL, xR_sL, xS_sL, xN_sL, xK_sR, xR_sR, xS_sR, xN_sR, xK_sA, xR_sA, xS_sA, xN_sA, Nat.reduceAdd, Nat.reduceLeDiff, sI_sA, I_sA', sA_sA, I_sA, I_sA', nI_add, mul_nI, bI_0, bI_1, hK, hR, hA, q1, q2, ix_nI, cl_nI]; done) | omega | assumption) only [e63_0, e63_1, e63_4, e63_5, e63_7, e63_10, e63_13, e63_14, e63_17, e63_17r, e63_18, e63_21, e63_24, e63_25, e63_28, e63_28r, e63_29, e63_32, e63_35, e63_36, e63_39, e63_39r, e63_40, e63_43, e63_46, e63_47, e63_50, e63_50r, e63_51, e63_54, e63_57, e63_58, e63_61, e63_61r, e63_62, e63_65, e63_68, e63_69, e63_70, e63_73, e63_74, e63_77, e63_80, e63_81, e63_82, e63_85, e63_86, e63_89, e63_89r, e63_90, e63_93, e63_96, e63_97, e63_99, e63_101, e63_104, e63_105, e63_108, e63_109, e63_112, e63_112r, e63_113, e63_116, e63_117, e63_120, e63_123, am_k_some, va_rf_some, va_rf_none, tl_some, tl_none, am_clr_int, am_clr_ref, am_clr_none, am_clr_long, am_w_nil, am_w_int, am_w_ref, am_w_long, am_w_null, am_bb_0, am_bb_1, am_bb_bI, xK_sI, xR_sI, xS_sI, xN_sI, xK_sL, xR_sL, xS_sL, xN_sL, xK_sR, xR_sR, xS_sR, xN_sR, xK_sA, xR_sA, xS_sA, xN_sA, Nat.reduceAdd, Nat.reduceLeDiff, sI_sA, I_sA', sA_sA, I_sA, I_sA', nI_add, mul_nI, bI_0, bI_1, ix_nI, cl_nI, lt_nI, eq_nI, sub_nI, Nat.reduceEqDiff, Nat.one_ne_zero, Nat.not_lt_zero, ↓reduceIte, hK, hR, hA, hlt, hS, e, q1, q2]
    · rw [(s3 x (by omega) h2).1, (s3 x (by omega) h2).2.1, (s3 x (by omega) h2).2.2.1, (s3 x (by omega) h2).2.2.2]
      exact p8 x h1 h2
    · rw [s4.1, s4.2, p7.1, p7.2.1]
      exact ⟨rfl, rfl⟩
    · rw [s5 l (by omega), p6 l (by omega)]
    · by_cases hl : l = i
      · subst hl
        refine ⟨by rw [s5 l (by omega)]; exact p5, bk_LaK _ _ _ (fun x g1 g2 => ⟨(s3 x (by omega) (by omega)).1, (s3 x (by omega) (by omega)).2.2.2⟩) p3⟩
      · exact s6 l (by omega) h2
    · by_cases hx : x < a + 26 + 2 * (i + 1)
      · rw [(s3 x hx (by omega)).2.1]
        exact p4 x h1 (by omega)
      · exact s7 x (by omega) h2
