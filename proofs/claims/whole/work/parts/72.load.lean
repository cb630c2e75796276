/-! a load is told -/
theorem telS_off {S : Nat → Int32} {n y : Nat} {kd g w pt dr : Int32} (h0 : y ≠ 6500) (h1 : y ≠ 900 + n) (h2 : y ≠ 1300 + n) (h3 : y ≠ 1700 + n) (h4 : y ≠ 2100 + n) (h5 : y ≠ 2500 + n) (h6 : y ≠ 2900 + n) (h7 : y ≠ 3300 + n) (h8 : y ≠ 3700 + n) (h9 : y ≠ 4100 + n) : telS S n kd g w pt dr y = S y := by
  unfold telS
  rw [up1_ne h9, up1_ne h8, up1_ne h7, up1_ne h6, up1_ne h5, up1_ne h4, up1_ne h3, up1_ne h2, up1_ne h1, up1_ne h0]
/-- S' is S with load n told -/
def NwO (S S' : Nat → Int32) (n : Nat) (kd g w pt dr : Int32) : Prop := S' 6500 = nI (n + 1) ∧ (∀ y, y < 900 → S' y = S y) ∧ (∀ y, 4500 ≤ y → y ≠ 6500 → S' y = S y) ∧ (∀ l, l < n → S' (900 + l) = S (900 + l) ∧ S' (1300 + l) = S (1300 + l) ∧ S' (1700 + l) = S (1700 + l) ∧ S' (2100 + l) = S (2100 + l) ∧ S' (2500 + l) = S (2500 + l) ∧ S' (3300 + l) = S (3300 + l) ∧ S' (3700 + l) = S (3700 + l) ∧ S' (4100 + l) = S (4100 + l)) ∧ (S' (900 + n) = kd ∧ S' (1300 + n) = g ∧ S' (1700 + n) = w ∧ S' (2100 + n) = pt ∧ S' (2500 + n) = dr ∧ S' (2900 + n) = -1 ∧ S' (3300 + n) = nI 0 ∧ S' (3700 + n) = -1 ∧ S' (4100 + n) = -1)
theorem tel_nw {S : Nat → Int32} {n : Nat} {kd g w pt dr : Int32} (hn : n < 400) : NwO S (telS S n kd g w pt dr) n kd g w pt dr := by
  refine ⟨?_, fun y hy => telS_off (by omega) (by omega) (by omega) (by omega) (by omega) (by omega) (by omega) (by omega) (by omega) (by omega), fun y hy h0 => telS_off h0 (by omega) (by omega) (by omega) (by omega) (by omega) (by omega) (by omega) (by omega) (by omega), fun l hl => ?_, ?_⟩
  · unfold telS
    rw [up1_ne (by omega), up1_ne (by omega), up1_ne (by omega), up1_ne (by omega), up1_ne (by omega), up1_ne (by omega), up1_ne (by omega), up1_ne (by omega), up1_ne (by omega), up1_eq]
  · refine ⟨?_, ?_, ?_, ?_, ?_, ?_, ?_, ?_⟩ <;> exact telS_off (by omega) (by omega) (by omega) (by omega) (by omega) (by omega) (by omega) (by omega) (by omega) (by omega)
  · unfold telS
    refine ⟨?_, ?_, ?_, ?_, ?_, ?_, ?_, ?_, ?_⟩
    · rw [up1_ne (by omega), up1_ne (by omega), up1_ne (by omega), up1_ne (by omega), up1_ne (by omega), up1_ne (by omega), up1_ne (by omega), up1_ne (by omega), up1_eq]
    · rw [up1_ne (by omega), up1_ne (by omega), up1_ne (by omega), up1_ne (by omega), up1_ne (by omega), up1_ne (by omega), up1_ne (by omega), up1_eq]
    · rw [up1_ne (by omega), up1_ne (by omega), up1_ne (by omega), up1_ne (by omega), up1_ne (by omega), up1_ne (by omega), up1_eq]
    · rw [up1_ne (by omega), up1_ne (by omega), up1_ne (by omega), up1_ne (by omega), up1_ne (by omega), up1_eq]
    · rw [up1_ne (by omega), up1_ne (by omega), up1_ne (by omega), up1_ne (by omega), up1_eq]
    · rw [up1_ne (by omega), up1_ne (by omega), up1_ne (by omega), up1_eq]
    · rw [up1_ne (by omega), up1_ne (by omega), up1_eq]
    · rw [up1_ne (by omega), up1_eq]
    · rw [up1_eq]
theorem NwO.dr {S S' : Nat → Int32} {n r : Nat} {kd g w pt dr v : Int32} (h : NwO S S' n kd g w pt dr) (hn : n < 400) (hr : r < n) : NwO S (up1 S' (2900 + r) v) n kd g w pt dr := by
  obtain ⟨h1, h2, h3, h4, h5⟩ := h
  refine ⟨by rw [up1_ne (by omega)]; exact h1, fun y hy => by rw [up1_ne (by omega)]; exact h2 y hy, fun y hy h0 => by rw [up1_ne (by omega)]; exact h3 y hy h0, fun l hl => ?_, ?_⟩
  · rw [up1_ne (by omega), up1_ne (by omega), up1_ne (by omega), up1_ne (by omega), up1_ne (by omega), up1_ne (by omega), up1_ne (by omega), up1_ne (by omega)]
    exact h4 l hl
  · rw [up1_ne (by omega), up1_ne (by omega), up1_ne (by omega), up1_ne (by omega), up1_ne (by omega), up1_ne (by omega), up1_ne (by omega), up1_ne (by omega), up1_ne (by omega)]
    exact h5
section NO
variable {S S' : Nat → Int32} {n : Nat} {kd g w pt dr : Int32}
theorem NwO.nmE (h : NwO S S' n kd g w pt dr) (hn : n < 400) : nm S' = n + 1 := by unfold nm; rw [h.1, cl_nI (by omega)]
theorem NwO.lnE (h : NwO S S' n kd g w pt dr) {i : Nat} (hi : i < 20) : ln S' i = ln S i := by unfold ln; rw [h.2.1 _ (by omega)]
theorem NwO.lenE (h : NwO S S' n kd g w pt dr) {i : Nat} (hi : i < 20) : lenS S' i = lenS S i := by unfold lenS; rw [h.lnE hi, h.2.1 _ (by omega)]
theorem NwO.sp (h : NwO S S' n kd g w pt dr) {l : Nat} (hl : l < n) : spanS S' l = spanS S l := by unfold spanS; rw [(h.2.2.2.1 l hl).1]
theorem NwO.st (h : NwO S S' n kd g w pt dr) (hL : LnOk S) {l i q : Nat} (hl : l < n) (s : StA S l i q) : StA S' l i q := by
  obtain ⟨a1, a2, a3, a4, a5, a6, a7⟩ := s
  obtain ⟨-, -, -, -, -, b1, b2, b3⟩ := h.2.2.2.1 l hl
  have := (hL i a4).2
  refine ⟨by rw [b1]; exact a1, by rw [b2]; exact a2, by rw [b3]; exact a3, a4, by rw [h.2.1 _ (by omega)]; exact a5, by rw [h.sp hl, h.lnE a4]; exact a6, fun k hk => ?_⟩
  rw [h.sp hl] at hk
  rw [h.2.1 _ (by omega)]
  exact a7 k hk
theorem NwO.inE (h : NwO S S' n kd g w pt dr) (hn : nm S = n) (hn2 : n < 400) (j : Nat) : inS S' j = inS S j := by
  unfold inS
  rw [h.nmE hn2, hn, cntR, Nat.zero_add, h.2.2.2.2.2.2.2.2.2.2.1, decide_eq_false (by decide), Bool.false_and, if_neg (by decide), Nat.add_zero]
  refine cntR_congr fun p _ hp => ?_
  obtain ⟨-, -, -, -, -, b1, b2, b3⟩ := h.2.2.2.1 p (by omega)
  rw [b1, b2]
theorem NwO.chE (h : NwO S S' n kd g w pt dr) (hL : LnOk S) {j : Nat} (hj : j < 20) : chN S' j = chN S j := by
  have := lenS_le hL hj
  unfold chN
  rw [h.lenE hj]
  refine cntR_congr fun p _ hp => ?_
  rw [h.2.1 p (by omega)]
theorem NwO.wf (h : NwO S S' n kd g w pt dr) (W : Wf S) (hn : nm S = n) (hn2 : n < 400) (hk : ∃ k, 1 ≤ k ∧ k ≤ 5 ∧ kd = nI k ∧ (3 < k → ∃ r, r < n ∧ dr = nI r)) (hp : ∃ p, p ≤ 11 ∧ pt = nI p) (hd : ∀ l, l < n → S' (2900 + l) = -1 ∨ ∃ r, r < n + 1 ∧ S' (2900 + l) = nI r) : Wf S' := by
  have nmE := h.nmE hn2
  have ai : ∀ i, i < 20 → AgI i S S' := fun i hi => ⟨fun p hp => h.2.1 _ (by omega), h.2.1 _ (by omega), h.2.1 _ (by omega), h.2.1 _ (by omega), fun l hl => (h.2.2.2.1 l (by omega)).2.2.2.1⟩
  have akE : ak S' = ak S := by unfold ak; rw [h.2.2.1 _ (by omega) (by omega)]
  have e1 : S' 6501 = S 6501 := h.2.2.1 _ (by omega) (by omega)
  have e2 : S' 6502 = S 6502 := h.2.2.1 _ (by omega) (by omega)
  have e3 : S' 6503 = S 6503 := h.2.2.1 _ (by omega) (by omega)
  have e7 : S' 6507 = S 6507 := h.2.2.1 _ (by omega) (by omega)
  have p0E : p0S S' = p0S S := by unfold p0S; rw [e1, e2]
  have hL' : LnOk S' := fun i hi => by rw [h.lnE hi, h.2.1 _ (by omega)]; exact W.ln i hi
  have hN' : NmOk S' := ⟨by rw [nmE]; exact h.1, by omega⟩
  refine ⟨hL', hN', fun i hi => ?_, fun l hl => ?_, fun l hl => ?_, fun j p hj hp2 => ?_, W.y.of e1 e2 e3, ?_, ?_, W.m1.of (h.2.2.1 _ (by omega) (by omega)), W.m2.of (h.2.2.1 _ (by omega) (by omega)), fun q => ?_, fun q p hp1 hp2 i hi => ?_⟩
  · rw [h.lnE hi, h.2.1 (800 + i) (by omega), h.2.1 (880 + i) (by omega)]; exact W.t i hi
  · rw [nmE] at hl ⊢
    by_cases hln : l = n
    · subst hln
      obtain ⟨q1, q2, q3, q4, q5, q6, q7, q8, q9⟩ := h.2.2.2.2
      rw [q1, q5, q4, q6]
      obtain ⟨k, k1, k2, k3, k4⟩ := hk
      refine ⟨⟨k, k1, k2, k3, fun hk3 => ?_⟩, hp, Or.inl rfl⟩
      obtain ⟨r, r1, r2⟩ := k4 hk3
      exact ⟨r, by omega, r2⟩
    · obtain ⟨q1, q2, q3, q4, q5, q6, q7, q8⟩ := h.2.2.2.1 l (by omega)
      rw [q1, q4, q5]
      obtain ⟨⟨k, k1, k2, k3, k4⟩, d2, d3⟩ := W.d l (by omega)
      refine ⟨⟨k, k1, k2, k3, fun hk3 => ?_⟩, d2, hd l (by omega)⟩
      obtain ⟨r, r1, r2⟩ := k4 hk3
      exact ⟨r, by omega, r2⟩
  · rw [nmE] at hl
    by_cases hln : l = n
    · subst hln
      obtain ⟨q1, q2, q3, q4, q5, q6, q7, q8, q9⟩ := h.2.2.2.2
      exact Or.inl ⟨Or.inl q7, q8, q9⟩
    · obtain ⟨q1, q2, q3, q4, q5, q6, q7, q8⟩ := h.2.2.2.1 l (by omega)
      rcases W.w l (by omega) with z | ⟨i, q, s⟩
      · exact Or.inl (z.of q6 q7 q8)
      · exact Or.inr ⟨i, q, h.st W.ln (by omega) s⟩
  · rw [h.2.1 _ (by omega), h.lenE hj, nmE]
    rcases W.c j p hj hp2 with z | z | ⟨l, q, a1, a2, a3, a4, a5⟩
    · exact Or.inl z
    · exact Or.inr (Or.inl z)
    · exact Or.inr (Or.inr ⟨l, q, by omega, a2, h.st W.ln (by omega) a3, a4, by rw [h.sp (by omega)]; exact a5⟩)
  · unfold AkOk; rw [akE, e7]; exact W.a
  · rw [akE]
    have a2 := W.a.2
    refine UV_eq _ ?_ W.ln hL' W.nm hN' (UV_A _ (fun j hj => ?_) W.u)
    · refine ⟨by omega, fun y hy => ?_⟩
      rcases hy with z | ⟨l, hl, z⟩
      · exact h.2.1 y z
      · obtain ⟨q1, q2, q3, q4, q5, q6, q7, q8⟩ := h.2.2.2.1 l (by omega)
        rcases z with rfl | rfl | rfl | rfl
        · exact q1
        · exact q6
        · exact q7
        · exact q8
    · unfold acR; exact h.2.2.1 _ (by omega) (by omega)
  · rw [e7]; rw [e1] at q; exact W.s q
  · rw [p0E] at hp1
    rw [e3] at hp2
    rw [e1] at q
    rw [(ai i hi).ef W.nm W.ln W.c.ok hi]
    exact W.k q p hp1 hp2 i hi
theorem NwO.sh (h : NwO S S' n kd g w pt dr) (W : Wf S) (hn : nm S = n) (hn2 : n < 400) {m m' : am_M} {a : Nat} {L : Int64} (v : ShV m a S L) (hm : ∀ x, (x < a + 2 ∨ a + 12 ≤ x) → mI m' x = mI m x) (hL : mL m' a = mL m a) (hlo : LoV m' (a + 2) S') : ShV m' a S' L := by
  refine ⟨fun i hi => ?_, hlo, ?_, ?_, ?_, ?_, ?_⟩
  · have := lenS_le W.ln hi
    exact ((v.la hi).mem (hm _ (by omega)) (hm _ (by omega))).arr (h.2.1 _ (by omega)) (h.2.1 _ (by omega)) (h.2.1 _ (by omega)) (h.2.1 _ (by omega)) (h.2.1 _ (by omega)) (fun p hp => h.2.1 _ (by omega)) (h.inE hn hn2 i) (h.chE W.ln hi)
  · exact (v.ac.mem (fun k hk => hm _ (by omega))).arr (fun y hy => h.2.2.1 y (by omega) (by omega)) W.a
  · exact (v.pl.mem (fun k hk => hm _ (by omega))).arr (fun y y1 y2 => h.2.2.1 _ (by omega) (by omega))
  · exact (v.ash.mem (hm _ (by omega)) (hm _ (by omega))).arr W.m1 (h.2.2.1 _ (by omega) (by omega)) (fun j hj => h.2.2.1 _ (by omega) (by omega))
  · exact (v.dep.mem (hm _ (by omega)) (hm _ (by omega))).arr W.m2 (h.2.2.1 _ (by omega) (by omega)) (fun j hj => h.2.2.1 _ (by omega) (by omega))
  · exact (v.sc.mem (hm _ (by omega)) hL).arr (fun y y1 y2 => h.2.2.1 _ (by omega) (by omega))
end NO
/-! tell -/
def teM (m : am_M) (o n : Nat) (kd g w pt dr : Int32) : am_M := sA (sA (sA (sA (sA (sA (sA (sA (sA (sA m (o + 1) (up1 (mI m (o + 1)) n kd)) (o + 2) (up1 (mI m (o + 2)) n (g + nI (if kd = nI 2 then 10 else if kd = nI 3 then 20 else 0)))) (o + 3) (up1 (mI m (o + 3)) n (if kd = nI 3 then nI 2 * (w / nI 8) else if kd = nI 5 then w / nI 8 + nI 1 else w / nI 8))) (o + 4) (up1 (mI m (o + 4)) n pt)) (o + 5) (up1 (mI m (o + 5)) n dr)) (o + 6) (up1 (mI m (o + 6)) n (-1))) (o + 7) (up1 (mI m (o + 7)) n (nI 0))) (o + 8) (up1 (mI m (o + 8)) n (-1))) (o + 9) (up1 (mI m (o + 9)) n (-1))) o (up1 (mI m o) 9 (nI (n + 1)))
theorem sp_27 {d o n : Nat} {kd g w pt dr : Int32} {m : am_M} (k : LoK m o) (hn : mI m o 9 = nI n) (n2 : n < 400) : cal (d + 1) 27 [.ref o, .int kd, .int g, .int w, .int pt, .int dr] m = some (none, teM m o n kd g w pt dr) := by
  unfold teM
  simp (disch := first | (simp (disch := omega) only [am_k_some, va_rf_some, va_rf_none, tl_some, tl_none, am_clr_int, am_clr_ref, am_clr_none, am_clr_long, am_w_nil, am_w_int, am_w_ref, am_w_long, am_w_null, am_bb_0, am_bb_1, am_bb_bI, xK_sI, xR_sI, xS_sI, xN_sI, xK_sL, xR_sL, xS_sL, xN_sL, xK_sR, xR_sR, xS_sR, xN_sR, xK_sA, xR_sA, xS_sA, xN_sA, Nat.reduceAdd, Nat.reduceLeDiff, sI_sA, I_sA', sA_sA, I_sA, I_sA', nI_add, mul_nI, bI_0, bI_1, k.k, k.r0, k.k0, k.r1, k.k1, k.r2, k.k2, k.r3, k.k3, k.r4, k.k4, k.r5, k.k5, k.r6, k.k6, k.r7, k.k7, k.r8, k.k8, LoK_sA, LoK_sL, ix_nI, cl_nI]; done) | omega | assumption) only [c27, e27_0, e27_1, e27_4, e27_7, e27_10, e27_11, e27_12, e27_15, e27_16, e27_19, e27_20, e27_21, e27_22, e27_25, e27_26, e27_29, e27_30, e27_31, e27_34, e27_35, e27_36, e27_37, e27_40, e27_41, e27_44, e27_45, e27_46, e27_49, e27_50, e27_51, e27_54, e27_55, e27_58, e27_60, e27_61, e27_62, e27_65, e27_66, e27_69, e27_71, e27_72, e27_73, e27_76, e27_77, e27_80, e27_81, e27_82, e27_83, e27_86, e27_87, e27_90, e27_91, e27_92, e27_93, e27_96, e27_97, e27_100, e27_101, e27_102, e27_103, e27_106, e27_107, e27_110, e27_111, e27_112, e27_113, e27_113r, e27_114, e27_117, e27_118, e27_119, e27_122, am_k_some, va_rf_some, va_rf_none, tl_some, tl_none, am_clr_int, am_clr_ref, am_clr_none, am_clr_long, am_w_nil, am_w_int, am_w_ref, am_w_long, am_w_null, am_bb_0, am_bb_1, am_bb_bI, xK_sI, xR_sI, xS_sI, xN_sI, xK_sL, xR_sL, xS_sL, xN_sL, xK_sR, xR_sR, xS_sR, xN_sR, xK_sA, xR_sA, xS_sA, xN_sA, Nat.reduceAdd, Nat.reduceLeDiff, sI_sA, I_sA', sA_sA, I_sA, I_sA', nI_add, mul_nI, bI_0, bI_1, k.k, k.r0, k.k0, k.r1, k.k1, k.r2, k.k2, k.r3, k.k3, k.r4, k.k4, k.r5, k.k5, k.r6, k.k6, k.r7, k.k7, k.r8, k.k8, ix_nI, cl_nI, lt_nI, eq_nI, sub_nI, Nat.reduceEqDiff, Nat.one_ne_zero, Nat.not_lt_zero, ↓reduceIte, hn, n2, sp_135, sp_136]
section TE
variable {m : am_M} {o n : Nat} {kd g w pt dr : Int32}
theorem teM_0 : mI (teM m o n kd g w pt dr) o = up1 (mI m o) 9 (nI (n + 1)) := by unfold teM; rw [I_sA]
theorem teM_r {x : Nat} {f : Nat → Int32} (h : ∃ r, 1 ≤ r ∧ r ≤ 9 ∧ x = o + r) (hf : f = up1 (mI m x) n (if x = o + 1 then kd else if x = o + 2 then g + nI (if kd = nI 2 then 10 else if kd = nI 3 then 20 else 0) else if x = o + 3 then (if kd = nI 3 then nI 2 * (w / nI 8) else if kd = nI 5 then w / nI 8 + nI 1 else w / nI 8) else if x = o + 4 then pt else if x = o + 5 then dr else if x = o + 7 then nI 0 else -1)) : mI (teM m o n kd g w pt dr) x = f := by
  obtain ⟨r, r1, r2, rfl⟩ := h
  subst hf
  unfold teM
  have : r = 1 ∨ r = 2 ∨ r = 3 ∨ r = 4 ∨ r = 5 ∨ r = 6 ∨ r = 7 ∨ r = 8 ∨ r = 9 := by omega
  rcases this with rfl | rfl | rfl | rfl | rfl | rfl | rfl | rfl | rfl <;>
    simp (disch := omega) only [I_sA', I_sA, Nat.add_left_cancel_iff, Nat.reduceEqDiff, if_true, if_false]
theorem teM_off {x : Nat} (h : x < o ∨ o + 9 < x) : mI (teM m o n kd g w pt dr) x = mI m x := by
  unfold teM
  simp (disch := omega) only [I_sA']
theorem teM_fr {a : Nat} {m0 : am_M} (h : Fr a m0 m) (h1 : a ≤ o) (h2 : o + 9 < a + 66) : Fr a m0 (teM m o n kd g w pt dr) := (((((((((h.sA (by omega) (by omega)).sA (by omega) (by omega)).sA (by omega) (by omega)).sA (by omega) (by omega)).sA (by omega) (by omega)).sA (by omega) (by omega)).sA (by omega) (by omega)).sA (by omega) (by omega)).sA (by omega) (by omega)).sA (by omega) (by omega)
end TE
