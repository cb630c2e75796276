/-! CONSTRUCTORS: what is made, what stays -/
theorem xS_nw (m : am_M) (q : Nat × Nat × Nat) (n : Nat) : mS (nw m q n) = mS m + 1 := by rw [mS_nw]
theorem xN_nw (m : am_M) (q : Nat × Nat × Nat) (n : Nat) : mN (nw m q n) = mN m + n := by rw [mN_nw]
theorem xK_nw (m : am_M) (q : Nat × Nat × Nat) (n x : Nat) : mK (nw m q n) x = if x = mS m then q else mK m x := by
  rw [mK_nw]
  unfold upA
  split <;> rfl
theorem xI_nw (m : am_M) (q : Nat × Nat × Nat) (n x : Nat) : mI (nw m q n) x = if x = mS m then (fun _ => 0) else mI m x := by
  rw [mI_nw]
  unfold upA
  split <;> rfl
theorem xL_nw (m : am_M) (q : Nat × Nat × Nat) (n x : Nat) : mL (nw m q n) x = if x = mS m then (fun _ => 0) else mL m x := by
  rw [mL_nw]
  unfold upA
  split <;> rfl
theorem xR_nw (m : am_M) (q : Nat × Nat × Nat) (n x : Nat) : mR (nw m q n) x = if x = mS m then (fun _ => none) else mR m x := by
  rw [mR_nw]
  unfold upA
  split <;> rfl
theorem yI_sR (m : am_M) (a k : Nat) (v : Option Nat) : mI (sR m a k v) = mI m := by rw [mI_sR]
theorem yL_sR (m : am_M) (a k : Nat) (v : Option Nat) : mL (sR m a k v) = mL m := by rw [mL_sR]
theorem yR_sR (m : am_M) {a k x : Nat} (v : Option Nat) (h : x ≠ a) : mR (sR m a k v) x = mR m x := by
  funext y
  rw [xR_sR, if_neg (fun q => h q.1)]
/-- cells below o as they were -/
def Ke (o : Nat) (m m' : am_M) : Prop := ∀ x, x < o → mK m' x = mK m x ∧ mI m' x = mI m x ∧ mL m' x = mL m x ∧ mR m' x = mR m x
theorem Ke.refl (o : Nat) (m : am_M) : Ke o m m := fun _ _ => ⟨rfl, rfl, rfl, rfl⟩
theorem Ke.trans {o : Nat} {m1 m2 m3 : am_M} (h : Ke o m1 m2) (g : Ke o m2 m3) : Ke o m1 m3 := fun x hx => ⟨(g x hx).1.trans (h x hx).1, (g x hx).2.1.trans (h x hx).2.1, (g x hx).2.2.1.trans (h x hx).2.2.1, (g x hx).2.2.2.trans (h x hx).2.2.2⟩
theorem Ke.mono {o o' : Nat} {m m' : am_M} (h : Ke o m m') (ho : o' ≤ o) : Ke o' m m' := fun x hx => h x (by omega)
theorem Ke.nw {o : Nat} {m : am_M} {q : Nat × Nat × Nat} {n : Nat} (h : o ≤ mS m) : Ke o m (nw m q n) := fun x hx => by
  rw [xK_nw, xI_nw, xL_nw, xR_nw, if_neg (by omega), if_neg (by omega), if_neg (by omega), if_neg (by omega)]
  exact ⟨rfl, rfl, rfl, rfl⟩
theorem Ke.sR {o a k : Nat} {m : am_M} {v : Option Nat} (h : o ≤ a) : Ke o m (sR m a k v) := fun x hx => ⟨by rw [xK_sR], by rw [yI_sR], by rw [yL_sR], by rw [yR_sR _ _ (by omega)]⟩
/-- one array more for the object at o -/
theorem ar1 {m : am_M} {o t j n : Nat} (hS : mS m = t) (ho : o < t) : mS (sR (nw m (2, 0, n) n) o j (some (mS m))) = t + 1 ∧ mN (sR (nw m (2, 0, n) n) o j (some (mS m))) = mN m + n ∧ mK (sR (nw m (2, 0, n) n) o j (some (mS m))) t = (2, 0, n) ∧ mI (sR (nw m (2, 0, n) n) o j (some (mS m))) t = (fun _ => 0) ∧ mR (sR (nw m (2, 0, n) n) o j (some (mS m))) o j = some t ∧ (∀ i, i ≠ j → mR (sR (nw m (2, 0, n) n) o j (some (mS m))) o i = mR m o i) ∧
    (∀ x, x ≠ t → mK (sR (nw m (2, 0, n) n) o j (some (mS m))) x = mK m x ∧ mI (sR (nw m (2, 0, n) n) o j (some (mS m))) x = mI m x ∧ mL (sR (nw m (2, 0, n) n) o j (some (mS m))) x = mL m x) ∧ (∀ x, x ≠ t → x ≠ o → mR (sR (nw m (2, 0, n) n) o j (some (mS m))) x = mR m x) := by
  refine ⟨by rw [xS_sR, xS_nw, hS], by rw [xN_sR, xN_nw], by rw [xK_sR, xK_nw, if_pos hS.symm], by rw [yI_sR, xI_nw, if_pos hS.symm], by rw [xR_sR, if_pos ⟨rfl, rfl⟩, hS], fun i hi => ?_, fun x hx => ?_, fun x hx hx2 => ?_⟩
  · rw [xR_sR, if_neg (fun q => hi q.2), xR_nw, if_neg (by omega)]
  · rw [xK_sR, yI_sR, yL_sR, xK_nw, xI_nw, xL_nw, if_neg (by omega), if_neg (by omega), if_neg (by omega)]
    exact ⟨rfl, rfl, rfl⟩
  · rw [yR_sR _ _ hx2, xR_nw, if_neg (by omega)]
theorem sp_10 {d o : Nat} {m : am_M} (hK : mK m o = (1, 2, 0)) (hS : mS m = o + 1) : ∃ m', cal d 10 [.ref o] m = some (none, m') ∧ mS m' = o + 2 ∧ mN m' = mN m + 40 ∧ Ke o m m' ∧ LaK m' o ∧ mI m' o = mI m o ∧ mL m' o = mL m o ∧ ∀ x, o < x → x < o + 2 → mI m' x = (fun _ => 0) := by
  obtain ⟨s0, n0a, k0a, i0a, r0a, q0, f0, g0⟩ := ar1 (m := m) (o := o) (t := o + 1) (j := 0) (n := 40) hS (by omega)
  have J0 : mK (nw m (2, 0, 40) 40) o = (1, 2, 0) := by rw [xK_nw, if_neg (by omega)]; exact hK
  have K0 : mK (sR (nw m (2, 0, 40) 40) o 0 (some (mS m))) o = (1, 2, 0) := by rw [(f0 o (by omega)).1]; exact hK
  generalize hm0 : sR (nw m (2, 0, 40) 40) o 0 (some (mS m)) = m0 at *
  refine ⟨m0, ?_, by rw [s0], by omega, fun x hx => ?_, ?_, ?_, ?_, fun x hx1 hx2 => ?_⟩
  · simp (disch := first | (simp (disch := omega) only [am_k_some, va_rf_some, va_rf_none, tl_some, tl_none, am_clr_int, am_clr_ref, am_clr_none, am_clr_long, am_w_nil, am_w_int, am_w_ref, am_w_long, am_w_null, am_bb_0, am_bb_1, am_bb_bI, xK_sI, xR_sI, xS_sI, xN_sI, xK_sL, xR_sL, xS_sL, xN_sL, xK_sR, xR_sR, xS_sR, xN_sR, xK_sA, xR_sA, xS_sA, xN_sA, Nat.reduceAdd, Nat.reduceLeDiff, sI_sA, I_sA', sA_sA, I_sA, I_sA', nI_add, mul_nI, bI_0, bI_1, hK, J0, K0, ix_nI, cl_nI]; done) | omega | assumption) only [c10, e10_0, e10_1, e10_4, e10_5, e10_7, e10_9, e10_12, am_k_some, va_rf_some, va_rf_none, tl_some, tl_none, am_clr_int, am_clr_ref, am_clr_none, am_clr_long, am_w_nil, am_w_int, am_w_ref, am_w_long, am_w_null, am_bb_0, am_bb_1, am_bb_bI, xK_sI, xR_sI, xS_sI, xN_sI, xK_sL, xR_sL, xS_sL, xN_sL, xK_sR, xR_sR, xS_sR, xN_sR, xK_sA, xR_sA, xS_sA, xN_sA, Nat.reduceAdd, Nat.reduceLeDiff, sI_sA, I_sA', sA_sA, I_sA, I_sA', nI_add, mul_nI, bI_0, bI_1, hK, J0, K0, ix_nI, cl_nI, hm0]
  · rw [(f0 x (by omega)).1, (f0 x (by omega)).2.1, (f0 x (by omega)).2.2, g0 x (by omega) (by omega)]
    exact ⟨rfl, rfl, rfl, rfl⟩
  · exact ⟨K0, (by exact r0a), (by exact k0a)⟩
  · rw [(f0 o (by omega)).2.1]
  · rw [(f0 o (by omega)).2.2]
  · have e : x = o + 1 := by omega
    rw [e]; exact i0a
theorem sp_25 {d o : Nat} {m : am_M} (hK : mK m o = (1, 3, 0)) (hS : mS m = o + 1) : ∃ m', cal d 25 [.ref o] m = some (none, m') ∧ mS m' = o + 10 ∧ mN m' = mN m + 3600 ∧ Ke o m m' ∧ LoK m' o ∧ mI m' o = mI m o ∧ mL m' o = mL m o ∧ ∀ x, o < x → x < o + 10 → mI m' x = (fun _ => 0) := by
  obtain ⟨s0, n0a, k0a, i0a, r0a, q0, f0, g0⟩ := ar1 (m := m) (o := o) (t := o + 1) (j := 0) (n := 400) hS (by omega)
  have J0 : mK (nw m (2, 0, 400) 400) o = (1, 3, 0) := by rw [xK_nw, if_neg (by omega)]; exact hK
  have K0 : mK (sR (nw m (2, 0, 400) 400) o 0 (some (mS m))) o = (1, 3, 0) := by rw [(f0 o (by omega)).1]; exact hK
  generalize hm0 : sR (nw m (2, 0, 400) 400) o 0 (some (mS m)) = m0 at *
  obtain ⟨s1, n1a, k1a, i1a, r1a, q1, f1, g1⟩ := ar1 (m := m0) (o := o) (t := o + 2) (j := 1) (n := 400) s0 (by omega)
  have J1 : mK (nw m0 (2, 0, 400) 400) o = (1, 3, 0) := by rw [xK_nw, if_neg (by omega)]; exact K0
  have K1 : mK (sR (nw m0 (2, 0, 400) 400) o 1 (some (mS m0))) o = (1, 3, 0) := by rw [(f1 o (by omega)).1]; exact K0
  generalize hm1 : sR (nw m0 (2, 0, 400) 400) o 1 (some (mS m0)) = m1 at *
  obtain ⟨s2, n2a, k2a, i2a, r2a, q2, f2, g2⟩ := ar1 (m := m1) (o := o) (t := o + 3) (j := 2) (n := 400) s1 (by omega)
  have J2 : mK (nw m1 (2, 0, 400) 400) o = (1, 3, 0) := by rw [xK_nw, if_neg (by omega)]; exact K1
  have K2 : mK (sR (nw m1 (2, 0, 400) 400) o 2 (some (mS m1))) o = (1, 3, 0) := by rw [(f2 o (by omega)).1]; exact K1
  generalize hm2 : sR (nw m1 (2, 0, 400) 400) o 2 (some (mS m1)) = m2 at *
  obtain ⟨s3, n3a, k3a, i3a, r3a, q3, f3, g3⟩ := ar1 (m := m2) (o := o) (t := o + 4) (j := 3) (n := 400) s2 (by omega)
  have J3 : mK (nw m2 (2, 0, 400) 400) o = (1, 3, 0) := by rw [xK_nw, if_neg (by omega)]; exact K2
  have K3 : mK (sR (nw m2 (2, 0, 400) 400) o 3 (some (mS m2))) o = (1, 3, 0) := by rw [(f3 o (by omega)).1]; exact K2
  generalize hm3 : sR (nw m2 (2, 0, 400) 400) o 3 (some (mS m2)) = m3 at *
  obtain ⟨s4, n4a, k4a, i4a, r4a, q4, f4, g4⟩ := ar1 (m := m3) (o := o) (t := o + 5) (j := 4) (n := 400) s3 (by omega)
  have J4 : mK (nw m3 (2, 0, 400) 400) o = (1, 3, 0) := by rw [xK_nw, if_neg (by omega)]; exact K3
  have K4 : mK (sR (nw m3 (2, 0, 400) 400) o 4 (some (mS m3))) o = (1, 3, 0) := by rw [(f4 o (by omega)).1]; exact K3
  generalize hm4 : sR (nw m3 (2, 0, 400) 400) o 4 (some (mS m3)) = m4 at *
  obtain ⟨s5, n5a, k5a, i5a, r5a, q5, f5, g5⟩ := ar1 (m := m4) (o := o) (t := o + 6) (j := 5) (n := 400) s4 (by omega)
  have J5 : mK (nw m4 (2, 0, 400) 400) o = (1, 3, 0) := by rw [xK_nw, if_neg (by omega)]; exact K4
  have K5 : mK (sR (nw m4 (2, 0, 400) 400) o 5 (some (mS m4))) o = (1, 3, 0) := by rw [(f5 o (by omega)).1]; exact K4
  generalize hm5 : sR (nw m4 (2, 0, 400) 400) o 5 (some (mS m4)) = m5 at *
  obtain ⟨s6, n6a, k6a, i6a, r6a, q6, f6, g6⟩ := ar1 (m := m5) (o := o) (t := o + 7) (j := 6) (n := 400) s5 (by omega)
  have J6 : mK (nw m5 (2, 0, 400) 400) o = (1, 3, 0) := by rw [xK_nw, if_neg (by omega)]; exact K5
  have K6 : mK (sR (nw m5 (2, 0, 400) 400) o 6 (some (mS m5))) o = (1, 3, 0) := by rw [(f6 o (by omega)).1]; exact K5
  generalize hm6 : sR (nw m5 (2, 0, 400) 400) o 6 (some (mS m5)) = m6 at *
  obtain ⟨s7, n7a, k7a, i7a, r7a, q7, f7, g7⟩ := ar1 (m := m6) (o := o) (t := o + 8) (j := 7) (n := 400) s6 (by omega)
  have J7 : mK (nw m6 (2, 0, 400) 400) o = (1, 3, 0) := by rw [xK_nw, if_neg (by omega)]; exact K6
  have K7 : mK (sR (nw m6 (2, 0, 400) 400) o 7 (some (mS m6))) o = (1, 3, 0) := by rw [(f7 o (by omega)).1]; exact K6
  generalize hm7 : sR (nw m6 (2, 0, 400) 400) o 7 (some (mS m6)) = m7 at *
  obtain ⟨s8, n8a, k8a, i8a, r8a, q8, f8, g8⟩ := ar1 (m := m7) (o := o) (t := o + 9) (j := 8) (n := 400) s7 (by omega)
  have J8 : mK (nw m7 (2, 0, 400) 400) o = (1, 3, 0) := by rw [xK_nw, if_neg (by omega)]; exact K7
  have K8 : mK (sR (nw m7 (2, 0, 400) 400) o 8 (some (mS m7))) o = (1, 3, 0) := by rw [(f8 o (by omega)).1]; exact K7
  generalize hm8 : sR (nw m7 (2, 0, 400) 400) o 8 (some (mS m7)) = m8 at *
  refine ⟨m8, ?_, by rw [s8], by omega, fun x hx => ?_, ?_, ?_, ?_, fun x hx1 hx2 => ?_⟩
  · simp (disch := first | (simp (disch := omega) only [am_k_some, va_rf_some, va_rf_none, tl_some, tl_none, am_clr_int, am_clr_ref, am_clr_none, am_clr_long, am_w_nil, am_w_int, am_w_ref, am_w_long, am_w_null, am_bb_0, am_bb_1, am_bb_bI, xK_sI, xR_sI, xS_sI, xN_sI, xK_sL, xR_sL, xS_sL, xN_sL, xK_sR, xR_sR, xS_sR, xN_sR, xK_sA, xR_sA, xS_sA, xN_sA, Nat.reduceAdd, Nat.reduceLeDiff, sI_sA, I_sA', sA_sA, I_sA, I_sA', nI_add, mul_nI, bI_0, bI_1, hK, J0, J1, J2, J3, J4, J5, J6, J7, J8, K0, K1, K2, K3, K4, K5, K6, K7, K8, ix_nI, cl_nI]; done) | omega | assumption) only [c25, e25_0, e25_1, e25_4, e25_5, e25_8, e25_10, e25_13, e25_14, e25_17, e25_19, e25_22, e25_23, e25_26, e25_28, e25_31, e25_32, e25_35, e25_37, e25_40, e25_41, e25_44, e25_46, e25_49, e25_50, e25_53, e25_55, e25_58, e25_59, e25_62, e25_64, e25_67, e25_68, e25_71, e25_73, e25_76, e25_77, e25_80, e25_82, e25_85, am_k_some, va_rf_some, va_rf_none, tl_some, tl_none, am_clr_int, am_clr_ref, am_clr_none, am_clr_long, am_w_nil, am_w_int, am_w_ref, am_w_long, am_w_null, am_bb_0, am_bb_1, am_bb_bI, xK_sI, xR_sI, xS_sI, xN_sI, xK_sL, xR_sL, xS_sL, xN_sL, xK_sR, xR_sR, xS_sR, xN_sR, xK_sA, xR_sA, xS_sA, xN_sA, Nat.reduceAdd, Nat.reduceLeDiff, sI_sA, I_sA', sA_sA, I_sA, I_sA', nI_add, mul_nI, bI_0, bI_1, hK, J0, J1, J2, J3, J4, J5, J6, J7, J8, K0, K1, K2, K3, K4, K5, K6, K7, K8, ix_nI, cl_nI, hm0, hm1, hm2, hm3, hm4, hm5, hm6, hm7, hm8]
  · rw [(f8 x (by omega)).1, (f7 x (by omega)).1, (f6 x (by omega)).1, (f5 x (by omega)).1, (f4 x (by omega)).1, (f3 x (by omega)).1, (f2 x (by omega)).1, (f1 x (by omega)).1, (f0 x (by omega)).1, (f8 x (by omega)).2.1, (f7 x (by omega)).2.1, (f6 x (by omega)).2.1, (f5 x (by omega)).2.1, (f4 x (by omega)).2.1, (f3 x (by omega)).2.1, (f2 x (by omega)).2.1, (f1 x (by omega)).2.1, (f0 x (by omega)).2.1, (f8 x (by omega)).2.2, (f7 x (by omega)).2.2, (f6 x (by omega)).2.2, (f5 x (by omega)).2.2, (f4 x (by omega)).2.2, (f3 x (by omega)).2.2, (f2 x (by omega)).2.2, (f1 x (by omega)).2.2, (f0 x (by omega)).2.2, g8 x (by omega) (by omega), g7 x (by omega) (by omega), g6 x (by omega) (by omega), g5 x (by omega) (by omega), g4 x (by omega) (by omega), g3 x (by omega) (by omega), g2 x (by omega) (by omega), g1 x (by omega) (by omega), g0 x (by omega) (by omega)]
    exact ⟨rfl, rfl, rfl, rfl⟩
  · exact ⟨K8, (by rw [q8 0 (by omega), q7 0 (by omega), q6 0 (by omega), q5 0 (by omega), q4 0 (by omega), q3 0 (by omega), q2 0 (by omega), q1 0 (by omega)]; exact r0a), (by rw [(f8 (o + 1) (by omega)).1, (f7 (o + 1) (by omega)).1, (f6 (o + 1) (by omega)).1, (f5 (o + 1) (by omega)).1, (f4 (o + 1) (by omega)).1, (f3 (o + 1) (by omega)).1, (f2 (o + 1) (by omega)).1, (f1 (o + 1) (by omega)).1]; exact k0a), (by rw [q8 1 (by omega), q7 1 (by omega), q6 1 (by omega), q5 1 (by omega), q4 1 (by omega), q3 1 (by omega), q2 1 (by omega)]; exact r1a), (by rw [(f8 (o + 2) (by omega)).1, (f7 (o + 2) (by omega)).1, (f6 (o + 2) (by omega)).1, (f5 (o + 2) (by omega)).1, (f4 (o + 2) (by omega)).1, (f3 (o + 2) (by omega)).1, (f2 (o + 2) (by omega)).1]; exact k1a), (by rw [q8 2 (by omega), q7 2 (by omega), q6 2 (by omega), q5 2 (by omega), q4 2 (by omega), q3 2 (by omega)]; exact r2a), (by rw [(f8 (o + 3) (by omega)).1, (f7 (o + 3) (by omega)).1, (f6 (o + 3) (by omega)).1, (f5 (o + 3) (by omega)).1, (f4 (o + 3) (by omega)).1, (f3 (o + 3) (by omega)).1]; exact k2a), (by rw [q8 3 (by omega), q7 3 (by omega), q6 3 (by omega), q5 3 (by omega), q4 3 (by omega)]; exact r3a), (by rw [(f8 (o + 4) (by omega)).1, (f7 (o + 4) (by omega)).1, (f6 (o + 4) (by omega)).1, (f5 (o + 4) (by omega)).1, (f4 (o + 4) (by omega)).1]; exact k3a), (by rw [q8 4 (by omega), q7 4 (by omega), q6 4 (by omega), q5 4 (by omega)]; exact r4a), (by rw [(f8 (o + 5) (by omega)).1, (f7 (o + 5) (by omega)).1, (f6 (o + 5) (by omega)).1, (f5 (o + 5) (by omega)).1]; exact k4a), (by rw [q8 5 (by omega), q7 5 (by omega), q6 5 (by omega)]; exact r5a), (by rw [(f8 (o + 6) (by omega)).1, (f7 (o + 6) (by omega)).1, (f6 (o + 6) (by omega)).1]; exact k5a), (by rw [q8 6 (by omega), q7 6 (by omega)]; exact r6a), (by rw [(f8 (o + 7) (by omega)).1, (f7 (o + 7) (by omega)).1]; exact k6a), (by rw [q8 7 (by omega)]; exact r7a), (by rw [(f8 (o + 8) (by omega)).1]; exact k7a), (by exact r8a), (by exact k8a)⟩
  · rw [(f8 o (by omega)).2.1, (f7 o (by omega)).2.1, (f6 o (by omega)).2.1, (f5 o (by omega)).2.1, (f4 o (by omega)).2.1, (f3 o (by omega)).2.1, (f2 o (by omega)).2.1, (f1 o (by omega)).2.1, (f0 o (by omega)).2.1]
  · rw [(f8 o (by omega)).2.2, (f7 o (by omega)).2.2, (f6 o (by omega)).2.2, (f5 o (by omega)).2.2, (f4 o (by omega)).2.2, (f3 o (by omega)).2.2, (f2 o (by omega)).2.2, (f1 o (by omega)).2.2, (f0 o (by omega)).2.2]
  · have e : x = o + 1 ∨ x = o + 2 ∨ x = o + 3 ∨ x = o + 4 ∨ x = o + 5 ∨ x = o + 6 ∨ x = o + 7 ∨ x = o + 8 ∨ x = o + 9 := by omega
    rcases e with e | e | e | e | e | e | e | e | e
    · rw [e, (f8 (o + 1) (by omega)).2.1, (f7 (o + 1) (by omega)).2.1, (f6 (o + 1) (by omega)).2.1, (f5 (o + 1) (by omega)).2.1, (f4 (o + 1) (by omega)).2.1, (f3 (o + 1) (by omega)).2.1, (f2 (o + 1) (by omega)).2.1, (f1 (o + 1) (by omega)).2.1]; exact i0a
    · rw [e, (f8 (o + 2) (by omega)).2.1, (f7 (o + 2) (by omega)).2.1, (f6 (o + 2) (by omega)).2.1, (f5 (o + 2) (by omega)).2.1, (f4 (o + 2) (by omega)).2.1, (f3 (o + 2) (by omega)).2.1, (f2 (o + 2) (by omega)).2.1]; exact i1a
    · rw [e, (f8 (o + 3) (by omega)).2.1, (f7 (o + 3) (by omega)).2.1, (f6 (o + 3) (by omega)).2.1, (f5 (o + 3) (by omega)).2.1, (f4 (o + 3) (by omega)).2.1, (f3 (o + 3) (by omega)).2.1]; exact i2a
    · rw [e, (f8 (o + 4) (by omega)).2.1, (f7 (o + 4) (by omega)).2.1, (f6 (o + 4) (by omega)).2.1, (f5 (o + 4) (by omega)).2.1, (f4 (o + 4) (by omega)).2.1]; exact i3a
    · rw [e, (f8 (o + 5) (by omega)).2.1, (f7 (o + 5) (by omega)).2.1, (f6 (o + 5) (by omega)).2.1, (f5 (o + 5) (by omega)).2.1]; exact i4a
    · rw [e, (f8 (o + 6) (by omega)).2.1, (f7 (o + 6) (by omega)).2.1, (f6 (o + 6) (by omega)).2.1]; exact i5a
    · rw [e, (f8 (o + 7) (by omega)).2.1, (f7 (o + 7) (by omega)).2.1]; exact i6a
    · rw [e, (f8 (o + 8) (by omega)).2.1]; exact i7a
    · rw [e]; exact i8a
theorem sp_0 {d o : Nat} {m : am_M} (hK : mK m o = (1, 0, 0)) (hS : mS m = o + 1) : ∃ m', cal d 0 [.ref o] m = some (none, m') ∧ mS m' = o + 5 ∧ mN m' = mN m + 400 ∧ Ke o m m' ∧ AcK m' o ∧ mI m' o = mI m o ∧ mL m' o = mL m o ∧ ∀ x, o < x → x < o + 5 → mI m' x = (fun _ => 0) := by
  obtain ⟨s0, n0a, k0a, i0a, r0a, q0, f0, g0⟩ := ar1 (m := m) (o := o) (t := o + 1) (j := 0) (n := 100) hS (by omega)
  have J0 : mK (nw m (2, 0, 100) 100) o = (1, 0, 0) := by rw [xK_nw, if_neg (by omega)]; exact hK
  have K0 : mK (sR (nw m (2, 0, 100) 100) o 0 (some (mS m))) o = (1, 0, 0) := by rw [(f0 o (by omega)).1]; exact hK
  generalize hm0 : sR (nw m (2, 0, 100) 100) o 0 (some (mS m)) = m0 at *
  obtain ⟨s1, n1a, k1a, i1a, r1a, q1, f1, g1⟩ := ar1 (m := m0) (o := o) (t := o + 2) (j := 1) (n := 100) s0 (by omega)
  have J1 : mK (nw m0 (2, 0, 100) 100) o = (1, 0, 0) := by rw [xK_nw, if_neg (by omega)]; exact K0
  have K1 : mK (sR (nw m0 (2, 0, 100) 100) o 1 (some (mS m0))) o = (1, 0, 0) := by rw [(f1 o (by omega)).1]; exact K0
  generalize hm1 : sR (nw m0 (2, 0, 100) 100) o 1 (some (mS m0)) = m1 at *
  obtain ⟨s2, n2a, k2a, i2a, r2a, q2, f2, g2⟩ := ar1 (m := m1) (o := o) (t := o + 3) (j := 2) (n := 100) s1 (by omega)
  have J2 : mK (nw m1 (2, 0, 100) 100) o = (1, 0, 0) := by rw [xK_nw, if_neg (by omega)]; exact K1
  have K2 : mK (sR (nw m1 (2, 0, 100) 100) o 2 (some (mS m1))) o = (1, 0, 0) := by rw [(f2 o (by omega)).1]; exact K1
  generalize hm2 : sR (nw m1 (2, 0, 100) 100) o 2 (some (mS m1)) = m2 at *
  obtain ⟨s3, n3a, k3a, i3a, r3a, q3, f3, g3⟩ := ar1 (m := m2) (o := o) (t := o + 4) (j := 3) (n := 100) s2 (by omega)
  have J3 : mK (nw m2 (2, 0, 100) 100) o = (1, 0, 0) := by rw [xK_nw, if_neg (by omega)]; exact K2
  have K3 : mK (sR (nw m2 (2, 0, 100) 100) o 3 (some (mS m2))) o = (1, 0, 0) := by rw [(f3 o (by omega)).1]; exact K2
  generalize hm3 : sR (nw m2 (2, 0, 100) 100) o 3 (some (mS m2)) = m3 at *
  refine ⟨m3, ?_, by rw [s3], by omega, fun x hx => ?_, ?_, ?_, ?_, fun x hx1 hx2 => ?_⟩
  · simp (disch := first | (simp (disch := omega) only [am_k_some, va_rf_some, va_rf_none, tl_some, tl_none, am_clr_int, am_clr_ref, am_clr_none, am_clr_long, am_w_nil, am_w_int, am_w_ref, am_w_long, am_w_null, am_bb_0, am_bb_1, am_bb_bI, xK_sI, xR_sI, xS_sI, xN_sI, xK_sL, xR_sL, xS_sL, xN_sL, xK_sR, xR_sR, xS_sR, xN_sR, xK_sA, xR_sA, xS_sA, xN_sA, Nat.reduceAdd, Nat.reduceLeDiff, sI_sA, I_sA', sA_sA, I_sA, I_sA', nI_add, mul_nI, bI_0, bI_1, hK, J0, J1, J2, J3, K0, K1, K2, K3, ix_nI, cl_nI]; done) | omega | assumption) only [c0, e0_0, e0_1, e0_4, e0_5, e0_7, e0_9, e0_12, e0_13, e0_15, e0_17, e0_20, e0_21, e0_23, e0_25, e0_28, e0_29, e0_31, e0_33, e0_36, am_k_some, va_rf_some, va_rf_none, tl_some, tl_none, am_clr_int, am_clr_ref, am_clr_none, am_clr_long, am_w_nil, am_w_int, am_w_ref, am_w_long, am_w_null, am_bb_0, am_bb_1, am_bb_bI, xK_sI, xR_sI, xS_sI, xN_sI, xK_sL, xR_sL, xS_sL, xN_sL, xK_sR, xR_sR, xS_sR, xN_sR, xK_sA, xR_sA, xS_sA, xN_sA, Nat.reduceAdd, Nat.reduceLeDiff, sI_sA, I_sA', sA_sA, I_sA, I_sA', nI_add, mul_nI, bI_0, bI_1, hK, J0, J1, J2, J3, K0, K1, K2, K3, ix_nI, cl_nI, hm0, hm1, hm2, hm3]
  · rw [(f3 x (by omega)).1, (f2 x (by omega)).1, (f1 x (by omega)).1, (f0 x (by omega)).1, (f3 x (by omega)).2.1, (f2 x (by omega)).2.1, (f1 x (by omega)).2.1, (f0 x (by omega)).2.1, (f3 x (by omega)).2.2, (f2 x (by omega)).2.2, (f1 x (by omega)).2.2, (f0 x (by omega)).2.2, g3 x (by omega) (by omega), g2 x (by omega) (by omega), g1 x (by omega) (by omega), g0 x (by omega) (by omega)]
    exact ⟨rfl, rfl, rfl, rfl⟩
  · exact ⟨K3, (by rw [q3 0 (by omega), q2 0 (by omega), q1 0 (by omega)]; exact r0a), (by rw [(f3 (o + 1) (by omega)).1, (f2 (o + 1) (by omega)).1, (f1 (o + 1) (by omega)).1]; exact k0a), (by rw [q3 1 (by omega), q2 1 (by omega)]; exact r1a), (by rw [(f3 (o + 2) (by omega)).1, (f2 (o + 2) (by omega)).1]; exact k1a), (by rw [q3 2 (by omega)]; exact r2a), (by rw [(f3 (o + 3) (by omega)).1]; exact k2a), (by exact r3a), (by exact k3a)⟩
  · rw [(f3 o (by omega)).2.1, (f2 o (by omega)).2.1, (f1 o (by omega)).2.1, (f0 o (by omega)).2.1]
  · rw [(f3 o (by omega)).2.2, (f2 o (by omega)).2.2, (f1 o (by omega)).2.2, (f0 o (by omega)).2.2]
  · have e : x = o + 1 ∨ x = o + 2 ∨ x = o + 3 ∨ x = o + 4 := by omega
    rcases e with e | e | e | e
    · rw [e, (f3 (o + 1) (by omega)).2.1, (f2 (o + 1) (by omega)).2.1, (f1 (o + 1) (by omega)).2.1]; exact i0a
    · rw [e, (f3 (o + 2) (by omega)).2.1, (f2 (o + 2) (by omega)).2.1]; exact i1a
    · rw [e, (f3 (o + 3) (by omega)).2.1]; exact i2a
    · rw [e]; exact i3a
theorem sp_34 {d o : Nat} {m : am_M} (hK : mK m o = (1, 4, 0)) (hS : mS m = o + 1) : ∃ m', cal d 34 [.ref o] m = some (none, m') ∧ mS m' = o + 4 ∧ mN m' = mN m + 18 ∧ Ke o m m' ∧ PlK m' o ∧ mI m' o = mI m o ∧ mL m' o = mL m o ∧ ∀ x, o < x → x < o + 4 → mI m' x = (fun _ => 0) := by
  obtain ⟨s0, n0a, k0a, i0a, r0a, q0, f0, g0⟩ := ar1 (m := m) (o := o) (t := o + 1) (j := 0) (n := 6) hS (by omega)
  have J0 : mK (nw m (2, 0, 6) 6) o = (1, 4, 0) := by rw [xK_nw, if_neg (by omega)]; exact hK
  have K0 : mK (sR (nw m (2, 0, 6) 6) o 0 (some (mS m))) o = (1, 4, 0) := by rw [(f0 o (by omega)).1]; exact hK
  generalize hm0 : sR (nw m (2, 0, 6) 6) o 0 (some (mS m)) = m0 at *
  obtain ⟨s1, n1a, k1a, i1a, r1a, q1, f1, g1⟩ := ar1 (m := m0) (o := o) (t := o + 2) (j := 1) (n := 6) s0 (by omega)
  have J1 : mK (nw m0 (2, 0, 6) 6) o = (1, 4, 0) := by rw [xK_nw, if_neg (by omega)]; exact K0
  have K1 : mK (sR (nw m0 (2, 0, 6) 6) o 1 (some (mS m0))) o = (1, 4, 0) := by rw [(f1 o (by omega)).1]; exact K0
  generalize hm1 : sR (nw m0 (2, 0, 6) 6) o 1 (some (mS m0)) = m1 at *
  obtain ⟨s2, n2a, k2a, i2a, r2a, q2, f2, g2⟩ := ar1 (m := m1) (o := o) (t := o + 3) (j := 2) (n := 6) s1 (by omega)
  have J2 : mK (nw m1 (2, 0, 6) 6) o = (1, 4, 0) := by rw [xK_nw, if_neg (by omega)]; exact K1
  have K2 : mK (sR (nw m1 (2, 0, 6) 6) o 2 (some (mS m1))) o = (1, 4, 0) := by rw [(f2 o (by omega)).1]; exact K1
  generalize hm2 : sR (nw m1 (2, 0, 6) 6) o 2 (some (mS m1)) = m2 at *
  refine ⟨m2, ?_, by rw [s2], by omega, fun x hx => ?_, ?_, ?_, ?_, fun x hx1 hx2 => ?_⟩
  · simp (disch := first | (simp (disch := omega) only [am_k_some, va_rf_some, va_rf_none, tl_some, tl_none, am_clr_int, am_clr_ref, am_clr_none, am_clr_long, am_w_nil, am_w_int, am_w_ref, am_w_long, am_w_null, am_bb_0, am_bb_1, am_bb_bI, xK_sI, xR_sI, xS_sI, xN_sI, xK_sL, xR_sL, xS_sL, xN_sL, xK_sR, xR_sR, xS_sR, xN_sR, xK_sA, xR_sA, xS_sA, xN_sA, Nat.reduceAdd, Nat.reduceLeDiff, sI_sA, I_sA', sA_sA, I_sA, I_sA', nI_add, mul_nI, bI_0, bI_1, hK, J0, J1, J2, K0, K1, K2, ix_nI, cl_nI]; done) | omega | assumption) only [c34, e34_0, e34_1, e34_4, e34_5, e34_7, e34_9, e34_12, e34_13, e34_15, e34_17, e34_20, e34_21, e34_23, e34_25, e34_28, am_k_some, va_rf_some, va_rf_none, tl_some, tl_none, am_clr_int, am_clr_ref, am_clr_none, am_clr_long, am_w_nil, am_w_int, am_w_ref, am_w_long, am_w_null, am_bb_0, am_bb_1, am_bb_bI, xK_sI, xR_sI, xS_sI, xN_sI, xK_sL, xR_sL, xS_sL, xN_sL, xK_sR, xR_sR, xS_sR, xN_sR, xK_sA, xR_sA, xS_sA, xN_sA, Nat.reduceAdd, Nat.reduceLeDiff, sI_sA, I_sA', sA_sA, I_sA, I_sA', nI_add, mul_nI, bI_0, bI_1, hK, J0, J1, J2, K0, K1, K2, ix_nI, cl_nI, hm0, hm1, hm2]
  · rw [(f2 x (by omega)).1, (f1 x (by omega)).1, (f0 x (by omega)).1, (f2 x (by omega)).2.1, (f1 x (by omega)).2.1, (f0 x (by omega)).2.1, (f2 x (by omega)).2.2, (f1 x (by omega)).2.2, (f0 x (by omega)).2.2, g2 x (by omega) (by omega), g1 x (by omega) (by omega), g0 x (by omega) (by omega)]
    exact ⟨rfl, rfl, rfl, rfl⟩
  · exact ⟨K2, (by rw [q2 0 (by omega), q1 0 (by omega)]; exact r0a), (by rw [(f2 (o + 1) (by omega)).1, (f1 (o + 1) (by omega)).1]; exact k0a), (by rw [q2 1 (by omega)]; exact r1a), (by rw [(f2 (o + 2) (by omega)).1]; exact k1a), (by exact r2a), (by exact k2a)⟩
  · rw [(f2 o (by omega)).2.1, (f1 o (by omega)).2.1, (f0 o (by omega)).2.1]
  · rw [(f2 o (by omega)).2.2, (f1 o (by omega)).2.2, (f0 o (by omega)).2.2]
  · have e : x = o + 1 ∨ x = o + 2 ∨ x = o + 3 := by omega
    rcases e with e | e | e
    · rw [e, (f2 (o + 1) (by omega)).2.1, (f1 (o + 1) (by omega)).2.1]; exact i0a
    · rw [e, (f2 (o + 2) (by omega)).2.1]; exact i1a
    · rw [e]; exact i2a
theorem sp_58 {d o : Nat} {m : am_M} (hK : mK m o = (1, 7, 0)) (hS : mS m = o + 1) : ∃ m', cal d 58 [.ref o] m = some (none, m') ∧ mS m' = o + 2 ∧ mN m' = mN m + 400 ∧ Ke o m m' ∧ RoK m' o ∧ mI m' o = mI m o ∧ mL m' o = mL m o ∧ ∀ x, o < x → x < o + 2 → mI m' x = (fun _ => 0) := by
  obtain ⟨s0, n0a, k0a, i0a, r0a, q0, f0, g0⟩ := ar1 (m := m) (o := o) (t := o + 1) (j := 0) (n := 400) hS (by omega)
  have J0 : mK (nw m (2, 0, 400) 400) o = (1, 7, 0) := by rw [xK_nw, if_neg (by omega)]; exact hK
  have K0 : mK (sR (nw m (2, 0, 400) 400) o 0 (some (mS m))) o = (1, 7, 0) := by rw [(f0 o (by omega)).1]; exact hK
  generalize hm0 : sR (nw m (2, 0, 400) 400) o 0 (some (mS m)) = m0 at *
  refine ⟨m0, ?_, by rw [s0], by omega, fun x hx => ?_, ?_, ?_, ?_, fun x hx1 hx2 => ?_⟩
  · simp (disch := first | (simp (disch := omega) only [am_k_some, va_rf_some, va_rf_none, tl_some, tl_none, am_clr_int, am_clr_ref, am_clr_none, am_clr_long, am_w_nil, am_w_int, am_w_ref, am_w_long, am_w_null, am_bb_0, am_bb_1, am_bb_bI, xK_sI, xR_sI, xS_sI, xN_sI, xK_sL, xR_sL, xS_sL, xN_sL, xK_sR, xR_sR, xS_sR, xN_sR, xK_sA, xR_sA, xS_sA, xN_sA, Nat.reduceAdd, Nat.reduceLeDiff, sI_sA, I_sA', sA_sA, I_sA, I_sA', nI_add, mul_nI, bI_0, bI_1, hK, J0, K0, ix_nI, cl_nI]; done) | omega | assumption) only [c58, e58_0, e58_1, e58_4, e58_5, e58_8, e58_10, e58_13, am_k_some, va_rf_some, va_rf_none, tl_some, tl_none, am_clr_int, am_clr_ref, am_clr_none, am_clr_long, am_w_nil, am_w_int, am_w_ref, am_w_long, am_w_null, am_bb_0, am_bb_1, am_bb_bI, xK_sI, xR_sI, xS_sI, xN_sI, xK_sL, xR_sL, xS_sL, xN_sL, xK_sR, xR_sR, xS_sR, xN_sR, xK_sA, xR_sA, xS_sA, xN_sA, Nat.reduceAdd, Nat.reduceLeDiff, sI_sA, I_sA', sA_sA, I_sA, I_sA', nI_add, mul_nI, bI_0, bI_1, hK, J0, K0, ix_nI, cl_nI, hm0]
  · rw [(f0 x (by omega)).1, (f0 x (by omega)).2.1, (f0 x (by omega)).2.2, g0 x (by omega) (by omega)]
    exact ⟨rfl, rfl, rfl, rfl⟩
  · exact ⟨K0, (by exact r0a), (by exact k0a)⟩
  · rw [(f0 o (by omega)).2.1]
  · rw [(f0 o (by omega)).2.2]
  · have e : x = o + 1 := by omega
    rw [e]; exact i0a
