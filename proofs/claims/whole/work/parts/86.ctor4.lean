/-! CONSTRUCTORS, 4: planner, reason; objects made within the class -/
def Nx (n w : Nat) (P : am_M → Nat → Prop) (t : Nat) (m m' : am_M) : Prop := mS m' = t + n ∧ mN m' = mN m + w ∧ Ke t m m' ∧ P m' t
def Sa (x : Nat) (m m' : am_M) : Prop := mK m' x = mK m x ∧ mI m' x = mI m x ∧ mL m' x = mL m x ∧ mR m' x = mR m x
theorem Sa.trans {x : Nat} {m1 m2 m3 : am_M} (h : Sa x m1 m2) (g : Sa x m2 m3) : Sa x m1 m3 := ⟨g.1.trans h.1, g.2.1.trans h.2.1, g.2.2.1.trans h.2.2.1, g.2.2.2.trans h.2.2.2⟩
def Bx (n : Nat) (P : am_M → Nat → Prop) : Prop := ∀ t m m', (∀ x, t ≤ x → x < t + n → Sa x m m') → P m t → P m' t
theorem nx_put {n w t a j : Nat} {P : am_M → Nat → Prop} {m m2 : am_M} (b : Bx n P) (ha : a < t) (h : Nx n w P t m m2) :
    mS (sR m2 a j (some t)) = t + n ∧ mN (sR m2 a j (some t)) = mN m + w ∧ P (sR m2 a j (some t)) t ∧ mR (sR m2 a j (some t)) a j = some t ∧ (∀ i, i ≠ j → mR (sR m2 a j (some t)) a i = mR m a i) ∧ (mK (sR m2 a j (some t)) a = mK m a ∧ mI (sR m2 a j (some t)) a = mI m a ∧ mL (sR m2 a j (some t)) a = mL m a) ∧
    (∀ x, x < t → x ≠ a → Sa x m (sR m2 a j (some t))) := by
  obtain ⟨h1, h2, h3, h4⟩ := h
  refine ⟨by rw [xS_sR, h1], by rw [xN_sR, h2], b t m2 _ (fun x g1 g2 => ⟨by rw [xK_sR], by rw [yI_sR], by rw [yL_sR], by rw [yR_sR _ _ (by omega)]⟩) h4, by rw [xR_sR, if_pos ⟨rfl, rfl⟩], fun i hi => by rw [xR_sR, if_neg (fun q => hi q.2), (h3 a ha).2.2.2], ⟨by rw [xK_sR, (h3 a ha).1], by rw [yI_sR, (h3 a ha).2.1], by rw [yL_sR, (h3 a ha).2.2.1]⟩, fun x g1 g2 => ⟨by rw [xK_sR, (h3 x g1).1], by rw [yI_sR, (h3 x g1).2.1], by rw [yL_sR, (h3 x g1).2.2.1], by rw [yR_sR _ _ g2, (h3 x g1).2.2.2]⟩⟩
theorem sh_same {a : Nat} {m m' : am_M} (e : ∀ x, a ≤ x → x < a + 66 → mK m' x = mK m x ∧ mR m' x = mR m x) (h : ShK m a) : ShK m' a := by
  obtain ⟨h1, h2, h3, h4, h5, h6, h7, h8, h9, h10, h11, h12, h13, h14, h15, h16, h17⟩ := h
  have r : ∀ i, mR m' a i = mR m a i := fun i => by rw [(e a (by omega) (by omega)).2]
  refine ⟨by rw [(e a (by omega) (by omega)).1]; exact h1, by rw [r]; exact h2, by rw [(e _ (by omega) (by omega)).1]; exact h3, fun i hi => by rw [(e (a + 1) (by omega) (by omega)).2]; exact h4 i hi, fun i hi => bk_LaK _ _ _ (fun x g1 g2 => e x (by omega) (by omega)) (h5 i hi), by rw [r]; exact h6, bk_LoK _ _ _ (fun x g1 g2 => e x (by omega) (by omega)) h7, by rw [r]; exact h8, bk_AcK _ _ _ (fun x g1 g2 => e x (by omega) (by omega)) h9, by rw [r]; exact h10, bk_PlK _ _ _ (fun x g1 g2 => e x (by omega) (by omega)) h11, by rw [r]; exact h12, bk_RoK _ _ _ (fun x g1 g2 => e x (by omega) (by omega)) h13, by rw [r]; exact h14, bk_RoK _ _ _ (fun x g1 g2 => e x (by omega) (by omega)) h15, by rw [r]; exact h16, by rw [(e _ (by omega) (by omega)).1]; exact h17⟩
theorem bx_sh : Bx 66 Sh0 := fun t m m' e h => by
  obtain ⟨h1, h2, h3, h4, h5, h6⟩ := h
  have q := e t (by omega) (by omega)
  exact ⟨sh_same (fun x g1 g2 => ⟨(e x g1 g2).1, (e x g1 g2).2.2.2⟩) h1, fun x g1 g2 => by rw [(e x (by omega) g2).2.1]; exact h2 x g1 g2, by rw [q.2.1]; exact h3, by rw [q.2.1]; exact h4, by rw [q.2.1]; exact h5, by rw [q.2.2.1]; exact h6⟩
theorem mk_63 {d t : Nat} {m : am_M} (hS : mS m = t) : ∃ m', cal (d + 1) 63 [.ref t] (nw m (1, 8, 0) 11) = some (none, m') ∧ Nx 66 5819 Sh0 t m m' := by
  obtain ⟨m', e, s, w, k, q⟩ := sp_63 (d := d) (a := t) (m := nw m (1, 8, 0) 11) (by rw [xK_nw, if_pos hS.symm]) (by rw [xS_nw, hS]) (by rw [xI_nw, if_pos hS.symm])
  exact ⟨m', e, by rw [s], by rw [w, xN_nw], (Ke.nw (by omega)).trans k, q⟩
def Ar0 (n : Nat) (m : am_M) (o : Nat) : Prop := mK m o = (2, 0, n) ∧ mI m o = (fun _ => 0)
def Kp0 (m : am_M) (o : Nat) : Prop := mK m o = (5, 8, 2) ∧ mR m o = (fun _ => none)
def Re0 (m : am_M) (o : Nat) : Prop := mK m o = (1, 6, 0) ∧ mL m o 0 = 0 ∧ mL m o 1 = 0 ∧ mL m o 2 = 0 ∧ mL m o 3 = -1
theorem bx_ar {n : Nat} : Bx 1 (Ar0 n) := fun t m m' e h => by
  unfold Ar0 at *
  rw [(e t (by omega) (by omega)).1, (e t (by omega) (by omega)).2.1]; exact h
theorem bx_kp : Bx 1 Kp0 := fun t m m' e h => by
  unfold Kp0 at *
  rw [(e t (by omega) (by omega)).1, (e t (by omega) (by omega)).2.2.2]; exact h
theorem bx_re : Bx 1 Re0 := fun t m m' e h => by
  unfold Re0 at *
  rw [(e t (by omega) (by omega)).1, (e t (by omega) (by omega)).2.2.1]; exact h
theorem mk_ar {t n : Nat} {m : am_M} (hS : mS m = t) : Nx 1 n (Ar0 n) t m (nw m (2, 0, n) n) := ⟨by rw [xS_nw, hS], by rw [xN_nw], Ke.nw (by omega), by unfold Ar0; rw [xK_nw, if_pos hS.symm, xI_nw, if_pos hS.symm]; exact ⟨rfl, rfl⟩⟩
theorem mk_kp {t : Nat} {m : am_M} (hS : mS m = t) : Nx 1 2 Kp0 t m (nw m (5, 8, 2) 2) := ⟨by rw [xS_nw, hS], by rw [xN_nw], Ke.nw (by omega), by unfold Kp0; rw [xK_nw, if_pos hS.symm, xR_nw, if_pos hS.symm]; exact ⟨rfl, rfl⟩⟩
theorem mk_56 {d t : Nat} {m : am_M} (hS : mS m = t) : ∃ m', cal d 56 [.ref t] (nw m (1, 6, 0) 4) = some (none, m') ∧ Nx 1 4 Re0 t m m' := by
  have hK : mK (nw m (1, 6, 0) 4) t = (1, 6, 0) := by rw [xK_nw, if_pos hS.symm]
  refine ⟨sL (nw m (1, 6, 0) 4) t 3 (-1), ?_, by rw [xS_sL, xS_nw, hS], by rw [xN_sL, xN_nw], (Ke.nw (by omega)).trans (fun x hx => ⟨by rw [xK_sL], by rw [mI_sL], ?_, ?_⟩), ?_⟩
  · simp (disch := first | assumption | (simp only [am_k_some, va_rf_some, va_rf_none, tl_some, tl_none, am_clr_int, am_clr_ref, am_clr_none, am_clr_long, am_w_nil, am_w_int, am_w_ref, am_w_long, am_w_null, am_bb_0, am_bb_1, am_bb_bI, xK_sI, xR_sI, xS_sI, xN_sI, xK_sL, xR_sL, xS_sL, xN_sL, xK_sR, xR_sR, xS_sR, xN_sR, xK_sA, xR_sA, xS_sA, xN_sA, Nat.reduceAdd, Nat.reduceLeDiff, sI_sA, I_sA', sA_sA, I_sA, I_sA', nI_add, mul_nI, bI_0, bI_1]; done)) only [c56, e56_0, e56_1, e56_4, e56_5, e56_8, e56_11, am_k_some, va_rf_some, va_rf_none, tl_some, tl_none, am_clr_int, am_clr_ref, am_clr_none, am_clr_long, am_w_nil, am_w_int, am_w_ref, am_w_long, am_w_null, am_bb_0, am_bb_1, am_bb_bI, xK_sI, xR_sI, xS_sI, xN_sI, xK_sL, xR_sL, xS_sL, xN_sL, xK_sR, xR_sR, xS_sR, xN_sR, xK_sA, xR_sA, xS_sA, xN_sA, Nat.reduceAdd, Nat.reduceLeDiff, sI_sA, I_sA', sA_sA, I_sA, I_sA', nI_add, mul_nI, bI_0, bI_1]
  · funext y
    rw [xL_sL, if_neg (by omega)]
  · funext y
    rw [xR_sL]
  · unfold Re0
    rw [xK_sL, hK, xL_sL, xL_sL, xL_sL, xL_sL, if_neg (by omega), if_neg (by omega), if_neg (by omega), if_pos ⟨rfl, rfl⟩, xL_nw, if_pos hS.symm]
    exact ⟨rfl, rfl, rfl, rfl, rfl⟩
