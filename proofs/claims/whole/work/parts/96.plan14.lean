/-! THE PLANNER, 14: the class: small methods, fits -/
def OrO (C : Nat → Int32) : List (Nat × Nat) → Prop
  | [] => True
  | c :: P => C P.length = nI c.1 ∧ OrO C P
def stQ : List (Nat × Nat) → Nat → Nat
  | [], _ => 0
  | c :: P, j => stQ P j + if c.2 < j then 1 else 0
def PC (m : am_M) (o a : Nat) (S : Nat → Int32) (L : Int64) (n dl : Nat) (th dk : Nat → Nat) : Prop := (PnK m o) ∧ (mR m o 0 = some a) ∧ (ShK m a) ∧ (∀ i, i < 20 → LaV m (a + 26 + 2 * i) S i) ∧ (LoV m (a + 2) S) ∧ (ScV m a S L) ∧ (mI m o 9 = nI n) ∧ (mI m o 10 = nI dl) ∧ (∀ k, k < n → mI m (o + 1) k = nI (th k)) ∧ (∀ j, j < dl → mI m (o + 3) j = nI (dk j))
theorem PC.p {m : am_M} {o a : Nat} {S : Nat → Int32} {L : Int64} {n dl : Nat} {th dk : Nat → Nat} (h : PC m o a S L n dl th dk) : PnK m o := h.1
theorem PC.rs {m : am_M} {o a : Nat} {S : Nat → Int32} {L : Int64} {n dl : Nat} {th dk : Nat → Nat} (h : PC m o a S L n dl th dk) : mR m o 0 = some a := h.2.1
theorem PC.sk {m : am_M} {o a : Nat} {S : Nat → Int32} {L : Int64} {n dl : Nat} {th dk : Nat → Nat} (h : PC m o a S L n dl th dk) : ShK m a := h.2.2.1
theorem PC.la {m : am_M} {o a : Nat} {S : Nat → Int32} {L : Int64} {n dl : Nat} {th dk : Nat → Nat} (h : PC m o a S L n dl th dk) : ∀ i, i < 20 → LaV m (a + 26 + 2 * i) S i := h.2.2.2.1
theorem PC.lo {m : am_M} {o a : Nat} {S : Nat → Int32} {L : Int64} {n dl : Nat} {th dk : Nat → Nat} (h : PC m o a S L n dl th dk) : LoV m (a + 2) S := h.2.2.2.2.1
theorem PC.sc {m : am_M} {o a : Nat} {S : Nat → Int32} {L : Int64} {n dl : Nat} {th dk : Nat → Nat} (h : PC m o a S L n dl th dk) : ScV m a S L := h.2.2.2.2.2.1
theorem PC.nn {m : am_M} {o a : Nat} {S : Nat → Int32} {L : Int64} {n dl : Nat} {th dk : Nat → Nat} (h : PC m o a S L n dl th dk) : mI m o 9 = nI n := h.2.2.2.2.2.2.1
theorem PC.dn {m : am_M} {o a : Nat} {S : Nat → Int32} {L : Int64} {n dl : Nat} {th dk : Nat → Nat} (h : PC m o a S L n dl th dk) : mI m o 10 = nI dl := h.2.2.2.2.2.2.2.1
theorem PC.nu {m : am_M} {o a : Nat} {S : Nat → Int32} {L : Int64} {n dl : Nat} {th dk : Nat → Nat} (h : PC m o a S L n dl th dk) : ∀ k, k < n → mI m (o + 1) k = nI (th k) := h.2.2.2.2.2.2.2.2.1
theorem PC.de {m : am_M} {o a : Nat} {S : Nat → Int32} {L : Int64} {n dl : Nat} {th dk : Nat → Nat} (h : PC m o a S L n dl th dk) : ∀ j, j < dl → mI m (o + 3) j = nI (dk j) := h.2.2.2.2.2.2.2.2.2
def PD (m : am_M) (o : Nat) (S : Nat → Int32) (n dl : Nat) (th dk : Nat → Nat) (P : List (Nat × Nat)) (j : Nat) : Prop := (∀ j', j' < dl → mI m (o + 6) j' = nI (rmP S th dk P j')) ∧ (∀ k, k < n → usB P k = false → mI m (o + 7) k = -1) ∧ (∀ x, x ∈ P → mI m (o + 7) x.1 = nI x.2) ∧ (∀ x, x ∈ P → mI m (o + 8) x.1 = nI (vP S th dk P x.1)) ∧ (OrO (mI m (o + 4)) P) ∧ (∀ j', j' ≤ j → mI m (o + 5) j' = nI (stQ P j'))
theorem PD.ro {m : am_M} {o : Nat} {S : Nat → Int32} {n dl : Nat} {th dk : Nat → Nat} {P : List (Nat × Nat)} {j : Nat} (h : PD m o S n dl th dk P j) : ∀ j', j' < dl → mI m (o + 6) j' = nI (rmP S th dk P j') := h.1
theorem PD.lf {m : am_M} {o : Nat} {S : Nat → Int32} {n dl : Nat} {th dk : Nat → Nat} {P : List (Nat × Nat)} {j : Nat} (h : PD m o S n dl th dk P j) : ∀ k, k < n → usB P k = false → mI m (o + 7) k = -1 := h.2.1
theorem PD.lu {m : am_M} {o : Nat} {S : Nat → Int32} {n dl : Nat} {th dk : Nat → Nat} {P : List (Nat × Nat)} {j : Nat} (h : PD m o S n dl th dk P j) : ∀ x, x ∈ P → mI m (o + 7) x.1 = nI x.2 := h.2.2.1
theorem PD.pu {m : am_M} {o : Nat} {S : Nat → Int32} {n dl : Nat} {th dk : Nat → Nat} {P : List (Nat × Nat)} {j : Nat} (h : PD m o S n dl th dk P j) : ∀ x, x ∈ P → mI m (o + 8) x.1 = nI (vP S th dk P x.1) := h.2.2.2.1
theorem PD.od {m : am_M} {o : Nat} {S : Nat → Int32} {n dl : Nat} {th dk : Nat → Nat} {P : List (Nat × Nat)} {j : Nat} (h : PD m o S n dl th dk P j) : OrO (mI m (o + 4)) P := h.2.2.2.2.1
theorem PD.st {m : am_M} {o : Nat} {S : Nat → Int32} {n dl : Nat} {th dk : Nat → Nat} {P : List (Nat × Nat)} {j : Nat} (h : PD m o S n dl th dk P j) : ∀ j', j' ≤ j → mI m (o + 5) j' = nI (stQ P j') := h.2.2.2.2.2
section CL
variable {m : am_M} {o a : Nat} {S : Nat → Int32} {L : Int64} {n dl : Nat} {th dk : Nat → Nat} {P : List (Nat × Nat)}
theorem sp_42 {d x : Nat} (C : PC m o a S L n dl th dk) (H : PlH S n dl th dk) (hx : x < n) : cal d 42 [.ref o, .int (nI x)] m = some (some (.int (ptS S th x)), m) := by
  have p := C.p; have rs := C.rs; have k := C.sk; have ko := k.lo
  have n6 := H.n6
  have t4 := H.t4 hx
  have nu := C.nu x hx
  obtain ⟨-, -, -, w4, -⟩ := C.lo.2 _ (H.th x hx).1
  unfold ptS
  simp (disch := first | (simp (disch := omega) only [am_k_some, va_rf_some, va_rf_none, tl_some, tl_none, am_clr_int, am_clr_ref, am_clr_none, am_clr_long, am_w_nil, am_w_int, am_w_ref, am_w_long, am_w_null, am_bb_0, am_bb_1, am_bb_bI, xK_sI, xR_sI, xS_sI, xN_sI, xK_sL, xR_sL, xS_sL, xN_sL, xK_sR, xR_sR, xS_sR, xN_sR, xK_sA, xR_sA, xS_sA, xN_sA, Nat.reduceAdd, Nat.reduceLeDiff, sI_sA, I_sA', sA_sA, I_sA, I_sA', nI_add, mul_nI, bI_0, bI_1, p.k, rs, p.r1, p.k1, p.r2, p.k2, p.r3, p.k3, p.r4, p.k4, p.r5, p.k5, p.r6, p.k6, p.r7, p.k7, p.r8, p.k8, k.k, k.r0, k.k0, k.rl, k.r1, k.r3, ko.k, ko.r0, ko.k0, ko.r1, ko.k1, ko.r2, ko.k2, ko.r3, ko.k3, ko.r4, ko.k4, ix_nI, cl_nI]; done) | omega | assumption) only [c42, e42_0, e42_1, e42_4, e42_7, e42_10, e42_11, e42_14, e42_15, e42_16, e42_17, am_k_some, va_rf_some, va_rf_none, tl_some, tl_none, am_clr_int, am_clr_ref, am_clr_none, am_clr_long, am_w_nil, am_w_int, am_w_ref, am_w_long, am_w_null, am_bb_0, am_bb_1, am_bb_bI, xK_sI, xR_sI, xS_sI, xN_sI, xK_sL, xR_sL, xS_sL, xN_sL, xK_sR, xR_sR, xS_sR, xN_sR, xK_sA, xR_sA, xS_sA, xN_sA, Nat.reduceAdd, Nat.reduceLeDiff, sI_sA, I_sA', sA_sA, I_sA, I_sA', nI_add, mul_nI, bI_0, bI_1, p.k, rs, p.r1, p.k1, p.r2, p.k2, p.r3, p.k3, p.r4, p.k4, p.r5, p.k5, p.r6, p.k6, p.r7, p.k7, p.r8, p.k8, k.k, k.r0, k.k0, k.rl, k.r1, k.r3, ko.k, ko.r0, ko.k0, ko.r1, ko.k1, ko.r2, ko.k2, ko.r3, ko.k3, ko.r4, ko.k4, ix_nI, cl_nI, lt_nI, eq_nI, sub_nI, Nat.reduceEqDiff, Nat.one_ne_zero, Nat.not_lt_zero, ↓reduceIte, nu, w4]
theorem sp_43 {d x : Nat} (C : PC m o a S L n dl th dk) (H : PlH S n dl th dk) (hx : x < n) : cal d 43 [.ref o, .int (nI x)] m = some (some (.int (S (900 + th x))), m) := by
  have p := C.p; have rs := C.rs; have k := C.sk; have ko := k.lo
  have n6 := H.n6
  have t4 := H.t4 hx
  have nu := C.nu x hx
  obtain ⟨w1, -⟩ := C.lo.2 _ (H.th x hx).1
  simp (disch := first | (simp (disch := omega) only [am_k_some, va_rf_some, va_rf_none, tl_some, tl_none, am_clr_int, am_clr_ref, am_clr_none, am_clr_long, am_w_nil, am_w_int, am_w_ref, am_w_long, am_w_null, am_bb_0, am_bb_1, am_bb_bI, xK_sI, xR_sI, xS_sI, xN_sI, xK_sL, xR_sL, xS_sL, xN_sL, xK_sR, xR_sR, xS_sR, xN_sR, xK_sA, xR_sA, xS_sA, xN_sA, Nat.reduceAdd, Nat.reduceLeDiff, sI_sA, I_sA', sA_sA, I_sA, I_sA', nI_add, mul_nI, bI_0, bI_1, p.k, rs, p.r1, p.k1, p.r2, p.k2, p.r3, p.k3, p.r4, p.k4, p.r5, p.k5, p.r6, p.k6, p.r7, p.k7, p.r8, p.k8, k.k, k.r0, k.k0, k.rl, k.r1, k.r3, ko.k, ko.r0, ko.k0, ko.r1, ko.k1, ko.r2, ko.k2, ko.r3, ko.k3, ko.r4, ko.k4, ix_nI, cl_nI]; done) | omega | assumption) only [c43, e43_0, e43_1, e43_4, e43_7, e43_10, e43_11, e43_14, e43_15, e43_16, e43_17, am_k_some, va_rf_some, va_rf_none, tl_some, tl_none, am_clr_int, am_clr_ref, am_clr_none, am_clr_long, am_w_nil, am_w_int, am_w_ref, am_w_long, am_w_null, am_bb_0, am_bb_1, am_bb_bI, xK_sI, xR_sI, xS_sI, xN_sI, xK_sL, xR_sL, xS_sL, xN_sL, xK_sR, xR_sR, xS_sR, xN_sR, xK_sA, xR_sA, xS_sA, xN_sA, Nat.reduceAdd, Nat.reduceLeDiff, sI_sA, I_sA', sA_sA, I_sA, I_sA', nI_add, mul_nI, bI_0, bI_1, p.k, rs, p.r1, p.k1, p.r2, p.k2, p.r3, p.k3, p.r4, p.k4, p.r5, p.k5, p.r6, p.k6, p.r7, p.k7, p.r8, p.k8, k.k, k.r0, k.k0, k.rl, k.r1, k.r3, ko.k, ko.r0, ko.k0, ko.r1, ko.k1, ko.r2, ko.k2, ko.r3, ko.k3, ko.r4, ko.k4, ix_nI, cl_nI, lt_nI, eq_nI, sub_nI, Nat.reduceEqDiff, Nat.one_ne_zero, Nat.not_lt_zero, ↓reduceIte, nu, w1]
theorem lane_v (C : PC m o a S L n dl th dk) (H : PlH S n dl th dk) {j : Nat} (hj : j < dl) : mI m (a + 26 + 2 * dk j) 1 = nI (ln S (dk j)) ∧ mI m (a + 26 + 2 * dk j) 2 = S (840 + dk j) ∧ mI m (a + 26 + 2 * dk j) 3 = S (860 + dk j) ∧ mI m (a + 26 + 2 * dk j) 4 = S (880 + dk j) := by
  obtain ⟨d1, d2⟩ := H.dk j hj
  obtain ⟨v1, v2, -⟩ := C.la _ d1
  rw [lenS_t d2] at v1
  exact ⟨v1, v2 d2⟩
theorem sp_46 {d x j : Nat} (C : PC m o a S L n dl th dk) (H : PlH S n dl th dk) (hx : x < n) (hj : j < dl) (hr : mI m (o + 6) j = nI (rmP S th dk P j)) (hs : spanS S (th x) ≤ rmP S th dk P j) : cal (d + 2) 46 [.ref o, .int (nI x), .int (nI j)] m = some (some (.int (nI (plP S th dk P x j))), m) := by
  have p := C.p; have rs := C.rs; have k := C.sk; have ko := k.lo
  have n6 := H.n6
  have d3 := H.d3
  obtain ⟨d1, d2⟩ := H.dk j hj
  have l4 := H.l40 hj
  have de := C.de j hj
  obtain ⟨v1, v2, v3, v4⟩ := lane_v C H hj
  have kl := k.la _ d1
  have e17 := sp_17 (d := d) kl
  rw [v4, op_eq (ends_ok H.wf.t d1 d2) (Or.inl rfl)] at e17
  change _ = some (some (Value.int (enS S (dk j))), m) at e17
  have e43 := sp_43 (d := d + 1) C H hx
  have e21 := fun x y => sp_21 (d := d + 1) (e := enS S (dk j)) (x := x) (y := y) kl
  rw [v1] at e21
  have sp : (if S (900 + th x) = nI 3 then 3 else 1) = spanS S (th x) := rfl
  have rl : rmP S th dk P j ≤ 40 := by unfold rmP; omega
  unfold plP
  rcases en_ok S (dk j) with e | e
  · rw [e, if_pos rfl]
    rw [e] at e17 e21
    simp (disch := first | (simp (disch := omega) only [am_k_some, va_rf_some, va_rf_none, tl_some, tl_none, am_clr_int, am_clr_ref, am_clr_none, am_clr_long, am_w_nil, am_w_int, am_w_ref, am_w_long, am_w_null, am_bb_0, am_bb_1, am_bb_bI, xK_sI, xR_sI, xS_sI, xN_sI, xK_sL, xR_sL, xS_sL, xN_sL, xK_sR, xR_sR, xS_sR, xN_sR, xK_sA, xR_sA, xS_sA, xN_sA, Nat.reduceAdd, Nat.reduceLeDiff, sI_sA, I_sA', sA_sA, I_sA, I_sA', nI_add, mul_nI, bI_0, bI_1, p.k, rs, p.r1, p.k1, p.r2, p.k2, p.r3, p.k3, p.r4, p.k4, p.r5, p.k5, p.r6, p.k6, p.r7, p.k7, p.r8, p.k8, k.k, k.r0, k.k0, k.rl, k.r1, k.r3, ko.k, ko.r0, ko.k0, ko.r1, ko.k1, ko.r2, ko.k2, ko.r3, ko.k3, ko.r4, ko.k4, kl.k, ix_nI, cl_nI]; done) | omega | assumption) only [c46, e46_0, e46_1, e46_4, e46_7, e46_8, e46_11, e46_12, e46_13, e46_14, e46_15, e46_16, e46_17, e46_20, e46_21, e46_24, e46_25, e46_26, e46_27, e46_28, e46_31, e46_34, e46_37, am_k_some, va_rf_some, va_rf_none, tl_some, tl_none, am_clr_int, am_clr_ref, am_clr_none, am_clr_long, am_w_nil, am_w_int, am_w_ref, am_w_long, am_w_null, am_bb_0, am_bb_1, am_bb_bI, xK_sI, xR_sI, xS_sI, xN_sI, xK_sL, xR_sL, xS_sL, xN_sL, xK_sR, xR_sR, xS_sR, xN_sR, xK_sA, xR_sA, xS_sA, xN_sA, Nat.reduceAdd, Nat.reduceLeDiff, sI_sA, I_sA', sA_sA, I_sA, I_sA', nI_add, mul_nI, bI_0, bI_1, p.k, rs, p.r1, p.k1, p.r2, p.k2, p.r3, p.k3, p.r4, p.k4, p.r5, p.k5, p.r6, p.k6, p.r7, p.k7, p.r8, p.k8, k.k, k.r0, k.k0, k.rl, k.r1, k.r3, ko.k, ko.r0, ko.k0, ko.r1, ko.k1, ko.r2, ko.k2, ko.r3, ko.k3, ko.r4, ko.k4, kl.k, ix_nI, cl_nI, lt_nI, eq_nI, sub_nI, Nat.reduceEqDiff, Nat.one_ne_zero, Nat.not_lt_zero, ↓reduceIte, de, hr, e17, e43, sp_134, sp, e21]
  · rw [e, if_neg (by decide)]
    rw [e] at e17 e21
    have ne : ¬ nI 1 = nI 0 := by decide
    have rl' : rmP S th dk P j ≤ ln S (dk j) := by unfold rmP; omega
    simp (disch := first | (simp (disch := omega) only [am_k_some, va_rf_some, va_rf_none, tl_some, tl_none, am_clr_int, am_clr_ref, am_clr_none, am_clr_long, am_w_nil, am_w_int, am_w_ref, am_w_long, am_w_null, am_bb_0, am_bb_1, am_bb_bI, xK_sI, xR_sI, xS_sI, xN_sI, xK_sL, xR_sL, xS_sL, xN_sL, xK_sR, xR_sR, xS_sR, xN_sR, xK_sA, xR_sA, xS_sA, xN_sA, Nat.reduceAdd, Nat.reduceLeDiff, sI_sA, I_sA', sA_sA, I_sA, I_sA', nI_add, mul_nI, bI_0, bI_1, p.k, rs, p.r1, p.k1, p.r2, p.k2, p.r3, p.k3, p.r4, p.k4, p.r5, p.k5, p.r6, p.k6, p.r7, p.k7, p.r8, p.k8, k.k, k.r0, k.k0, k.rl, k.r1, k.r3, ko.k, ko.r0, ko.k0, ko.r1, ko.k1, ko.r2, ko.k2, ko.r3, ko.k3, ko.r4, ko.k4, kl.k, ix_nI, cl_nI]; done) | omega | assumption) only [c46, e46_0, e46_1, e46_4, e46_7, e46_8, e46_11, e46_12, e46_13, e46_14, e46_15, e46_16, e46_17, e46_20, e46_21, e46_24, e46_25, e46_26, e46_27, e46_28, e46_31, e46_34, e46_37, am_k_some, va_rf_some, va_rf_none, tl_some, tl_none, am_clr_int, am_clr_ref, am_clr_none, am_clr_long, am_w_nil, am_w_int, am_w_ref, am_w_long, am_w_null, am_bb_0, am_bb_1, am_bb_bI, xK_sI, xR_sI, xS_sI, xN_sI, xK_sL, xR_sL, xS_sL, xN_sL, xK_sR, xR_sR, xS_sR, xN_sR, xK_sA, xR_sA, xS_sA, xN_sA, Nat.reduceAdd, Nat.reduceLeDiff, sI_sA, I_sA', sA_sA, I_sA, I_sA', nI_add, mul_nI, bI_0, bI_1, p.k, rs, p.r1, p.k1, p.r2, p.k2, p.r3, p.k3, p.r4, p.k4, p.r5, p.k5, p.r6, p.k6, p.r7, p.k7, p.r8, p.k8, k.k, k.r0, k.k0, k.rl, k.r1, k.r3, ko.k, ko.r0, ko.k0, ko.r1, ko.k1, ko.r2, ko.k2, ko.r3, ko.k3, ko.r4, ko.k4, kl.k, ix_nI, cl_nI, lt_nI, eq_nI, sub_nI, Nat.reduceEqDiff, Nat.one_ne_zero, Nat.not_lt_zero, ↓reduceIte, de, hr, e17, e43, sp_134, sp, e21, ne]
def bsF (m : am_M) (o : Nat) (S : Nat → Int32) (th : Nat → Nat) (j : Nat) (kd : Int32) (q s : Nat) (x : Nat) : Bool := decide (mI m (o + 7) x = nI (j - 1)) && (decide (S (900 + th x) = kd) && (decide (mI m (o + 8) x < nI (q + s)) && decide (nI q < mI m (o + 8) x + nI (if kd = nI 3 then 3 else 1))))
theorem sp_47l {d j q s : Nat} {kd kx : Int32} (C : PC m o a S L n dl th dk) (H : PlH S n dl th dk) (hj : 0 < j) (hj3 : j < 3) (hs : (if kx = nI 3 then 3 else 1) = s) (hq : q + s ≤ 40) : ∀ r x, x + r = n →
    ev (d + 1) 47 3 [some (.ref o), some (.int kd), some (.int (nI j)), some (.int (nI q)), some (.int kx), some (.int (nI x))] [] m = some (some (.int (bI (anyR (bsF m o S th j kd q s) x r))), m) := by
  have p := C.p; have rs := C.rs; have k := C.sk; have ko := k.lo
  have n6 := H.n6
  have nn := C.nn
  intro r
  induction r with
  | zero =>
    intro x hx
    have hx' : x = n := by omega
    subst hx'
    have hnl : ¬ x < x := by omega
    rw [e47_3]
    simp (disch := first | (simp (disch := omega) only [am_k_some, va_rf_some, va_rf_none, tl_some, tl_none, am_clr_int, am_clr_ref, am_clr_none, am_clr_long, am_w_nil, am_w_int, am_w_ref, am_w_long, am_w_null, am_bb_0, am_bb_1, am_bb_bI, xK_sI, xR_sI, xS_sI, xN_sI, xK_sL, xR_sL, xS_sL, xN_sL, xK_sR, xR_sR, xS_sR, xN_sR, xK_sA, xR_sA, xS_sA, xN_sA, Nat.reduceAdd, Nat.reduceLeDiff, sI_sA, I_sA', sA_sA, I_sA, I_sA', nI_add, mul_nI, bI_0, bI_1, p.k, rs, p.r1, p.k1, p.r2, p.k2, p.r3, p.k3, p.r4, p.k4, p.r5, p.k5, p.r6, p.k6, p.r7, p.k7, p.r8, p.k8, k.k, k.r0, k.k0, k.rl, k.r1, k.r3, ko.k, ko.r0, ko.k0, ko.r1, ko.k1, ko.r2, ko.k2, ko.r3, ko.k3, ko.r4, ko.k4, ix_nI, cl_nI]; done) | omega | assumption) only [e47_0, e47_1, e47_5, e47_6, e47_9, e47_12, e47_13, e47_16, e47_18, e47_19, e47_20, e47_21, e47_22, e47_25, e47_26, e47_28, e47_31, e47_32, e47_35, e47_36, e47_39, e47_41, e47_42, e47_43, e47_45, e47_48, e47_49, e47_52, e47_53, e47_54, e47_57, e47_59, e47_60, e47_61, e47_64, e47_65, e47_68, e47_69, e47_70, e47_73, e47_76, e47_77, am_k_some, va_rf_some, va_rf_none, tl_some, tl_none, am_clr_int, am_clr_ref, am_clr_none, am_clr_long, am_w_nil, am_w_int, am_w_ref, am_w_long, am_w_null, am_bb_0, am_bb_1, am_bb_bI, xK_sI, xR_sI, xS_sI, xN_sI, xK_sL, xR_sL, xS_sL, xN_sL, xK_sR, xR_sR, xS_sR, xN_sR, xK_sA, xR_sA, xS_sA, xN_sA, Nat.reduceAdd, Nat.reduceLeDiff, sI_sA, I_sA', sA_sA, I_sA, I_sA', nI_add, mul_nI, bI_0, bI_1, p.k, rs, p.r1, p.k1, p.r2, p.k2, p.r3, p.k3, p.r4, p.k4, p.r5, p.k5, p.r6, p.k6, p.r7, p.k7, p.r8, p.k8, k.k, k.r0, k.k0, k.rl, k.r1, k.r3, ko.k, ko.r0, ko.k0, ko.r1, ko.k1, ko.r2, ko.k2, ko.r3, ko.k3, ko.r4, ko.k4, ix_nI, cl_nI, lt_nI, eq_nI, sub_nI, Nat.reduceEqDiff, Nat.one_ne_zero, Nat.not_lt_zero, ↓reduceIte, nn, hnl, anyR, bI_f]
  | succ r ih =>
    intro x hx
    have hnl : x < n := by omega
    have e43 := sp_43 (d := d) C H hnl
    have e2 := ih (x + 1) (by omega)
    show _ = some (some (Value.int (bI (bsF m o S th j kd q s x || anyR (bsF m o S th j kd q s) (x + 1) r))), m)
    rw [e47_3]
    by_cases c1 : mI m (o + 7) x = nI (j - 1)
    · by_cases c2 : S (900 + th x) = kd
      · by_cases c3 : mI m (o + 8) x < nI (q + s)
        · by_cases c4 : nI q < mI m (o + 8) x + nI (if kd = nI 3 then 3 else 1)
          · have : bsF m o S th j kd q s x = true := by unfold bsF; rw [decide_eq_true c1, decide_eq_true c2, decide_eq_true c3, decide_eq_true c4]; rfl
            rw [this, Bool.true_or, bI_t]
            simp (disch := first | (simp (disch := omega) only [am_k_some, va_rf_some, va_rf_none, tl_some, tl_none, am_clr_int, am_clr_ref, am_clr_none, am_clr_long, am_w_nil, am_w_int, am_w_ref, am_w_long, am_w_null, am_bb_0, am_bb_1, am_bb_bI, xK_sI, xR_sI, xS_sI, xN_sI, xK_sL, xR_sL, xS_sL, xN_sL, xK_sR, xR_sR, xS_sR, xN_sR, xK_sA, xR_sA, xS_sA, xN_sA, Nat.reduceAdd, Nat.reduceLeDiff, sI_sA, I_sA', sA_sA, I_sA, I_sA', nI_add, mul_nI, bI_0, bI_1, p.k, rs, p.r1, p.k1, p.r2, p.k2, p.r3, p.k3, p.r4, p.k4, p.r5, p.k5, p.r6, p.k6, p.r7, p.k7, p.r8, p.k8, k.k, k.r0, k.k0, k.rl, k.r1, k.r3, ko.k, ko.r0, ko.k0, ko.r1, ko.k1, ko.r2, ko.k2, ko.r3, ko.k3, ko.r4, ko.k4, ix_nI, cl_nI]; done) | omega | assumption) only [e47_0, e47_1, e47_5, e47_6, e47_9, e47_12, e47_13, e47_16, e47_18, e47_19, e47_20, e47_21, e47_22, e47_25, e47_26, e47_28, e47_31, e47_32, e47_35, e47_36, e47_39, e47_41, e47_42, e47_43, e47_45, e47_48, e47_49, e47_52, e47_53, e47_54, e47_57, e47_59, e47_60, e47_61, e47_64, e47_65, e47_68, e47_69, e47_70, e47_73, e47_76, e47_77, am_k_some, va_rf_some, va_rf_none, tl_some, tl_none, am_clr_int, am_clr_ref, am_clr_none, am_clr_long, am_w_nil, am_w_int, am_w_ref, am_w_long, am_w_null, am_bb_0, am_bb_1, am_bb_bI, xK_sI, xR_sI, xS_sI, xN_sI, xK_sL, xR_sL, xS_sL, xN_sL, xK_sR, xR_sR, xS_sR, xN_sR, xK_sA, xR_sA, xS_sA, xN_sA, Nat.reduceAdd, Nat.reduceLeDiff, sI_sA, I_sA', sA_sA, I_sA, I_sA', nI_add, mul_nI, bI_0, bI_1, p.k, rs, p.r1, p.k1, p.r2, p.k2, p.r3, p.k3, p.r4, p.k4, p.r5, p.k5, p.r6, p.k6, p.r7, p.k7, p.r8, p.k8, k.k, k.r0, k.k0, k.rl, k.r1, k.r3, ko.k, ko.r0, ko.k0, ko.r1, ko.k1, ko.r2, ko.k2, ko.r3, ko.k3, ko.r4, ko.k4, ix_nI, cl_nI, lt_nI, eq_nI, sub_nI, Nat.reduceEqDiff, Nat.one_ne_zero, Nat.not_lt_zero, ↓reduceIte, nn, hnl, c1, e43, c2, sp_134, hs, c3, c4]
          · have : bsF m o S th j kd q s x = false := by unfold bsF; rw [decide_eq_false c4]; simp
            rw [this, Bool.false_or, ← e2]
            simp (disch := first | (simp (disch := omega) only [am_k_some, va_rf_some, va_rf_none, tl_some, tl_none, am_clr_int, am_clr_ref, am_clr_none, am_clr_long, am_w_nil, am_w_int, am_w_ref, am_w_long, am_w_null, am_bb_0, am_bb_1, am_bb_bI, xK_sI, xR_sI, xS_sI, xN_sI, xK_sL, xR_sL, xS_sL, xN_sL, xK_sR, xR_sR, xS_sR, xN_sR, xK_sA, xR_sA, xS_sA, xN_sA, Nat.reduceAdd, Nat.reduceLeDiff, sI_sA, I_sA', sA_sA, I_sA, I_sA', nI_add, mul_nI, bI_0, bI_1, p.k, rs, p.r1, p.k1, p.r2, p.k2, p.r3, p.k3, p.r4, p.k4, p.r5, p.k5, p.r6, p.k6, p.r7, p.k7, p.r8, p.k8, k.k, k.r0, k.k0, k.rl, k.r1, k.r3, ko.k, ko.r0, ko.k0, ko.r1, ko.k1, ko.r2, ko.k2, ko.r3, ko.k3, ko.r4, ko.k4, ix_nI, cl_nI]; done) | omega | assumption) only [e47_0, e47_1, e47_5, e47_6, e47_9, e47_12, e47_13, e47_16, e47_18, e47_19, e47_20, e47_21, e47_22, e47_25, e47_26, e47_28, e47_31, e47_32, e47_35, e47_36, e47_39, e47_41, e47_42, e47_43, e47_45, e47_48, e47_49, e47_52, e47_53, e47_54, e47_57, e47_59, e47_60, e47_61, e47_64, e47_65, e47_68, e47_69, e47_70, e47_73, e47_76, e47_77, am_k_some, va_rf_some, va_rf_none, tl_some, tl_none, am_clr_int, am_clr_ref, am_clr_none, am_clr_long, am_w_nil, am_w_int, am_w_ref, am_w_long, am_w_null, am_bb_0, am_bb_1, am_bb_bI, xK_sI, xR_sI, xS_sI, xN_sI, xK_sL, xR_sL, xS_sL, xN_sL, xK_sR, xR_sR, xS_sR, xN_sR, xK_sA, xR_sA, xS_sA, xN_sA, Nat.reduceAdd, Nat.reduceLeDiff, sI_sA, I_sA', sA_sA, I_sA, I_sA', nI_add, mul_nI, bI_0, bI_1, p.k, rs, p.r1, p.k1, p.r2, p.k2, p.r3, p.k3, p.r4, p.k4, p.r5, p.k5, p.r6, p.k6, p.r7, p.k7, p.r8, p.k8, k.k, k.r0, k.k0, k.rl, k.r1, k.r3, ko.k, ko.r0, ko.k0, ko.r1, ko.k1, ko.r2, ko.k2, ko.r3, ko.k3, ko.r4, ko.k4, ix_nI, cl_nI, lt_nI, eq_nI, sub_nI, Nat.reduceEqDiff, Nat.one_ne_zero, Nat.not_lt_zero, ↓reduceIte, nn, hnl, c1, e43, c2, sp_134, hs, c3, c4]
        · have : bsF m o S th j kd q s x = false := by unfold bsF; rw [decide_eq_false c3]; simp
          rw [this, Bool.false_or, ← e2]
          simp (disch := first | (simp (disch := omega) only [am_k_some, va_rf_some, va_rf_none, tl_some, tl_none, am_clr_int, am_clr_ref, am_clr_none, am_clr_long, am_w_nil, am_w_int, am_w_ref, am_w_long, am_w_null, am_bb_0, am_bb_1, am_bb_bI, xK_sI, xR_sI, xS_sI, xN_sI, xK_sL, xR_sL, xS_sL, xN_sL, xK_sR, xR_sR, xS_sR, xN_sR, xK_sA, xR_sA, xS_sA, xN_sA, Nat.reduceAdd, Nat.reduceLeDiff, sI_sA, I_sA', sA_sA, I_sA, I_sA', nI_add, mul_nI, bI_0, bI_1, p.k, rs, p.r1, p.k1, p.r2, p.k2, p.r3, p.k3, p.r4, p.k4, p.r5, p.k5, p.r6, p.k6, p.r7, p.k7, p.r8, p.k8, k.k, k.r0, k.k0, k.rl, k.r1, k.r3, ko.k, ko.r0, ko.k0, ko.r1, ko.k1, ko.r2, ko.k2, ko.r3, ko.k3, ko.r4, ko.k4, ix_nI, cl_nI]; done) | omega | assumption) only [e47_0, e47_1, e47_5, e47_6, e47_9, e47_12, e47_13, e47_16, e47_18, e47_19, e47_20, e47_21, e47_22, e47_25, e47_26, e47_28, e47_31, e47_32, e47_35, e47_36, e47_39, e47_41, e47_42, e47_43, e47_45, e47_48, e47_49, e47_52, e47_53, e47_54, e47_57, e47_59, e47_60, e47_61, e47_64, e47_65, e47_68, e47_69, e47_70, e47_73, e47_76, e47_77, am_k_some, va_rf_some, va_rf_none, tl_some, tl_none, am_clr_int, am_clr_ref, am_clr_none, am_clr_long, am_w_nil, am_w_int, am_w_ref, am_w_long, am_w_null, am_bb_0, am_bb_1, am_bb_bI, xK_sI, xR_sI, xS_sI, xN_sI, xK_sL, xR_sL, xS_sL, xN_sL, xK_sR, xR_sR, xS_sR, xN_sR, xK_sA, xR_sA, xS_sA, xN_sA, Nat.reduceAdd, Nat.reduceLeDiff, sI_sA, I_sA', sA_sA, I_sA, I_sA', nI_add, mul_nI, bI_0, bI_1, p.k, rs, p.r1, p.k1, p.r2, p.k2, p.r3, p.k3, p.r4, p.k4, p.r5, p.k5, p.r6, p.k6, p.r7, p.k7, p.r8, p.k8, k.k, k.r0, k.k0, k.rl, k.r1, k.r3, ko.k, ko.r0, ko.k0, ko.r1, ko.k1, ko.r2, ko.k2, ko.r3, ko.k3, ko.r4, ko.k4, ix_nI, cl_nI, lt_nI, eq_nI, sub_nI, Nat.reduceEqDiff, Nat.one_ne_zero, Nat.not_lt_zero, ↓reduceIte, nn, hnl, c1, e43, c2, sp_134, hs, c3]
      · have : bsF m o S th j kd q s x = false := by unfold bsF; rw [decide_eq_false c2]; simp
        rw [this, Bool.false_or, ← e2]
        simp (disch := first | (simp (disch := omega) only [am_k_some, va_rf_some, va_rf_none, tl_some, tl_none, am_clr_int, am_clr_ref, am_clr_none, am_clr_long, am_w_nil, am_w_int, am_w_ref, am_w_long, am_w_null, am_bb_0, am_bb_1, am_bb_bI, xK_sI, xR_sI, xS_sI, xN_sI, xK_sL, xR_sL, xS_sL, xN_sL, xK_sR, xR_sR, xS_sR, xN_sR, xK_sA, xR_sA, xS_sA, xN_sA, Nat.reduceAdd, Nat.reduceLeDiff, sI_sA, I_sA', sA_sA, I_sA, I_sA', nI_add, mul_nI, bI_0, bI_1, p.k, rs, p.r1, p.k1, p.r2, p.k2, p.r3, p.k3, p.r4, p.k4, p.r5, p.k5, p.r6, p.k6, p.r7, p.k7, p.r8, p.k8, k.k, k.r0, k.k0, k.rl, k.r1, k.r3, ko.k, ko.r0, ko.k0, ko.r1, ko.k1, ko.r2, ko.k2, ko.r3, ko.k3, ko.r4, ko.k4, ix_nI, cl_nI]; done) | omega | assumption) only [e47_0, e47_1, e47_5, e47_6, e47_9, e47_12, e47_13, e47_16, e47_18, e47_19, e47_20, e47_21, e47_22, e47_25, e47_26, e47_28, e47_31, e47_32, e47_35, e47_36, e47_39, e47_41, e47_42, e47_43, e47_45, e47_48, e47_49, e47_52, e47_53, e47_54, e47_57, e47_59, e47_60, e47_61, e47_64, e47_65, e47_68, e47_69, e47_70, e47_73, e47_76, e47_77, am_k_some, va_rf_some, va_rf_none, tl_some, tl_none, am_clr_int, am_clr_ref, am_clr_none, am_clr_long, am_w_nil, am_w_int, am_w_ref, am_w_long, am_w_null, am_bb_0, am_bb_1, am_bb_bI, xK_sI, xR_sI, xS_sI, xN_sI, xK_sL, xR_sL, xS_sL, xN_sL, xK_sR, xR_sR, xS_sR, xN_sR, xK_sA, xR_sA, xS_sA, xN_sA, Nat.reduceAdd, Nat.reduceLeDiff, sI_sA, I_sA', sA_sA, I_sA, I_sA', nI_add, mul_nI, bI_0, bI_1, p.k, rs, p.r1, p.k1, p.r2, p.k2, p.r3, p.k3, p.r4, p.k4, p.r5, p.k5, p.r6, p.k6, p.r7, p.k7, p.r8, p.k8, k.k, k.r0, k.k0, k.rl, k.r1, k.r3, ko.k, ko.r0, ko.k0, ko.r1, ko.k1, ko.r2, ko.k2, ko.r3, ko.k3, ko.r4, ko.k4, ix_nI, cl_nI, lt_nI, eq_nI, sub_nI, Nat.reduceEqDiff, Nat.one_ne_zero, Nat.not_lt_zero, ↓reduceIte, nn, hnl, c1, e43, c2]
    · have : bsF m o S th j kd q s x = false := by unfold bsF; rw [decide_eq_false c1]; rfl
      rw [this, Bool.false_or, ← e2]
      simp (disch := first | (simp (disch := omega) only [am_k_some, va_rf_some, va_rf_none, tl_some, tl_none, am_clr_int, am_clr_ref, am_clr_none, am_clr_long, am_w_nil, am_w_int, am_w_ref, am_w_long, am_w_null, am_bb_0, am_bb_1, am_bb_bI, xK_sI, xR_sI, xS_sI, xN_sI, xK_sL, xR_sL, xS_sL, xN_sL, xK_sR, xR_sR, xS_sR, xN_sR, xK_sA, xR_sA, xS_sA, xN_sA, Nat.reduceAdd, Nat.reduceLeDiff, sI_sA, I_sA', sA_sA, I_sA, I_sA', nI_add, mul_nI, bI_0, bI_1, p.k, rs, p.r1, p.k1, p.r2, p.k2, p.r3, p.k3, p.r4, p.k4, p.r5, p.k5, p.r6, p.k6, p.r7, p.k7, p.r8, p.k8, k.k, k.r0, k.k0, k.rl, k.r1, k.r3, ko.k, ko.r0, ko.k0, ko.r1, ko.k1, ko.r2, ko.k2, ko.r3, ko.k3, ko.r4, ko.k4, ix_nI, cl_nI]; done) | omega | assumption) only [e47_0, e47_1, e47_5, e47_6, e47_9, e47_12, e47_13, e47_16, e47_18, e47_19, e47_20, e47_21, e47_22, e47_25, e47_26, e47_28, e47_31, e47_32, e47_35, e47_36, e47_39, e47_41, e47_42, e47_43, e47_45, e47_48, e47_49, e47_52, e47_53, e47_54, e47_57, e47_59, e47_60, e47_61, e47_64, e47_65, e47_68, e47_69, e47_70, e47_73, e47_76, e47_77, am_k_some, va_rf_some, va_rf_none, tl_some, tl_none, am_clr_int, am_clr_ref, am_clr_none, am_clr_long, am_w_nil, am_w_int, am_w_ref, am_w_long, am_w_null, am_bb_0, am_bb_1, am_bb_bI, xK_sI, xR_sI, xS_sI, xN_sI, xK_sL, xR_sL, xS_sL, xN_sL, xK_sR, xR_sR, xS_sR, xN_sR, xK_sA, xR_sA, xS_sA, xN_sA, Nat.reduceAdd, Nat.reduceLeDiff, sI_sA, I_sA', sA_sA, I_sA, I_sA', nI_add, mul_nI, bI_0, bI_1, p.k, rs, p.r1, p.k1, p.r2, p.k2, p.r3, p.k3, p.r4, p.k4, p.r5, p.k5, p.r6, p.k6, p.r7, p.k7, p.r8, p.k8, k.k, k.r0, k.k0, k.rl, k.r1, k.r3, ko.k, ko.r0, ko.k0, ko.r1, ko.k1, ko.r2, ko.k2, ko.r3, ko.k3, ko.r4, ko.k4, ix_nI, cl_nI, lt_nI, eq_nI, sub_nI, Nat.reduceEqDiff, Nat.one_ne_zero, Nat.not_lt_zero, ↓reduceIte, nn, hnl, c1]
theorem bs_F {j q s i : Nat} {kd : Int32} (H : PlH S n dl th dk) (K : Pk S n dl th dk P) (D : PD m o S n dl th dk P i) (hj : 0 < j) (hj3 : j < 3) (hq : q + s ≤ 40) : anyR (bsF m o S th j kd q s) 0 n = bsB S th dk P j kd q s := by
  have iff : anyR (bsF m o S th j kd q s) 0 n = true ↔ bsB S th dk P j kd q s = true := by
    unfold bsB
    rw [anyR_iff, List.any_eq_true]
    constructor
    · rintro ⟨x, -, x2, x3⟩
      unfold bsF at x3
      simp only [Bool.and_eq_true, decide_eq_true_eq] at x3
      obtain ⟨y1, y2, y3, y4⟩ := x3
      have us : usB P x = true := by
        cases u : usB P x with
        | true => rfl
        | false =>
          have := D.lf x (by omega) u
          rw [y1] at this
          exact absurd this (ne_m1 (by omega))
      obtain ⟨z, z1, rfl⟩ := us_iff.1 us
      obtain ⟨-, -, -, v4, -⟩ := v_at H K z1
      have zs := K.st z z1
      have d3 := H.d3
      rw [D.lu z z1, eq_nI (by omega) (by omega)] at y1
      rw [D.pu z z1] at y3 y4
      have sp : (if kd = nI 3 then 3 else 1) = spanS S (th z.1) := by unfold spanS; rw [y2]
      have s3 : spanS S (th z.1) ≤ 3 := by unfold spanS; split <;> omega
      rw [sp, nI_add, lt_nI (by omega) (by omega)] at y4
      rw [lt_nI (by omega) (by omega)] at y3
      refine ⟨z, z1, ?_⟩
      simp only [Bool.and_eq_true, decide_eq_true_eq]
      exact ⟨by omega, y2, y3, y4⟩
    · rintro ⟨z, z1, z2⟩
      simp only [Bool.and_eq_true, decide_eq_true_eq] at z2
      obtain ⟨y1, y2, y3, y4⟩ := z2
      obtain ⟨-, -, -, v4, -⟩ := v_at H K z1
      have zs := K.st z z1
      have sp : (if kd = nI 3 then 3 else 1) = spanS S (th z.1) := by unfold spanS; rw [y2]
      have s3 : spanS S (th z.1) ≤ 3 := by unfold spanS; split <;> omega
      refine ⟨z.1, by omega, by omega, ?_⟩
      unfold bsF
      simp only [Bool.and_eq_true, decide_eq_true_eq]
      rw [D.lu z z1, D.pu z z1, sp, nI_add, lt_nI (by omega) (by omega), lt_nI (by omega) (by omega)]
      exact ⟨by rw [show j - 1 = z.2 by omega], y2, y3, y4⟩
  cases e1 : anyR (bsF m o S th j kd q s) 0 n <;> cases e2 : bsB S th dk P j kd q s
  · rfl
  · rw [iff.2 e2] at e1; cases e1
  · rw [iff.1 e1] at e2; cases e2
  · rfl
end CL
