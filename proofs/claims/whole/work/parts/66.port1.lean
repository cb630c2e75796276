/-! endFor of one lane looks at that lane and the ports alone -/
def AgI (i : Nat) (S S' : Nat → Int32) : Prop := (∀ p, p < 40 → S' (40 * i + p) = S (40 * i + p)) ∧ S' (800 + i) = S (800 + i) ∧ S' (820 + i) = S (820 + i) ∧ S' (880 + i) = S (880 + i) ∧ ∀ l, l < nm S → S' (2100 + l) = S (2100 + l)
section LI
variable {S S' : Nat → Int32} {i : Nat}
theorem AgI.lnE (h : AgI i S S') : ln S' i = ln S i := by unfold ln; rw [h.2.2.1]
theorem AgI.lv (h : AgI i S S') (hN : NmOk S) {x g : Int32} (hx : x = -1 ∨ x = -2 ∨ ∃ l, l < nm S ∧ x = nI l) : lvB S' x g = lvB S x g := by
  have n2 := hN.2
  unfold lvB
  rcases hx with rfl | rfl | ⟨l, hl, rfl⟩
  · rfl
  · rfl
  · rw [cl_nI (by omega), h.2.2.2.2 _ (by omega)]
theorem AgI.dp (h : AgI i S S') {n q : Nat} {e : Int32} (hn : n ≤ 40) (hq : q < n) : dpS S' i n e q = dpS S i n e q := by
  unfold dpS
  exact h.1 _ (by split <;> omega)
theorem AgI.de (h : AgI i S S') (hN : NmOk S) (hL : LnOk S) (hC : CellOk S) {e g : Int32} (hi : i < 20) : deS S' i e g = deS S i e g := by
  have l2 := (hL i hi).2
  unfold deS
  rw [h.lnE]
  refine lastR_congr _ fun p hp => ?_
  rw [h.dp l2 hp, h.lv hN (dp_ok hC hi l2 hp)]
theorem AgI.dnE (h : AgI i S S') (hN : NmOk S) (hL : LnOk S) (hC : CellOk S) {e g : Int32} (hi : i < 20) : dn S' i e g = dn S i e g := by
  unfold dn
  rw [h.de hN hL hC hi]
theorem AgI.op (h : AgI i S S') {e : Int32} : opS S' i e = opS S i e := by
  unfold opS
  rw [h.2.2.2.1]
theorem AgI.ic (h : AgI i S S') (hN : NmOk S) (hL : LnOk S) (hC : CellOk S) {e g : Int32} (hi : i < 20) : icS S' i e g = icS S i e g := by
  have l2 := (hL i hi).2
  have d1 := (dn_lt (e := e) (g := g) l2).1
  unfold icS
  rw [h.op, h.dnE hN hL hC hi, h.lnE]
  congr 2
  refine anyR_congr _ _ fun p _ hp => ?_
  rw [h.dp l2 (by omega)]
theorem AgI.pv (h : AgI i S S') {n q : Nat} {e : Int32} (hn : n ≤ 40) (hq : q ≤ n) : pvS S' i n e q = pvS S i n e q := by
  cases q with
  | zero => rfl
  | succ q => exact h.dp hn (by omega)
theorem AgI.hiE (h : AgI i S S') (hN : NmOk S) (hL : LnOk S) (hC : CellOk S) {e g : Int32} (hi : i < 20) : hiS S' i e g = hiS S i e g := by
  have l2 := (hL i hi).2
  have n2 := hN.2
  have d1 := (dn_lt (e := e) (g := g) l2).1
  unfold hiS
  rw [h.dnE hN hL hC hi, h.lnE]
  refine cntR_congr fun p _ hp => ?_
  unfold hq1
  rw [h.dp l2 (by omega), h.pv l2 (by omega)]
  rcases dp_ok (e := e) hC hi l2 (show p < ln S i by omega) with q | q | ⟨l, hl, q⟩
  · rw [q]; simp only [u1, decide_true, Bool.not_true, Bool.false_and]
  · rw [q]; simp only [u2, decide_true, Bool.not_true, Bool.false_and]
  · rw [q, cl_nI (by omega), h.2.2.2.2 _ (by omega)]
theorem AgI.ef (h : AgI i S S') (hN : NmOk S) (hL : LnOk S) (hC : CellOk S) {g : Int32} (hi : i < 20) : efA S' i g = efA S i g := by
  unfold efA
  rw [h.2.1, h.de hN hL hC hi, h.ic hN hL hC hi, h.ic hN hL hC hi, h.hiE hN hL hC hi, h.hiE hN hL hC hi]
end LI
/-! rows of the ship, one more -/
theorem ShV.row {m m' : am_M} {a : Nat} {S S' : Nat → Int32} {L : Int64} (v : ShV m a S L) (hL : LnOk S) (hN : NmOk S) (hA : AkOk S) (hS : ∀ y, (y < 4500 ∨ 5300 ≤ y) → y ≠ 6505 → y ≠ 6506 → S' y = S y) (hm : ∀ x, (x < a + 21 ∨ a + 24 < x) → mI m' x = mI m x) (hLm : mL m' a = mL m a) (va : RwV m' (a + 21) S' 4500 6505) (vd : RwV m' (a + 23) S' 4900 6506) : ShV m' a S' L := by
  have al : AgL S S' := ⟨fun y hy => hS y (by omega) (by omega) (by omega), hS _ (by omega) (by omega) (by omega)⟩
  refine ⟨fun i hi => al.la hN hL hi ((v.la hi).mem (hm _ (by omega)) (hm _ (by omega))), al.lo hN (v.lo.mem fun k hk => hm _ (by omega)), (v.ac.mem fun k hk => hm _ (by omega)).arr (fun y hy => hS y (by omega) (by omega) (by omega)) hA, (v.pl.mem (fun k hk => hm _ (by omega))).arr (fun y y1 y2 => hS _ (by omega) (by omega) (by omega)), va, vd, (v.sc.mem (hm _ (by omega)) hLm).arr (fun y y1 y2 => hS _ (by omega) (by omega) (by omega))⟩
theorem RwV.add {m : am_M} {o n b c : Nat} {S : Nat → Int32} {x : Int32} (v : RwV m o S b c) (hn : S c = nI n) (n2 : n < 400) (hc : c < b ∨ b + 400 ≤ c) : RwV (sA (sA m (o + 1) (up1 (mI m (o + 1)) n x)) o (up1 (mI m o) 1 (nI (n + 1)))) o (up1 (up1 S (b + n) x) c (nI (n + 1))) b c := by
  unfold RwV
  rw [I_sA, up1_eq, I_sA' _ _ (by omega), I_sA, up1_eq, cl_nI (by omega)]
  refine ⟨rfl, fun j hj => ?_⟩
  rw [up1_ne (show b + j ≠ c by omega)]
  by_cases h : j = n
  · rw [h, up1_eq, up1_eq]
  · rw [up1_ne h, up1_ne (by omega)]
    refine v.2 j ?_
    rw [hn, cl_nI (by omega)]
    omega
theorem sh_addD {d a n : Nat} {m : am_M} {S : Nat → Int32} {L : Int64} {x : Int32} (k : ShK m a) (v : ShV m a S L) (hL : LnOk S) (hN : NmOk S) (hA : AkOk S) (h5 : MvOk S 6505) (hn : S 6506 = nI n) (n2 : n < 400) : ∃ m', cal d 60 [.ref (a + 23), .int x] m = some (none, m') ∧ Fr a m m' ∧ ShV m' a (up1 (up1 S (4900 + n) x) 6506 (nI (n + 1))) L ∧ mI m' (a + 25) = mI m (a + 25) := by
  have hm : ∀ y, y ≠ a + 23 → y ≠ a + 23 + 1 → mI (sA (sA m (a + 23 + 1) (up1 (mI m (a + 23 + 1)) n x)) (a + 23) (up1 (mI m (a + 23)) 1 (nI (n + 1)))) y = mI m y := fun y y1 y2 => by rw [I_sA' _ _ y1, I_sA' _ _ y2]
  refine ⟨_, sp_60 k.dep (by rw [v.dep.1]; exact hn) n2, ((Fr.refl a m).sA (by omega) (by omega)).sA (by omega) (by omega), ?_, hm _ (by omega) (by omega)⟩
  refine v.row hL hN hA (fun y y1 y2 y3 => ?_) (fun y hy => hm y (by omega) (by omega)) rfl ?_ (v.dep.add hn n2 (by omega))
  · rw [up1_ne y3, up1_ne (by omega)]
  · exact (v.ash.mem (hm _ (by omega) (by omega)) (hm _ (by omega) (by omega))).arr h5 (by rw [up1_ne (by omega), up1_ne (by omega)]) (fun j hj => by rw [up1_ne (by omega), up1_ne (by omega)])
theorem sh_addA {d a n : Nat} {m : am_M} {S : Nat → Int32} {L : Int64} {x : Int32} (k : ShK m a) (v : ShV m a S L) (hL : LnOk S) (hN : NmOk S) (hA : AkOk S) (h6 : MvOk S 6506) (hn : S 6505 = nI n) (n2 : n < 400) : ∃ m', cal d 60 [.ref (a + 21), .int x] m = some (none, m') ∧ Fr a m m' ∧ ShV m' a (up1 (up1 S (4500 + n) x) 6505 (nI (n + 1))) L ∧ mI m' (a + 25) = mI m (a + 25) := by
  have hm : ∀ y, y ≠ a + 21 → y ≠ a + 21 + 1 → mI (sA (sA m (a + 21 + 1) (up1 (mI m (a + 21 + 1)) n x)) (a + 21) (up1 (mI m (a + 21)) 1 (nI (n + 1)))) y = mI m y := fun y y1 y2 => by rw [I_sA' _ _ y1, I_sA' _ _ y2]
  refine ⟨_, sp_60 k.ash (by rw [v.ash.1]; exact hn) n2, ((Fr.refl a m).sA (by omega) (by omega)).sA (by omega) (by omega), ?_, hm _ (by omega) (by omega)⟩
  refine v.row hL hN hA (fun y y1 y2 y3 => ?_) (fun y hy => hm y (by omega) (by omega)) rfl (v.ash.add hn n2 (by omega)) ?_
  · rw [up1_ne y2, up1_ne (by omega)]
  · exact (v.dep.mem (hm _ (by omega) (by omega)) (hm _ (by omega) (by omega))).arr h6 (by rw [up1_ne (by omega), up1_ne (by omega)]) (fun j hj => by rw [up1_ne (by omega), up1_ne (by omega)])
/-! meet: by what the cell holds -/
section ME
variable {d a i p : Nat} {g : Int32} {m : am_M} {S : Nat → Int32} {L : Int64}
theorem sp_85n (k : ShK m a) (v : ShV m a S L) (hL : LnOk S) (hN : NmOk S) (hi : i < 20) (hp : p < lenS S i) (hc : S (40 * i + p) < nI 0) : cal (d + 3) 85 [.ref a, .ref (a + 26 + 2 * i), .int (nI p), .int g] m = some (none, m) := by
  have ko := k.lo
  have kl := k.la i hi
  have vl := v.la hi
  have c := sp_19 (d := d + 2) kl vl.1 (lenS_le hL hi) hp
  rw [vl.2.2.1 p hp] at c
  have hb := sp_26b (d := d + 2) ko (by rw [v.lo.1]; exact hN.1) (x := S (40 * i + p)) (Or.inl hc)
  simp (disch := first | (simp (disch := omega) only [am_k_some, va_rf_some, va_rf_none, tl_some, tl_none, am_clr_int, am_clr_ref, am_clr_none, am_clr_long, am_w_nil, am_w_int, am_w_ref, am_w_long, am_w_null, am_bb_0, am_bb_1, am_bb_bI, xK_sI, xR_sI, xS_sI, xN_sI, xK_sL, xR_sL, xS_sL, xN_sL, xK_sR, xR_sR, xS_sR, xN_sR, xK_sA, xR_sA, xS_sA, xN_sA, Nat.reduceAdd, Nat.reduceLeDiff, sI_sA, I_sA', sA_sA, I_sA, I_sA', nI_add, mul_nI, bI_0, bI_1, k.k, k.r1, k.r4, k.ash.k, k.r5, k.dep.k, ko.k, ko.r3, ko.k3, ko.r8, ko.k8, kl.k, ix_nI, cl_nI]; done) | omega | assumption) only [c85, e85_0, e85_1, e85_2, e85_5, e85_7, e85_8, e85_11, e85_13, e85_16, e85_19, e85_20, e85_21, e85_24, e85_27, e85_29, e85_30, e85_31, e85_34, e85_35, e85_38, e85_40, e85_43, e85_44, e85_46, e85_47, e85_50, e85_53, e85_54, e85_57, e85_60, e85_62, e85_63, e85_64, e85_67, e85_68, e85_71, e85_73, e85_76, am_k_some, va_rf_some, va_rf_none, tl_some, tl_none, am_clr_int, am_clr_ref, am_clr_none, am_clr_long, am_w_nil, am_w_int, am_w_ref, am_w_long, am_w_null, am_bb_0, am_bb_1, am_bb_bI, xK_sI, xR_sI, xS_sI, xN_sI, xK_sL, xR_sL, xS_sL, xN_sL, xK_sR, xR_sR, xS_sR, xN_sR, xK_sA, xR_sA, xS_sA, xN_sA, Nat.reduceAdd, Nat.reduceLeDiff, sI_sA, I_sA', sA_sA, I_sA, I_sA', nI_add, mul_nI, bI_0, bI_1, k.k, k.r1, k.r4, k.ash.k, k.r5, k.dep.k, ko.k, ko.r3, ko.k3, ko.r8, ko.k8, kl.k, ix_nI, cl_nI, lt_nI, eq_nI, sub_nI, Nat.reduceEqDiff, Nat.one_ne_zero, Nat.not_lt_zero, ↓reduceIte, c, hb]
theorem sp_85s {l : Nat} (k : ShK m a) (v : ShV m a S L) (hL : LnOk S) (hN : NmOk S) (hi : i < 20) (hp : p < lenS S i) (hl : l < nm S) (hc : S (40 * i + p) = nI l) (hg : ¬ S (2100 + l) = g) (hq : ¬ S (4100 + l) = nI p) : cal (d + 3) 85 [.ref a, .ref (a + 26 + 2 * i), .int (nI p), .int g] m = some (none, m) := by
  have n2 := hN.2
  have ko := k.lo
  have kl := k.la i hi
  have vl := v.la hi
  have c := sp_19 (d := d + 2) kl vl.1 (lenS_le hL hi) hp
  rw [vl.2.2.1 p hp, hc] at c
  have hb := sp_26v (d := d + 2) ko (by rw [v.lo.1]; exact hN.1) n2 hl
  obtain ⟨w1, w2, w3, w4, w5, w6, w7, w8, w9⟩ := v.lo.2 l hl
  simp (disch := first | (simp (disch := omega) only [am_k_some, va_rf_some, va_rf_none, tl_some, tl_none, am_clr_int, am_clr_ref, am_clr_none, am_clr_long, am_w_nil, am_w_int, am_w_ref, am_w_long, am_w_null, am_bb_0, am_bb_1, am_bb_bI, xK_sI, xR_sI, xS_sI, xN_sI, xK_sL, xR_sL, xS_sL, xN_sL, xK_sR, xR_sR, xS_sR, xN_sR, xK_sA, xR_sA, xS_sA, xN_sA, Nat.reduceAdd, Nat.reduceLeDiff, sI_sA, I_sA', sA_sA, I_sA, I_sA', nI_add, mul_nI, bI_0, bI_1, k.k, k.r1, k.r4, k.ash.k, k.r5, k.dep.k, ko.k, ko.r3, ko.k3, ko.r8, ko.k8, kl.k, ix_nI, cl_nI]; done) | omega | assumption) only [c85, e85_0, e85_1, e85_2, e85_5, e85_7, e85_8, e85_11, e85_13, e85_16, e85_19, e85_20, e85_21, e85_24, e85_27, e85_29, e85_30, e85_31, e85_34, e85_35, e85_38, e85_40, e85_43, e85_44, e85_46, e85_47, e85_50, e85_53, e85_54, e85_57, e85_60, e85_62, e85_63, e85_64, e85_67, e85_68, e85_71, e85_73, e85_76, am_k_some, va_rf_some, va_rf_none, tl_some, tl_none, am_clr_int, am_clr_ref, am_clr_none, am_clr_long, am_w_nil, am_w_int, am_w_ref, am_w_long, am_w_null, am_bb_0, am_bb_1, am_bb_bI, xK_sI, xR_sI, xS_sI, xN_sI, xK_sL, xR_sL, xS_sL, xN_sL, xK_sR, xR_sR, xS_sR, xN_sR, xK_sA, xR_sA, xS_sA, xN_sA, Nat.reduceAdd, Nat.reduceLeDiff, sI_sA, I_sA', sA_sA, I_sA, I_sA', nI_add, mul_nI, bI_0, bI_1, k.k, k.r1, k.r4, k.ash.k, k.r5, k.dep.k, ko.k, ko.r3, ko.k3, ko.r8, ko.k8, kl.k, ix_nI, cl_nI, lt_nI, eq_nI, sub_nI, Nat.reduceEqDiff, Nat.one_ne_zero, Nat.not_lt_zero, ↓reduceIte, n10, c, hb, w4, w9, hg, hq]
theorem sp_85a {l n : Nat} (k : ShK m a) (v : ShV m a S L) (hL : LnOk S) (hN : NmOk S) (hA : AkOk S) (h6 : MvOk S 6506) (hi : i < 20) (hp : p < lenS S i) (hl : l < nm S) (hc : S (40 * i + p) = nI l) (hg : ¬ S (2100 + l) = g) (hq : S (4100 + l) = nI p) (hn : S 6505 = nI n) (n2 : n < 400) : ∃ m', cal (d + 3) 85 [.ref a, .ref (a + 26 + 2 * i), .int (nI p), .int g] m = some (none, m') ∧ Fr a m m' ∧ ShV m' a (up1 (up1 S (4500 + n) (nI l)) 6505 (nI (n + 1))) L ∧ mI m' (a + 25) = mI m (a + 25) := by
  have n2' := hN.2
  have ko := k.lo
  have kl := k.la i hi
  have vl := v.la hi
  have c := sp_19 (d := d + 2) kl vl.1 (lenS_le hL hi) hp
  rw [vl.2.2.1 p hp, hc] at c
  have hb := sp_26v (d := d + 2) ko (by rw [v.lo.1]; exact hN.1) n2' hl
  obtain ⟨w1, w2, w3, w4, w5, w6, w7, w8, w9⟩ := v.lo.2 l hl
  obtain ⟨m', e1, f1, s1, g1⟩ := sh_addA (d := d + 2) (x := nI l) k v hL hN hA h6 hn n2
  refine ⟨m', ?_, f1, s1, g1⟩
  simp (disch := first | (simp (disch := omega) only [am_k_some, va_rf_some, va_rf_none, tl_some, tl_none, am_clr_int, am_clr_ref, am_clr_none, am_clr_long, am_w_nil, am_w_int, am_w_ref, am_w_long, am_w_null, am_bb_0, am_bb_1, am_bb_bI, xK_sI, xR_sI, xS_sI, xN_sI, xK_sL, xR_sL, xS_sL, xN_sL, xK_sR, xR_sR, xS_sR, xN_sR, xK_sA, xR_sA, xS_sA, xN_sA, Nat.reduceAdd, Nat.reduceLeDiff, sI_sA, I_sA', sA_sA, I_sA, I_sA', nI_add, mul_nI, bI_0, bI_1, k.k, k.r1, k.r4, k.ash.k, k.r5, k.dep.k, ko.k, ko.r3, ko.k3, ko.r8, ko.k8, kl.k, ix_nI, cl_nI]; done) | omega | assumption) only [c85, e85_0, e85_1, e85_2, e85_5, e85_7, e85_8, e85_11, e85_13, e85_16, e85_19, e85_20, e85_21, e85_24, e85_27, e85_29, e85_30, e85_31, e85_34, e85_35, e85_38, e85_40, e85_43, e85_44, e85_46, e85_47, e85_50, e85_53, e85_54, e85_57, e85_60, e85_62, e85_63, e85_64, e85_67, e85_68, e85_71, e85_73, e85_76, am_k_some, va_rf_some, va_rf_none, tl_some, tl_none, am_clr_int, am_clr_ref, am_clr_none, am_clr_long, am_w_nil, am_w_int, am_w_ref, am_w_long, am_w_null, am_bb_0, am_bb_1, am_bb_bI, xK_sI, xR_sI, xS_sI, xN_sI, xK_sL, xR_sL, xS_sL, xN_sL, xK_sR, xR_sR, xS_sR, xN_sR, xK_sA, xR_sA, xS_sA, xN_sA, Nat.reduceAdd, Nat.reduceLeDiff, sI_sA, I_sA', sA_sA, I_sA, I_sA', nI_add, mul_nI, bI_0, bI_1, k.k, k.r1, k.r4, k.ash.k, k.r5, k.dep.k, ko.k, ko.r3, ko.k3, ko.r8, ko.k8, kl.k, ix_nI, cl_nI, lt_nI, eq_nI, sub_nI, Nat.reduceEqDiff, Nat.one_ne_zero, Nat.not_lt_zero, ↓reduceIte, n10, c, hb, w4, w9, hg, hq, e1]
theorem sp_85d {l n q : Nat} (k : ShK m a) (v : ShV m a S L) (hL : LnOk S) (hN : NmOk S) (hA : AkOk S) (h5 : MvOk S 6505) (hi : i < 20) (hp : p < lenS S i) (hl : l < nm S) (hc : S (40 * i + p) = nI l) (hg : S (2100 + l) = g) (hs : StA S l i q) (hn : S 6506 = nI n) (n2 : n < 400) : ∃ m', cal (d + 3) 85 [.ref a, .ref (a + 26 + 2 * i), .int (nI p), .int g] m = some (none, m') ∧ Fr a m m' ∧ ShV m' a (takeS (up1 (up1 S (4900 + n) (nI l)) 6506 (nI (n + 1))) l (nI 2) i q) L ∧ mI m' (a + 25) = mI m (a + 25) := by
  have n2' := hN.2
  have ko := k.lo
  have kl := k.la i hi
  have vl := v.la hi
  have c := sp_19 (d := d + 2) kl vl.1 (lenS_le hL hi) hp
  rw [vl.2.2.1 p hp, hc] at c
  have hb := sp_26v (d := d + 2) ko (by rw [v.lo.1]; exact hN.1) n2' hl
  obtain ⟨w1, w2, w3, w4, w5, w6, w7, w8, w9⟩ := v.lo.2 l hl
  obtain ⟨m1, e1, f1, s1, g1⟩ := sh_addD (d := d + 2) (x := nI l) k v hL hN hA h5 hn n2
  have kf := k.fr f1
  have al : AgL S (up1 (up1 S (4900 + n) (nI l)) 6506 (nI (n + 1))) := ⟨fun y hy => by rw [up1_ne (by omega), up1_ne (by omega)], by rw [up1_ne (by omega), up1_ne (by omega)]⟩
  have hA1 : AkOk (up1 (up1 S (4900 + n) (nI l)) 6506 (nI (n + 1))) := by
    unfold AkOk ak
    rw [up1_ne (by omega), up1_ne (by omega)]
    exact hA
  have h51 : MvOk (up1 (up1 S (4900 + n) (nI l)) 6506 (nI (n + 1))) 6505 := h5.of (by rw [up1_ne (by omega), up1_ne (by omega)])
  have h61 : MvOk (up1 (up1 S (4900 + n) (nI l)) 6506 (nI (n + 1))) 6506 := by
    unfold MvOk
    rw [up1_eq, cl_nI (by omega)]
    exact ⟨rfl, by omega⟩
  obtain ⟨m2, e2, f2, s2, g2⟩ := sp_74g (d := d) kf s1 (al.lnok hL) (al.nmok hN) hA1 h51 h61 (by rw [al.nmE]; exact hl) (al.st hL (by omega) hs) (Or.inr rfl)
  refine ⟨m2, ?_, f1.trans f2, s2, g2.trans g1⟩
  simp (disch := first | (simp (disch := omega) only [am_k_some, va_rf_some, va_rf_none, tl_some, tl_none, am_clr_int, am_clr_ref, am_clr_none, am_clr_long, am_w_nil, am_w_int, am_w_ref, am_w_long, am_w_null, am_bb_0, am_bb_1, am_bb_bI, xK_sI, xR_sI, xS_sI, xN_sI, xK_sL, xR_sL, xS_sL, xN_sL, xK_sR, xR_sR, xS_sR, xN_sR, xK_sA, xR_sA, xS_sA, xN_sA, Nat.reduceAdd, Nat.reduceLeDiff, sI_sA, I_sA', sA_sA, I_sA, I_sA', nI_add, mul_nI, bI_0, bI_1, k.k, k.r1, k.r4, k.ash.k, k.r5, k.dep.k, ko.k, ko.r3, ko.k3, ko.r8, ko.k8, kl.k, kf.k, ix_nI, cl_nI]; done) | omega | assumption) only [c85, e85_0, e85_1, e85_2, e85_5, e85_7, e85_8, e85_11, e85_13, e85_16, e85_19, e85_20, e85_21, e85_24, e85_27, e85_29, e85_30, e85_31, e85_34, e85_35, e85_38, e85_40, e85_43, e85_44, e85_46, e85_47, e85_50, e85_53, e85_54, e85_57, e85_60, e85_62, e85_63, e85_64, e85_67, e85_68, e85_71, e85_73, e85_76, am_k_some, va_rf_some, va_rf_none, tl_some, tl_none, am_clr_int, am_clr_ref, am_clr_none, am_clr_long, am_w_nil, am_w_int, am_w_ref, am_w_long, am_w_null, am_bb_0, am_bb_1, am_bb_bI, xK_sI, xR_sI, xS_sI, xN_sI, xK_sL, xR_sL, xS_sL, xN_sL, xK_sR, xR_sR, xS_sR, xN_sR, xK_sA, xR_sA, xS_sA, xN_sA, Nat.reduceAdd, Nat.reduceLeDiff, sI_sA, I_sA', sA_sA, I_sA, I_sA', nI_add, mul_nI, bI_0, bI_1, k.k, k.r1, k.r4, k.ash.k, k.r5, k.dep.k, ko.k, ko.r3, ko.k3, ko.r8, ko.k8, kl.k, ix_nI, cl_nI, lt_nI, eq_nI, sub_nI, Nat.reduceEqDiff, Nat.one_ne_zero, Nat.not_lt_zero, ↓reduceIte, n10, c, hb, w4, hg, e1, kf.k, e2]
end ME
