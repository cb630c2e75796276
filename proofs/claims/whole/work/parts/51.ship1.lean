/-! A SHIP AT a: what changes keep -/
def Fr (a : Nat) (m m' : am_M) : Prop := mS m' = mS m ∧ mN m' = mN m ∧ mK m' = mK m ∧ mR m' = mR m ∧ ∀ x, (x < a ∨ a + 66 ≤ x) → mI m' x = mI m x ∧ mL m' x = mL m x
theorem Fr.refl (a : Nat) (m : am_M) : Fr a m m := ⟨rfl, rfl, rfl, rfl, fun _ _ => ⟨rfl, rfl⟩⟩
theorem Fr.trans {a : Nat} {m1 m2 m3 : am_M} (h : Fr a m1 m2) (g : Fr a m2 m3) : Fr a m1 m3 := ⟨g.1.trans h.1, g.2.1.trans h.2.1, g.2.2.1.trans h.2.2.1, g.2.2.2.1.trans h.2.2.2.1, fun x hx => ⟨(g.2.2.2.2 x hx).1.trans (h.2.2.2.2 x hx).1, (g.2.2.2.2 x hx).2.trans (h.2.2.2.2 x hx).2⟩⟩
theorem Fr.sA {a b : Nat} {m m' : am_M} {f : Nat → Int32} (h : Fr a m m') (h1 : a ≤ b) (h2 : b < a + 66) : Fr a m (sA m' b f) := by
  refine h.trans ⟨rfl, rfl, rfl, rfl, fun x hx => ⟨I_sA' _ _ (by omega), rfl⟩⟩
theorem Fr.sL {a b k : Nat} {m m' : am_M} {v : Int64} (h : Fr a m m') (h1 : a ≤ b) (h2 : b < a + 66) : Fr a m (sL m' b k v) := by
  refine h.trans ⟨rfl, rfl, rfl, rfl, fun x hx => ⟨rfl, ?_⟩⟩
  funext y
  rw [xL_sL, if_neg (by omega)]
theorem ShK.fr {a b : Nat} {m m' : am_M} (k : ShK m a) (h : Fr b m m') : ShK m' a := by
  obtain ⟨-, -, h1, h2, -⟩ := h
  simpa only [ShK, LaK, LoK, AcK, PlK, RoK, h1, h2] using k
section TV
variable {m m' : am_M} {o i b c : Nat} {S S' : Nat → Int32} {L : Int64}
theorem LaV.mem (v : LaV m o S i) (h0 : mI m' o = mI m o) (h1 : mI m' (o + 1) = mI m (o + 1)) : LaV m' o S i := by unfold LaV; rw [h0, h1]; exact v
theorem LoV.mem (v : LoV m o S) (h : ∀ k, k < 10 → mI m' (o + k) = mI m (o + k)) : LoV m' o S := by
  unfold LoV
  rw [show mI m' o = mI m o from h 0 (by omega), h 1 (by omega), h 2 (by omega), h 3 (by omega), h 4 (by omega), h 5 (by omega), h 6 (by omega), h 7 (by omega), h 8 (by omega), h 9 (by omega)]
  exact v
theorem AcV.mem (v : AcV m o S) (h : ∀ k, k < 5 → mI m' (o + k) = mI m (o + k)) : AcV m' o S := by
  unfold AcV
  rw [show mI m' o = mI m o from h 0 (by omega), h 1 (by omega), h 2 (by omega), h 3 (by omega), h 4 (by omega)]
  exact v
theorem PlV.mem (v : PlV m o S) (h : ∀ k, k < 4 → mI m' (o + k) = mI m (o + k)) : PlV m' o S := by
  unfold PlV
  rw [show mI m' o = mI m o from h 0 (by omega), h 1 (by omega), h 2 (by omega), h 3 (by omega)]
  exact v
theorem RwV.mem (v : RwV m o S b c) (h0 : mI m' o = mI m o) (h1 : mI m' (o + 1) = mI m (o + 1)) : RwV m' o S b c := by unfold RwV; rw [h0, h1]; exact v
theorem ScV.mem (v : ScV m o S L) (h0 : mI m' o = mI m o) (h1 : mL m' o = mL m o) : ScV m' o S L := by unfold ScV; rw [h0, h1]; exact v
/-! and the array -/
theorem LaV.arr (v : LaV m o S i) (h1 : S' (800 + i) = S (800 + i)) (h2 : S' (820 + i) = S (820 + i)) (h3 : S' (840 + i) = S (840 + i)) (h4 : S' (860 + i) = S (860 + i)) (h5 : S' (880 + i) = S (880 + i)) (h6 : ∀ p, p < lenS S i → S' (40 * i + p) = S (40 * i + p)) (h7 : inS S' i = inS S i) (h8 : chN S' i = chN S i) : LaV m o S' i := by
  have e : lenS S' i = lenS S i := by unfold lenS ln; rw [h1, h2]
  unfold LaV
  rw [e, h1, h3, h4, h5, h7, h8]
  exact ⟨v.1, v.2.1, fun p hp => by rw [h6 p hp]; exact v.2.2.1 p hp, v.2.2.2⟩
theorem AcV.arr (v : AcV m o S) (h : ∀ y, (6100 ≤ y ∧ y < 6500 ∨ y = 6507) → S' y = S y) (hA : AkOk S) : AcV m o S' := by
  have := hA.2
  have e : ak S' = ak S := by unfold ak; rw [h 6507 (by omega)]
  unfold AcV
  rw [e, h 6507 (by omega)]
  obtain ⟨v1, t, v2, v3, v4⟩ := v
  refine ⟨v1, t, v2, v3, fun j hj => ?_⟩
  rw [h (6100 + 4 * j) (by omega), h (6100 + 4 * j + 1) (by omega), h (6100 + 4 * j + 2) (by omega), h (6100 + 4 * j + 3) (by omega)]
  exact v4 j hj
theorem PlV.arr (v : PlV m o S) (h : ∀ y, 5300 ≤ y → y < 6100 → S' y = S y) : PlV m o S' := by
  obtain ⟨n, v1, v2, v3, v4⟩ := v
  refine ⟨n, v1, v2, v3, fun l hl => ?_⟩
  have := v4 l hl
  rw [h (5300 + l) (by omega) (by omega), h (5700 + l) (by omega) (by omega)]
  exact this
theorem RwV.arr (v : RwV m o S b c) (hM : MvOk S c) (h : S' c = S c) (h1 : ∀ j, j < 400 → S' (b + j) = S (b + j)) : RwV m o S' b c := by
  have := hM.2
  unfold RwV
  rw [h]
  exact ⟨v.1, fun j hj => by rw [h1 j (by omega)]; exact v.2 j hj⟩
theorem ScV.arr (v : ScV m o S L) (h : ∀ y, 6502 ≤ y → y < 6505 → S' y = S y) : ScV m o S' L := by
  unfold ScV
  rw [h 6504 (by omega) (by omega), h 6503 (by omega) (by omega), h 6502 (by omega) (by omega)]
  exact v
end TV
/-! small reads -/
theorem sp_65 {d a : Nat} {m : am_M} (k : ShK m a) : cal d 65 [.ref a] m = some (some (.int (bI (decide (mI m a 9 < nI 0)))), m) := by
  by_cases h1 : mI m a 9 < nI 0
  · simp (disch := first | (simp (disch := omega) only [am_k_some, va_rf_some, va_rf_none, tl_some, tl_none, am_clr_int, am_clr_ref, am_clr_none, am_clr_long, am_w_nil, am_w_int, am_w_ref, am_w_long, am_w_null, am_bb_0, am_bb_1, am_bb_bI, xK_sI, xR_sI, xS_sI, xN_sI, xK_sL, xR_sL, xS_sL, xN_sL, xK_sR, xR_sR, xS_sR, xN_sR, xK_sA, xR_sA, xS_sA, xN_sA, Nat.reduceAdd, Nat.reduceLeDiff, sI_sA, I_sA', sA_sA, I_sA, I_sA', nI_add, mul_nI, bI_0, bI_1, k.k, k.r0, k.k0, k.rl, k.r1, k.lo.k, k.r2, k.ac.k, k.r3, k.pl.k, k.r4, k.ash.k, k.r5, k.dep.k, k.r10, k.ga, (k.la _ _).k, (k.la _ _).r0, (k.la _ _).k0, ix_nI, cl_nI]; done) | omega | assumption) only [c65, e65_0, e65_1, e65_4, e65_7, e65_8, e65_11, e65_12, am_k_some, va_rf_some, va_rf_none, tl_some, tl_none, am_clr_int, am_clr_ref, am_clr_none, am_clr_long, am_w_nil, am_w_int, am_w_ref, am_w_long, am_w_null, am_bb_0, am_bb_1, am_bb_bI, xK_sI, xR_sI, xS_sI, xN_sI, xK_sL, xR_sL, xS_sL, xN_sL, xK_sR, xR_sR, xS_sR, xN_sR, xK_sA, xR_sA, xS_sA, xN_sA, Nat.reduceAdd, Nat.reduceLeDiff, sI_sA, I_sA', sA_sA, I_sA, I_sA', nI_add, mul_nI, bI_0, bI_1, k.k, k.r0, k.k0, k.rl, k.r1, k.lo.k, k.r2, k.ac.k, k.r3, k.pl.k, k.r4, k.ash.k, k.r5, k.dep.k, k.r10, k.ga, ix_nI, cl_nI, lt_nI, eq_nI, sub_nI, Nat.reduceEqDiff, Nat.one_ne_zero, Nat.not_lt_zero, ↓reduceIte, h1, decide_true, bI_t]
  · simp (disch := first | (simp (disch := omega) only [am_k_some, va_rf_some, va_rf_none, tl_some, tl_none, am_clr_int, am_clr_ref, am_clr_none, am_clr_long, am_w_nil, am_w_int, am_w_ref, am_w_long, am_w_null, am_bb_0, am_bb_1, am_bb_bI, xK_sI, xR_sI, xS_sI, xN_sI, xK_sL, xR_sL, xS_sL, xN_sL, xK_sR, xR_sR, xS_sR, xN_sR, xK_sA, xR_sA, xS_sA, xN_sA, Nat.reduceAdd, Nat.reduceLeDiff, sI_sA, I_sA', sA_sA, I_sA, I_sA', nI_add, mul_nI, bI_0, bI_1, k.k, k.r0, k.k0, k.rl, k.r1, k.lo.k, k.r2, k.ac.k, k.r3, k.pl.k, k.r4, k.ash.k, k.r5, k.dep.k, k.r10, k.ga, (k.la _ _).k, (k.la _ _).r0, (k.la _ _).k0, ix_nI, cl_nI]; done) | omega | assumption) only [c65, e65_0, e65_1, e65_4, e65_7, e65_8, e65_11, e65_12, am_k_some, va_rf_some, va_rf_none, tl_some, tl_none, am_clr_int, am_clr_ref, am_clr_none, am_clr_long, am_w_nil, am_w_int, am_w_ref, am_w_long, am_w_null, am_bb_0, am_bb_1, am_bb_bI, xK_sI, xR_sI, xS_sI, xN_sI, xK_sL, xR_sL, xS_sL, xN_sL, xK_sR, xR_sR, xS_sR, xN_sR, xK_sA, xR_sA, xS_sA, xN_sA, Nat.reduceAdd, Nat.reduceLeDiff, sI_sA, I_sA', sA_sA, I_sA, I_sA', nI_add, mul_nI, bI_0, bI_1, k.k, k.r0, k.k0, k.rl, k.r1, k.lo.k, k.r2, k.ac.k, k.r3, k.pl.k, k.r4, k.ash.k, k.r5, k.dep.k, k.r10, k.ga, ix_nI, cl_nI, lt_nI, eq_nI, sub_nI, Nat.reduceEqDiff, Nat.one_ne_zero, Nat.not_lt_zero, ↓reduceIte, h1, decide_false, bI_f]
theorem sp_66 {d a : Nat} {m : am_M} (k : ShK m a) : cal d 66 [.ref a] m = some (some (.int (if mI m a 9 < nI 0 then nI 0 else mI m a 9)), m) := by
  simp (disch := first | (simp (disch := omega) only [am_k_some, va_rf_some, va_rf_none, tl_some, tl_none, am_clr_int, am_clr_ref, am_clr_none, am_clr_long, am_w_nil, am_w_int, am_w_ref, am_w_long, am_w_null, am_bb_0, am_bb_1, am_bb_bI, xK_sI, xR_sI, xS_sI, xN_sI, xK_sL, xR_sL, xS_sL, xN_sL, xK_sR, xR_sR, xS_sR, xN_sR, xK_sA, xR_sA, xS_sA, xN_sA, Nat.reduceAdd, Nat.reduceLeDiff, sI_sA, I_sA', sA_sA, I_sA, I_sA', nI_add, mul_nI, bI_0, bI_1, k.k, k.r0, k.k0, k.rl, k.r1, k.lo.k, k.r2, k.ac.k, k.r3, k.pl.k, k.r4, k.ash.k, k.r5, k.dep.k, k.r10, k.ga, (k.la _ _).k, (k.la _ _).r0, (k.la _ _).k0, ix_nI, cl_nI]; done) | omega | assumption) only [c66, e66_0, e66_1, e66_4, e66_5, e66_8, am_k_some, va_rf_some, va_rf_none, tl_some, tl_none, am_clr_int, am_clr_ref, am_clr_none, am_clr_long, am_w_nil, am_w_int, am_w_ref, am_w_long, am_w_null, am_bb_0, am_bb_1, am_bb_bI, xK_sI, xR_sI, xS_sI, xN_sI, xK_sL, xR_sL, xS_sL, xN_sL, xK_sR, xR_sR, xS_sR, xN_sR, xK_sA, xR_sA, xS_sA, xN_sA, Nat.reduceAdd, Nat.reduceLeDiff, sI_sA, I_sA', sA_sA, I_sA, I_sA', nI_add, mul_nI, bI_0, bI_1, k.k, k.r0, k.k0, k.rl, k.r1, k.lo.k, k.r2, k.ac.k, k.r3, k.pl.k, k.r4, k.ash.k, k.r5, k.dep.k, k.r10, k.ga, ix_nI, cl_nI, lt_nI, eq_nI, sub_nI, Nat.reduceEqDiff, Nat.one_ne_zero, Nat.not_lt_zero, ↓reduceIte]
/-- at the quay, by the model's cell -/
theorem quay {S : Nat → Int32} (hY : DyOk S) : (S 6502 < nI 0) = ¬ S 6501 = nI 1 := by
  apply propext
  rcases hY with ⟨⟨n, y1, y2, y3⟩, ⟨a1, a2⟩ | ⟨a1, p, a2, a3⟩⟩
  · rw [a1, a2]
    decide
  · rw [y1, cl_nI (by omega)] at a3
    rw [a1, a2, lt_nI (by omega) (by omega)]
    constructor
    · intro q; omega
    · intro q; exact absurd rfl q
theorem sp_65w {d a : Nat} {m : am_M} {S : Nat → Int32} {L : Int64} (k : ShK m a) (v : ShV m a S L) (hY : DyOk S) : cal d 65 [.ref a] m = some (some (.int (bI (!decide (S 6501 = nI 1)))), m) := by
  rw [sp_65 k, v.sc.2.2.2]
  by_cases h : S 6501 = nI 1
  · have : ¬ S 6502 < nI 0 := by rw [quay hY]; exact fun q => q h
    rw [decide_eq_false this, decide_eq_true h]
    rfl
  · have : S 6502 < nI 0 := by rw [quay hY]; exact h
    rw [decide_eq_true this, decide_eq_false h]
    rfl
