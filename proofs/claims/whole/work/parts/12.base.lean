/-! SIMP'S FRIENDS: words, booleans, numbers -/
theorem am_w_nil : am_w [] = 0 := by rw [show am_w [] = 0 from rfl]
theorem am_w_int (x : Int32) (st : List Value) : am_w (.int x :: st) = 1 + am_w st := by simp [am_w, Value.category]
theorem am_w_ref (x : Nat) (st : List Value) : am_w (.ref x :: st) = 1 + am_w st := by simp [am_w, Value.category]
theorem am_w_long (x : Int64) (st : List Value) : am_w (.long x :: st) = 2 + am_w st := by simp [am_w, Value.category]
theorem am_w_null (st : List Value) : am_w (.null :: st) = 1 + am_w st := by simp [am_w, Value.category]
def bI (b : Bool) : Int32 := bif b then nI 1 else nI 0
theorem am_bb_0 : am_bb (nI 0) = true := by rw [show am_bb (nI 0) = true from rfl]
theorem am_bb_1 : am_bb (nI 1) = true := by rw [show am_bb (nI 1) = true from rfl]
theorem am_bb_bI (b : Bool) : am_bb (bI b) = true := by cases b <;> rfl
theorem bI_0 (b : Bool) : (bI b = nI 0) = (b = false) := by cases b <;> simp [bI] <;> decide
theorem bI_1 (b : Bool) : (bI b = nI 1) = (b = true) := by cases b <;> simp [bI] <;> decide
theorem bI_t : bI true = nI 1 := rfl
theorem bI_f : bI false = nI 0 := rfl
theorem ix_nI {k n : Nat} (h : k < n) (hn : n < 2147483648) : am_ix (nI k) n = true := by
  unfold am_ix
  have h1 : ¬ nI k < 0 := nI_pos (by omega)
  have h2 : (nI k).toNatClampNeg = k := nI_clamp (by omega)
  simp [h1, h2, h]
theorem cl_nI {k : Nat} (h : k < 2147483648) : (nI k).toNatClampNeg = k := nI_clamp (by omega)
theorem lt_nI {a b : Nat} (ha : a < 2147483648) (hb : b < 2147483648) : (nI a < nI b) = (a < b) := propext (nI_ltI (by omega) (by omega))
theorem eq_nI {a b : Nat} (ha : a < 2147483648) (hb : b < 2147483648) : (nI a = nI b) = (a = b) := propext (nI_eq (by omega) (by omega))
theorem sub_nI {a b : Nat} (h : b ≤ a) : nI a - nI b = nI (a - b) := pk_sub h
theorem mul_nI (a b : Nat) : nI a * nI b = nI (a * b) := pk_mul a b
theorem dec_nI (n : Nat) : nI (n + 1) + (-1) = nI n := pk_m1 n
theorem neg_ne {n k : Nat} (h : k < 2147483648) (hn : 0 < n) (hn2 : n < 2147483648) : ¬ nI k = -nI n := by
  intro e
  have h1 := congrArg Int32.toInt e
  rw [nI_toInt (by omega), sb_negT (by omega)] at h1
  omega
/-- what may be any Int32: out of a range or a number in it -/
theorem rng (x : Int32) (n : Nat) (hn : n < 2147483648) : (x < nI 0 ∨ ¬ x < nI n) ∨ ∃ k, k < n ∧ x = nI k := by
  rcases pk_ix x (n := n) (by omega) with h | h | h
  · exact Or.inl (Or.inl h)
  · exact Or.inl (Or.inr (Int32.not_lt.mpr h))
  · exact Or.inr h
/-! memory behind a change, applied (not by rfl, so that simp may use them where it discharges) -/
theorem xK_sI (m : am_M) (a k : Nat) (v : Int32) (b : Nat) : mK (sI m a k v) b = mK m b := by
  rw [mK_sI]
theorem xI_sI (m : am_M) (a k : Nat) (v : Int32) (b i : Nat) : mI (sI m a k v) b i = if b = a ∧ i = k then v else mI m b i := by
  rw [mI_sI]
  unfold up2
  split <;> rfl
theorem xL_sI (m : am_M) (a k : Nat) (v : Int32) (b i : Nat) : mL (sI m a k v) b i = mL m b i := by
  rw [mL_sI]
theorem xR_sI (m : am_M) (a k : Nat) (v : Int32) (b i : Nat) : mR (sI m a k v) b i = mR m b i := by
  rw [mR_sI]
theorem xS_sI (m : am_M) (a k : Nat) (v : Int32) : mS (sI m a k v) = mS m := by
  rw [mS_sI]
theorem xN_sI (m : am_M) (a k : Nat) (v : Int32) : mN (sI m a k v) = mN m := by
  rw [mN_sI]
theorem xK_sL (m : am_M) (a k : Nat) (v : Int64) (b : Nat) : mK (sL m a k v) b = mK m b := by
  rw [mK_sL]
theorem xI_sL (m : am_M) (a k : Nat) (v : Int64) (b i : Nat) : mI (sL m a k v) b i = mI m b i := by
  rw [mI_sL]
theorem xL_sL (m : am_M) (a k : Nat) (v : Int64) (b i : Nat) : mL (sL m a k v) b i = if b = a ∧ i = k then v else mL m b i := by
  rw [mL_sL]
  unfold up2
  split <;> rfl
theorem xR_sL (m : am_M) (a k : Nat) (v : Int64) (b i : Nat) : mR (sL m a k v) b i = mR m b i := by
  rw [mR_sL]
theorem xS_sL (m : am_M) (a k : Nat) (v : Int64) : mS (sL m a k v) = mS m := by
  rw [mS_sL]
theorem xN_sL (m : am_M) (a k : Nat) (v : Int64) : mN (sL m a k v) = mN m := by
  rw [mN_sL]
theorem xK_sR (m : am_M) (a k : Nat) (v : Option Nat) (b : Nat) : mK (sR m a k v) b = mK m b := by
  rw [mK_sR]
theorem xI_sR (m : am_M) (a k : Nat) (v : Option Nat) (b i : Nat) : mI (sR m a k v) b i = mI m b i := by
  rw [mI_sR]
theorem xL_sR (m : am_M) (a k : Nat) (v : Option Nat) (b i : Nat) : mL (sR m a k v) b i = mL m b i := by
  rw [mL_sR]
theorem xR_sR (m : am_M) (a k : Nat) (v : Option Nat) (b i : Nat) : mR (sR m a k v) b i = if b = a ∧ i = k then v else mR m b i := by
  rw [mR_sR]
  unfold up2
  split <;> rfl
theorem xS_sR (m : am_M) (a k : Nat) (v : Option Nat) : mS (sR m a k v) = mS m := by
  rw [mS_sR]
theorem xN_sR (m : am_M) (a k : Nat) (v : Option Nat) : mN (sR m a k v) = mN m := by
  rw [mN_sR]
theorem xK_sA (m : am_M) (a : Nat) (f : Nat → Int32) (b : Nat) : mK (sA m a f) b = mK m b := by
  rw [mK_sA]
theorem xI_sA (m : am_M) (a : Nat) (f : Nat → Int32) (b i : Nat) : mI (sA m a f) b i = if b = a then f i else mI m b i := by
  rw [mI_sA]
  unfold upA
  split <;> rfl
theorem xL_sA (m : am_M) (a : Nat) (f : Nat → Int32) (b i : Nat) : mL (sA m a f) b i = mL m b i := by
  rw [mL_sA]
theorem xR_sA (m : am_M) (a : Nat) (f : Nat → Int32) (b i : Nat) : mR (sA m a f) b i = mR m b i := by
  rw [mR_sA]
theorem xS_sA (m : am_M) (a : Nat) (f : Nat → Int32) : mS (sA m a f) = mS m := by
  rw [mS_sA]
theorem xN_sA (m : am_M) (a : Nat) (f : Nat → Int32) : mN (sA m a f) = mN m := by
  rw [mN_sA]
