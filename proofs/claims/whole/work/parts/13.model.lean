/-! THE MODEL'S CELLS, at M; its array now is at M + 1 -/
def Mo (m : am_M) (M : Nat) : Prop := mK m M = (1, 10, 0) ∧ mR m M 0 = some (M + 1) ∧ mK m (M + 1) = (2, 0, 6508) ∧ mR m M 1 = some (M + 2) ∧ mK m (M + 2) = (2, 0, 6508) ∧ mR m M 2 = some (M + 3) ∧ mK m (M + 3) = (2, 0, 6508) ∧ mR m M 3 = some (M + 4) ∧ mK m (M + 4) = (2, 0, 6508) ∧ mR m M 4 = some (M + 5) ∧ mK m (M + 5) = (3, 0, 2) ∧ mR m M 5 = some (M + 6) ∧ mK m (M + 6) = (4, 0, 4) ∧ mR m M 6 = some (M + 7) ∧ mK m (M + 7) = (2, 0, 800) ∧ mR m M 8 = some (M + 8) ∧ mK m (M + 8) = (2, 0, 40) ∧ mR m M 9 = some (M + 9) ∧ mK m (M + 9) = (2, 0, 7) ∧ mR m M 15 = some (M + 10) ∧ mK m (M + 10) = (2, 0, 6) ∧ mR m M 17 = some (M + 11) ∧ mK m (M + 11) = (2, 0, 3) ∧ mR m M 19 = some (M + 12) ∧ mK m (M + 12) = (2, 0, 6) ∧ mR m M 20 = some (M + 13) ∧ mK m (M + 13) = (3, 0, 6) ∧ mR m M 21 = some (M + 14) ∧ mK m (M + 14) = (2, 0, 6) ∧ mR m M 22 = some (M + 15) ∧ mK m (M + 15) = (2, 0, 6)
theorem Mo.k {m : am_M} {M : Nat} (h : Mo m M) : mK m M = (1, 10, 0) := h.1
theorem Mo.r0 {m : am_M} {M : Nat} (h : Mo m M) : mR m M 0 = some (M + 1) := h.2.1
theorem Mo.k0 {m : am_M} {M : Nat} (h : Mo m M) : mK m (M + 1) = (2, 0, 6508) := h.2.2.1
theorem Mo.r1 {m : am_M} {M : Nat} (h : Mo m M) : mR m M 1 = some (M + 2) := h.2.2.2.1
theorem Mo.k1 {m : am_M} {M : Nat} (h : Mo m M) : mK m (M + 2) = (2, 0, 6508) := h.2.2.2.2.1
theorem Mo.r2 {m : am_M} {M : Nat} (h : Mo m M) : mR m M 2 = some (M + 3) := h.2.2.2.2.2.1
theorem Mo.k2 {m : am_M} {M : Nat} (h : Mo m M) : mK m (M + 3) = (2, 0, 6508) := h.2.2.2.2.2.2.1
theorem Mo.r3 {m : am_M} {M : Nat} (h : Mo m M) : mR m M 3 = some (M + 4) := h.2.2.2.2.2.2.2.1
theorem Mo.k3 {m : am_M} {M : Nat} (h : Mo m M) : mK m (M + 4) = (2, 0, 6508) := h.2.2.2.2.2.2.2.2.1
theorem Mo.r4 {m : am_M} {M : Nat} (h : Mo m M) : mR m M 4 = some (M + 5) := h.2.2.2.2.2.2.2.2.2.1
theorem Mo.k4 {m : am_M} {M : Nat} (h : Mo m M) : mK m (M + 5) = (3, 0, 2) := h.2.2.2.2.2.2.2.2.2.2.1
theorem Mo.r5 {m : am_M} {M : Nat} (h : Mo m M) : mR m M 5 = some (M + 6) := h.2.2.2.2.2.2.2.2.2.2.2.1
theorem Mo.k5 {m : am_M} {M : Nat} (h : Mo m M) : mK m (M + 6) = (4, 0, 4) := h.2.2.2.2.2.2.2.2.2.2.2.2.1
theorem Mo.r6 {m : am_M} {M : Nat} (h : Mo m M) : mR m M 6 = some (M + 7) := h.2.2.2.2.2.2.2.2.2.2.2.2.2.1
theorem Mo.k6 {m : am_M} {M : Nat} (h : Mo m M) : mK m (M + 7) = (2, 0, 800) := h.2.2.2.2.2.2.2.2.2.2.2.2.2.2.1
theorem Mo.r8 {m : am_M} {M : Nat} (h : Mo m M) : mR m M 8 = some (M + 8) := h.2.2.2.2.2.2.2.2.2.2.2.2.2.2.2.1
theorem Mo.k8 {m : am_M} {M : Nat} (h : Mo m M) : mK m (M + 8) = (2, 0, 40) := h.2.2.2.2.2.2.2.2.2.2.2.2.2.2.2.2.1
theorem Mo.r9 {m : am_M} {M : Nat} (h : Mo m M) : mR m M 9 = some (M + 9) := h.2.2.2.2.2.2.2.2.2.2.2.2.2.2.2.2.2.1
theorem Mo.k9 {m : am_M} {M : Nat} (h : Mo m M) : mK m (M + 9) = (2, 0, 7) := h.2.2.2.2.2.2.2.2.2.2.2.2.2.2.2.2.2.2.1
theorem Mo.r15 {m : am_M} {M : Nat} (h : Mo m M) : mR m M 15 = some (M + 10) := h.2.2.2.2.2.2.2.2.2.2.2.2.2.2.2.2.2.2.2.1
theorem Mo.k15 {m : am_M} {M : Nat} (h : Mo m M) : mK m (M + 10) = (2, 0, 6) := h.2.2.2.2.2.2.2.2.2.2.2.2.2.2.2.2.2.2.2.2.1
theorem Mo.r17 {m : am_M} {M : Nat} (h : Mo m M) : mR m M 17 = some (M + 11) := h.2.2.2.2.2.2.2.2.2.2.2.2.2.2.2.2.2.2.2.2.2.1
theorem Mo.k17 {m : am_M} {M : Nat} (h : Mo m M) : mK m (M + 11) = (2, 0, 3) := h.2.2.2.2.2.2.2.2.2.2.2.2.2.2.2.2.2.2.2.2.2.2.1
theorem Mo.r19 {m : am_M} {M : Nat} (h : Mo m M) : mR m M 19 = some (M + 12) := h.2.2.2.2.2.2.2.2.2.2.2.2.2.2.2.2.2.2.2.2.2.2.2.1
theorem Mo.k19 {m : am_M} {M : Nat} (h : Mo m M) : mK m (M + 12) = (2, 0, 6) := h.2.2.2.2.2.2.2.2.2.2.2.2.2.2.2.2.2.2.2.2.2.2.2.2.1
theorem Mo.r20 {m : am_M} {M : Nat} (h : Mo m M) : mR m M 20 = some (M + 13) := h.2.2.2.2.2.2.2.2.2.2.2.2.2.2.2.2.2.2.2.2.2.2.2.2.2.1
theorem Mo.k20 {m : am_M} {M : Nat} (h : Mo m M) : mK m (M + 13) = (3, 0, 6) := h.2.2.2.2.2.2.2.2.2.2.2.2.2.2.2.2.2.2.2.2.2.2.2.2.2.2.1
theorem Mo.r21 {m : am_M} {M : Nat} (h : Mo m M) : mR m M 21 = some (M + 14) := h.2.2.2.2.2.2.2.2.2.2.2.2.2.2.2.2.2.2.2.2.2.2.2.2.2.2.2.1
theorem Mo.k21 {m : am_M} {M : Nat} (h : Mo m M) : mK m (M + 14) = (2, 0, 6) := h.2.2.2.2.2.2.2.2.2.2.2.2.2.2.2.2.2.2.2.2.2.2.2.2.2.2.2.2.1
theorem Mo.r22 {m : am_M} {M : Nat} (h : Mo m M) : mR m M 22 = some (M + 15) := h.2.2.2.2.2.2.2.2.2.2.2.2.2.2.2.2.2.2.2.2.2.2.2.2.2.2.2.2.2.1
theorem Mo.k22 {m : am_M} {M : Nat} (h : Mo m M) : mK m (M + 15) = (2, 0, 6) := h.2.2.2.2.2.2.2.2.2.2.2.2.2.2.2.2.2.2.2.2.2.2.2.2.2.2.2.2.2.2
def up1 (f : Nat → Int32) (k : Nat) (v : Int32) : Nat → Int32 := fun y => if y = k then v else f y
theorem sI_sA (m : am_M) (a k : Nat) (v : Int32) : sI m a k v = sA m a (up1 (mI m a) k v) := by
  unfold sI sA
  have e : up2 (mI m) a k v = upA (mI m) a (up1 (mI m a) k v) := by
    funext x y
    unfold up2 upA up1
    by_cases h : x = a
    · subst h
      simp
    · simp [h]
  rw [e]
theorem sA_sA (m : am_M) (a : Nat) (f g : Nat → Int32) : sA (sA m a f) a g = sA m a g := by
  unfold sA
  have e : upA (mI (m.1, mK m, upA (mI m) a f, mL m, mR m)) a g = upA (mI m) a g := by
    funext x
    show upA (upA (mI m) a f) a g x = _
    unfold upA
    split <;> rfl
  rw [e]
  rfl
theorem I_sA (m : am_M) (a : Nat) (f : Nat → Int32) : mI (sA m a f) a = f := by
  rw [mI_sA, upA_at]
theorem I_sA' (m : am_M) {a b : Nat} (f : Nat → Int32) (h : b ≠ a) : mI (sA m a f) b = mI m b := by
  rw [mI_sA, upA_ne h]
theorem sA_self (m : am_M) (a : Nat) : sA m a (mI m a) = m := by
  unfold sA
  have e : upA (mI m) a (mI m a) = mI m := by
    funext x
    unfold upA
    split
    · next h => rw [h]
    · rfl
  rw [e]
  rfl
theorem Mo.sA {m : am_M} {M : Nat} (h : Mo m M) (a : Nat) (f : Nat → Int32) : Mo (sA m a f) M := h
theorem Mo.sL {m : am_M} {M : Nat} (h : Mo m M) (a k : Nat) (v : Int64) : Mo (sL m a k v) M := h
theorem up1_at (f : Nat → Int32) (k : Nat) (v : Int32) (y : Nat) : up1 f k v y = if y = k then v else f y := by
  unfold up1
  rfl
theorem Mo_sA (m : am_M) (M a : Nat) (f : Nat → Int32) : Mo (sA m a f) M = Mo m M := by
  have e : Mo (sA m a f) M = Mo m M := rfl
  rw [e]
theorem Mo_sL (m : am_M) (M a k : Nat) (v : Int64) : Mo (sL m a k v) M = Mo m M := by
  have e : Mo (sL m a k v) M = Mo m M := rfl
  rw [e]
