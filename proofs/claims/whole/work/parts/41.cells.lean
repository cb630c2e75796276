/-! THE CLASS'S CELLS: kinds and references of a lane, the loads, the acts, the plan, a row, the gate, a ship -/
def LaK (m : am_M) (o : Nat) : Prop := mK m o = (1, 2, 0) ∧ mR m o 0 = some (o + 1) ∧ mK m (o + 1) = (2, 0, 40)
theorem LaK.k {m : am_M} {o : Nat} (h : LaK m o) : mK m o = (1, 2, 0) := h.1
theorem LaK.r0 {m : am_M} {o : Nat} (h : LaK m o) : mR m o 0 = some (o + 1) := h.2.1
theorem LaK.k0 {m : am_M} {o : Nat} (h : LaK m o) : mK m (o + 1) = (2, 0, 40) := h.2.2
theorem LaK_sA (m : am_M) (o : Nat) (a : Nat) (f : Nat → Int32) : LaK (sA m a f) o = LaK m o := by
  have e : LaK (sA m a f) o = LaK m o := rfl
  rw [e]
theorem LaK_sL (m : am_M) (o : Nat) (a k : Nat) (v : Int64) : LaK (sL m a k v) o = LaK m o := by
  have e : LaK (sL m a k v) o = LaK m o := rfl
  rw [e]
def LoK (m : am_M) (o : Nat) : Prop := mK m o = (1, 3, 0) ∧ mR m o 0 = some (o + 1) ∧ mK m (o + 1) = (2, 0, 400) ∧ mR m o 1 = some (o + 2) ∧ mK m (o + 2) = (2, 0, 400) ∧ mR m o 2 = some (o + 3) ∧ mK m (o + 3) = (2, 0, 400) ∧ mR m o 3 = some (o + 4) ∧ mK m (o + 4) = (2, 0, 400) ∧ mR m o 4 = some (o + 5) ∧ mK m (o + 5) = (2, 0, 400) ∧ mR m o 5 = some (o + 6) ∧ mK m (o + 6) = (2, 0, 400) ∧ mR m o 6 = some (o + 7) ∧ mK m (o + 7) = (2, 0, 400) ∧ mR m o 7 = some (o + 8) ∧ mK m (o + 8) = (2, 0, 400) ∧ mR m o 8 = some (o + 9) ∧ mK m (o + 9) = (2, 0, 400)
theorem LoK.k {m : am_M} {o : Nat} (h : LoK m o) : mK m o = (1, 3, 0) := h.1
theorem LoK.r0 {m : am_M} {o : Nat} (h : LoK m o) : mR m o 0 = some (o + 1) := h.2.1
theorem LoK.k0 {m : am_M} {o : Nat} (h : LoK m o) : mK m (o + 1) = (2, 0, 400) := h.2.2.1
theorem LoK.r1 {m : am_M} {o : Nat} (h : LoK m o) : mR m o 1 = some (o + 2) := h.2.2.2.1
theorem LoK.k1 {m : am_M} {o : Nat} (h : LoK m o) : mK m (o + 2) = (2, 0, 400) := h.2.2.2.2.1
theorem LoK.r2 {m : am_M} {o : Nat} (h : LoK m o) : mR m o 2 = some (o + 3) := h.2.2.2.2.2.1
theorem LoK.k2 {m : am_M} {o : Nat} (h : LoK m o) : mK m (o + 3) = (2, 0, 400) := h.2.2.2.2.2.2.1
theorem LoK.r3 {m : am_M} {o : Nat} (h : LoK m o) : mR m o 3 = some (o + 4) := h.2.2.2.2.2.2.2.1
theorem LoK.k3 {m : am_M} {o : Nat} (h : LoK m o) : mK m (o + 4) = (2, 0, 400) := h.2.2.2.2.2.2.2.2.1
theorem LoK.r4 {m : am_M} {o : Nat} (h : LoK m o) : mR m o 4 = some (o + 5) := h.2.2.2.2.2.2.2.2.2.1
theorem LoK.k4 {m : am_M} {o : Nat} (h : LoK m o) : mK m (o + 5) = (2, 0, 400) := h.2.2.2.2.2.2.2.2.2.2.1
theorem LoK.r5 {m : am_M} {o : Nat} (h : LoK m o) : mR m o 5 = some (o + 6) := h.2.2.2.2.2.2.2.2.2.2.2.1
theorem LoK.k5 {m : am_M} {o : Nat} (h : LoK m o) : mK m (o + 6) = (2, 0, 400) := h.2.2.2.2.2.2.2.2.2.2.2.2.1
theorem LoK.r6 {m : am_M} {o : Nat} (h : LoK m o) : mR m o 6 = some (o + 7) := h.2.2.2.2.2.2.2.2.2.2.2.2.2.1
theorem LoK.k6 {m : am_M} {o : Nat} (h : LoK m o) : mK m (o + 7) = (2, 0, 400) := h.2.2.2.2.2.2.2.2.2.2.2.2.2.2.1
theorem LoK.r7 {m : am_M} {o : Nat} (h : LoK m o) : mR m o 7 = some (o + 8) := h.2.2.2.2.2.2.2.2.2.2.2.2.2.2.2.1
theorem LoK.k7 {m : am_M} {o : Nat} (h : LoK m o) : mK m (o + 8) = (2, 0, 400) := h.2.2.2.2.2.2.2.2.2.2.2.2.2.2.2.2.1
theorem LoK.r8 {m : am_M} {o : Nat} (h : LoK m o) : mR m o 8 = some (o + 9) := h.2.2.2.2.2.2.2.2.2.2.2.2.2.2.2.2.2.1
theorem LoK.k8 {m : am_M} {o : Nat} (h : LoK m o) : mK m (o + 9) = (2, 0, 400) := h.2.2.2.2.2.2.2.2.2.2.2.2.2.2.2.2.2.2
theorem LoK_sA (m : am_M) (o : Nat) (a : Nat) (f : Nat → Int32) : LoK (sA m a f) o = LoK m o := by
  have e : LoK (sA m a f) o = LoK m o := rfl
  rw [e]
theorem LoK_sL (m : am_M) (o : Nat) (a k : Nat) (v : Int64) : LoK (sL m a k v) o = LoK m o := by
  have e : LoK (sL m a k v) o = LoK m o := rfl
  rw [e]
def AcK (m : am_M) (o : Nat) : Prop := mK m o = (1, 0, 0) ∧ mR m o 0 = some (o + 1) ∧ mK m (o + 1) = (2, 0, 100) ∧ mR m o 1 = some (o + 2) ∧ mK m (o + 2) = (2, 0, 100) ∧ mR m o 2 = some (o + 3) ∧ mK m (o + 3) = (2, 0, 100) ∧ mR m o 3 = some (o + 4) ∧ mK m (o + 4) = (2, 0, 100)
theorem AcK.k {m : am_M} {o : Nat} (h : AcK m o) : mK m o = (1, 0, 0) := h.1
theorem AcK.r0 {m : am_M} {o : Nat} (h : AcK m o) : mR m o 0 = some (o + 1) := h.2.1
theorem AcK.k0 {m : am_M} {o : Nat} (h : AcK m o) : mK m (o + 1) = (2, 0, 100) := h.2.2.1
theorem AcK.r1 {m : am_M} {o : Nat} (h : AcK m o) : mR m o 1 = some (o + 2) := h.2.2.2.1
theorem AcK.k1 {m : am_M} {o : Nat} (h : AcK m o) : mK m (o + 2) = (2, 0, 100) := h.2.2.2.2.1
theorem AcK.r2 {m : am_M} {o : Nat} (h : AcK m o) : mR m o 2 = some (o + 3) := h.2.2.2.2.2.1
theorem AcK.k2 {m : am_M} {o : Nat} (h : AcK m o) : mK m (o + 3) = (2, 0, 100) := h.2.2.2.2.2.2.1
theorem AcK.r3 {m : am_M} {o : Nat} (h : AcK m o) : mR m o 3 = some (o + 4) := h.2.2.2.2.2.2.2.1
theorem AcK.k3 {m : am_M} {o : Nat} (h : AcK m o) : mK m (o + 4) = (2, 0, 100) := h.2.2.2.2.2.2.2.2
theorem AcK_sA (m : am_M) (o : Nat) (a : Nat) (f : Nat → Int32) : AcK (sA m a f) o = AcK m o := by
  have e : AcK (sA m a f) o = AcK m o := rfl
  rw [e]
theorem AcK_sL (m : am_M) (o : Nat) (a k : Nat) (v : Int64) : AcK (sL m a k v) o = AcK m o := by
  have e : AcK (sL m a k v) o = AcK m o := rfl
  rw [e]
def PlK (m : am_M) (o : Nat) : Prop := mK m o = (1, 4, 0) ∧ mR m o 0 = some (o + 1) ∧ mK m (o + 1) = (2, 0, 6) ∧ mR m o 1 = some (o + 2) ∧ mK m (o + 2) = (2, 0, 6) ∧ mR m o 2 = some (o + 3) ∧ mK m (o + 3) = (2, 0, 6)
theorem PlK.k {m : am_M} {o : Nat} (h : PlK m o) : mK m o = (1, 4, 0) := h.1
theorem PlK.r0 {m : am_M} {o : Nat} (h : PlK m o) : mR m o 0 = some (o + 1) := h.2.1
theorem PlK.k0 {m : am_M} {o : Nat} (h : PlK m o) : mK m (o + 1) = (2, 0, 6) := h.2.2.1
theorem PlK.r1 {m : am_M} {o : Nat} (h : PlK m o) : mR m o 1 = some (o + 2) := h.2.2.2.1
theorem PlK.k1 {m : am_M} {o : Nat} (h : PlK m o) : mK m (o + 2) = (2, 0, 6) := h.2.2.2.2.1
theorem PlK.r2 {m : am_M} {o : Nat} (h : PlK m o) : mR m o 2 = some (o + 3) := h.2.2.2.2.2.1
theorem PlK.k2 {m : am_M} {o : Nat} (h : PlK m o) : mK m (o + 3) = (2, 0, 6) := h.2.2.2.2.2.2
theorem PlK_sA (m : am_M) (o : Nat) (a : Nat) (f : Nat → Int32) : PlK (sA m a f) o = PlK m o := by
  have e : PlK (sA m a f) o = PlK m o := rfl
  rw [e]
theorem PlK_sL (m : am_M) (o : Nat) (a k : Nat) (v : Int64) : PlK (sL m a k v) o = PlK m o := by
  have e : PlK (sL m a k v) o = PlK m o := rfl
  rw [e]
def RoK (m : am_M) (o : Nat) : Prop := mK m o = (1, 7, 0) ∧ mR m o 0 = some (o + 1) ∧ mK m (o + 1) = (2, 0, 400)
theorem RoK.k {m : am_M} {o : Nat} (h : RoK m o) : mK m o = (1, 7, 0) := h.1
theorem RoK.r0 {m : am_M} {o : Nat} (h : RoK m o) : mR m o 0 = some (o + 1) := h.2.1
theorem RoK.k0 {m : am_M} {o : Nat} (h : RoK m o) : mK m (o + 1) = (2, 0, 400) := h.2.2
theorem RoK_sA (m : am_M) (o : Nat) (a : Nat) (f : Nat → Int32) : RoK (sA m a f) o = RoK m o := by
  have e : RoK (sA m a f) o = RoK m o := rfl
  rw [e]
theorem RoK_sL (m : am_M) (o : Nat) (a k : Nat) (v : Int64) : RoK (sL m a k v) o = RoK m o := by
  have e : RoK (sL m a k v) o = RoK m o := rfl
  rw [e]
def ShK (m : am_M) (o : Nat) : Prop := mK m o = (1, 8, 0) ∧ mR m o 0 = some (o + 1) ∧ mK m (o + 1) = (5, 2, 20) ∧ (∀ i, i < 20 → mR m (o + 1) i = some (o + 26 + 2 * i)) ∧ (∀ i, i < 20 → LaK m (o + 26 + 2 * i)) ∧ mR m o 1 = some (o + 2) ∧ LoK m (o + 2) ∧ mR m o 2 = some (o + 12) ∧ AcK m (o + 12) ∧ mR m o 3 = some (o + 17) ∧ PlK m (o + 17) ∧ mR m o 4 = some (o + 21) ∧ RoK m (o + 21) ∧ mR m o 5 = some (o + 23) ∧ RoK m (o + 23) ∧ mR m o 10 = some (o + 25) ∧ mK m (o + 25) = (1, 1, 0)
theorem ShK.k {m : am_M} {o : Nat} (h : ShK m o) : mK m o = (1, 8, 0) := h.1
theorem ShK.r0 {m : am_M} {o : Nat} (h : ShK m o) : mR m o 0 = some (o + 1) := h.2.1
theorem ShK.k0 {m : am_M} {o : Nat} (h : ShK m o) : mK m (o + 1) = (5, 2, 20) := h.2.2.1
theorem ShK.rl {m : am_M} {o : Nat} (h : ShK m o) : ∀ i, i < 20 → mR m (o + 1) i = some (o + 26 + 2 * i) := h.2.2.2.1
theorem ShK.la {m : am_M} {o : Nat} (h : ShK m o) : ∀ i, i < 20 → LaK m (o + 26 + 2 * i) := h.2.2.2.2.1
theorem ShK.r1 {m : am_M} {o : Nat} (h : ShK m o) : mR m o 1 = some (o + 2) := h.2.2.2.2.2.1
theorem ShK.lo {m : am_M} {o : Nat} (h : ShK m o) : LoK m (o + 2) := h.2.2.2.2.2.2.1
theorem ShK.r2 {m : am_M} {o : Nat} (h : ShK m o) : mR m o 2 = some (o + 12) := h.2.2.2.2.2.2.2.1
theorem ShK.ac {m : am_M} {o : Nat} (h : ShK m o) : AcK m (o + 12) := h.2.2.2.2.2.2.2.2.1
theorem ShK.r3 {m : am_M} {o : Nat} (h : ShK m o) : mR m o 3 = some (o + 17) := h.2.2.2.2.2.2.2.2.2.1
theorem ShK.pl {m : am_M} {o : Nat} (h : ShK m o) : PlK m (o + 17) := h.2.2.2.2.2.2.2.2.2.2.1
theorem ShK.r4 {m : am_M} {o : Nat} (h : ShK m o) : mR m o 4 = some (o + 21) := h.2.2.2.2.2.2.2.2.2.2.2.1
theorem ShK.ash {m : am_M} {o : Nat} (h : ShK m o) : RoK m (o + 21) := h.2.2.2.2.2.2.2.2.2.2.2.2.1
theorem ShK.r5 {m : am_M} {o : Nat} (h : ShK m o) : mR m o 5 = some (o + 23) := h.2.2.2.2.2.2.2.2.2.2.2.2.2.1
theorem ShK.dep {m : am_M} {o : Nat} (h : ShK m o) : RoK m (o + 23) := h.2.2.2.2.2.2.2.2.2.2.2.2.2.2.1
theorem ShK.r10 {m : am_M} {o : Nat} (h : ShK m o) : mR m o 10 = some (o + 25) := h.2.2.2.2.2.2.2.2.2.2.2.2.2.2.2.1
theorem ShK.ga {m : am_M} {o : Nat} (h : ShK m o) : mK m (o + 25) = (1, 1, 0) := h.2.2.2.2.2.2.2.2.2.2.2.2.2.2.2.2
theorem ShK_sA (m : am_M) (o : Nat) (a : Nat) (f : Nat → Int32) : ShK (sA m a f) o = ShK m o := by
  have e : ShK (sA m a f) o = ShK m o := rfl
  rw [e]
theorem ShK_sL (m : am_M) (o : Nat) (a k : Nat) (v : Int64) : ShK (sL m a k v) o = ShK m o := by
  have e : ShK (sL m a k v) o = ShK m o := rfl
  rw [e]
