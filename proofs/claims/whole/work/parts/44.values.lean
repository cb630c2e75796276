/-! WHAT THE CLASS'S CELLS HOLD, by the model's array S -/
def lenS (S : Nat → Int32) (i : Nat) : Nat := if S (800 + i) = nI 1 then ln S i else 0
def chN (S : Nat → Int32) (i : Nat) : Nat := cntR (fun y => decide (S y = -2)) (40 * i) (lenS S i)
def LaV (m : am_M) (o : Nat) (S : Nat → Int32) (i : Nat) : Prop := mI m o 1 = nI (lenS S i) ∧ (S (800 + i) = nI 1 → mI m o 2 = S (840 + i) ∧ mI m o 3 = S (860 + i) ∧ mI m o 4 = S (880 + i)) ∧ (∀ p, p < lenS S i → mI m (o + 1) p = S (40 * i + p)) ∧ mI m o 5 = nI (inS S i) ∧ mI m o 6 = nI (chN S i)
def LoV (m : am_M) (o : Nat) (S : Nat → Int32) : Prop := mI m o 9 = S 6500 ∧ ∀ l, l < nm S → mI m (o + 1) l = S (900 + l) ∧ mI m (o + 2) l = tallS S l ∧ mI m (o + 3) l = unitS S l ∧ mI m (o + 4) l = S (2100 + l) ∧ mI m (o + 5) l = S (2500 + l) ∧ mI m (o + 6) l = S (2900 + l) ∧ mI m (o + 7) l = S (3300 + l) ∧ mI m (o + 8) l = S (3700 + l) ∧ mI m (o + 9) l = S (4100 + l)
/-- the ring's place of the j-th of n acts, when the next one goes to t -/
def rgI (t n j : Nat) : Nat := (t + 100 - n + j) % 100
def AcV (m : am_M) (o : Nat) (S : Nat → Int32) : Prop := mI m o 4 = S 6507 ∧ ∃ t, t < 100 ∧ mI m o 5 = nI t ∧ ∀ j, j < ak S → mI m (o + 1) (rgI t (ak S) j) = S (6100 + 4 * j) ∧
  ((S (6100 + 4 * j) = nI 1 ∨ S (6100 + 4 * j) = nI 2) → mI m (o + 2) (rgI t (ak S) j) = S (6100 + 4 * j + 1) ∧ mI m (o + 3) (rgI t (ak S) j) = S (6100 + 4 * j + 2) ∧ mI m (o + 4) (rgI t (ak S) j) = S (6100 + 4 * j + 3)) ∧
  ((S (6100 + 4 * j) = nI 3 ∨ S (6100 + 4 * j) = nI 4) → mI m (o + 3) (rgI t (ak S) j) = S (6100 + 4 * j + 1) ∧ mI m (o + 4) (rgI t (ak S) j) = S (6100 + 4 * j + 2))
def PlV (m : am_M) (o : Nat) (S : Nat → Int32) : Prop := ∃ n, n ≤ 6 ∧ mI m o 3 = nI n ∧ (∀ j, j < n → ∃ l, l < 400 ∧ mI m (o + 1) j = nI l) ∧ ∀ l, l < 400 → match fstR (fun j => decide (mI m (o + 1) j = nI l)) n 0 with
  | some j => S (5300 + l) = mI m (o + 2) j ∧ S (5700 + l) = mI m (o + 3) j
  | none => S (5300 + l) = -1 ∧ S (5700 + l) = -1
def RwV (m : am_M) (o : Nat) (S : Nat → Int32) (b c : Nat) : Prop := mI m o 1 = S c ∧ ∀ j, j < (S c).toNatClampNeg → mI m (o + 1) j = S (b + j)
def ScV (m : am_M) (a : Nat) (S : Nat → Int32) (L : Int64) : Prop := mI m a 6 = S 6504 ∧ mI m a 7 = S 6503 ∧ mL m a 8 = L ∧ mI m a 9 = S 6502
def ShV (m : am_M) (a : Nat) (S : Nat → Int32) (L : Int64) : Prop := (∀ i, i < 20 → LaV m (a + 26 + 2 * i) S i) ∧ LoV m (a + 2) S ∧ AcV m (a + 12) S ∧ PlV m (a + 17) S ∧ RwV m (a + 21) S 4500 6505 ∧ RwV m (a + 23) S 4900 6506 ∧ ScV m a S L
theorem ShV.la {m : am_M} {a : Nat} {S : Nat → Int32} {L : Int64} (h : ShV m a S L) {i : Nat} (hi : i < 20) : LaV m (a + 26 + 2 * i) S i := h.1 i hi
theorem ShV.lo {m : am_M} {a : Nat} {S : Nat → Int32} {L : Int64} (h : ShV m a S L) : LoV m (a + 2) S := h.2.1
theorem ShV.ac {m : am_M} {a : Nat} {S : Nat → Int32} {L : Int64} (h : ShV m a S L) : AcV m (a + 12) S := h.2.2.1
theorem ShV.pl {m : am_M} {a : Nat} {S : Nat → Int32} {L : Int64} (h : ShV m a S L) : PlV m (a + 17) S := h.2.2.2.1
theorem ShV.ash {m : am_M} {a : Nat} {S : Nat → Int32} {L : Int64} (h : ShV m a S L) : RwV m (a + 21) S 4500 6505 := h.2.2.2.2.1
theorem ShV.dep {m : am_M} {a : Nat} {S : Nat → Int32} {L : Int64} (h : ShV m a S L) : RwV m (a + 23) S 4900 6506 := h.2.2.2.2.2.1
theorem ShV.sc {m : am_M} {a : Nat} {S : Nat → Int32} {L : Int64} (h : ShV m a S L) : ScV m a S L := h.2.2.2.2.2.2
/-! WHAT HOLDS OF S ALWAYS -/
def WfT (S : Nat → Int32) : Prop := ∀ i, i < 20 → S (800 + i) = nI 0 ∨ S (800 + i) = nI 1 ∧ 1 ≤ ln S i ∧ (S (880 + i) = nI 1 ∨ S (880 + i) = nI 2 ∨ S (880 + i) = nI 3)
def WfD (S : Nat → Int32) : Prop := ∀ l, l < nm S → (∃ k, 1 ≤ k ∧ k ≤ 5 ∧ S (900 + l) = nI k ∧ (3 < k → ∃ r, r < nm S ∧ S (2500 + l) = nI r)) ∧ (∃ p, p ≤ 11 ∧ S (2100 + l) = nI p) ∧ (S (2900 + l) = -1 ∨ ∃ r, r < nm S ∧ S (2900 + l) = nI r)
/-- load l stands at lane i from place q on -/
def StA (S : Nat → Int32) (l i q : Nat) : Prop := S (3300 + l) = nI 1 ∧ S (3700 + l) = nI i ∧ S (4100 + l) = nI q ∧ i < 20 ∧ S (800 + i) = nI 1 ∧ q + spanS S l ≤ ln S i ∧ ∀ k, k < spanS S l → S (40 * i + q + k) = nI l
def NoA (S : Nat → Int32) (l : Nat) : Prop := (S (3300 + l) = nI 0 ∨ S (3300 + l) = nI 2) ∧ S (3700 + l) = -1 ∧ S (4100 + l) = -1
def WfW (S : Nat → Int32) : Prop := ∀ l, l < nm S → NoA S l ∨ ∃ i q, StA S l i q
def WfC (S : Nat → Int32) : Prop := ∀ i p, i < 20 → p < 40 → S (40 * i + p) = -1 ∨ (S (40 * i + p) = -2 ∧ p < lenS S i) ∨ ∃ l q, l < nm S ∧ S (40 * i + p) = nI l ∧ StA S l i q ∧ q ≤ p ∧ p < q + spanS S l
/-! acts that can be undone: A holds them, four numbers each -/
def unS (S : Nat → Int32) (o a b c : Int32) : Nat → Int32 := if o = nI 1 then takeS S a.toNatClampNeg (nI 0) (S (3700 + a.toNatClampNeg)).toNatClampNeg (S (4100 + a.toNatClampNeg)).toNatClampNeg else if o = nI 2 then putS S a.toNatClampNeg b.toNatClampNeg c.toNatClampNeg else if o = nI 3 then up1 S (40 * a.toNatClampNeg + b.toNatClampNeg) (-1) else up1 S (40 * a.toNatClampNeg + b.toNatClampNeg) (-2)
def unV (S : Nat → Int32) (o a b c : Int32) : Prop :=
  (o = nI 1 ∧ ∃ l i q, l < nm S ∧ a = nI l ∧ StA S l i q) ∨
  (o = nI 2 ∧ ∃ l i q, l < nm S ∧ a = nI l ∧ b = nI i ∧ c = nI q ∧ i < 20 ∧ S (3300 + l) = nI 0 ∧ S (800 + i) = nI 1 ∧ q + spanS S l ≤ ln S i ∧ ∀ k, k < spanS S l → S (40 * i + q + k) = -1) ∨
  (o = nI 3 ∧ ∃ i p, i < 20 ∧ a = nI i ∧ b = nI p ∧ S (800 + i) = nI 1 ∧ p < ln S i ∧ S (40 * i + p) = -2) ∨
  (o = nI 4 ∧ ∃ i p, i < 20 ∧ a = nI i ∧ b = nI p ∧ S (800 + i) = nI 1 ∧ p < ln S i ∧ S (40 * i + p) = -1)
def UV (A : Nat → Int32) : Nat → (Nat → Int32) → Prop
  | 0, _ => True
  | k + 1, S => unV S (A (4 * k)) (A (4 * k + 1)) (A (4 * k + 2)) (A (4 * k + 3)) ∧ UV A k (unS S (A (4 * k)) (A (4 * k + 1)) (A (4 * k + 2)) (A (4 * k + 3)))
def acR (S : Nat → Int32) : Nat → Int32 := fun j => S (6100 + j)
def Wf (S : Nat → Int32) : Prop := LnOk S ∧ NmOk S ∧ WfT S ∧ WfD S ∧ WfW S ∧ WfC S ∧ DyOk S ∧ AkOk S ∧ UV (acR S) (ak S) S ∧ MvOk S 6505 ∧ MvOk S 6506 ∧ (S 6501 = nI 1 → S 6507 = nI 0) ∧ (S 6501 = nI 1 → ∀ p, p0S S ≤ p → p < (S 6503).toNatClampNeg → ∀ i, i < 20 → ¬ efA S i (nI p) = -1)
theorem Wf.ln {S : Nat → Int32} (h : Wf S) : LnOk S := h.1
theorem Wf.nm {S : Nat → Int32} (h : Wf S) : NmOk S := h.2.1
theorem Wf.t {S : Nat → Int32} (h : Wf S) : WfT S := h.2.2.1
theorem Wf.d {S : Nat → Int32} (h : Wf S) : WfD S := h.2.2.2.1
theorem Wf.w {S : Nat → Int32} (h : Wf S) : WfW S := h.2.2.2.2.1
theorem Wf.c {S : Nat → Int32} (h : Wf S) : WfC S := h.2.2.2.2.2.1
theorem Wf.y {S : Nat → Int32} (h : Wf S) : DyOk S := h.2.2.2.2.2.2.1
theorem Wf.a {S : Nat → Int32} (h : Wf S) : AkOk S := h.2.2.2.2.2.2.2.1
theorem Wf.u {S : Nat → Int32} (h : Wf S) : UV (acR S) (ak S) S := h.2.2.2.2.2.2.2.2.1
theorem Wf.m1 {S : Nat → Int32} (h : Wf S) : MvOk S 6505 := h.2.2.2.2.2.2.2.2.2.1
theorem Wf.m2 {S : Nat → Int32} (h : Wf S) : MvOk S 6506 := h.2.2.2.2.2.2.2.2.2.2.1
theorem Wf.s {S : Nat → Int32} (h : Wf S) : S 6501 = nI 1 → S 6507 = nI 0 := h.2.2.2.2.2.2.2.2.2.2.2.1
theorem Wf.k {S : Nat → Int32} (h : Wf S) : S 6501 = nI 1 → ∀ p, p0S S ≤ p → p < (S 6503).toNatClampNeg → ∀ i, i < 20 → ¬ efA S i (nI p) = -1 := h.2.2.2.2.2.2.2.2.2.2.2.2
def Wb (S : Nat → Int32) : Prop := LnOk S ∧ NmOk S ∧ WfT S ∧ WfW S ∧ WfC S
theorem Wb.ln {S : Nat → Int32} (h : Wb S) : LnOk S := h.1
theorem Wb.nm {S : Nat → Int32} (h : Wb S) : NmOk S := h.2.1
theorem Wb.t {S : Nat → Int32} (h : Wb S) : WfT S := h.2.2.1
theorem Wb.w {S : Nat → Int32} (h : Wb S) : WfW S := h.2.2.2.1
theorem Wb.c {S : Nat → Int32} (h : Wb S) : WfC S := h.2.2.2.2
theorem Wf.b {S : Nat → Int32} (h : Wf S) : Wb S := ⟨h.ln, h.nm, h.t, h.w, h.c⟩
theorem WfC.ok {S : Nat → Int32} (h : WfC S) : CellOk S := by
  intro i p hi hp
  rcases h i p hi hp with q | ⟨q, -⟩ | ⟨l, q, a, b, -⟩
  · exact Or.inl q
  · exact Or.inr (Or.inl q)
  · exact Or.inr (Or.inr ⟨l, a, b⟩)
theorem WfW.abl {S : Nat → Int32} (h : WfW S) : AbL S := by
  intro l hl h1
  rcases h l hl with ⟨q, -⟩ | ⟨i, q, a, b, c, d, e, f, g⟩
  · exfalso
    rw [h1] at q
    revert q
    decide
  · exact ⟨i, q, d, f, b, c⟩
theorem WfW.ok {S : Nat → Int32} (h : WfW S) (hL : LnOk S) : AbOk S := h.abl.ok hL
theorem WfD.dr {S : Nat → Int32} (h : WfD S) : DrOk S := fun l hl => (h l hl).2.2
theorem lenS_le {S : Nat → Int32} (hL : LnOk S) {i : Nat} (hi : i < 20) : lenS S i ≤ 40 := by
  unfold lenS
  have := (hL i hi).2
  split <;> omega
theorem lenS_t {S : Nat → Int32} {i : Nat} (h : S (800 + i) = nI 1) : lenS S i = ln S i := by
  unfold lenS
  rw [if_pos h]
theorem lenS_n {S : Nat → Int32} {i : Nat} (h : ¬ S (800 + i) = nI 1) : lenS S i = 0 := by
  unfold lenS
  rw [if_neg h]
theorem lenS_pos {S : Nat → Int32} (hT : WfT S) {i : Nat} (hi : i < 20) : 0 < lenS S i ↔ S (800 + i) = nI 1 := by
  rcases hT i hi with h | ⟨h, h1, -⟩
  · rw [lenS_n (by rw [h]; decide)]
    constructor
    · intro q; omega
    · intro q; rw [h] at q; exact absurd q (by decide)
  · rw [lenS_t h]
    exact ⟨fun _ => h, fun _ => by omega⟩
/-- a place beyond the lane's end is empty -/
theorem WfC.out {S : Nat → Int32} (h : WfC S) {i p : Nat} (hi : i < 20) (hp : p < 40) (hq : lenS S i ≤ p) : S (40 * i + p) = -1 := by
  rcases h i p hi hp with q | ⟨q, r⟩ | ⟨l, q, a, b, c, e, f⟩
  · exact q
  · omega
  · obtain ⟨c1, c2, c3, c4, c5, c6, -⟩ := c
    rw [lenS_t c5] at hq
    omega
