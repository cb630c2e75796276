/-! THE WHOLE: the planner, the class FerryDeck at B, the pure state, what holds between calls -/
def PnK (m : am_M) (o : Nat) : Prop := mK m o = (1, 5, 0) ∧ mR m o 1 = some (o + 1) ∧ mK m (o + 1) = (2, 0, 6) ∧ mR m o 2 = some (o + 2) ∧ mK m (o + 2) = (2, 0, 6) ∧ mR m o 3 = some (o + 3) ∧ mK m (o + 3) = (2, 0, 3) ∧ mR m o 4 = some (o + 4) ∧ mK m (o + 4) = (2, 0, 6) ∧ mR m o 5 = some (o + 5) ∧ mK m (o + 5) = (2, 0, 3) ∧ mR m o 6 = some (o + 6) ∧ mK m (o + 6) = (2, 0, 3) ∧ mR m o 7 = some (o + 7) ∧ mK m (o + 7) = (2, 0, 6) ∧ mR m o 8 = some (o + 8) ∧ mK m (o + 8) = (2, 0, 6)
theorem PnK.k {m : am_M} {o : Nat} (h : PnK m o) : mK m o = (1, 5, 0) := h.1
theorem PnK.r1 {m : am_M} {o : Nat} (h : PnK m o) : mR m o 1 = some (o + 1) := h.2.1
theorem PnK.k1 {m : am_M} {o : Nat} (h : PnK m o) : mK m (o + 1) = (2, 0, 6) := h.2.2.1
theorem PnK.r2 {m : am_M} {o : Nat} (h : PnK m o) : mR m o 2 = some (o + 2) := h.2.2.2.1
theorem PnK.k2 {m : am_M} {o : Nat} (h : PnK m o) : mK m (o + 2) = (2, 0, 6) := h.2.2.2.2.1
theorem PnK.r3 {m : am_M} {o : Nat} (h : PnK m o) : mR m o 3 = some (o + 3) := h.2.2.2.2.2.1
theorem PnK.k3 {m : am_M} {o : Nat} (h : PnK m o) : mK m (o + 3) = (2, 0, 3) := h.2.2.2.2.2.2.1
theorem PnK.r4 {m : am_M} {o : Nat} (h : PnK m o) : mR m o 4 = some (o + 4) := h.2.2.2.2.2.2.2.1
theorem PnK.k4 {m : am_M} {o : Nat} (h : PnK m o) : mK m (o + 4) = (2, 0, 6) := h.2.2.2.2.2.2.2.2.1
theorem PnK.r5 {m : am_M} {o : Nat} (h : PnK m o) : mR m o 5 = some (o + 5) := h.2.2.2.2.2.2.2.2.2.1
theorem PnK.k5 {m : am_M} {o : Nat} (h : PnK m o) : mK m (o + 5) = (2, 0, 3) := h.2.2.2.2.2.2.2.2.2.2.1
theorem PnK.r6 {m : am_M} {o : Nat} (h : PnK m o) : mR m o 6 = some (o + 6) := h.2.2.2.2.2.2.2.2.2.2.2.1
theorem PnK.k6 {m : am_M} {o : Nat} (h : PnK m o) : mK m (o + 6) = (2, 0, 3) := h.2.2.2.2.2.2.2.2.2.2.2.2.1
theorem PnK.r7 {m : am_M} {o : Nat} (h : PnK m o) : mR m o 7 = some (o + 7) := h.2.2.2.2.2.2.2.2.2.2.2.2.2.1
theorem PnK.k7 {m : am_M} {o : Nat} (h : PnK m o) : mK m (o + 7) = (2, 0, 6) := h.2.2.2.2.2.2.2.2.2.2.2.2.2.2.1
theorem PnK.r8 {m : am_M} {o : Nat} (h : PnK m o) : mR m o 8 = some (o + 8) := h.2.2.2.2.2.2.2.2.2.2.2.2.2.2.2.1
theorem PnK.k8 {m : am_M} {o : Nat} (h : PnK m o) : mK m (o + 8) = (2, 0, 6) := h.2.2.2.2.2.2.2.2.2.2.2.2.2.2.2.2
theorem PnK_sA (m : am_M) (o : Nat) (a : Nat) (f : Nat → Int32) : PnK (sA m a f) o = PnK m o := by
  have e : PnK (sA m a f) o = PnK m o := rfl
  rw [e]
theorem PnK_sL (m : am_M) (o : Nat) (a k : Nat) (v : Int64) : PnK (sL m a k v) o = PnK m o := by
  have e : PnK (sL m a k v) o = PnK m o := rfl
  rw [e]
def FdK (m : am_M) (o : Nat) : Prop := mK m o = (1, 9, 0) ∧ mR m o 0 = some (o + 1) ∧ ShK m (o + 1) ∧ mR m o 1 = some (o + 67) ∧ PnK m (o + 67) ∧ mR m (o + 67) 0 = some (o + 1) ∧ mR m o 2 = some (o + 76) ∧ mK m (o + 76) = (5, 8, 2) ∧ mR m o 4 = some (o + 77) ∧ mK m (o + 77) = (1, 6, 0) ∧ mR m o 5 = some (o + 78) ∧ mK m (o + 78) = (1, 6, 0) ∧ mR m o 6 = some (o + 79) ∧ mK m (o + 79) = (2, 0, 40) ∧ mR m o 7 = some (o + 80) ∧ mK m (o + 80) = (2, 0, 800) ∧ mR m o 9 = some (o + 81) ∧ mK m (o + 81) = (2, 0, 7)
theorem FdK.k {m : am_M} {o : Nat} (h : FdK m o) : mK m o = (1, 9, 0) := h.1
theorem FdK.r0 {m : am_M} {o : Nat} (h : FdK m o) : mR m o 0 = some (o + 1) := h.2.1
theorem FdK.sh {m : am_M} {o : Nat} (h : FdK m o) : ShK m (o + 1) := h.2.2.1
theorem FdK.r1 {m : am_M} {o : Nat} (h : FdK m o) : mR m o 1 = some (o + 67) := h.2.2.2.1
theorem FdK.pn {m : am_M} {o : Nat} (h : FdK m o) : PnK m (o + 67) := h.2.2.2.2.1
theorem FdK.ps {m : am_M} {o : Nat} (h : FdK m o) : mR m (o + 67) 0 = some (o + 1) := h.2.2.2.2.2.1
theorem FdK.r2 {m : am_M} {o : Nat} (h : FdK m o) : mR m o 2 = some (o + 76) := h.2.2.2.2.2.2.1
theorem FdK.k2 {m : am_M} {o : Nat} (h : FdK m o) : mK m (o + 76) = (5, 8, 2) := h.2.2.2.2.2.2.2.1
theorem FdK.r4 {m : am_M} {o : Nat} (h : FdK m o) : mR m o 4 = some (o + 77) := h.2.2.2.2.2.2.2.2.1
theorem FdK.k4 {m : am_M} {o : Nat} (h : FdK m o) : mK m (o + 77) = (1, 6, 0) := h.2.2.2.2.2.2.2.2.2.1
theorem FdK.r5 {m : am_M} {o : Nat} (h : FdK m o) : mR m o 5 = some (o + 78) := h.2.2.2.2.2.2.2.2.2.2.1
theorem FdK.k5 {m : am_M} {o : Nat} (h : FdK m o) : mK m (o + 78) = (1, 6, 0) := h.2.2.2.2.2.2.2.2.2.2.2.1
theorem FdK.r6 {m : am_M} {o : Nat} (h : FdK m o) : mR m o 6 = some (o + 79) := h.2.2.2.2.2.2.2.2.2.2.2.2.1
theorem FdK.k6 {m : am_M} {o : Nat} (h : FdK m o) : mK m (o + 79) = (2, 0, 40) := h.2.2.2.2.2.2.2.2.2.2.2.2.2.1
theorem FdK.r7 {m : am_M} {o : Nat} (h : FdK m o) : mR m o 7 = some (o + 80) := h.2.2.2.2.2.2.2.2.2.2.2.2.2.2.1
theorem FdK.k7 {m : am_M} {o : Nat} (h : FdK m o) : mK m (o + 80) = (2, 0, 800) := h.2.2.2.2.2.2.2.2.2.2.2.2.2.2.2.1
theorem FdK.r9 {m : am_M} {o : Nat} (h : FdK m o) : mR m o 9 = some (o + 81) := h.2.2.2.2.2.2.2.2.2.2.2.2.2.2.2.2.1
theorem FdK.k9 {m : am_M} {o : Nat} (h : FdK m o) : mK m (o + 81) = (2, 0, 7) := h.2.2.2.2.2.2.2.2.2.2.2.2.2.2.2.2.2
theorem FdK_sA (m : am_M) (o : Nat) (a : Nat) (f : Nat → Int32) : FdK (sA m a f) o = FdK m o := by
  have e : FdK (sA m a f) o = FdK m o := rfl
  rw [e]
theorem FdK_sL (m : am_M) (o : Nat) (a k : Nat) (v : Int64) : FdK (sL m a k v) o = FdK m o := by
  have e : FdK (sL m a k v) o = FdK m o := rfl
  rw [e]
/-- the pure state: the array, the limit, the sheet, how many steps, the steps, findings, the latest refusal, why, what is kept -/
abbrev St : Type := (Nat → Int32) × Int64 × (Nat → Int32) × Nat × (Nat → Int32) × (Nat → Int32) × Int32 × (Int64 × Int64 × Int64 × Int64) × (Nat → Bool × (Nat → Int32) × Int64)
def stS (s : St) : Nat → Int32 := s.1
def stL (s : St) : Int64 := s.2.1
def stP (s : St) : Nat → Int32 := s.2.2.1
def stN (s : St) : Nat := s.2.2.2.1
def stF (s : St) : Nat → Int32 := s.2.2.2.2.1
def stD (s : St) : Nat → Int32 := s.2.2.2.2.2.1
def stZ (s : St) : Int32 := s.2.2.2.2.2.2.1
def stW (s : St) : Int64 × Int64 × Int64 × Int64 := s.2.2.2.2.2.2.2.1
def stK (s : St) : Nat → Bool × (Nat → Int32) × Int64 := s.2.2.2.2.2.2.2.2
def cnI (ix : Nat → Option Nat) : Nat := (if (ix 0).isSome then 1 else 0) + (if (ix 1).isSome then 1 else 0) + (if (ix 2).isSome then 1 else 0)
/-- ships made later: ix 0, ix 1 the kept ones', ix 2 the trial's -/
def KpV (m : am_M) (B : Nat) (ix : Nat → Option Nat) (K : Nat → Bool × (Nat → Int32) × Int64) : Prop :=
  (∀ k, k < 2 → mR m (B + 76) k = (ix k).map (fun j => B + 98 + 66 * j)) ∧ mR m B 3 = (ix 2).map (fun j => B + 98 + 66 * j) ∧ mS m = B + 98 + 66 * cnI ix ∧ mN m ≤ 40000 + 6000 * cnI ix ∧
  (∀ k j, k < 3 → ix k = some j → j < cnI ix ∧ ShK m (B + 98 + 66 * j)) ∧ (∀ k k' j, k < 3 → k' < 3 → ix k = some j → ix k' = some j → k = k') ∧
  (∀ k, k < 2 → ((K k).1 = false ∧ ix k = none) ∨ ((K k).1 = true ∧ ∃ j, ix k = some j ∧ ShV m (B + 98 + 66 * j) (K k).2.1 (K k).2.2))
def CI (m : am_M) (B : Nat) (s : St) : Prop := FdK m B ∧ ShV m (B + 1) (stS s) (stL s) ∧ (∀ j, j < 40 → mI m (B + 79) j = stP s j) ∧ mI m B 8 = nI (stN s) ∧ (∀ j, j < 4 * stN s → mI m (B + 80) j = stF s j) ∧ (∀ j, j < 7 → mI m (B + 81) j = stD s j) ∧ mI m B 10 = stZ s ∧ ReV m (B + 77) (stW s) ∧ ∃ ix, KpV m B ix (stK s)
def MI (m : am_M) (M : Nat) (s : St) : Prop := Mo m M ∧ mI m (M + 1) = stS s ∧ mL m (M + 6) 0 = stL s ∧ mI m (M + 8) = stP s ∧ mI m M 7 = nI (stN s) ∧ mI m (M + 7) = stF s ∧ mI m (M + 9) = stD s ∧ mI m M 10 = stZ s ∧ ((mI m M 11).toInt64, (mI m M 12).toInt64, mL m M 13, (mI m M 14).toInt64) = stW s ∧ (∀ k, k < 2 → mI m (M + 5) k = bI (stK s k).1 ∧ mI m (M + 2 + k) = (stK s k).2.1 ∧ mL m (M + 6) (k + 1) = (stK s k).2.2)
def LmOk (L : Int64) : Prop := ¬ L < 0 ∧ ¬ 1000000000000 < L
def Wst (s : St) : Prop := Wf (stS s) ∧ LmOk (stL s) ∧ stN s ≤ 200 ∧ ∀ k, k < 2 → (stK s k).1 = true → Wf (stK s k).2.1 ∧ LmOk (stK s k).2.2
def Good (B : Nat) (m : am_M) : Prop := ∃ s, CI m B s ∧ MI m (B + 82) s ∧ Wst s
def Bel (B : Nat) (m m' : am_M) : Prop := ∀ x, x < B → mK m' x = mK m x ∧ mI m' x = mI m x
theorem Bel.refl (B : Nat) (m : am_M) : Bel B m m := fun _ _ => ⟨rfl, rfl⟩
theorem Bel.trans {B : Nat} {m1 m2 m3 : am_M} (h : Bel B m1 m2) (g : Bel B m2 m3) : Bel B m1 m3 := fun x hx => ⟨(g x hx).1.trans (h x hx).1, (g x hx).2.trans (h x hx).2⟩
/-- all but the cells in P as they were; kinds and references too -/
def FrP (P : Nat → Prop) (m m' : am_M) : Prop := mS m' = mS m ∧ mN m' = mN m ∧ mK m' = mK m ∧ mR m' = mR m ∧ ∀ x, ¬ P x → mI m' x = mI m x ∧ mL m' x = mL m x
theorem FrP.refl (P : Nat → Prop) (m : am_M) : FrP P m m := ⟨rfl, rfl, rfl, rfl, fun _ _ => ⟨rfl, rfl⟩⟩
theorem FrP.trans {P : Nat → Prop} {m1 m2 m3 : am_M} (h : FrP P m1 m2) (g : FrP P m2 m3) : FrP P m1 m3 := ⟨g.1.trans h.1, g.2.1.trans h.2.1, g.2.2.1.trans h.2.2.1, g.2.2.2.1.trans h.2.2.2.1, fun x hx => ⟨(g.2.2.2.2 x hx).1.trans (h.2.2.2.2 x hx).1, (g.2.2.2.2 x hx).2.trans (h.2.2.2.2 x hx).2⟩⟩
theorem FrP.mono {P Q : Nat → Prop} {m m' : am_M} (h : FrP P m m') (hq : ∀ x, P x → Q x) : FrP Q m m' := ⟨h.1, h.2.1, h.2.2.1, h.2.2.2.1, fun x hx => h.2.2.2.2 x (fun q => hx (hq x q))⟩
theorem FrP.sA {P : Nat → Prop} {m m' : am_M} {b : Nat} {f : Nat → Int32} (h : FrP P m m') (hb : P b) : FrP P m (sA m' b f) := h.trans ⟨rfl, rfl, rfl, rfl, fun x hx => ⟨I_sA' _ _ (fun q => by rw [q] at hx; exact hx hb), rfl⟩⟩
theorem FrP.sL {P : Nat → Prop} {m m' : am_M} {b k : Nat} {v : Int64} (h : FrP P m m') (hb : P b) : FrP P m (sL m' b k v) := by
  refine h.trans ⟨rfl, rfl, rfl, rfl, fun x hx => ⟨rfl, ?_⟩⟩
  have hne : x ≠ b := fun q => by rw [q] at hx; exact hx hb
  funext y
  rw [xL_sL, if_neg (fun q => hne q.1)]
theorem Fr.p {a : Nat} {m m' : am_M} (h : Fr a m m') : FrP (fun x => a ≤ x ∧ x < a + 66) m m' := ⟨h.1, h.2.1, h.2.2.1, h.2.2.2.1, fun x hx => h.2.2.2.2 x (by omega)⟩
theorem FrR.p {a R : Nat} {m m' : am_M} (h : FrR a R m m') : FrP (fun x => (a ≤ x ∧ x < a + 66) ∨ x = R) m m' := ⟨h.1, h.2.1, h.2.2.1, h.2.2.2.1, fun x hx => h.2.2.2.2 x (by omega) (fun q => hx (Or.inr q))⟩
theorem FrP.i {P : Nat → Prop} {m m' : am_M} (h : FrP P m m') {x : Nat} (hx : ¬ P x) : mI m' x = mI m x := (h.2.2.2.2 x hx).1
theorem FrP.l {P : Nat → Prop} {m m' : am_M} (h : FrP P m m') {x : Nat} (hx : ¬ P x) : mL m' x = mL m x := (h.2.2.2.2 x hx).2
theorem FrP.bel {P : Nat → Prop} {m m' : am_M} {B : Nat} (h : FrP P m m') (hp : ∀ x, x < B → ¬ P x) : Bel B m m' := fun x hx => ⟨by rw [h.2.2.1], h.i (hp x hx)⟩
theorem FdK.fr {P : Nat → Prop} {m m' : am_M} {B : Nat} (k : FdK m B) (h : FrP P m m') : FdK m' B := by
  obtain ⟨-, -, h1, h2, -⟩ := h
  simpa only [FdK, PnK, ShK, LaK, LoK, AcK, PlK, RoK, h1, h2] using k
theorem ShK.frP {P : Nat → Prop} {a : Nat} {m m' : am_M} (k : ShK m a) (h : FrP P m m') : ShK m' a := by
  obtain ⟨-, -, h1, h2, -⟩ := h
  simpa only [ShK, LaK, LoK, AcK, PlK, RoK, h1, h2] using k
theorem Mo.frP {P : Nat → Prop} {M : Nat} {m m' : am_M} (k : Mo m M) (h : FrP P m m') : Mo m' M := by
  obtain ⟨-, -, h1, h2, -⟩ := h
  simpa only [Mo, h1, h2] using k
/-- the ships made later are as they were -/
theorem KpV.fr {P : Nat → Prop} {m m' : am_M} {B : Nat} {ix : Nat → Option Nat} {K : Nat → Bool × (Nat → Int32) × Int64} (k : KpV m B ix K) (h : FrP P m m') (hp : ∀ x, B + 98 ≤ x → ¬ P x) : KpV m' B ix K := by
  obtain ⟨k1, k2, k3, k4, k5, k6, k7⟩ := k
  refine ⟨fun j hj => by rw [h.2.2.2.1]; exact k1 j hj, by rw [h.2.2.2.1]; exact k2, by rw [h.1]; exact k3, by rw [h.2.1]; exact k4, fun x j hx hj => ⟨(k5 x j hx hj).1, (k5 x j hx hj).2.frP h⟩, k6, fun x hx => ?_⟩
  rcases k7 x hx with q | ⟨q1, j, q2, q3⟩
  · exact Or.inl q
  · exact Or.inr ⟨q1, j, q2, q3.keep (fun y y1 y2 => h.i (hp y (by omega))) (h.l (hp _ (by omega)))⟩
/-- the model's cells as they were -/
theorem MI.fr {P : Nat → Prop} {m m' : am_M} {M : Nat} {s : St} (w : MI m M s) (h : FrP P m m') (hp : ∀ x, M ≤ x → x < M + 16 → ¬ P x) : MI m' M s := by
  obtain ⟨w0, w1, w2, w3, w4, w5, w6, w7, w8, w9⟩ := w
  have i : ∀ x, M ≤ x → x < M + 16 → mI m' x = mI m x := fun x h1 h2 => h.i (hp x h1 h2)
  have l : ∀ x, M ≤ x → x < M + 16 → mL m' x = mL m x := fun x h1 h2 => h.l (hp x h1 h2)
  refine ⟨w0.frP h, ?_, ?_, ?_, ?_, ?_, ?_, ?_, ?_, fun k hk => ?_⟩
  · rw [i _ (by omega) (by omega)]; exact w1
  · rw [l _ (by omega) (by omega)]; exact w2
  · rw [i _ (by omega) (by omega)]; exact w3
  · rw [i _ (by omega) (by omega)]; exact w4
  · rw [i _ (by omega) (by omega)]; exact w5
  · rw [i _ (by omega) (by omega)]; exact w6
  · rw [i _ (by omega) (by omega)]; exact w7
  · rw [i _ (by omega) (by omega), l _ (by omega) (by omega)]; exact w8
  · rw [i _ (by omega) (by omega), i _ (by omega) (by omega), l _ (by omega) (by omega)]; exact w9 k hk
/-- the class's cells as they were -/
theorem CI.fr {P : Nat → Prop} {m m' : am_M} {B : Nat} {s : St} (w : CI m B s) (h : FrP P m m') (hp : ∀ x, B ≤ x → (x < B + 82 ∨ B + 98 ≤ x) → ¬ P x) : CI m' B s := by
  obtain ⟨w0, w1, w2, w3, w4, w5, w6, w7, ix, w8⟩ := w
  have i : ∀ x, B ≤ x → x < B + 82 → mI m' x = mI m x := fun x h1 h2 => h.i (hp x h1 (by omega))
  refine ⟨w0.fr h, w1.keep (fun y y1 y2 => i y (by omega) (by omega)) (h.l (hp _ (by omega) (by omega))), ?_, ?_, ?_, ?_, ?_, ?_, ix, w8.fr h (fun x hx => hp x (by omega) (by omega))⟩
  · rw [i _ (by omega) (by omega)]; exact w2
  · rw [i _ (by omega) (by omega)]; exact w3
  · rw [i _ (by omega) (by omega)]; exact w4
  · rw [i _ (by omega) (by omega)]; exact w5
  · rw [i _ (by omega) (by omega)]; exact w6
  · unfold ReV
    rw [h.l (hp _ (by omega) (by omega))]
    exact w7
/-! how a change of the state goes on -/
section GO
variable {m m1 : am_M} {B : Nat} {s : St}
/-- nothing but the class's ship cells that don't count -/
theorem good_F (c : CI m B s) (w : MI m (B + 82) s) (W : Wst s) (h : Fr (B + 1) m m1) (v : ShV m1 (B + 1) (stS s) (stL s)) : Good B m1 ∧ Bel B m m1 := by
  obtain ⟨c0, c1, c2, c3, c4, c5, c6, c7, ix, c8⟩ := c
  have h := h.p
  have i : ∀ x, B ≤ x → (x < B + 1 ∨ B + 67 ≤ x) → mI m1 x = mI m x := fun x h1 h2 => h.i (by omega)
  refine ⟨⟨s, ⟨c0.fr h, v, ?_, ?_, ?_, ?_, ?_, ?_, ix, c8.fr h (fun x hx => by omega)⟩, w.fr h (fun x h1 h2 => by omega), W⟩, h.bel (fun x hx => by omega)⟩
  · rw [i _ (by omega) (by omega)]; exact c2
  · rw [i _ (by omega) (by omega)]; exact c3
  · rw [i _ (by omega) (by omega)]; exact c4
  · rw [i _ (by omega) (by omega)]; exact c5
  · rw [i _ (by omega) (by omega)]; exact c6
  · unfold ReV
    rw [h.l (by omega)]
    exact c7
/-- the ship and the array -/
theorem good_S {S' : Nat → Int32} (c : CI m B s) (w : MI m (B + 82) s) (W : Wst s) (h : Fr (B + 1) m m1) (v : ShV m1 (B + 1) S' (stL s)) (W' : Wf S') : Good B (sA m1 (B + 82 + 1) S') ∧ Bel B m (sA m1 (B + 82 + 1) S') := by
  obtain ⟨c0, c1, c2, c3, c4, c5, c6, c7, ix, c8⟩ := c
  have h := h.p
  have g : FrP (fun x => (B + 1 ≤ x ∧ x < B + 1 + 66) ∨ x = B + 82 + 1) m (sA m1 (B + 82 + 1) S') := (h.mono (fun x hx => Or.inl hx)).sA (Or.inr rfl)
  have i : ∀ x, B ≤ x → (x < B + 1 ∨ B + 67 ≤ x) → x ≠ B + 82 + 1 → mI (sA m1 (B + 82 + 1) S') x = mI m x := fun x h1 h2 h3 => g.i (by omega)
  have l : ∀ x, B ≤ x → (x < B + 1 ∨ B + 67 ≤ x) → x ≠ B + 82 + 1 → mL (sA m1 (B + 82 + 1) S') x = mL m x := fun x h1 h2 h3 => g.l (by omega)
  obtain ⟨w0, w1, w2, w3, w4, w5, w6, w7, w8, w9⟩ := w
  refine ⟨⟨(S', stL s, stP s, stN s, stF s, stD s, stZ s, stW s, stK s), ⟨c0.fr g, v.keep (fun y y1 y2 => I_sA' _ _ (by omega)) rfl, ?_, ?_, ?_, ?_, ?_, ?_, ix, c8.fr g (fun x hx => by omega)⟩, ⟨w0.frP g, I_sA .., ?_, ?_, ?_, ?_, ?_, ?_, ?_, ?_⟩, W', W.2⟩, g.bel (fun x hx => by omega)⟩
  · rw [i _ (by omega) (by omega) (by omega)]; exact c2
  · rw [i _ (by omega) (by omega) (by omega)]; exact c3
  · rw [i _ (by omega) (by omega) (by omega)]; exact c4
  · rw [i _ (by omega) (by omega) (by omega)]; exact c5
  · rw [i _ (by omega) (by omega) (by omega)]; exact c6
  · unfold ReV
    rw [l _ (by omega) (by omega) (by omega)]
    exact c7
  · rw [l _ (by omega) (by omega) (by omega)]; exact w2
  · rw [i _ (by omega) (by omega) (by omega)]; exact w3
  · rw [i _ (by omega) (by omega) (by omega)]; exact w4
  · rw [i _ (by omega) (by omega) (by omega)]; exact w5
  · rw [i _ (by omega) (by omega) (by omega)]; exact w6
  · rw [i _ (by omega) (by omega) (by omega)]; exact w7
  · rw [i _ (by omega) (by omega) (by omega), l _ (by omega) (by omega) (by omega)]; exact w8
  · intro k hk
    rw [i _ (by omega) (by omega) (by omega), i _ (by omega) (by omega) (by omega), l _ (by omega) (by omega) (by omega)]
    exact w9 k hk
/-- a finding -/
theorem good_D {k : Nat} (c : CI m B s) (w : MI m (B + 82) s) (W : Wst s) (hk : k < 7) : Good B (sA (sA m (B + 81) (fdS (mI m (B + 81)) k)) (B + 82 + 9) (fdS (mI m (B + 82 + 9)) k)) ∧ Bel B m (sA (sA m (B + 81) (fdS (mI m (B + 81)) k)) (B + 82 + 9) (fdS (mI m (B + 82 + 9)) k)) := by
  obtain ⟨c0, c1, c2, c3, c4, c5, c6, c7, ix, c8⟩ := c
  have g : FrP (fun x => x = B + 81 ∨ x = B + 82 + 9) m (sA (sA m (B + 81) (fdS (mI m (B + 81)) k)) (B + 82 + 9) (fdS (mI m (B + 82 + 9)) k)) := ((FrP.refl _ m).sA (Or.inl rfl)).sA (Or.inr rfl)
  obtain ⟨w0, w1, w2, w3, w4, w5, w6, w7, w8, w9⟩ := w
  refine ⟨⟨(stS s, stL s, stP s, stN s, stF s, fdS (stD s) k, stZ s, stW s, stK s), ⟨c0.fr g, c1.keep (fun y y1 y2 => g.i (by omega)) (g.l (by omega)), ?_, ?_, ?_, ?_, ?_, ?_, ix, c8.fr g (fun x hx => by omega)⟩, ⟨w0.frP g, ?_, ?_, ?_, ?_, ?_, ?_, ?_, ?_, ?_⟩, W⟩, g.bel (fun x hx => by omega)⟩
  · rw [g.i (by omega)]; exact c2
  · rw [g.i (by omega)]; exact c3
  · rw [g.i (by omega)]; exact c4
  · intro j hj
    rw [I_sA' _ _ (by omega), I_sA]
    show fdS (mI m (B + 81)) k j = fdS (stD s) k j
    unfold fdS
    simp only [up1_at]
    by_cases h1 : j = k
    · rw [if_pos h1, if_pos h1]
      by_cases h2 : k = 0
      · rw [if_pos h2, if_pos h2]
      · rw [if_neg h2, if_neg h2, c5 k hk]
    · rw [if_neg h1, if_neg h1]
      by_cases h2 : j = 0
      · rw [if_pos h2, if_pos h2]
      · rw [if_neg h2, if_neg h2]; exact c5 j hj
  · rw [g.i (by omega)]; exact c6
  · unfold ReV
    rw [g.l (by omega)]
    exact c7
  · rw [g.i (by omega)]; exact w1
  · rw [g.l (by omega)]; exact w2
  · rw [g.i (by omega)]; exact w3
  · rw [g.i (by omega)]; exact w4
  · rw [g.i (by omega)]; exact w5
  · rw [I_sA, w6]; rfl
  · rw [g.i (by omega)]; exact w7
  · rw [g.i (by omega), g.l (by omega)]; exact w8
  · intro j hj
    rw [g.i (by omega), g.i (by omega), g.l (by omega)]
    exact w9 j hj
end GO
