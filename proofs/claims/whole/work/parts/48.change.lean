/-! CHANGES OF S, purely: what stands where in lanes (cells, where, lane, place) alone changes -/
def AgM (S S' : Nat → Int32) : Prop := ∀ y, 800 ≤ y → (y < 3300 ∨ 4500 ≤ y) → S' y = S y
section AGM
variable {S S' : Nat → Int32}
theorem AgM.nmE (h : AgM S S') : nm S' = nm S := by unfold nm; rw [h 6500 (by omega) (by omega)]
theorem AgM.lnE (h : AgM S S') {i : Nat} (hi : i < 20) : ln S' i = ln S i := by unfold ln; rw [h _ (by omega) (by omega)]
theorem AgM.th (h : AgM S S') {i : Nat} (hi : i < 20) : S' (800 + i) = S (800 + i) := h _ (by omega) (by omega)
theorem AgM.lenE (h : AgM S S') {i : Nat} (hi : i < 20) : lenS S' i = lenS S i := by unfold lenS; rw [h.th hi, h.lnE hi]
theorem AgM.span (h : AgM S S') {l : Nat} (hl : l < 400) : spanS S' l = spanS S l := by unfold spanS; rw [h _ (by omega) (by omega)]
theorem AgM.more (h : AgM S S') {l : Nat} (hl : l < 400) : moreS S' l = moreS S l := by unfold moreS; rw [h _ (by omega) (by omega)]
theorem AgM.tall (h : AgM S S') {l : Nat} (hl : l < 400) : tallS S' l = tallS S l := by unfold tallS; rw [h.more hl, h _ (by omega) (by omega)]
theorem AgM.unit (h : AgM S S') {l : Nat} (hl : l < 400) : unitS S' l = unitS S l := by unfold unitS; rw [h (900 + l) (by omega) (by omega), h (1700 + l) (by omega) (by omega)]
theorem AgM.akE (h : AgM S S') : ak S' = ak S := by unfold ak; rw [h 6507 (by omega) (by omega)]
theorem AgM.lnok (h : AgM S S') (w : LnOk S) : LnOk S' := fun i hi => by rw [h.lnE hi, h _ (by omega) (by omega)]; exact w i hi
theorem AgM.nmok (h : AgM S S') (w : NmOk S) : NmOk S' := by unfold NmOk; rw [h.nmE, h _ (by omega) (by omega)]; exact w
theorem AgM.akok (h : AgM S S') (w : AkOk S) : AkOk S' := by unfold AkOk; rw [h.akE, h _ (by omega) (by omega)]; exact w
theorem AgM.t (h : AgM S S') (w : WfT S) : WfT S' := fun i hi => by rw [h.lnE hi, h.th hi, h (880 + i) (by omega) (by omega)]; exact w i hi
theorem AgM.d (h : AgM S S') (hN : NmOk S) (w : WfD S) : WfD S' := by
  have n2 := hN.2
  intro l hl
  rw [h.nmE] at hl ⊢
  rw [h (900 + l) (by omega) (by omega), h (2500 + l) (by omega) (by omega), h (2100 + l) (by omega) (by omega), h (2900 + l) (by omega) (by omega)]
  exact w l hl
theorem AgM.y (h : AgM S S') (w : DyOk S) : DyOk S' := by unfold DyOk; rw [h 6501 (by omega) (by omega), h 6502 (by omega) (by omega), h 6503 (by omega) (by omega)]; exact w
theorem AgM.mv (h : AgM S S') {c : Nat} (hc : 4500 ≤ c) (w : MvOk S c) : MvOk S' c := by unfold MvOk; rw [h c (by omega) (by omega)]; exact w
theorem AgM.refl : AgM S S := fun _ _ _ => rfl
theorem AgM.trans {T : Nat → Int32} (h : AgM S S') (g : AgM S' T) : AgM S T := fun y a b => (g y a b).trans (h y a b)
end AGM
/-! put and take -/
section PT
variable {S : Nat → Int32} {l i q : Nat} {w : Int32}
theorem putS_off {y : Nat} (h : y ≠ 3300 + l) (h2 : y ≠ 3700 + l) (h3 : y ≠ 4100 + l) (h4 : y < 40 * i + q ∨ 40 * i + q + spanS S l ≤ y) : putS S l i q y = S y := by
  unfold putS
  rw [up1_at, if_neg h3, up1_at, if_neg h2, up1_at, if_neg h, fillS_out h4]
theorem putS_in {y : Nat} (h : y < 3300) (h4 : 40 * i + q ≤ y ∧ y < 40 * i + q + spanS S l) : putS S l i q y = nI l := by
  unfold putS
  rw [up1_at, if_neg (by omega), up1_at, if_neg (by omega), up1_at, if_neg (by omega), fillS_in h4]
theorem putS_1 (hl : l < 400) : putS S l i q (3300 + l) = nI 1 := by
  unfold putS
  rw [up1_at, if_neg (by omega), up1_at, if_neg (by omega), up1_at, if_pos rfl]
theorem putS_2 (hl : l < 400) : putS S l i q (3700 + l) = nI i := by
  unfold putS
  rw [up1_at, if_neg (by omega), up1_at, if_pos rfl]
theorem putS_3 : putS S l i q (4100 + l) = nI q := by
  unfold putS
  rw [up1_at, if_pos rfl]
theorem takeS_off {y : Nat} (h : y ≠ 3300 + l) (h2 : y ≠ 3700 + l) (h3 : y ≠ 4100 + l) (h4 : y < 40 * i + q ∨ 40 * i + q + spanS S l ≤ y) : takeS S l w i q y = S y := by
  unfold takeS
  rw [up1_at, if_neg h3, up1_at, if_neg h2, up1_at, if_neg h, fillS_out h4]
theorem takeS_in {y : Nat} (h : y < 3300) (h4 : 40 * i + q ≤ y ∧ y < 40 * i + q + spanS S l) : takeS S l w i q y = -1 := by
  unfold takeS
  rw [up1_at, if_neg (by omega), up1_at, if_neg (by omega), up1_at, if_neg (by omega), fillS_in h4]
theorem takeS_1 (hl : l < 400) : takeS S l w i q (3300 + l) = w := by
  unfold takeS
  rw [up1_at, if_neg (by omega), up1_at, if_neg (by omega), up1_at, if_pos rfl]
theorem takeS_2 (hl : l < 400) : takeS S l w i q (3700 + l) = -1 := by
  unfold takeS
  rw [up1_at, if_neg (by omega), up1_at, if_pos rfl]
theorem takeS_3 : takeS S l w i q (4100 + l) = -1 := by
  unfold takeS
  rw [up1_at, if_pos rfl]
theorem putS_ag (hl : l < 400) (hi : i < 20) (hq : q + spanS S l ≤ 40) : AgM S (putS S l i q) := fun y h1 h2 => putS_off (by omega) (by omega) (by omega) (by omega)
theorem takeS_ag (hl : l < 400) (hi : i < 20) (hq : q + spanS S l ≤ 40) : AgM S (takeS S l w i q) := fun y h1 h2 => takeS_off (by omega) (by omega) (by omega) (by omega)
end PT
/-- counts behind one change -/
theorem cntR_upd {f g : Nat → Bool} {a n p : Nat} (h1 : a ≤ p) (h2 : p < a + n) (h : ∀ y, a ≤ y → y < a + n → y ≠ p → g y = f y) : cntR g a n + (if f p = true then 1 else 0) = cntR f a n + (if g p = true then 1 else 0) := by
  induction n with
  | zero => omega
  | succ n ih =>
    unfold cntR
    by_cases hp : p = a + n
    · rw [← hp, cntR_congr (f := g) (g := f) (fun y y1 y2 => h y y1 (by omega) (by omega))]
      omega
    · rw [h (a + n) (by omega) (by omega) (fun q => hp q.symm)]
      have := ih (by omega) (fun y y1 y2 y3 => h y y1 (by omega) y3)
      omega
theorem inS_put {S : Nat → Int32} {l i q j : Nat} (hN : NmOk S) (hl : l < nm S) (hi : i < 20) (hj : j < 20) (hq : q + spanS S l ≤ 40) (h0 : ¬ S (3300 + l) = nI 1) : inS (putS S l i q) j = inS S j + (if j = i then 1 else 0) := by
  have n2 := hN.2
  have ag := putS_ag (S := S) (l := l) (i := i) (q := q) (by omega) hi hq
  unfold inS
  rw [ag.nmE]
  have e := cntR_upd (f := fun y => decide (S (3300 + y) = nI 1) && decide (S (3700 + y) = nI j)) (g := fun y => decide (putS S l i q (3300 + y) = nI 1) && decide (putS S l i q (3700 + y) = nI j)) (a := 0) (n := nm S) (p := l) (by omega) (by omega) (fun y y1 y2 hy => by
    rw [putS_off (by omega) (by omega) (by omega) (by omega), putS_off (by omega) (by omega) (by omega) (by omega)])
  rw [putS_1 (by omega), putS_2 (by omega)] at e
  simp only [h0, decide_false, Bool.false_and, Bool.false_eq_true, if_false, decide_true, Bool.true_and, Nat.add_zero] at e
  rw [e]
  congr 1
  by_cases hij : j = i
  · rw [if_pos hij, if_pos (by rw [hij]; exact decide_eq_true rfl)]
  · rw [if_neg hij, if_neg (by rw [deq_nI (by omega) (by omega)]; simp only [decide_eq_true_eq]; omega)]
