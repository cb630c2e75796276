/-! LANES, purely: marks, clear ends, who is in the way -/
theorem dlt_nI {a b : Nat} (ha : a < 2147483648) (hb : b < 2147483648) : decide (nI a < nI b) = decide (a < b) := by
  by_cases h : a < b
  · rw [decide_eq_true h, decide_eq_true (by rw [lt_nI ha hb]; exact h)]
  · rw [decide_eq_false h, decide_eq_false (by rw [lt_nI ha hb]; exact h)]
theorem deq_nI {a b : Nat} (ha : a < 2147483648) (hb : b < 2147483648) : decide (nI a = nI b) = decide (a = b) := by
  by_cases h : a = b
  · rw [decide_eq_true h, decide_eq_true (by rw [eq_nI ha hb]; exact h)]
  · rw [decide_eq_false h, decide_eq_false (by rw [eq_nI ha hb]; exact h)]
theorem anyR_iff (f : Nat → Bool) : ∀ r j, anyR f j r = true ↔ ∃ p, j ≤ p ∧ p < j + r ∧ f p = true := by
  intro r
  induction r with
  | zero => intro j; simp only [anyR, Bool.false_eq_true, false_iff]; rintro ⟨p, a, b, c⟩; omega
  | succ r ih =>
    intro j
    simp only [anyR, Bool.or_eq_true, ih]
    constructor
    · rintro (h | ⟨p, a, b, c⟩)
      · exact ⟨j, by omega, by omega, h⟩
      · exact ⟨p, by omega, by omega, c⟩
    · rintro ⟨p, a, b, c⟩
      by_cases h : p = j
      · left; rw [← h]; exact c
      · right; exact ⟨p, by omega, by omega, c⟩
theorem anyR_no (f : Nat → Bool) (j r : Nat) : anyR f j r = false ↔ ∀ p, j ≤ p → p < j + r → f p = false := by
  constructor
  · intro h p a b
    cases hf : f p with
    | false => rfl
    | true =>
      have := (anyR_iff f r j).mpr ⟨p, a, b, hf⟩
      rw [h] at this
      cases this
  · intro h
    cases hf : anyR f j r with
    | false => rfl
    | true =>
      obtain ⟨p, a, b, c⟩ := (anyR_iff f r j).mp hf
      rw [h p a b] at c
      cases c
theorem lastR_spec (f : Nat → Bool) : ∀ n, (lastR f n = -1 ∧ ∀ p, p < n → f p = false) ∨ ∃ a, a < n ∧ lastR f n = nI a ∧ f a = true ∧ ∀ p, a < p → p < n → f p = false := by
  intro n
  induction n with
  | zero => exact Or.inl ⟨rfl, fun p h => by omega⟩
  | succ n ih =>
    unfold lastR
    cases h : f n with
    | true => rw [if_pos rfl]; exact Or.inr ⟨n, by omega, rfl, h, fun p a b => by omega⟩
    | false =>
      rw [if_neg (by decide)]
      rcases ih with ⟨q, r⟩ | ⟨a, b, c, e, g⟩
      · refine Or.inl ⟨q, fun p hp => ?_⟩
        by_cases hpn : p = n
        · rw [hpn]; exact h
        · exact r p (by omega)
      · refine Or.inr ⟨a, by omega, c, e, fun p h1 h2 => ?_⟩
        by_cases hpn : p = n
        · rw [hpn]; exact h
        · exact g p h1 (by omega)
theorem lastR_eq {f : Nat → Bool} {n a : Nat} (hn : n < 1000) (ha : a < n) (h1 : f a = true) (h2 : ∀ p, a < p → p < n → f p = false) : lastR f n = nI a := by
  rcases lastR_spec f n with ⟨q, r⟩ | ⟨b, hb, c, e, g⟩
  · rw [r a ha] at h1; cases h1
  · have : b = a := by
      by_cases q : b < a
      · rw [g a q ha] at h1; cases h1
      · by_cases q2 : a < b
        · rw [h2 b q2 hb] at e; cases e
        · omega
    rw [c, this]
theorem lastR_none {f : Nat → Bool} {n : Nat} (h : ∀ p, p < n → f p = false) : lastR f n = -1 := by
  rcases lastR_spec f n with ⟨q, r⟩ | ⟨b, hb, c, e, g⟩
  · exact q
  · rw [h b hb] at e; cases e
/-- the first of n for which f holds, or -1 -/
def fiR (f : Nat → Bool) : Nat → Int32
  | 0 => -1
  | k + 1 => if f k = true then (if fiR f k < nI 0 then nI k else fiR f k) else fiR f k
theorem fiR_spec (f : Nat → Bool) : ∀ n, n < 1000 → (fiR f n = -1 ∧ ∀ p, p < n → f p = false) ∨ ∃ a, a < n ∧ fiR f n = nI a ∧ f a = true ∧ ∀ p, p < a → f p = false := by
  intro n
  induction n with
  | zero => intro _; exact Or.inl ⟨rfl, fun p h => by omega⟩
  | succ n ih =>
    intro hn
    unfold fiR
    rcases ih (by omega) with ⟨q, r⟩ | ⟨a, b, c, e, g⟩
    · rw [q]
      cases h : f n with
      | true =>
        rw [if_pos rfl, if_pos (by decide)]
        exact Or.inr ⟨n, by omega, rfl, h, r⟩
      | false =>
        rw [if_neg (by decide)]
        refine Or.inl ⟨rfl, fun p hp => ?_⟩
        by_cases hpn : p = n
        · rw [hpn]; exact h
        · exact r p (by omega)
    · rw [c]
      have z : ¬ nI a < nI 0 := by rw [lt_nI (by omega) (by omega)]; omega
      rw [if_neg z]
      refine Or.inr ⟨a, by omega, ?_, e, g⟩
      split <;> rfl
/-- the first chock of n places, or N -/
def fcR (f : Nat → Bool) (N : Nat) : Nat → Int32
  | 0 => nI N
  | k + 1 => if f k = true then (if nI k < fcR f N k then nI k else fcR f N k) else fcR f N k
theorem fcR_spec (f : Nat → Bool) (N : Nat) (hN : N < 1000) : ∀ n, n ≤ N → (fcR f N n = nI N ∧ ∀ p, p < n → f p = false) ∨ ∃ a, a < n ∧ fcR f N n = nI a ∧ f a = true ∧ ∀ p, p < a → f p = false := by
  intro n
  induction n with
  | zero => intro _; exact Or.inl ⟨rfl, fun p h => by omega⟩
  | succ n ih =>
    intro hn
    unfold fcR
    rcases ih (by omega) with ⟨q, r⟩ | ⟨a, b, c, e, g⟩
    · rw [q]
      cases h : f n with
      | true =>
        rw [if_pos rfl, if_pos (by rw [lt_nI (by omega) (by omega)]; omega)]
        exact Or.inr ⟨n, by omega, rfl, h, r⟩
      | false =>
        rw [if_neg (by decide)]
        refine Or.inl ⟨rfl, fun p hp => ?_⟩
        by_cases hpn : p = n
        · rw [hpn]; exact h
        · exact r p (by omega)
    · rw [c]
      have z : ¬ nI n < nI a := by rw [lt_nI (by omega) (by omega)]; omega
      rw [if_neg z]
      refine Or.inr ⟨a, by omega, ?_, e, g⟩
      split <;> rfl
theorem cntR_congr {f g : Nat → Bool} {a n : Nat} (h : ∀ p, a ≤ p → p < a + n → f p = g p) : cntR f a n = cntR g a n := by
  induction n with
  | zero => rfl
  | succ n ih =>
    unfold cntR
    rw [ih (fun p h1 h2 => h p h1 (by omega)), h (a + n) (by omega) (by omega)]
theorem cntR_front (f : Nat → Bool) : ∀ n a, cntR f a (n + 1) = (if f a = true then 1 else 0) + cntR f (a + 1) n := by
  intro n
  induction n with
  | zero => intro a; unfold cntR cntR; rw [Nat.add_zero, Nat.zero_add]; rfl
  | succ n ih =>
    intro a
    have e1 : cntR f a (n + 1 + 1) = cntR f a (n + 1) + (if f (a + (n + 1)) = true then 1 else 0) := rfl
    have e2 : cntR f (a + 1) (n + 1) = cntR f (a + 1) n + (if f (a + 1 + n) = true then 1 else 0) := rfl
    rw [e1, ih, e2, show a + (n + 1) = a + 1 + n by omega, Nat.add_assoc]
theorem cntR_rev (f : Nat → Bool) (n : Nat) : ∀ k, k ≤ n → cntR (fun q => f (n - 1 - q)) 0 k = cntR f (n - k) k := by
  intro k
  induction k with
  | zero => intro _; rfl
  | succ k ih =>
    intro hk
    have e1 : cntR (fun q => f (n - 1 - q)) 0 (k + 1) = cntR (fun q => f (n - 1 - q)) 0 k + (if f (n - 1 - (0 + k)) = true then 1 else 0) := rfl
    rw [e1, ih (by omega), cntR_front, show n - 1 - (0 + k) = n - (k + 1) by omega, show n - (k + 1) + 1 = n - k by omega, Nat.add_comm]
theorem cntR_zero {f : Nat → Bool} {a n : Nat} (h : ∀ p, a ≤ p → p < a + n → f p = false) : cntR f a n = 0 := by
  induction n with
  | zero => rfl
  | succ n ih =>
    unfold cntR
    rw [ih (fun p h1 h2 => h p h1 (by omega)), h (a + n) (by omega) (by omega)]
    rfl
theorem cntR_pos {f : Nat → Bool} {a n p : Nat} (h1 : a ≤ p) (h2 : p < a + n) (h : f p = true) : 0 < cntR f a n := by
  induction n with
  | zero => omega
  | succ n ih =>
    unfold cntR
    by_cases hp : p = a + n
    · rw [← hp, if_pos h]; omega
    · have := ih (by omega)
      omega
/-- a load's cells in a lane -/
theorem cell_ld {S : Nat → Int32} (hN : NmOk S) (hC : WfC S) {i p l : Nat} (hi : i < 20) (hp : p < 40) (hl : l < 1000) (h : S (40 * i + p) = nI l) : l < nm S ∧ ∃ q, StA S l i q ∧ q ≤ p ∧ p < q + spanS S l := by
  have n2 := hN.2
  rcases hC i p hi hp with q | ⟨q, -⟩ | ⟨l', q, a, b, c, e, f⟩
  · rw [h] at q; exact absurd q (neg_ne (n := 1) (by omega) (by omega) (by omega))
  · rw [h] at q; exact absurd q (neg_ne (n := 2) (by omega) (by omega) (by omega))
  · rw [h, eq_nI (by omega) (by omega)] at b
    subst b
    exact ⟨a, q, c, e, f⟩
theorem StA.at {S : Nat → Int32} {l i q p : Nat} (h : StA S l i q) (h1 : q ≤ p) (h2 : p < q + spanS S l) : S (40 * i + p) = nI l := by
  have := h.2.2.2.2.2.2 (p - q) (by omega)
  rw [← this]
  congr 1
  omega
theorem StA.inj {S : Nat → Int32} (hL : LnOk S) {l i q i' q' : Nat} (h : StA S l i q) (h' : StA S l i' q') : i = i' ∧ q = q' := by
  obtain ⟨a1, a2, a3, a4, a5, a6, a7⟩ := h
  obtain ⟨b1, b2, b3, b4, b5, b6, b7⟩ := h'
  have := (hL i a4).2
  have := (hL i' b4).2
  rw [a2, eq_nI (by omega) (by omega)] at b2
  rw [a3, eq_nI (by omega) (by omega)] at b3
  exact ⟨b2, b3⟩
/-- the leavers' and the chocks' places; who stays and has its PLACE there -/
def lvP (S : Nat → Int32) (i : Nat) (x : Int32) (p : Nat) : Bool := lvB S (S (40 * i + p)) x
def ckP (S : Nat → Int32) (i p : Nat) : Bool := decide (S (40 * i + p) = -2)
def stB (S : Nat → Int32) (i : Nat) (x : Int32) (p : Nat) : Bool := !decide (S (40 * i + p) < nI 0) && (decide (x < S (2100 + (S (40 * i + p)).toNatClampNeg)) && decide (S (4100 + (S (40 * i + p)).toNatClampNeg) = nI p))
theorem dp0 (S : Nat → Int32) (i n q : Nat) : dpS S i n (nI 0) q = S (40 * i + q) := by
  unfold dpS
  rw [if_pos rfl]
theorem dp1 (S : Nat → Int32) (i n q : Nat) : dpS S i n (nI 1) q = S (40 * i + (n - 1 - q)) := by
  unfold dpS
  rw [if_neg (by decide)]
theorem deS0 (S : Nat → Int32) (i : Nat) (x : Int32) : deS S i (nI 0) x = lastR (lvP S i x) (ln S i) := by
  unfold deS
  have e : (fun q => lvB S (dpS S i (ln S i) (nI 0) q) x) = lvP S i x := by
    funext q
    rw [dp0]
    rfl
  rw [e]
theorem deS1 (S : Nat → Int32) (i : Nat) (x : Int32) : deS S i (nI 1) x = lastR (fun q => lvP S i x (ln S i - 1 - q)) (ln S i) := by
  unfold deS
  have e : (fun q => lvB S (dpS S i (ln S i) (nI 1) q) x) = fun q => lvP S i x (ln S i - 1 - q) := by
    funext q
    rw [dp1]
    rfl
  rw [e]
theorem lvP_ck {S : Nat → Int32} {i p : Nat} {x : Int32} (h : lvP S i x p = true) : ckP S i p = false := by
  unfold lvP lvB at h
  unfold ckP
  by_cases q : S (40 * i + p) = -2
  · rw [q] at h
    simp only [u2, decide_true, Bool.not_true, Bool.false_and, Bool.false_eq_true] at h
  · simp only [q, decide_false]
/-- no leavers, or the first and the last -/
theorem marks {S : Nat → Int32} {i : Nat} {x : Int32} (hl : ln S i ≤ 40) : (deS S i (nI 0) x = -1 ∧ fiR (lvP S i x) (ln S i) = -1) ∨
    ∃ a b, a ≤ b ∧ b < ln S i ∧ fiR (lvP S i x) (ln S i) = nI a ∧ deS S i (nI 0) x = nI b ∧ deS S i (nI 1) x = nI (ln S i - 1 - a) ∧ lvP S i x a = true ∧ lvP S i x b = true := by
  rw [deS0, deS1]
  rcases lastR_spec (lvP S i x) (ln S i) with ⟨q, r⟩ | ⟨b, hb, c, e, g⟩
  · left
    refine ⟨q, ?_⟩
    rcases fiR_spec (lvP S i x) (ln S i) (by omega) with ⟨q, -⟩ | ⟨a, ha, h1, h2, h3⟩
    · exact q
    · rw [r a ha] at h2; cases h2
  · right
    rcases fiR_spec (lvP S i x) (ln S i) (by omega) with ⟨q, r⟩ | ⟨a, ha, h1, h2, h3⟩
    · rw [r b hb] at e; cases e
    · refine ⟨a, b, ?_, hb, h1, c, ?_, h2, e⟩
      · by_cases q : b < a
        · rw [h3 b q] at e; cases e
        · omega
      · refine lastR_eq (by omega) (by omega) ?_ ?_
        · show lvP S i x (ln S i - 1 - (ln S i - 1 - a)) = true
          rw [show ln S i - 1 - (ln S i - 1 - a) = a by omega]
          exact h2
        · intro p p1 p2
          exact h3 _ (by omega)
theorem ic0 {S : Nat → Int32} {i b : Nat} {x : Int32} (hl : ln S i ≤ 40) (hb : b < ln S i) (h1 : deS S i (nI 0) x = nI b) (h2 : lvP S i x b = true) : icS S i (nI 0) x = (opS S i (nI 0) && decide (nI b < fcR (ckP S i) (ln S i) (ln S i))) := by
  unfold icS dn
  rw [h1, cl_nI (by omega)]
  congr 1
  have hf : (fun q => decide (dpS S i (ln S i) (nI 0) q = -2)) = ckP S i := by
    funext q
    rw [dp0]
    rfl
  rw [hf]
  have hck := lvP_ck h2
  rcases fcR_spec (ckP S i) (ln S i) (by omega) (ln S i) (Nat.le_refl _) with ⟨q, r⟩ | ⟨a, ha, c1, c2, c3⟩
  · rw [q, dlt_nI (by omega) (by omega), (anyR_no _ _ _).mpr (fun p p1 p2 => r p (by omega)), decide_eq_true hb]
    rfl
  · rw [c1, dlt_nI (by omega) (by omega)]
    by_cases hab : b < a
    · rw [(anyR_no _ _ _).mpr (fun p p1 p2 => c3 p (by omega)), decide_eq_true hab]
      rfl
    · have : a ≠ b := fun q => by rw [q, hck] at c2; cases c2
      rw [(anyR_iff _ _ _).mpr ⟨a, by omega, by omega, c2⟩, decide_eq_false hab]
      rfl
theorem ic1 {S : Nat → Int32} {i a : Nat} {x : Int32} (hl : ln S i ≤ 40) (ha : a < ln S i) (h1 : deS S i (nI 1) x = nI (ln S i - 1 - a)) (h2 : lvP S i x a = true) : icS S i (nI 1) x = (opS S i (nI 1) && decide (lastR (ckP S i) (ln S i) < nI a)) := by
  unfold icS dn
  rw [h1, cl_nI (by omega)]
  congr 1
  have hf : (fun q => decide (dpS S i (ln S i) (nI 1) q = -2)) = fun q => ckP S i (ln S i - 1 - q) := by
    funext q
    rw [dp1]
    rfl
  rw [hf]
  have hck := lvP_ck h2
  rcases lastR_spec (ckP S i) (ln S i) with ⟨q, r⟩ | ⟨c, hc, c1, c2, c3⟩
  · have z : (-1 : Int32) < nI a := by
      rw [Int32.lt_iff_toInt_lt, nI_toInt (by omega)]
      have : (-1 : Int32).toInt = -1 := by decide
      omega
    rw [q, (anyR_no _ _ _).mpr (fun p p1 p2 => r _ (by omega)), decide_eq_true z]
    rfl
  · rw [c1, dlt_nI (by omega) (by omega)]
    by_cases hab : c < a
    · rw [(anyR_no _ _ _).mpr (fun p p1 p2 => c3 _ (by omega) (by omega)), decide_eq_true hab]
      rfl
    · have : c ≠ a := fun q => by rw [q, hck] at c2; cases c2
      rw [(anyR_iff _ _ _).mpr ⟨ln S i - 1 - c, by omega, by omega, by
        show ckP S i (ln S i - 1 - (ln S i - 1 - c)) = true
        rw [show ln S i - 1 - (ln S i - 1 - c) = c by omega]; exact c2⟩, decide_eq_false hab]
      rfl
/-- who is in the way, by its PLACE; end 0 -/
theorem hi0 {S : Nat → Int32} (hN : NmOk S) (hL : LnOk S) (hC : WfC S) {i b : Nat} {x : Int32} (hi : i < 20) (hb : b < ln S i) (h1 : deS S i (nI 0) x = nI b) : hiS S i (nI 0) x = cntR (stB S i x) 0 b := by
  have hl := (hL i hi).2
  unfold hiS dn
  rw [h1, cl_nI (by omega)]
  refine cntR_congr fun p _ hp => ?_
  unfold hq1 stB
  rw [dp0]
  rcases hC i p hi (by omega) with q | ⟨q, -⟩ | ⟨l, q, c1, c2, c3, c4, c5⟩
  · rw [q]; simp only [u1, decide_true, Bool.not_true, Bool.false_and]
  · rw [q]; simp only [u2, decide_true, Bool.not_true, Bool.false_and]
  · have n2 := hN.2
    rw [c2, cl_nI (by omega)]
    have hpl : decide (S (4100 + l) = nI p) = !decide (nI l = pvS S i (ln S i) (nI 0) p) := by
      rw [c3.2.2.1, deq_nI (by have := c3.2.2.2.2.2.1; omega) (by omega)]
      by_cases hqp : q = p
      · rw [decide_eq_true hqp]
        have : ¬ nI l = pvS S i (ln S i) (nI 0) p := by
          cases p with
          | zero => exact neg_ne (n := 1) (by omega) (by omega) (by omega)
          | succ p =>
            show ¬ nI l = dpS S i (ln S i) (nI 0) p
            rw [dp0]
            intro hq
            obtain ⟨-, q', d1, d2, d3⟩ := cell_ld hN hC hi (show p < 40 by omega) (show l < 1000 by omega) hq.symm
            have := (d1.inj hL c3).2
            omega
        rw [decide_eq_false this]
        rfl
      · rw [decide_eq_false hqp]
        cases p with
        | zero => omega
        | succ p =>
          have : nI l = pvS S i (ln S i) (nI 0) (p + 1) := by
            show nI l = dpS S i (ln S i) (nI 0) p
            rw [dp0]
            exact (c3.at (by omega) (by omega)).symm
          rw [decide_eq_true this]
          rfl
    rw [hpl, Bool.and_comm (decide _) (!_)]
/-- end 1: the count by first cells seen is ahead of that by PLACES by one while a staying load is passed -/
def midB (S : Nat → Int32) (i : Nat) (x : Int32) (p : Nat) : Bool := !decide (S (40 * i + p) < nI 0) && (decide (x < S (2100 + (S (40 * i + p)).toNatClampNeg)) && decide (S (4100 + (S (40 * i + p)).toNatClampNeg) < nI p))
theorem ld_B {S : Nat → Int32} (hN : NmOk S) (hL : LnOk S) {i p l q : Nat} {x : Int32} (hp : p < 40) (hl : l < nm S) (h : S (40 * i + p) = nI l) (hs : StA S l i q) : stB S i x p = (decide (x < S (2100 + l)) && decide (q = p)) ∧ midB S i x p = (decide (x < S (2100 + l)) && decide (q < p)) := by
  have n2 := hN.2
  have := hs.2.2.2.2.2.1
  have := (hL i hs.2.2.2.1).2
  have z : ¬ nI l < nI 0 := by rw [lt_nI (by omega) (by omega)]; omega
  unfold stB midB
  rw [h, cl_nI (by omega), hs.2.2.1, deq_nI (by omega) (by omega), dlt_nI (a := q) (b := p) (by omega) (by omega)]
  simp only [z, decide_false, Bool.not_false, Bool.true_and, and_self]
theorem no_B {S : Nat → Int32} {i p : Nat} {x : Int32} (h : S (40 * i + p) < nI 0) : stB S i x p = false ∧ midB S i x p = false := by
  unfold stB midB
  simp only [h, decide_true, Bool.not_true, Bool.false_and, and_self]
theorem hi1_k {S : Nat → Int32} (hN : NmOk S) (hL : LnOk S) (hC : WfC S) {i : Nat} {x : Int32} (hi : i < 20) : ∀ k, k ≤ ln S i → cntR (hq1 S i (ln S i) (nI 1) x) 0 k = cntR (fun q => stB S i x (ln S i - 1 - q)) 0 k + (if k = 0 then 0 else if midB S i x (ln S i - k) = true then 1 else 0) := by
  have hl := (hL i hi).2
  have n2 := hN.2
  intro k
  induction k with
  | zero => intro _; rfl
  | succ k ih =>
    intro hk
    have ih := ih (by omega)
    unfold cntR
    rw [ih, Nat.zero_add, if_neg (by omega : ¬ k + 1 = 0), show ln S i - (k + 1) = ln S i - 1 - k by omega]
    generalize hP : ln S i - 1 - k = p
    generalize hR : cntR (fun q => stB S i x (ln S i - 1 - q)) 0 k = c
    have hcell : dpS S i (ln S i) (nI 1) k = S (40 * i + p) := by rw [dp1, hP]
    have hprev : k ≠ 0 → pvS S i (ln S i) (nI 1) k = S (40 * i + (p + 1)) := by
      intro hk0
      cases k with
      | zero => exact absurd rfl hk0
      | succ k =>
        show dpS S i (ln S i) (nI 1) k = _
        rw [dp1, show ln S i - 1 - k = p + 1 by omega]
    have hpk : k ≠ 0 → ln S i - k = p + 1 := fun _ => by omega
    have hq : hq1 S i (ln S i) (nI 1) x k = (!decide (S (40 * i + p) < nI 0) && (!decide (S (40 * i + p) = pvS S i (ln S i) (nI 1) k) && decide (x < S (2100 + (S (40 * i + p)).toNatClampNeg)))) := by
      unfold hq1
      rw [hcell]
    -- the load at p, if any
    rcases hC i p hi (by omega) with hc | hc | ⟨l, q, c1, c2, c3, c4, c5⟩
    rotate_left 2
    · obtain ⟨b1, b2⟩ := ld_B (x := x) hN hL (by omega : p < 40) c1 c2 c3
      have hz : ¬ nI l < nI 0 := by rw [lt_nI (by omega) (by omega)]; omega
      rw [hq, c2, cl_nI (by omega), b1, b2]
      simp only [hz, decide_false, Bool.not_false, Bool.true_and]
      by_cases hx : x < S (2100 + l)
      · simp only [hx, decide_true, Bool.true_and, Bool.and_true]
        by_cases hk0 : k = 0
        · subst hk0
          have e0 : pvS S i (ln S i) (nI 1) 0 = -1 := rfl
          have ne : ¬ nI l = (-1 : Int32) := neg_ne (n := 1) (by omega) (by omega) (by omega)
          rw [e0]
          simp only [ne, decide_false, Bool.not_false, if_true]
          by_cases hqp : q = p
          · have h2 : ¬ q < p := by omega
            simp only [hqp, decide_true, if_true, Nat.lt_irrefl, decide_false, Bool.false_eq_true, if_false]
            try omega
          · have h2 : q < p := by omega
            simp only [hqp, h2, decide_true, if_true, decide_false, Bool.false_eq_true, if_false]
            try omega
        · rw [hprev hk0, if_neg hk0, hpk hk0]
          by_cases hsame : nI l = S (40 * i + (p + 1))
          · obtain ⟨b3, b4⟩ := ld_B (x := x) hN hL (by omega : p + 1 < 40) c1 hsame.symm c3
            have h3 : q < p + 1 := by omega
            rw [b4]
            simp only [hsame, decide_true, Bool.not_true, Bool.false_eq_true, if_false, hx, h3, Bool.and_self, if_true]
            by_cases hqp : q = p
            · simp only [hqp, decide_true, if_true, Nat.lt_irrefl, decide_false, Bool.false_eq_true, if_false]
              try omega
            · have h2 : q < p := by omega
              simp only [hqp, h2, decide_true, if_true, decide_false, Bool.false_eq_true, if_false]
              try omega
          · have hm : midB S i x (p + 1) = false := by
              rcases hC i (p + 1) hi (by omega) with hd | hd | ⟨l', q', d1, d2, d3, d4, d5⟩
              · exact (no_B (by rw [hd]; exact u1)).2
              · exact (no_B (by rw [hd.1]; exact u2)).2
              · rw [(ld_B (x := x) hN hL (by omega : p + 1 < 40) d1 d2 d3).2]
                have : ¬ q' < p + 1 := by
                  intro hlt
                  have := d3.at (p := p) (by omega) (by omega)
                  rw [c2] at this
                  rw [← this] at d2
                  exact hsame d2.symm
                simp only [this, decide_false, Bool.and_false]
            rw [hm]
            simp only [hsame, decide_false, Bool.not_false, if_true, Bool.false_eq_true, if_false]
            by_cases hqp : q = p
            · simp only [hqp, decide_true, if_true, Nat.lt_irrefl, decide_false, Bool.false_eq_true, if_false]
              try omega
            · have h2 : q < p := by omega
              simp only [hqp, h2, decide_true, if_true, decide_false, Bool.false_eq_true, if_false]
              try omega
      · simp only [hx, decide_false, Bool.false_and, Bool.and_false, Bool.false_eq_true, if_false]
        by_cases hk0 : k = 0
        · rw [if_pos hk0]
        · rw [if_neg hk0, hpk hk0]
          have hm : midB S i x (p + 1) = false := by
            rcases hC i (p + 1) hi (by omega) with hd | hd | ⟨l', q', d1, d2, d3, d4, d5⟩
            · exact (no_B (by rw [hd]; exact u1)).2
            · exact (no_B (by rw [hd.1]; exact u2)).2
            · rw [(ld_B (x := x) hN hL (by omega : p + 1 < 40) d1 d2 d3).2]
              by_cases hlt : q' < p + 1
              · have := d3.at (p := p) (by omega) (by omega)
                rw [c2, eq_nI (by omega) (by omega)] at this
                subst this
                simp only [hx, decide_false, Bool.false_and]
              · simp only [hlt, decide_false, Bool.and_false]
          rw [hm]
          simp only [Bool.false_eq_true, if_false]
    all_goals
      have hz : S (40 * i + p) < nI 0 := by first | (rw [hc]; exact u1) | (rw [hc.1]; exact u2)
      obtain ⟨b1, b2⟩ := no_B (x := x) hz
      have hqf : hq1 S i (ln S i) (nI 1) x k = false := by
        rw [hq]
        simp only [hz, decide_true, Bool.not_true, Bool.false_and]
      rw [hqf, b1, b2]
      by_cases hk0 : k = 0
      · simp only [hk0, Bool.false_eq_true, if_false, if_true]
      · rw [if_neg hk0, hpk hk0]
        have hm : midB S i x (p + 1) = false := by
          rcases hC i (p + 1) hi (by omega) with hd | hd | ⟨l', q', d1, d2, d3, d4, d5⟩
          · exact (no_B (by rw [hd]; exact u1)).2
          · exact (no_B (by rw [hd.1]; exact u2)).2
          · rw [(ld_B (x := x) hN hL (by omega : p + 1 < 40) d1 d2 d3).2]
            have : ¬ q' < p + 1 := by
              intro hlt
              have := d3.at (p := p) (by omega) (by omega)
              rw [this, lt_nI (by omega) (by omega)] at hz
              omega
            simp only [this, decide_false, Bool.and_false]
        rw [hm]
theorem hi1 {S : Nat → Int32} (hN : NmOk S) (hL : LnOk S) (hC : WfC S) {i a : Nat} {x : Int32} (hi : i < 20) (ha : a < ln S i) (h1 : deS S i (nI 1) x = nI (ln S i - 1 - a)) (h2 : lvP S i x a = true) : hiS S i (nI 1) x = cntR (stB S i x) a (ln S i - a) := by
  have hl := (hL i hi).2
  have n2 := hN.2
  unfold hiS dn
  rw [h1, cl_nI (by omega), hi1_k hN hL hC hi _ (by omega), cntR_rev _ _ _ (by omega)]
  have hst : stB S i x a = false := by
    unfold lvP lvB at h2
    unfold stB
    rw [Bool.and_eq_true] at h2
    have h3 := of_decide_eq_true h2.2
    rw [h3]
    have : ¬ x < x := Int32.lt_irrefl
    simp only [this, decide_false, Bool.false_and, Bool.and_false]
  have e1 : cntR (stB S i x) a (ln S i - a) = cntR (stB S i x) (a + 1) (ln S i - 1 - a) := by
    rw [show ln S i - a = ln S i - 1 - a + 1 by omega, cntR_front, hst]
    simp only [Bool.false_eq_true, if_false, Nat.zero_add]
  rw [e1, show ln S i - (ln S i - 1 - a) = a + 1 by omega]
  by_cases hk0 : ln S i - 1 - a = 0
  · rw [if_pos hk0, Nat.add_zero]
  · rw [if_neg hk0]
    have hm : midB S i x (a + 1) = false := by
      rcases hC i (a + 1) hi (by omega) with hd | hd | ⟨l', q', d1, d2, d3, d4, d5⟩
      · exact (no_B (by rw [hd]; exact u1)).2
      · exact (no_B (by rw [hd.1]; exact u2)).2
      · rw [(ld_B (x := x) hN hL (by omega : a + 1 < 40) d1 d2 d3).2]
        by_cases hlt : q' < a + 1
        · have := d3.at (p := a) (by omega) (by omega)
          unfold lvP lvB at h2
          rw [this, cl_nI (by omega), Bool.and_eq_true] at h2
          have h3 := of_decide_eq_true h2.2
          rw [h3]
          have : ¬ x < x := Int32.lt_irrefl
          simp only [this, decide_false, Bool.false_and]
        · simp only [hlt, decide_false, Bool.and_false]
    rw [hm]
    rfl
