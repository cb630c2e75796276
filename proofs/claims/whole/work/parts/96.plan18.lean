/-! THE PLANNER, 18: leaning, by falling ports -/
def sumL (f : Nat → Int64) : Nat → Int64
  | 0 => 0
  | k + 1 => sumL f k + f k
theorem sumL_congr {f g : Nat → Int64} : ∀ {n : Nat}, (∀ i, i < n → f i = g i) → sumL f n = sumL g n := by
  intro n
  induction n with
  | zero => intro _; rfl
  | succ n ih =>
    intro h
    show sumL f n + f n = sumL g n + g n
    rw [ih (fun i hi => h i (by omega)), h n (by omega)]
theorem sumL_zero {f : Nat → Int64} : ∀ {n : Nat}, (∀ i, i < n → f i = 0) → sumL f n = 0 := by
  intro n
  induction n with
  | zero => intro _; rfl
  | succ n ih =>
    intro h
    show sumL f n + f n = 0
    rw [ih (fun i hi => h i (by omega)), h n (by omega)]
    rfl
theorem sumL_cut {f : Nat → Int64} {i : Nat} : ∀ {n : Nat}, i ≤ n → (∀ x, i ≤ x → x < n → f x = 0) → sumL f n = sumL f i := by
  intro n
  induction n with
  | zero => intro h _; have : i = 0 := by omega
            rw [this]
  | succ n ih =>
    intro h1 h2
    rcases Nat.eq_or_lt_of_le h1 with e | e
    · rw [e]
    · show sumL f n + f n = _
      rw [ih (by omega) (fun x a b => h2 x a (by omega)), h2 n (by omega) (by omega), Int64.add_zero]
theorem sumL_upd {f g : Nat → Int64} {v : Int64} {j0 : Nat} : ∀ {n : Nat}, j0 < n → (∀ j, j < n → j ≠ j0 → g j = f j) → f j0 = 0 → g j0 = v → sumL g n = sumL f n + v := by
  intro n
  induction n with
  | zero => intro h; omega
  | succ n ih =>
    intro h1 h2 h3 h4
    show sumL g n + g n = sumL f n + f n + v
    by_cases e : j0 = n
    · subst e
      rw [h3, h4, sumL_congr (fun i hi => h2 i (by omega) (by omega)), Int64.add_zero]
    · rw [ih (by omega) (fun j hj hn => h2 j (by omega) hn) h3 h4, h2 n (by omega) (fun z => e z.symm)]
      rw [Int64.add_assoc, Int64.add_assoc, Int64.add_comm v]
/-- what load k weighs on the lean -/
def wkP (S : Nat → Int32) (th dk : Nat → Nat) (P : List (Nat × Nat)) (k : Nat) : Int64 := (unitS S (th k)).toInt64 * (S (860 + vL S th dk P k)).toInt64
section LE
variable {S : Nat → Int32} {n dl : Nat} {th dk : Nat → Nat} {P : List (Nat × Nat)}
theorem lt_sum (H : PlH S n dl th dk) (V : Vd S n dl th dk P) (hl : P.length = n) (g : Int32) : ltS (qS S th dk P) g (nm S) = sumL (fun k => if ptS S th k < g then 0 else wkP S th dk P k) n := by
  have K := V.pk H
  have n2 := H.wf.nm.2
  have A : ∀ q, q ≤ nm S → ltS (qS S th dk P) g q = sumL (fun k => if th k < q then (if ptS S th k < g then 0 else wkP S th dk P k) else 0) n := by
    intro q
    induction q with
    | zero => intro _; exact (sumL_zero (fun i _ => by rw [if_neg (Nat.not_lt_zero _)])).symm
    | succ q ih =>
      intro hq
      have I := ih (by omega)
      show (if qS S th dk P (3300 + q) = nI 1 ∧ ¬ qS S th dk P (2100 + q) < g then ltS (qS S th dk P) g q + (unitS (qS S th dk P) q).toInt64 * (qS S th dk P (860 + (qS S th dk P (3700 + q)).toNatClampNeg)).toInt64 else ltS (qS S th dk P) g q) = _
      rw [I]
      by_cases e : ∃ k, k < n ∧ q = th k
      · obtain ⟨k, hk, rfl⟩ := e
        obtain ⟨x, x1, x2⟩ := us_iff.1 (V.all hl hk)
        obtain ⟨y1, y2, -, -, y5⟩ := v_at H K x1
        have d1 := (H.dk _ (K.st x x1).2.1).1
        rw [x2] at y1 y2 y5
        have t4 := H.t4 hk
        rw [K.ag (2100 + th k) (by omega) (by omega), y2, cl_nI (by omega), K.ag.unit t4, K.ag (860 + dk x.2) (by omega) (by omega)]
        have same : ∀ k', k' < n → k' ≠ k → (if th k' < th k + 1 then (if ptS S th k' < g then 0 else wkP S th dk P k') else 0) = (if th k' < th k then (if ptS S th k' < g then 0 else wkP S th dk P k') else 0) := by
          intro k' hk' hne
          have : th k' ≠ th k := fun z => hne (H.inj hk' hk z)
          by_cases c : th k' < th k
          · rw [if_pos c, if_pos (by omega)]
          · rw [if_neg c, if_neg (by omega)]
        by_cases c : S (2100 + th k) < g
        · rw [if_neg (fun z => z.2 c)]
          refine sumL_congr (fun k' hk' => ?_)
          by_cases e : k' = k
          · rw [e, if_neg (Nat.lt_irrefl _), if_pos (by omega), if_pos (show ptS S th k < g from c)]
          · exact (same k' hk' e).symm
        · rw [if_pos ⟨y5.1, c⟩]
          refine (sumL_upd (j0 := k) hk same ?_ ?_).symm
          · rw [if_neg (Nat.lt_irrefl _)]
          · rw [if_pos (by omega), if_neg (show ¬ ptS S th k < g from c)]
            unfold wkP
            rw [y1]
      · have off := (K.off q (by omega) (fun x hx z => e ⟨x.1, (K.st x hx).1, z⟩)).1
        rw [if_neg (fun z => by rw [off] at z; exact H.ab q (by omega) z.1)]
        refine sumL_congr (fun k' hk' => ?_)
        have : th k' ≠ q := fun z => e ⟨k', hk', z.symm⟩
        by_cases c : th k' < q
        · have c' : th k' < q + 1 := by omega
          rw [if_pos c, if_pos c']
        · have c' : ¬ th k' < q + 1 := by omega
          rw [if_neg c, if_neg c']
  rw [A _ (Nat.le_refl _)]
  exact sumL_congr (fun k hk => by rw [if_pos (H.th k hk).1])
/-- sorted by falling ports, and each once -/
def FpV (C : Nat → Int32) (T : Nat → Int32) (n : Nat) (pi : Nat → Nat) : Prop := (∀ i, i < n → C i = nI (pi i) ∧ pi i < n) ∧ (∀ i i', i < i' → i' < n → ¬ T (pi i) < T (pi i')) ∧ ∀ f : Nat → Int64, sumL (fun i => f (pi i)) n = sumL f n
def paB (T : Nat → Int32) (n : Nat) (pi : Nat → Nat) (i : Nat) : Bool := decide (i + 1 = n) || !decide (T (pi (i + 1)) = T (pi i))
def lnF (T : Nat → Int32) (w : Nat → Int64) (L : Int64) (n : Nat) (pi : Nat → Nat) (i : Nat) : Bool := paB T n pi i && (decide (L < sumL (fun x => w (pi x)) (i + 1)) || decide (sumL (fun x => w (pi x)) (i + 1) < -L))
theorem fp_sum {C T : Nat → Int32} {pi : Nat → Nat} (h : FpV C T n pi) (w : Nat → Int64) {g : Int32} {i : Nat} (hi : i < n) (h1 : ¬ T (pi i) < g) (h2 : ∀ x, i < x → x < n → T (pi x) < g) : sumL (fun k => if T k < g then 0 else w k) n = sumL (fun x => w (pi x)) (i + 1) := by
  obtain ⟨-, a, b⟩ := h
  rw [← b (fun k => if T k < g then 0 else w k)]
  rw [sumL_cut (i := i + 1) (by omega) (fun x x1 x2 => by show (if T (pi x) < g then (0 : Int64) else _) = 0; rw [if_pos (h2 x (by omega) x2)])]
  refine sumL_congr (fun x hx => ?_)
  show (if T (pi x) < g then (0 : Int64) else w (pi x)) = w (pi x)
  rw [if_neg]
  rcases Nat.eq_or_lt_of_le (show x ≤ i by omega) with e | e
  · rw [e]; exact h1
  · intro z
    have := a x i e hi
    exact this (Int32.lt_of_lt_of_le z (Int32.not_lt.1 h1))
theorem lim_0 {L : Int64} (h : LmOk L) : ¬ L < 0 ∧ ¬ (0 : Int64) < -L := by
  refine ⟨h.1, ?_⟩
  obtain ⟨h1, h2⟩ := h
  rw [Int64.lt_iff_toInt_lt] at h1 h2 ⊢
  have z0 : (0 : Int64).toInt = 0 := by decide
  have z1 : (1000000000000 : Int64).toInt = 1000000000000 := by decide
  rw [z0] at h1 ⊢
  rw [z1] at h2
  rw [Int64.toInt_neg]
  have : (-L.toInt).bmod (2 ^ 64) = -L.toInt := by
    rw [Int.bmod_eq_of_le] <;> omega
  rw [this]
  omega
theorem last_ge {T : Nat → Int32} {pi : Nat → Nat} {g : Int32} : ∀ m, m ≤ n → (∀ x, m ≤ x → x < n → T (pi x) < g) → (∀ x, x < n → T (pi x) < g) ∨ ∃ i, i < n ∧ ¬ T (pi i) < g ∧ ∀ x, i < x → x < n → T (pi x) < g := by
  intro m
  induction m with
  | zero => intro _ h; exact Or.inl (fun x hx => h x (by omega) hx)
  | succ m ih =>
    intro hm h
    by_cases c : T (pi m) < g
    · exact ih (by omega) (fun x a b => by
        rcases Nat.eq_or_lt_of_le a with e | e
        · rw [← e]; exact c
        · exact h x (by omega) b)
    · exact Or.inr ⟨m, by omega, c, fun x a b => h x (by omega) b⟩
/-- it leans on a leg just where it leans where a port is passed -/
theorem ws_P (H : PlH S n dl th dk) (V : Vd S n dl th dk P) (hl : P.length = n) {L : Int64} (hL : LmOk L) {C : Nat → Int32} {pi : Nat → Nat} (h : FpV C (ptS S th) n pi) : wsB S L th dk P = !anyR (lnF (ptS S th) (wkP S th dk P) L n pi) 0 n := by
  have K := V.pk H
  obtain ⟨y1, y2, y3⟩ := dy_ok H.wf.y
  obtain ⟨l0, l1⟩ := lim_0 hL
  have le : ∀ q, q < (S 6503).toNatClampNeg → leanA (qS S th dk P) (nI q) = sumL (fun k => if ptS S th k < nI q then 0 else wkP S th dk P k) n := by
    intro q hq
    rw [lean_q (K.ag.y H.wf.y) (by rw [K.ag 6501 (by omega) (by omega)]; exact H.sea) (by rw [K.ag 6503 (by omega) (by omega)]; exact hq), K.nmE, lt_sum H V hl]
  have iff : (fstR (leB (qS S th dk P) L) (S 6503).toNatClampNeg 0 = none) ↔ anyR (lnF (ptS S th) (wkP S th dk P) L n pi) 0 n = false := by
    rw [fstR_none, anyR_no]
    constructor
    · intro hq i _ hi
      cases e : lnF (ptS S th) (wkP S th dk P) L n pi i with
      | false => rfl
      | true =>
        exfalso
        unfold lnF at e
        rw [Bool.and_eq_true] at e
        obtain ⟨e1, e2⟩ := e
        obtain ⟨g0, g1, g2⟩ := H.po _ (h.1 i (by omega)).2
        change ptS S th (pi i) = nI g0 at g2
        have A := fp_sum h (wkP S th dk P) (g := nI g0) (i := i) (by omega) (by rw [g2]; exact Int32.lt_irrefl) (fun x x1 x2 => by
          unfold paB at e1
          rw [Bool.or_eq_true] at e1
          have ne : ¬ ptS S th (pi (i + 1)) = ptS S th (pi i) := by
            rcases e1 with z | z
            · exact absurd (of_decide_eq_true z) (by omega)
            · intro w
              rw [decide_eq_true w] at z
              cases z
          have b1 := h.2.1 i (i + 1) (by omega) (by omega)
          have lt1 : ptS S th (pi (i + 1)) < nI g0 := by
            rw [← g2]
            rcases Int32.lt_or_eq_of_le (Int32.not_lt.1 b1) with w | w
            · exact w
            · exact absurd w ne
          rcases Nat.eq_or_lt_of_le (show i + 1 ≤ x by omega) with w | w
          · rw [← w]; exact lt1
          · exact Int32.lt_of_le_of_lt (Int32.not_lt.1 (h.2.1 (i + 1) x w x2)) lt1)
        have z := hq g0 (by omega) (by omega)
        unfold leB at z
        rw [le g0 g1, A, e2] at z
        cases z
    · intro hq q _ hq2
      cases e : leB (qS S th dk P) L q with
      | false => rfl
      | true =>
        exfalso
        unfold leB at e
        rw [le q (by omega)] at e
        rcases last_ge (T := ptS S th) (pi := pi) (g := nI q) n (Nat.le_refl _) (fun x a b => by omega) with z | ⟨i, i1, i2, i3⟩
        · rw [← h.2.2 (fun k => if ptS S th k < nI q then 0 else wkP S th dk P k), sumL_zero (fun i hi => by show (if ptS S th (pi i) < nI q then (0 : Int64) else _) = 0; rw [if_pos (z i hi)])] at e
          rw [decide_eq_false l0, decide_eq_false l1] at e
          cases e
        · rw [fp_sum h (wkP S th dk P) i1 i2 i3] at e
          have w := hq i (by omega) (by omega)
          unfold lnF paB at w
          rw [e, Bool.and_true, Bool.or_eq_false_iff] at w
          have n1 := of_decide_eq_false w.1
          have eq : ptS S th (pi (i + 1)) = ptS S th (pi i) := by
            by_cases c : ptS S th (pi (i + 1)) = ptS S th (pi i)
            · exact c
            · have := w.2
              rw [decide_eq_false c] at this
              cases this
          have := i3 (i + 1) (by omega) (by omega)
          rw [eq] at this
          exact i2 this
  unfold wsB
  cases e : anyR (lnF (ptS S th) (wkP S th dk P) L n pi) 0 n with
  | false => rw [iff.2 e]; rfl
  | true =>
    cases f : fstR (leB (qS S th dk P) L) (S 6503).toNatClampNeg 0 with
    | none => rw [iff.1 f] at e; cases e
    | some x => rfl
end LE
