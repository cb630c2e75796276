/-! THE PLANNER, 16: a lane's cost, as the class counts it -/
def OL (O : Nat → Nat) (f : Nat) : List Nat → Prop
  | [] => True
  | k :: r => O (f + r.length) = k ∧ OL O f r
def FA (T : Nat → Int32) (O : Nat → Nat) (g : Int32) (i : Nat) : Bool := decide (T (O i) = g)
def FB (T : Nat → Int32) (O : Nat → Nat) (g : Int32) (i : Nat) : Bool := decide (g < T (O i))
def laF (F : Nat → Bool) (f : Nat) : Nat → Nat
  | 0 => f
  | u + 1 => if F (f + u) = true then f + u else laF F f u
theorem laF_le (F : Nat → Bool) (f : Nat) : ∀ u, f ≤ laF F f u ∧ laF F f u ≤ f + u := by
  intro u
  induction u with
  | zero => exact ⟨Nat.le_refl _, Nat.le_refl _⟩
  | succ u ih =>
    show f ≤ (if F (f + u) = true then f + u else laF F f u) ∧ (if F (f + u) = true then f + u else laF F f u) ≤ f + (u + 1)
    split <;> omega
def cE (T : Nat → Int32) (O : Nat → Nat) (f N v : Nat) : Nat := cntR (FB T O (T (O (f + v)))) (f + v + 1) (N - (v + 1))
def cW (T : Nat → Int32) (O : Nat → Nat) (f N v : Nat) : Nat := cntR (FB T O (T (O (f + v)))) f (laF (FA T O (T (O (f + v)))) (f + v) (N - v) - f)
def trm (T : Nat → Int32) (O : Nat → Nat) (b : Bool) (f N v : Nat) : Nat := if cntR (FA T O (T (O (f + v)))) f v = 0 then (if b = true then min (cE T O f N v) (cW T O f N v) else cE T O f N v) else 0
section LC
variable {T : Nat → Int32} {O : Nat → Nat} {f : Nat}
theorem FA_hp : ∀ {s : List Nat} {g : Int32}, OL O f s → (cntR (FA T O g) f s.length = 0 ↔ hpB T s g = false) := by
  intro s
  induction s with
  | nil => intro g _; exact ⟨fun _ => rfl, fun _ => rfl⟩
  | cons k r ih =>
    intro g ⟨h1, h2⟩
    rw [List.length_cons, hpB_cons]
    show cntR (FA T O g) f r.length + (if FA T O g (f + r.length) then 1 else 0) = 0 ↔ _
    have e : FA T O g (f + r.length) = decide (T k = g) := by unfold FA; rw [h1]
    rw [e, Bool.or_eq_false_iff, ← ih h2]
    by_cases c : T k = g
    · rw [decide_eq_true c]
      constructor
      · intro z; simp at z
      · rintro ⟨z, -⟩; cases z
    · rw [decide_eq_false c]
      constructor
      · intro z; exact ⟨rfl, by simpa using z⟩
      · rintro ⟨-, z⟩; simpa using z
theorem FB_cB : ∀ {s : List Nat} {g : Int32}, OL O f s → cntR (FB T O g) f s.length = cB T s g := by
  intro s
  induction s with
  | nil => intro g _; rfl
  | cons k r ih =>
    intro g ⟨h1, h2⟩
    rw [List.length_cons]
    show cntR (FB T O g) f r.length + (if FB T O g (f + r.length) then 1 else 0) = cB T r g + (if g < T k then 1 else 0)
    rw [ih h2]
    have e : FB T O g (f + r.length) = decide (g < T k) := by unfold FB; rw [h1]
    rw [e]
    congr 1
    by_cases c : g < T k
    · rw [decide_eq_true c, if_pos c]; rfl
    · rw [decide_eq_false c, if_neg c]; rfl
theorem OL_get : ∀ {s : List Nat} {v : Nat}, OL O f s → v < s.length → hpB T s (T (O (f + v))) = true := by
  intro s
  induction s with
  | nil => intro v _ h; exact absurd h (Nat.not_lt_zero _)
  | cons k r ih =>
    intro v ⟨h1, h2⟩ hv
    rw [hpB_cons]
    rw [List.length_cons] at hv
    by_cases e : v = r.length
    · rw [e, h1, decide_eq_true rfl]; rfl
    · rw [ih h2 (by omega), Bool.or_true]
/-- at the first of its port the class counts what hinders -/
theorem c_first : ∀ {s : List Nat} {v : Nat}, OL O f s → v < s.length → cntR (FA T O (T (O (f + v)))) f v = 0 → cE T O f s.length v = hE T s (T (O (f + v))) ∧ cW T O f s.length v = hF T s (T (O (f + v))) := by
  intro s
  induction s with
  | nil => intro v _ h; exact absurd h (Nat.not_lt_zero _)
  | cons k r ih =>
    intro v ⟨h1, h2⟩ hv hf
    rw [List.length_cons] at hv
    by_cases e : v = r.length
    · subst e
      have g : T (O (f + r.length)) = T k := by rw [h1]
      rw [(FA_hp h2)] at hf
      rw [g] at hf
      refine ⟨?_, ?_⟩
      · unfold cE
        rw [List.length_cons, show r.length + 1 - (r.length + 1) = 0 by omega, g]
        show 0 = (if hpB T r (T k) = true then _ else 0)
        rw [hf, if_neg (by decide)]
      · unfold cW
        rw [List.length_cons, show r.length + 1 - r.length = 1 by omega, g]
        have l : laF (FA T O (T k)) (f + r.length) 1 = f + r.length := by
          show (if FA T O (T k) (f + r.length + 0) = true then f + r.length + 0 else f + r.length) = _
          split <;> rfl
        rw [l, show f + r.length - f = r.length by omega, FB_cB h2]
        show _ = (if T k = T k then cB T r (T k) else _)
        rw [if_pos rfl]
    · obtain ⟨i1, i2⟩ := ih h2 (by omega) hf
      have hp := OL_get (T := T) h2 (show v < r.length by omega)
      generalize hg : T (O (f + v)) = g at *
      refine ⟨?_, ?_⟩
      · show _ = (if hpB T r g = true then hE T r g + (if g < T k then 1 else 0) else 0)
        rw [if_pos hp, ← i1]
        unfold cE
        rw [hg, List.length_cons, show r.length + 1 - (v + 1) = (r.length - (v + 1)) + 1 by omega]
        show cntR (FB T O g) (f + v + 1) (r.length - (v + 1)) + (if FB T O g (f + v + 1 + (r.length - (v + 1))) then 1 else 0) = _
        rw [show f + v + 1 + (r.length - (v + 1)) = f + r.length by omega]
        have eb : FB T O g (f + r.length) = decide (g < T k) := by unfold FB; rw [h1]
        rw [eb]
        congr 1
        by_cases c : g < T k
        · rw [decide_eq_true c, if_pos c]; rfl
        · rw [decide_eq_false c, if_neg c]; rfl
      · unfold cW at i2 ⊢
        rw [hg] at i2 ⊢
        rw [List.length_cons, show r.length + 1 - v = (r.length - v) + 1 by omega]
        have l : laF (FA T O g) (f + v) (r.length - v + 1) = if T k = g then f + r.length else laF (FA T O g) (f + v) (r.length - v) := by
          show (if FA T O g (f + v + (r.length - v)) = true then f + v + (r.length - v) else laF (FA T O g) (f + v) (r.length - v)) = _
          rw [show f + v + (r.length - v) = f + r.length by omega]
          have ea : FA T O g (f + r.length) = decide (T k = g) := by unfold FA; rw [h1]
          rw [ea]
          by_cases c : T k = g
          · rw [decide_eq_true c, if_pos c, if_pos rfl]
          · rw [decide_eq_false c, if_neg c, if_neg (by decide)]
        rw [l]
        show _ = (if T k = g then cB T r g else hF T r g)
        by_cases c : T k = g
        · rw [if_pos c, if_pos c, show f + r.length - f = r.length by omega, FB_cB h2]
        · rw [if_neg c, if_neg c]
          exact i2
theorem sum_first {D : Nat} (c : Int32 → Nat) (hD : D ≤ 12) : ∀ {s : List Nat}, OL O f s → (∀ k, k ∈ s → ∃ p, p < D ∧ T k = nI p) → sumN (fun v => if cntR (FA T O (T (O (f + v)))) f v = 0 then c (T (O (f + v))) else 0) s.length = sumN (fun p => if hpB T s (nI p) = true then c (nI p) else 0) D := by
  intro s
  induction s with
  | nil =>
    intro _ _
    exact (sumN_zero (fun i hi => by show (if false = true then _ else 0) = 0; rw [if_neg (by decide)])).symm
  | cons k r ih =>
    intro ⟨h1, h2⟩ hp
    obtain ⟨p0, p1, p2⟩ := hp k List.mem_cons_self
    have I := ih h2 (fun x hx => hp x (List.mem_cons_of_mem _ hx))
    rw [List.length_cons]
    show sumN _ r.length + (if cntR (FA T O (T (O (f + r.length)))) f r.length = 0 then c (T (O (f + r.length))) else 0) = _
    rw [I, h1]
    have hr : ∀ p, hpB T (k :: r) (nI p) = (decide (T k = nI p) || hpB T r (nI p)) := fun p => rfl
    by_cases z : hpB T r (T k) = true
    · rw [if_neg (fun q => by rw [FA_hp h2, z] at q; cases q), Nat.add_zero]
      refine sumN_congr (fun p hp' => ?_)
      rw [hr]
      by_cases e : T k = nI p
      · rw [← e, z, Bool.or_true]
      · rw [decide_eq_false e, Bool.false_or]
    · have z' : hpB T r (T k) = false := by revert z; cases hpB T r (T k) <;> simp
      rw [if_pos ((FA_hp h2).2 z')]
      refine (sumN_upd (j0 := p0) p1 (fun p hp' hne => ?_) ?_ ?_).symm
      · rw [hr, decide_eq_false (fun e => by
          rw [p2, eq_nI (by omega) (by omega)] at e
          exact hne e.symm), Bool.false_or]
      · rw [← p2, z', if_neg (by decide)]
      · rw [hr, ← p2, decide_eq_true rfl, Bool.true_or, if_pos rfl]
end LC
/-! and of the order of driving -/
def oP : List (Nat × Nat) → Nat → Nat
  | [], _ => 0
  | c :: P, i => if i = P.length then c.1 else oP P i
theorem OrO.get {C : Nat → Int32} : ∀ {P : List (Nat × Nat)} {i : Nat}, OrO C P → i < P.length → C i = nI (oP P i) := by
  intro P
  induction P with
  | nil => intro i _ h; exact absurd h (Nat.not_lt_zero _)
  | cons c P ih =>
    intro i ⟨h1, h2⟩ hi
    rw [List.length_cons] at hi
    show _ = nI (if i = P.length then c.1 else oP P i)
    by_cases e : i = P.length
    · rw [if_pos e, e]; exact h1
    · rw [if_neg e]; exact ih h2 (by omega)
section LP
variable {S : Nat → Int32} {n dl : Nat} {th dk : Nat → Nat} {P : List (Nat × Nat)}
theorem oP_lt : ∀ {P : List (Nat × Nat)} {i : Nat}, Vd S n dl th dk P → i < P.length → oP P i < n := by
  intro P
  induction P with
  | nil => intro i _ h; exact absurd h (Nat.not_lt_zero _)
  | cons c P ih =>
    intro i V hi
    rw [List.length_cons] at hi
    show (if i = P.length then c.1 else oP P i) < n
    by_cases e : i = P.length
    · rw [if_pos e]; exact V.2.1
    · rw [if_neg e]; exact ih V.1 (by omega)
theorem sg_OL {j : Nat} : ∀ {P : List (Nat × Nat)}, Vd S n dl th dk P → (∀ x, x ∈ P → x.2 ≤ j) → stQ P j + (sgP P j).length = P.length ∧ ∀ O, (∀ i, i < P.length → O i = oP P i) → OL O (stQ P j) (sgP P j) := by
  intro P
  induction P with
  | nil => intro _ _; exact ⟨rfl, fun _ _ => trivial⟩
  | cons c P ih =>
    intro V hx
    have hc := hx c List.mem_cons_self
    by_cases e : c.2 = j
    · obtain ⟨i1, i2⟩ := ih V.1 (fun x h => hx x (List.mem_cons_of_mem _ h))
      have es : stQ (c :: P) j = stQ P j := by
        show stQ P j + (if c.2 < j then 1 else 0) = _
        rw [if_neg (by omega), Nat.add_zero]
      have eg : sgP (c :: P) j = c.1 :: sgP P j := by
        show (if c.2 = j then c.1 :: sgP P j else sgP P j) = _
        rw [if_pos e]
      rw [es, eg]
      refine ⟨by rw [List.length_cons, List.length_cons]; omega, fun O hO => ⟨?_, i2 O (fun i hi => ?_)⟩⟩
      · rw [i1, hO _ (by rw [List.length_cons]; omega)]
        show (if P.length = P.length then c.1 else _) = _
        rw [if_pos rfl]
      · rw [hO i (by rw [List.length_cons]; omega)]
        show (if i = P.length then c.1 else oP P i) = _
        rw [if_neg (by omega)]
    · have lt : ∀ x, x ∈ c :: P → x.2 < j := fun x h => by
        rcases List.mem_cons.1 h with z | z
        · rw [z]; omega
        · have := (V.2.2.2.1 x z).2
          omega
      have em : ∀ {Q : List (Nat × Nat)}, (∀ x, x ∈ Q → x.2 < j) → sgP Q j = [] := by
        intro Q
        induction Q with
        | nil => intro _; rfl
        | cons q Q ih =>
          intro h
          show (if q.2 = j then q.1 :: sgP Q j else sgP Q j) = []
          have := h q List.mem_cons_self
          rw [if_neg (by omega)]
          exact ih (fun x hx => h x (List.mem_cons_of_mem _ hx))
      rw [em lt, (st_all lt).1]
      exact ⟨rfl, fun _ _ => trivial⟩
theorem sg_mem {j k : Nat} : ∀ {P : List (Nat × Nat)}, k ∈ sgP P j → (k, j) ∈ P := by
  intro P
  induction P with
  | nil => intro h; exact absurd h (List.not_mem_nil)
  | cons c P ih =>
    intro h
    change k ∈ (if c.2 = j then c.1 :: sgP P j else sgP P j) at h
    by_cases e : c.2 = j
    · rw [if_pos e] at h
      rcases List.mem_cons.1 h with z | z
      · rw [z, ← e]; exact List.mem_cons_self
      · exact List.mem_cons_of_mem _ (ih z)
    · rw [if_neg e] at h
      exact List.mem_cons_of_mem _ (ih h)
/-- the class's sum is the lane's cost -/
theorem cost_P (H : PlH S n dl th dk) (V : Vd S n dl th dk P) {j : Nat} (hx : ∀ x, x ∈ P → x.2 ≤ j) : sumN (trm (ptS S th) (oP P) (decide (S (880 + dk j) = nI 3)) (stQ P j) (sgP P j).length) (sgP P j).length = lcP S th dk P j := by
  obtain ⟨h1, h2⟩ := sg_OL V hx
  have ol := h2 (oP P) (fun _ _ => rfl)
  obtain ⟨y1, y2, y3⟩ := dy_ok H.wf.y
  unfold lcP
  rw [← sum_first (T := ptS S th) (conP S th dk P j) y3 ol (fun k hk => H.po k (V.pk H |>.st _ (sg_mem hk)).1)]
  refine sumN_congr (fun v hv => ?_)
  unfold trm
  by_cases c : cntR (FA (ptS S th) (oP P) (ptS S th (oP P (stQ P j + v)))) (stQ P j) v = 0
  · rw [if_pos c, if_pos c]
    obtain ⟨a, b⟩ := c_first ol hv c
    rw [a, b]
    unfold conP
    by_cases e : S (880 + dk j) = nI 3
    · rw [decide_eq_true e, if_pos rfl, if_pos e]
    · rw [decide_eq_false e, if_neg (by decide), if_neg e]
  · rw [if_neg c, if_neg c]
end LP
