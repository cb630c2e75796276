/-! wouldBeNext against wouldMeetFoe -/
theorem kcB_iff {S : Nat → Int32} (hN : NmOk S) (hC : WfC S) {j p : Nat} {kd : Int32} (hj : j < 20) (hp : p < 40) : kcB S j p kd = true ↔ ∃ o q, o < nm S ∧ StA S o j q ∧ q ≤ p ∧ p < q + spanS S o ∧ S (900 + o) = kd := by
  have n2 := hN.2
  unfold kcB
  constructor
  · intro h
    rw [Bool.and_eq_true] at h
    rcases hC j p hj hp with q | ⟨q, -⟩ | ⟨o, q, a1, a2, a3, a4, a5⟩
    · rw [q, decide_eq_true u1] at h; exact absurd h.1 (by decide)
    · rw [q, decide_eq_true u2] at h; exact absurd h.1 (by decide)
    · rw [a2, cl_nI (by omega)] at h
      exact ⟨o, q, a1, a3, a4, a5, of_decide_eq_true h.2⟩
  · rintro ⟨o, q, a1, a3, a4, a5, a6⟩
    have z : ¬ nI o < nI 0 := by rw [lt_nI (by omega) (by omega)]; omega
    rw [a3.at a4 a5, cl_nI (by omega), decide_eq_false z, decide_eq_true a6]
    rfl
theorem nb1_iff {S : Nat → Int32} {l i q o : Nat} {kd : Int32} : nb1 S l i q kd o = true ↔ S (3300 + o) = nI 1 ∧ S (900 + o) = kd ∧ ∃ k, k < spanS S l ∧ ∃ j, j < spanS S o ∧ nx i (q + k) (S (3700 + o)).toNatClampNeg ((S (4100 + o)).toNatClampNeg + j) = true := by
  unfold nb1
  rw [Bool.and_eq_true, Bool.and_eq_true, anyR_iff, decide_eq_true_eq, decide_eq_true_eq]
  constructor
  · rintro ⟨a, b, k, -, k1, k2⟩
    rw [anyR_iff] at k2
    obtain ⟨j, -, j1, j2⟩ := k2
    exact ⟨a, b, k, by omega, j, by omega, j2⟩
  · rintro ⟨a, b, k, k1, j, j1, j2⟩
    exact ⟨a, b, k, by omega, by omega, (anyR_iff _ _ _).mpr ⟨j, by omega, by omega, j2⟩⟩
theorem nx_iff {i p j q : Nat} : nx i p j q = true ↔ (i = j ∧ (p + 1 = q ∨ q + 1 = p)) ∨ (p = q ∧ (i + 1 = j ∨ j + 1 = i)) := by
  unfold nx
  rw [decide_eq_true_eq]
  split <;> split <;> omega
theorem wb_eq {S : Nat → Int32} {l i q : Nat} {kd : Int32} (hN : NmOk S) (hL : LnOk S) (hW : WfW S) (hC : WfC S) (hi : i < 20) (hq : q + spanS S l ≤ 40) (he : EmR S l i q) : wbS S l i q kd = fmB S i q (spanS S l) kd := by
  have n2 := hN.2
  have sl := spanS_le S l
  rw [Bool.eq_iff_iff]
  unfold wbS fmB edB
  rw [anyR_iff, Bool.or_eq_true, Bool.or_eq_true, Bool.and_eq_true, Bool.and_eq_true, anyR_iff]
  constructor
  · rintro ⟨o, -, o1, o2⟩
    obtain ⟨b1, b2, k, k1, j, j1, j2⟩ := nb1_iff.mp o2
    have o1 : o < nm S := by omega
    rcases hW o o1 with ⟨z, -⟩ | ⟨i2, q2, s⟩
    · rw [b1] at z; exfalso; revert z; decide
    have s4 := s.2.2.2.1
    have s6 := s.2.2.2.2.2.1
    have l2 := (hL i2 s4).2
    rw [s.2.1, s.2.2.1, cl_nI (by omega), cl_nI (by omega)] at j2
    have hk : kcB S i2 (q2 + j) kd = true := (kcB_iff hN hC s4 (by omega)).mpr ⟨o, q2, o1, s, by omega, by omega, b2⟩
    have hcell : S (40 * i2 + (q2 + j)) = nI o := s.at (by omega) (by omega)
    rcases nx_iff.mp j2 with ⟨c1, c2⟩ | ⟨c1, c2⟩
    · subst c1
      have hout : q2 + j < q ∨ q + spanS S l ≤ q2 + j := by
        by_cases hin : q ≤ q2 + j ∧ q2 + j < q + spanS S l
        · exfalso
          have e := he (q2 + j - q) (by omega)
          rw [show 40 * i + q + (q2 + j - q) = 40 * i + (q2 + j) by omega, hcell] at e
          exact ne_m1 (by omega) e
        · omega
      left
      rcases hout with h | h
      · left
        have e : q2 + j = q - 1 := by omega
        rw [e] at hk
        exact ⟨by rw [decide_eq_false (by omega)]; rfl, hk⟩
      · right
        have e : q2 + j = q + spanS S l := by omega
        rw [e] at hk
        exact ⟨decide_eq_true (by omega), hk⟩
    · right
      refine ⟨q + k, by omega, by omega, ?_⟩
      unfold sdB
      rw [Bool.or_eq_true, Bool.and_eq_true, Bool.and_eq_true]
      rw [← c1] at hk
      rcases c2 with c2 | c2
      · right
        rw [c2]
        exact ⟨by rw [decide_eq_false (by omega)]; rfl, hk⟩
      · left
        rw [show i - 1 = i2 by omega]
        exact ⟨by rw [decide_eq_false (by omega)]; rfl, hk⟩
  · have mk : ∀ (j p k : Nat), j < 20 → p < 40 → k < spanS S l → kcB S j p kd = true → nx i (q + k) j p = true → ∃ o, 0 ≤ o ∧ o < 0 + nm S ∧ nb1 S l i q kd o = true := by
      intro j p k hj hp hk hc hx
      obtain ⟨o, q2, a1, s, a4, a5, a6⟩ := (kcB_iff hN hC hj hp).mp hc
      have s6 := s.2.2.2.2.2.1
      have l2 := (hL j hj).2
      refine ⟨o, by omega, by omega, nb1_iff.mpr ⟨s.1, a6, k, hk, p - q2, by omega, ?_⟩⟩
      rw [s.2.1, s.2.2.1, cl_nI (by omega), cl_nI (by omega), show q2 + (p - q2) = p by omega]
      exact hx
    rintro ((⟨a, b⟩ | ⟨a, b⟩) | ⟨p, p1, p2, c⟩)
    · have hq0 : ¬ q = 0 := fun e => by rw [decide_eq_true e] at a; cases a
      exact mk i (q - 1) 0 hi (by omega) (by omega) b (nx_iff.mpr (Or.inl ⟨rfl, by omega⟩))
    · have hq0 := of_decide_eq_true a
      exact mk i (q + spanS S l) (spanS S l - 1) hi hq0 (by omega) b (nx_iff.mpr (Or.inl ⟨rfl, by omega⟩))
    · unfold sdB at c
      rw [Bool.or_eq_true, Bool.and_eq_true, Bool.and_eq_true] at c
      rcases c with ⟨a, b⟩ | ⟨a, b⟩
      · have hq0 : ¬ i = 0 := fun e => by rw [decide_eq_true e] at a; cases a
        exact mk (i - 1) p (p - q) (by omega) (by omega) (by omega) b (nx_iff.mpr (Or.inr ⟨by omega, by omega⟩))
      · have hq0 : ¬ i = 19 := fun e => by rw [decide_eq_true e] at a; cases a
        exact mk (i + 1) p (p - q) (by omega) (by omega) (by omega) b (nx_iff.mpr (Or.inr ⟨by omega, by omega⟩))
theorem fo_eq {S : Nat → Int32} {l i q : Nat} (hN : NmOk S) (hL : LnOk S) (hW : WfW S) (hC : WfC S) (hi : i < 20) (hq : q + spanS S l ≤ 40) (he : EmR S l i q) : foS S l i q = if foK (S (900 + l)) = -1 then false else fmB S i q (spanS S l) (foK (S (900 + l))) := by
  unfold foS foK
  rw [wb_eq hN hL hW hC hi hq he, wb_eq hN hL hW hC hi hq he]
  by_cases h3 : S (900 + l) = nI 3
  · have h5 : ¬ S (900 + l) = nI 5 := by rw [h3]; decide
    rw [if_pos h3, if_neg (by decide), decide_eq_true h3, decide_eq_false h5]
    rfl
  · by_cases h5 : S (900 + l) = nI 5
    · rw [if_neg h3, if_pos h5, if_neg (by decide), decide_eq_true h5, decide_eq_false h3, Bool.false_and, Bool.or_false]
      rfl
    · rw [if_neg h3, if_neg h5, if_pos rfl, decide_eq_false h5, decide_eq_false h3]
      rfl
theorem wayN_congr {f g : Nat → Bool} : ∀ k n, (∀ q, n ≤ q → q < n + k → f q = g q) → wayN f k n = wayN g k n := by
  intro k
  induction k with
  | zero => intro n _; rfl
  | succ k ih =>
    intro n h
    unfold wayN
    rw [h n (by omega) (by omega), ih (n + 1) (fun q h1 h2 => h q (by omega) (by omega))]
theorem wayN_true {f : Nat → Bool} : ∀ k n q, n ≤ q → q < wayN f k n → f q = true := by
  intro k
  induction k with
  | zero => intro n q h1 h2; unfold wayN at h2; omega
  | succ k ih =>
    intro n q h1 h2
    unfold wayN at h2
    cases hf : f n with
    | true =>
      rw [hf, if_pos rfl] at h2
      by_cases hq : q = n
      · rw [hq]; exact hf
      · exact ih (n + 1) q (by omega) h2
    | false => rw [hf, if_neg (by decide)] at h2; omega
theorem wayN_end {f : Nat → Bool} : ∀ k n, wayN f k n < n + k → f (wayN f k n) = false := by
  intro k
  induction k with
  | zero => intro n h; unfold wayN at h; omega
  | succ k ih =>
    intro n h
    unfold wayN at h ⊢
    cases hf : f n with
    | true =>
      rw [hf, if_pos rfl] at h
      rw [if_pos rfl]
      exact ih (n + 1) (by omega)
    | false => rw [if_neg (by decide)]; exact hf
/-- the places that a load would take are empty -/
theorem pl_em {S : Nat → Int32} {l i : Nat} {e : Int32} (he : okE e) (hs : spanS S l ≤ wayS S i e) : EmR S l i (plS S l i e) := by
  have w1 := wayS_le S i e
  intro k hk
  have key : ∀ q, q < wayS S i e → dpS S i (ln S i) e q = -1 := fun q hq => of_decide_eq_true (wayN_true (f := fun q => decide (dpS S i (ln S i) e q = -1)) (ln S i) 0 q (by omega) hq)
  unfold plS
  rcases he with rfl | rfl
  · rw [if_pos rfl]
    have := key (wayS S i (nI 0) - spanS S l + k) (by omega)
    rw [dp0] at this
    rw [← this]
    congr 1
    omega
  · rw [if_neg (by decide)]
    have := key (wayS S i (nI 1) - 1 - k) (by omega)
    rw [dp1] at this
    rw [← this]
    congr 1
    omega
theorem drive_eqU {S : Nat → Int32} {l i q : Nat} (hN : NmOk S) (hl : l < nm S) (hi : i < 20) (hq : q + spanS S l ≤ 40) (he : EmR S l i q) (h1 : S (3300 + l) = nI 0) (h2 : S (3700 + l) = -1) (h3 : S (4100 + l) = -1) : EqU S (takeS (putS S l i q) l (nI 0) i q) := by
  have n2 := hN.2
  have ag := putS_ag (S := S) (l := l) (i := i) (q := q) (by omega) hi hq
  have sp := ag.span (l := l) (by omega)
  have ag2 := takeS_ag (S := putS S l i q) (l := l) (i := i) (q := q) (w := nI 0) (by omega) hi (by rw [sp]; exact hq)
  refine ⟨by rw [ag2.nmE, ag.nmE]; exact Nat.le_refl _, fun y hy => ?_⟩
  by_cases e1 : y = 3300 + l
  · rw [e1, takeS_1 (by omega), h1]
  by_cases e2 : y = 3700 + l
  · rw [e2, takeS_2 (by omega), h2]
  by_cases e3 : y = 4100 + l
  · rw [e3, takeS_3, h3]
  by_cases hr : 40 * i + q ≤ y ∧ y < 40 * i + q + spanS S l
  · rw [takeS_in (by omega) (by rw [sp]; exact hr)]
    have := he (y - (40 * i + q)) (by omega)
    rw [show 40 * i + q + (y - (40 * i + q)) = y by omega] at this
    exact this.symm
  · rw [takeS_off e1 e2 e3 (by rw [sp]; omega), putS_off e1 e2 e3 (by omega)]
theorem wf_drive {S : Nat → Int32} {l i q : Nat} (W : Wf S) (hl : l < nm S) (hi : i < 20) (ht : S (800 + i) = nI 1) (hs : ¬ S 6501 = nI 1) (h0 : S (3300 + l) = nI 0) (hq : q + spanS S l ≤ ln S i) (he : EmR S l i q) : Wf (drS S l i q) := by
  have n2 := W.nm.2
  have l2 := (W.ln i hi).2
  have ag := putS_ag (S := S) (l := l) (i := i) (q := q) (by omega) hi (by omega)
  have hno : NoA S l := by
    rcases W.w l hl with h | ⟨i', q', h⟩
    · exact h
    · rw [h.1] at h0; exact absurd h0 (by decide)
  have st := put_st (S := S) (q := q) (by omega : l < 400) hi ht W.ln hq
  refine W.act ag (put_W W.nm W.ln W.w hl hi ht hq he) (put_C W.nm W.ln W.c hl (by rw [h0]; decide) hi ht hq he) ?_ ?_ hs
  · exact Or.inl ⟨rfl, l, i, q, by rw [ag.nmE]; exact hl, rfl, st⟩
  · rw [unS_1, cl_nI (by omega), st.2.1, st.2.2.1, cl_nI (by omega), cl_nI (by omega)]
    exact drive_eqU W.nm hl hi (by omega) he h0 hno.2.1 hno.2.2
