/-! THE PLANNER, 9: what is planned; the model's refusals -/
def fL (f : Nat → Bool) : Nat → List Nat
  | 0 => []
  | k + 1 => if f k = true then fL f k ++ [k] else fL f k
theorem fL_len (f : Nat → Bool) : ∀ k, (fL f k).length = cntR f 0 k := by
  intro k
  induction k with
  | zero => rfl
  | succ k ih =>
    show (if f k = true then fL f k ++ [k] else fL f k).length = cntR f 0 k + (if f (0 + k) then 1 else 0)
    rw [Nat.zero_add]
    by_cases c : f k = true
    · rw [if_pos c, if_pos c, List.length_append, ih]; rfl
    · rw [if_neg c, if_neg c, ih]; rfl
theorem fL_mem (f : Nat → Bool) {x : Nat} : ∀ k, x ∈ fL f k ↔ x < k ∧ f x = true := by
  intro k
  induction k with
  | zero => exact ⟨fun h => absurd h (List.not_mem_nil), fun h => absurd h.1 (Nat.not_lt_zero _)⟩
  | succ k ih =>
    show x ∈ (if f k = true then fL f k ++ [k] else fL f k) ↔ _
    by_cases c : f k = true
    · rw [if_pos c, List.mem_append, ih, List.mem_singleton]
      constructor
      · rintro (⟨a, b⟩ | a)
        · exact ⟨by omega, b⟩
        · rw [a]; exact ⟨by omega, c⟩
      · rintro ⟨a, b⟩
        by_cases e : x = k
        · exact Or.inr e
        · exact Or.inl ⟨by omega, b⟩
    · rw [if_neg c, ih]
      constructor
      · rintro ⟨a, b⟩; exact ⟨by omega, b⟩
      · rintro ⟨a, b⟩
        refine ⟨?_, b⟩
        have : x ≠ k := fun e => c (by rw [← e]; exact b)
        omega
theorem fL_get (f : Nat → Bool) {k j : Nat} (h : j < (fL f k).length) : (fL f k).getD j 0 < k ∧ f ((fL f k).getD j 0) = true := by
  have : (fL f k).getD j 0 ∈ fL f k := by
    rw [List.getD_eq_getElem?_getD, List.getElem?_eq_getElem h, Option.getD_some]
    exact List.getElem_mem h
  exact (fL_mem f k).1 this
theorem getD_l {A : List Nat} {l j : Nat} (h : j < A.length) : (A ++ [l]).getD j 0 = A.getD j 0 := getD_app1 h
theorem fL_inc (f : Nat → Bool) : ∀ k {j j' : Nat}, j < j' → j' < (fL f k).length → (fL f k).getD j 0 < (fL f k).getD j' 0 := by
  intro k
  induction k with
  | zero => intro j j' _ h; exact absurd h (Nat.not_lt_zero _)
  | succ k ih =>
    intro j j' h1 h2
    have e : fL f (k + 1) = if f k = true then fL f k ++ [k] else fL f k := rfl
    rw [e] at h2 ⊢
    by_cases c : f k = true
    · rw [if_pos c] at h2 ⊢
      rw [List.length_append, List.length_singleton] at h2
      by_cases q : j' < (fL f k).length
      · rw [getD_l q, getD_l (by omega)]
        exact ih h1 q
      · have q' : j' = (fL f k).length := by omega
        rw [getD_l (by omega), q', getD_app2]
        exact (fL_get f (by omega)).1
    · rw [if_neg c] at h2 ⊢
      exact ih h1 h2
theorem fL_ex (f : Nat → Bool) {k x : Nat} (h : x < k) (h' : f x = true) : ∃ j, j < (fL f k).length ∧ x = (fL f k).getD j 0 := by
  have := (fL_mem f k).2 ⟨h, h'⟩
  obtain ⟨j, a, b⟩ := List.getElem_of_mem this
  exact ⟨j, a, by rw [List.getD_eq_getElem?_getD, List.getElem?_eq_getElem a, Option.getD_some, b]⟩
def quB (S : Nat → Int32) (l : Nat) : Bool := decide (S (3300 + l) = nI 0)
def thB (S : Nat → Int32) (i : Nat) : Bool := decide (S (800 + i) = nI 1)
def qN (S : Nat → Int32) : Nat := (fL (quB S) (nm S)).length
def dN (S : Nat → Int32) : Nat := (fL (thB S) 20).length
def qT (S : Nat → Int32) (k : Nat) : Nat := (fL (quB S) (nm S)).getD k 0
def dT (S : Nat → Int32) (j : Nat) : Nat := (fL (thB S) 20).getD j 0
def ckL (S : Nat → Int32) (i : Nat) : Bool := decide (S (800 + i) = nI 1) && decide (0 < cntR (fun y => decide (S y = -2)) (40 * i) (ln S i))
def fqL (S : Nat → Int32) (l : Nat) : Bool := quB S l && !decide (S (2100 + l) < S 6503)
def plA (S : Nat → Int32) : Int32 := if S 6501 = nI 1 then -2 else if 0 < whS S (nI 1) then -4 else if anyR (ckL S) 0 20 = true then -4 else if dN S < 1 then -14 else if 3 < dN S then -14 else if qN S < 1 then -14 else if 6 < qN S then -14 else if anyR (fqL S) 0 (nm S) = true then -12 else nI 0
theorem cnt_no {f : Nat → Bool} {a n : Nat} (h : ¬ 0 < cntR f a n) {p : Nat} (h1 : a ≤ p) (h2 : p < a + n) : f p = false := by
  cases e : f p with
  | false => rfl
  | true => exact absurd (cntR_pos h1 h2 e) h
theorem pl_H {S : Nat → Int32} (W : Wf S) (h : plA S = nI 0) : PlH S (qN S) (dN S) (qT S) (dT S) := by
  unfold plA at h
  by_cases a1 : S 6501 = nI 1
  · rw [if_pos a1] at h; exact absurd h (by decide)
  rw [if_neg a1] at h
  by_cases a2 : 0 < whS S (nI 1)
  · rw [if_pos a2] at h; exact absurd h (by decide)
  rw [if_neg a2] at h
  by_cases a3 : anyR (ckL S) 0 20 = true
  · rw [if_pos a3] at h; exact absurd h (by decide)
  rw [if_neg a3] at h
  by_cases a4 : dN S < 1
  · rw [if_pos a4] at h; exact absurd h (by decide)
  rw [if_neg a4] at h
  by_cases a5 : 3 < dN S
  · rw [if_pos a5] at h; exact absurd h (by decide)
  rw [if_neg a5] at h
  by_cases a6 : qN S < 1
  · rw [if_pos a6] at h; exact absurd h (by decide)
  rw [if_neg a6] at h
  by_cases a7 : 6 < qN S
  · rw [if_pos a7] at h; exact absurd h (by decide)
  rw [if_neg a7] at h
  by_cases a8 : anyR (fqL S) 0 (nm S) = true
  · rw [if_pos a8] at h; exact absurd h (by decide)
  have a3' : anyR (ckL S) 0 20 = false := by revert a3; cases anyR (ckL S) 0 20 <;> simp
  have a8' : anyR (fqL S) 0 (nm S) = false := by revert a8; cases anyR (fqL S) 0 (nm S) <;> simp
  rw [anyR_no] at a3' a8'
  have n2 := W.nm.2
  have ab : ∀ l, l < nm S → ¬ S (3300 + l) = nI 1 := fun l hl e => by
    have := cnt_no a2 (p := l) (by omega) (by omega)
    rw [decide_eq_true e] at this
    cases this
  have q : ∀ k, k < qN S → qT S k < nm S ∧ S (3300 + qT S k) = nI 0 := fun k hk => by
    obtain ⟨x, y⟩ := fL_get (quB S) (k := nm S) (j := k) hk
    exact ⟨x, of_decide_eq_true y⟩
  refine ⟨W, a1, by omega, by omega, by omega, by omega, q, fun k k' h1 h2 => fL_inc (quB S) _ h1 h2, fun l hl hz => fL_ex (quB S) hl (decide_eq_true hz), fun j hj => ?_, fun j j' h1 h2 => fL_inc (thB S) _ h1 h2, fun i hi hz => fL_ex (thB S) hi (decide_eq_true hz), fun y hy => ?_, ab, fun k hk => ?_⟩
  · obtain ⟨x, y⟩ := fL_get (thB S) (k := 20) (j := j) hj
    exact ⟨x, of_decide_eq_true y⟩
  · obtain ⟨i, p, hi, hp, rfl⟩ : ∃ i p, i < 20 ∧ p < 40 ∧ y = 40 * i + p := ⟨y / 40, y % 40, by omega, by omega, by omega⟩
    rcases W.c i p hi hp with z | ⟨z, zl⟩ | ⟨l, q', z1, z2, z3, -⟩
    · exact z
    · exfalso
      have := a3' i (by omega) (by omega)
      unfold lenS at zl
      by_cases t : S (800 + i) = nI 1
      · rw [if_pos t] at zl
        unfold ckL at this
        rw [decide_eq_true t, Bool.true_and] at this
        have := of_decide_eq_false this
        have := cnt_no this (p := 40 * i + p) (by omega) (by omega)
        rw [decide_eq_true z] at this
        cases this
      · rw [if_neg t] at zl; omega
    · exact absurd z3.1 (ab l z1)
  · obtain ⟨l1, l2⟩ := q k hk
    have := a8' (qT S k) (by omega) (by omega)
    unfold fqL quB at this
    rw [decide_eq_true l2, Bool.true_and] at this
    have lt : S (2100 + qT S k) < S 6503 := by
      by_cases c : S (2100 + qT S k) < S 6503
      · exact c
      · rw [decide_eq_false c] at this; cases this
    obtain ⟨-, ⟨p, p1, p2⟩, -⟩ := W.d _ l1
    obtain ⟨y1, y2, y3⟩ := dy_ok W.y
    refine ⟨p, ?_, p2⟩
    rw [p2, y1, lt_nI (by omega) (by omega)] at lt
    exact lt
def hgS (S : Nat → Int32) : Nat → Int32
  | 0 => -1
  | k + 1 => if quB S k = true then (if hgS S k < S (2100 + k) then S (2100 + k) else hgS S k) else hgS S k
theorem hg_iff {S : Nat → Int32} {D : Int32} (hD : (-1 : Int32) < D) : ∀ k, (hgS S k < D) ↔ ∀ l, l < k → quB S l = true → S (2100 + l) < D := by
  intro k
  induction k with
  | zero => exact ⟨fun _ l hl => absurd hl (Nat.not_lt_zero _), fun _ => hD⟩
  | succ k ih =>
    show (if quB S k = true then (if hgS S k < S (2100 + k) then S (2100 + k) else hgS S k) else hgS S k) < D ↔ _
    by_cases c : quB S k = true
    · rw [if_pos c]
      constructor
      · intro h l hl hq
        by_cases g : hgS S k < S (2100 + k)
        · rw [if_pos g] at h
          by_cases e : l = k
          · rw [e]; exact h
          · exact ih.1 (Int32.lt_trans g h) l (by omega) hq
        · rw [if_neg g] at h
          by_cases e : l = k
          · rw [e]
            exact Int32.lt_of_le_of_lt (Int32.not_lt.1 g) h
          · exact ih.1 h l (by omega) hq
      · intro h
        by_cases g : hgS S k < S (2100 + k)
        · rw [if_pos g]; exact h k (by omega) c
        · rw [if_neg g]; exact ih.2 (fun l hl hq => h l (by omega) hq)
    · rw [if_neg c, ih]
      constructor
      · intro h l hl hq
        have : l ≠ k := fun e => c (by rw [← e]; exact hq)
        exact h l (by omega) hq
      · intro h l hl hq
        exact h l (by omega) hq
theorem hg_fq {S : Nat → Int32} (hD : (-1 : Int32) < S 6503) : (hgS S (nm S) < S 6503) ↔ anyR (fqL S) 0 (nm S) = false := by
  rw [hg_iff hD, anyR_no]
  constructor
  · intro h p _ p2
    unfold fqL
    cases q : quB S p with
    | false => rfl
    | true => rw [decide_eq_true (h p (by omega) q)]; rfl
  · intro h l hl hq
    have := h l (by omega) (by omega)
    unfold fqL at this
    rw [hq, Bool.true_and] at this
    by_cases c : S (2100 + l) < S 6503
    · exact c
    · rw [decide_eq_false c] at this; cases this
theorem sp_208l {d M : Nat} {m : am_M} {S : Nat → Int32} (h : Mo m M) (hS : mI m (M + 1) = S) (hL : LnOk S) : ∀ r i (g : Bool), i + r = 20 → ev (d + 1) 208 4 [some (.ref M), some (.int (bI g)), some (.int (nI i))] [] m = some (some (.int (bI (g || anyR (ckL S) i r))), m) := by
  intro r
  induction r with
  | zero =>
    intro i g hi
    have hi' : i = 20 := by omega
    subst hi'
    have hnl : ¬ 20 < 20 := by omega
    rw [e208_4]
    simp (disch := first | (simp (disch := omega) only [am_k_some, va_rf_some, va_rf_none, tl_some, tl_none, am_clr_int, am_clr_ref, am_clr_none, am_clr_long, am_w_nil, am_w_int, am_w_ref, am_w_long, am_w_null, am_bb_0, am_bb_1, am_bb_bI, xK_sI, xR_sI, xS_sI, xN_sI, xK_sL, xR_sL, xS_sL, xN_sL, xK_sR, xR_sR, xS_sR, xN_sR, xK_sA, xR_sA, xS_sA, xN_sA, Nat.reduceAdd, Nat.reduceLeDiff, sI_sA, I_sA', sA_sA, I_sA, I_sA', nI_add, mul_nI, bI_0, bI_1, h.k, h.r0, h.k0, h.r1, h.k1, h.r2, h.k2, h.r3, h.k3, h.r4, h.k4, h.r5, h.k5, h.r6, h.k6, h.r8, h.k8, h.r9, h.k9, h.r15, h.k15, h.r17, h.k17, h.r19, h.k19, h.r20, h.k20, h.r21, h.k21, h.r22, h.k22, h, Mo_sA, Mo_sL, ix_nI, cl_nI]; done) | omega | (simp only [I_sA]; assumption)) only [e208_0, e208_1, e208_2, e208_3, e208_5, e208_7, e208_10, e208_11, e208_14, e208_15, e208_16, e208_19, e208_22, e208_23, e208_25, e208_26, e208_27, e208_29, e208_30, e208_31, e208_32, e208_33, e208_36, e208_37, e208_39, e208_42, e208_45, e208_46, e208_49, e208_50, e208_51, e208_54, e208_57, e208_58, am_k_some, va_rf_some, va_rf_none, tl_some, tl_none, am_clr_int, am_clr_ref, am_clr_none, am_clr_long, am_w_nil, am_w_int, am_w_ref, am_w_long, am_w_null, am_bb_0, am_bb_1, am_bb_bI, xK_sI, xR_sI, xS_sI, xN_sI, xK_sL, xR_sL, xS_sL, xN_sL, xK_sR, xR_sR, xS_sR, xN_sR, xK_sA, xR_sA, xS_sA, xN_sA, Nat.reduceAdd, Nat.reduceLeDiff, sI_sA, I_sA', sA_sA, I_sA, I_sA', nI_add, mul_nI, bI_0, bI_1, h.k, h.r0, h.k0, h.r1, h.k1, h.r2, h.k2, h.r3, h.k3, h.r4, h.k4, h.r5, h.k5, h.r6, h.k6, h.r8, h.k8, h.r9, h.k9, h.r15, h.k15, h.r17, h.k17, h.r19, h.k19, h.r20, h.k20, h.r21, h.k21, h.r22, h.k22, ix_nI, cl_nI, lt_nI, eq_nI, sub_nI, Nat.reduceEqDiff, Nat.one_ne_zero, Nat.not_lt_zero, ↓reduceIte, k1, k2, k3, k4, k5, k6, k7, k8, k9, n10, n01, if_true, if_false, decide_true, decide_false, Bool.true_eq_false, Bool.false_eq_true, not_true_eq_false, not_false_eq_true, and_true, true_and, and_false, false_and, hnl, anyR, Bool.or_false]
  | succ r ih =>
    intro i g hi
    have hnl : i < 20 := by omega
    show _ = some (some (Value.int (bI (g || (ckL S i || anyR (ckL S) (i + 1) r)))), m)
    rw [← Bool.or_assoc, ← ih (i + 1) (g || ckL S i) (by omega), e208_4]
    cases g with
    | true =>
      rw [bI_t, Bool.true_or, bI_t]
      simp (disch := first | (simp (disch := omega) only [am_k_some, va_rf_some, va_rf_none, tl_some, tl_none, am_clr_int, am_clr_ref, am_clr_none, am_clr_long, am_w_nil, am_w_int, am_w_ref, am_w_long, am_w_null, am_bb_0, am_bb_1, am_bb_bI, xK_sI, xR_sI, xS_sI, xN_sI, xK_sL, xR_sL, xS_sL, xN_sL, xK_sR, xR_sR, xS_sR, xN_sR, xK_sA, xR_sA, xS_sA, xN_sA, Nat.reduceAdd, Nat.reduceLeDiff, sI_sA, I_sA', sA_sA, I_sA, I_sA', nI_add, mul_nI, bI_0, bI_1, h.k, h.r0, h.k0, h.r1, h.k1, h.r2, h.k2, h.r3, h.k3, h.r4, h.k4, h.r5, h.k5, h.r6, h.k6, h.r8, h.k8, h.r9, h.k9, h.r15, h.k15, h.r17, h.k17, h.r19, h.k19, h.r20, h.k20, h.r21, h.k21, h.r22, h.k22, h, Mo_sA, Mo_sL, ix_nI, cl_nI]; done) | omega | (simp only [I_sA]; assumption)) only [e208_0, e208_1, e208_2, e208_3, e208_5, e208_7, e208_10, e208_11, e208_14, e208_15, e208_16, e208_19, e208_22, e208_23, e208_25, e208_26, e208_27, e208_29, e208_30, e208_31, e208_32, e208_33, e208_36, e208_37, e208_39, e208_42, e208_45, e208_46, e208_49, e208_50, e208_51, e208_54, e208_57, e208_58, am_k_some, va_rf_some, va_rf_none, tl_some, tl_none, am_clr_int, am_clr_ref, am_clr_none, am_clr_long, am_w_nil, am_w_int, am_w_ref, am_w_long, am_w_null, am_bb_0, am_bb_1, am_bb_bI, xK_sI, xR_sI, xS_sI, xN_sI, xK_sL, xR_sL, xS_sL, xN_sL, xK_sR, xR_sR, xS_sR, xN_sR, xK_sA, xR_sA, xS_sA, xN_sA, Nat.reduceAdd, Nat.reduceLeDiff, sI_sA, I_sA', sA_sA, I_sA, I_sA', nI_add, mul_nI, bI_0, bI_1, h.k, h.r0, h.k0, h.r1, h.k1, h.r2, h.k2, h.r3, h.k3, h.r4, h.k4, h.r5, h.k5, h.r6, h.k6, h.r8, h.k8, h.r9, h.k9, h.r15, h.k15, h.r17, h.k17, h.r19, h.k19, h.r20, h.k20, h.r21, h.k21, h.r22, h.k22, ix_nI, cl_nI, lt_nI, eq_nI, sub_nI, Nat.reduceEqDiff, Nat.one_ne_zero, Nat.not_lt_zero, ↓reduceIte, k1, k2, k3, k4, k5, k6, k7, k8, k9, n10, n01, if_true, if_false, decide_true, decide_false, Bool.true_eq_false, Bool.false_eq_true, not_true_eq_false, not_false_eq_true, and_true, true_and, and_false, false_and, hnl]
    | false =>
      rw [bI_f, Bool.false_or]
      have t := sp_140 (d := d) h hnl
      rw [hS] at t
      by_cases c : S (800 + i) = nI 1
      · rw [decide_eq_true c, bI_t] at t
        have ln1 := sp_141 (d := d) h hnl
        rw [hS, (hL i hnl).1] at ln1
        have l2 := (hL i hnl).2
        have ct := sp_158 (d := d) (a := 40 * i) (n := ln S i) (x := -2) h (by omega)
        rw [hS] at ct
        have le := cntR_le (fun y => decide (S y = -2)) (40 * i) (ln S i)
        unfold ckL
        rw [decide_eq_true c, Bool.true_and]
        generalize cntR (fun y => decide (S y = -2)) (40 * i) (ln S i) = z at *
        by_cases p : 0 < z
        · rw [decide_eq_true p, bI_t]
          simp (disch := first | (simp (disch := omega) only [am_k_some, va_rf_some, va_rf_none, tl_some, tl_none, am_clr_int, am_clr_ref, am_clr_none, am_clr_long, am_w_nil, am_w_int, am_w_ref, am_w_long, am_w_null, am_bb_0, am_bb_1, am_bb_bI, xK_sI, xR_sI, xS_sI, xN_sI, xK_sL, xR_sL, xS_sL, xN_sL, xK_sR, xR_sR, xS_sR, xN_sR, xK_sA, xR_sA, xS_sA, xN_sA, Nat.reduceAdd, Nat.reduceLeDiff, sI_sA, I_sA', sA_sA, I_sA, I_sA', nI_add, mul_nI, bI_0, bI_1, h.k, h.r0, h.k0, h.r1, h.k1, h.r2, h.k2, h.r3, h.k3, h.r4, h.k4, h.r5, h.k5, h.r6, h.k6, h.r8, h.k8, h.r9, h.k9, h.r15, h.k15, h.r17, h.k17, h.r19, h.k19, h.r20, h.k20, h.r21, h.k21, h.r22, h.k22, h, Mo_sA, Mo_sL, ix_nI, cl_nI]; done) | omega | (simp only [I_sA]; assumption)) only [e208_0, e208_1, e208_2, e208_3, e208_5, e208_7, e208_10, e208_11, e208_14, e208_15, e208_16, e208_19, e208_22, e208_23, e208_25, e208_26, e208_27, e208_29, e208_30, e208_31, e208_32, e208_33, e208_36, e208_37, e208_39, e208_42, e208_45, e208_46, e208_49, e208_50, e208_51, e208_54, e208_57, e208_58, am_k_some, va_rf_some, va_rf_none, tl_some, tl_none, am_clr_int, am_clr_ref, am_clr_none, am_clr_long, am_w_nil, am_w_int, am_w_ref, am_w_long, am_w_null, am_bb_0, am_bb_1, am_bb_bI, xK_sI, xR_sI, xS_sI, xN_sI, xK_sL, xR_sL, xS_sL, xN_sL, xK_sR, xR_sR, xS_sR, xN_sR, xK_sA, xR_sA, xS_sA, xN_sA, Nat.reduceAdd, Nat.reduceLeDiff, sI_sA, I_sA', sA_sA, I_sA, I_sA', nI_add, mul_nI, bI_0, bI_1, h.k, h.r0, h.k0, h.r1, h.k1, h.r2, h.k2, h.r3, h.k3, h.r4, h.k4, h.r5, h.k5, h.r6, h.k6, h.r8, h.k8, h.r9, h.k9, h.r15, h.k15, h.r17, h.k17, h.r19, h.k19, h.r20, h.k20, h.r21, h.k21, h.r22, h.k22, ix_nI, cl_nI, lt_nI, eq_nI, sub_nI, Nat.reduceEqDiff, Nat.one_ne_zero, Nat.not_lt_zero, ↓reduceIte, k1, k2, k3, k4, k5, k6, k7, k8, k9, n10, n01, if_true, if_false, decide_true, decide_false, Bool.true_eq_false, Bool.false_eq_true, not_true_eq_false, not_false_eq_true, and_true, true_and, and_false, false_and, hnl, t, ln1, ct, p]
        · rw [decide_eq_false p, bI_f]
          simp (disch := first | (simp (disch := omega) only [am_k_some, va_rf_some, va_rf_none, tl_some, tl_none, am_clr_int, am_clr_ref, am_clr_none, am_clr_long, am_w_nil, am_w_int, am_w_ref, am_w_long, am_w_null, am_bb_0, am_bb_1, am_bb_bI, xK_sI, xR_sI, xS_sI, xN_sI, xK_sL, xR_sL, xS_sL, xN_sL, xK_sR, xR_sR, xS_sR, xN_sR, xK_sA, xR_sA, xS_sA, xN_sA, Nat.reduceAdd, Nat.reduceLeDiff, sI_sA, I_sA', sA_sA, I_sA, I_sA', nI_add, mul_nI, bI_0, bI_1, h.k, h.r0, h.k0, h.r1, h.k1, h.r2, h.k2, h.r3, h.k3, h.r4, h.k4, h.r5, h.k5, h.r6, h.k6, h.r8, h.k8, h.r9, h.k9, h.r15, h.k15, h.r17, h.k17, h.r19, h.k19, h.r20, h.k20, h.r21, h.k21, h.r22, h.k22, h, Mo_sA, Mo_sL, ix_nI, cl_nI]; done) | omega | (simp only [I_sA]; assumption)) only [e208_0, e208_1, e208_2, e208_3, e208_5, e208_7, e208_10, e208_11, e208_14, e208_15, e208_16, e208_19, e208_22, e208_23, e208_25, e208_26, e208_27, e208_29, e208_30, e208_31, e208_32, e208_33, e208_36, e208_37, e208_39, e208_42, e208_45, e208_46, e208_49, e208_50, e208_51, e208_54, e208_57, e208_58, am_k_some, va_rf_some, va_rf_none, tl_some, tl_none, am_clr_int, am_clr_ref, am_clr_none, am_clr_long, am_w_nil, am_w_int, am_w_ref, am_w_long, am_w_null, am_bb_0, am_bb_1, am_bb_bI, xK_sI, xR_sI, xS_sI, xN_sI, xK_sL, xR_sL, xS_sL, xN_sL, xK_sR, xR_sR, xS_sR, xN_sR, xK_sA, xR_sA, xS_sA, xN_sA, Nat.reduceAdd, Nat.reduceLeDiff, sI_sA, I_sA', sA_sA, I_sA, I_sA', nI_add, mul_nI, bI_0, bI_1, h.k, h.r0, h.k0, h.r1, h.k1, h.r2, h.k2, h.r3, h.k3, h.r4, h.k4, h.r5, h.k5, h.r6, h.k6, h.r8, h.k8, h.r9, h.k9, h.r15, h.k15, h.r17, h.k17, h.r19, h.k19, h.r20, h.k20, h.r21, h.k21, h.r22, h.k22, ix_nI, cl_nI, lt_nI, eq_nI, sub_nI, Nat.reduceEqDiff, Nat.one_ne_zero, Nat.not_lt_zero, ↓reduceIte, k1, k2, k3, k4, k5, k6, k7, k8, k9, n10, n01, if_true, if_false, decide_true, decide_false, Bool.true_eq_false, Bool.false_eq_true, not_true_eq_false, not_false_eq_true, and_true, true_and, and_false, false_and, hnl, t, ln1, ct, p]
      · rw [decide_eq_false c, bI_f] at t
        unfold ckL
        rw [decide_eq_false c, Bool.false_and, bI_f]
        simp (disch := first | (simp (disch := omega) only [am_k_some, va_rf_some, va_rf_none, tl_some, tl_none, am_clr_int, am_clr_ref, am_clr_none, am_clr_long, am_w_nil, am_w_int, am_w_ref, am_w_long, am_w_null, am_bb_0, am_bb_1, am_bb_bI, xK_sI, xR_sI, xS_sI, xN_sI, xK_sL, xR_sL, xS_sL, xN_sL, xK_sR, xR_sR, xS_sR, xN_sR, xK_sA, xR_sA, xS_sA, xN_sA, Nat.reduceAdd, Nat.reduceLeDiff, sI_sA, I_sA', sA_sA, I_sA, I_sA', nI_add, mul_nI, bI_0, bI_1, h.k, h.r0, h.k0, h.r1, h.k1, h.r2, h.k2, h.r3, h.k3, h.r4, h.k4, h.r5, h.k5, h.r6, h.k6, h.r8, h.k8, h.r9, h.k9, h.r15, h.k15, h.r17, h.k17, h.r19, h.k19, h.r20, h.k20, h.r21, h.k21, h.r22, h.k22, h, Mo_sA, Mo_sL, ix_nI, cl_nI]; done) | omega | (simp only [I_sA]; assumption)) only [e208_0, e208_1, e208_2, e208_3, e208_5, e208_7, e208_10, e208_11, e208_14, e208_15, e208_16, e208_19, e208_22, e208_23, e208_25, e208_26, e208_27, e208_29, e208_30, e208_31, e208_32, e208_33, e208_36, e208_37, e208_39, e208_42, e208_45, e208_46, e208_49, e208_50, e208_51, e208_54, e208_57, e208_58, am_k_some, va_rf_some, va_rf_none, tl_some, tl_none, am_clr_int, am_clr_ref, am_clr_none, am_clr_long, am_w_nil, am_w_int, am_w_ref, am_w_long, am_w_null, am_bb_0, am_bb_1, am_bb_bI, xK_sI, xR_sI, xS_sI, xN_sI, xK_sL, xR_sL, xS_sL, xN_sL, xK_sR, xR_sR, xS_sR, xN_sR, xK_sA, xR_sA, xS_sA, xN_sA, Nat.reduceAdd, Nat.reduceLeDiff, sI_sA, I_sA', sA_sA, I_sA, I_sA', nI_add, mul_nI, bI_0, bI_1, h.k, h.r0, h.k0, h.r1, h.k1, h.r2, h.k2, h.r3, h.k3, h.r4, h.k4, h.r5, h.k5, h.r6, h.k6, h.r8, h.k8, h.r9, h.k9, h.r15, h.k15, h.r17, h.k17, h.r19, h.k19, h.r20, h.k20, h.r21, h.k21, h.r22, h.k22, ix_nI, cl_nI, lt_nI, eq_nI, sub_nI, Nat.reduceEqDiff, Nat.one_ne_zero, Nat.not_lt_zero, ↓reduceIte, k1, k2, k3, k4, k5, k6, k7, k8, k9, n10, n01, if_true, if_false, decide_true, decide_false, Bool.true_eq_false, Bool.false_eq_true, not_true_eq_false, not_false_eq_true, and_true, true_and, and_false, false_and, hnl, t]
theorem sp_208 {d M : Nat} {m : am_M} {S : Nat → Int32} (h : Mo m M) (hS : mI m (M + 1) = S) (hL : LnOk S) : cal (d + 1) 208 [.ref M] m = some (some (.int (bI (anyR (ckL S) 0 20))), m) := by
  have e := sp_208l (d := d) h hS hL 20 0 false rfl
  rw [Bool.false_or, bI_f] at e
  rw [← e]
  simp only [c208, e208_0, e208_1, e208_2, e208_3, am_k_some, va_rf_some, va_rf_none, tl_some, tl_none, am_clr_int, am_clr_ref, am_clr_none, am_clr_long, am_w_nil, am_w_int, am_w_ref, am_w_long, am_w_null, am_bb_0, am_bb_1, am_bb_bI, xK_sI, xR_sI, xS_sI, xN_sI, xK_sL, xR_sL, xS_sL, xN_sL, xK_sR, xR_sR, xS_sR, xN_sR, xK_sA, xR_sA, xS_sA, xN_sA, Nat.reduceAdd, Nat.reduceLeDiff, sI_sA, I_sA', sA_sA, I_sA, I_sA', nI_add, mul_nI, bI_0, bI_1]
