/-! put, take, a chock: counts, what stands where -/
theorem inS_take {S : Nat → Int32} {l i q j : Nat} {w : Int32} (hN : NmOk S) (hl : l < nm S) (hi : i < 20) (hj : j < 20) (hq : q + spanS S l ≤ 40) (h0 : S (3300 + l) = nI 1) (h1 : S (3700 + l) = nI i) (hw : ¬ w = nI 1) : inS (takeS S l w i q) j + (if j = i then 1 else 0) = inS S j := by
  have n2 := hN.2
  have ag := takeS_ag (S := S) (l := l) (i := i) (q := q) (w := w) (by omega) hi hq
  unfold inS
  rw [ag.nmE]
  have e := cntR_upd (f := fun y => decide (S (3300 + y) = nI 1) && decide (S (3700 + y) = nI j)) (g := fun y => decide (takeS S l w i q (3300 + y) = nI 1) && decide (takeS S l w i q (3700 + y) = nI j)) (a := 0) (n := nm S) (p := l) (by omega) (by omega) (fun y y1 y2 hy => by
    rw [takeS_off (by omega) (by omega) (by omega) (by omega), takeS_off (by omega) (by omega) (by omega) (by omega)])
  rw [takeS_1 (by omega), takeS_2 (by omega), h0, h1] at e
  simp only [hw, decide_false, Bool.false_and, Bool.false_eq_true, if_false, decide_true, Bool.true_and, Nat.add_zero] at e
  rw [← e]
  congr 1
  by_cases hij : j = i
  · rw [if_pos hij, if_pos (by rw [hij]; exact decide_eq_true rfl)]
  · rw [if_neg hij, if_neg (by rw [deq_nI (by omega) (by omega)]; simp only [decide_eq_true_eq]; omega)]
theorem ne_m1 {l : Nat} (h : l < 1000) : ¬ nI l = (-1 : Int32) := neg_ne (n := 1) (by omega) (by omega) (by omega)
theorem ne_m2 {l : Nat} (h : l < 1000) : ¬ nI l = (-2 : Int32) := neg_ne (n := 2) (by omega) (by omega) (by omega)
theorem chN_put {S : Nat → Int32} {l i q j : Nat} (hl : l < 400) (hi : i < 20) (hj : j < 20) (hL : LnOk S) (hq : q + spanS S l ≤ 40) (he : ∀ k, k < spanS S l → S (40 * i + q + k) = -1) : chN (putS S l i q) j = chN S j := by
  have ag := putS_ag (S := S) (l := l) (i := i) (q := q) hl hi hq
  have := lenS_le hL hj
  unfold chN
  rw [ag.lenE hj]
  refine cntR_congr fun y y1 y2 => ?_
  by_cases hy : 40 * i + q ≤ y ∧ y < 40 * i + q + spanS S l
  · have := he (y - (40 * i + q)) (by omega)
    rw [show 40 * i + q + (y - (40 * i + q)) = y by omega] at this
    rw [putS_in (by omega) hy, this, decide_eq_false (ne_m2 (by omega)), decide_eq_false (by decide)]
  · rw [putS_off (by omega) (by omega) (by omega) (by omega)]
theorem chN_take {S : Nat → Int32} {l i q j : Nat} {w : Int32} (hl : l < 400) (hi : i < 20) (hj : j < 20) (hL : LnOk S) (hq : q + spanS S l ≤ 40) (he : ∀ k, k < spanS S l → S (40 * i + q + k) = nI l) : chN (takeS S l w i q) j = chN S j := by
  have ag := takeS_ag (S := S) (l := l) (i := i) (q := q) (w := w) hl hi hq
  have := lenS_le hL hj
  unfold chN
  rw [ag.lenE hj]
  refine cntR_congr fun y y1 y2 => ?_
  by_cases hy : 40 * i + q ≤ y ∧ y < 40 * i + q + spanS S l
  · have := he (y - (40 * i + q)) (by omega)
    rw [show 40 * i + q + (y - (40 * i + q)) = y by omega] at this
    rw [takeS_in (by omega) hy, this, decide_eq_false (ne_m2 (by omega)), decide_eq_false (by decide)]
  · rw [takeS_off (by omega) (by omega) (by omega) (by omega)]
theorem up1_ag {S : Nat → Int32} {y : Nat} {v : Int32} (h : y < 800) : AgM S (up1 S y v) := fun z h1 h2 => by rw [up1_at, if_neg (by omega)]
theorem up1_ne {S : Nat → Int32} {y z : Nat} {v : Int32} (h : z ≠ y) : up1 S y v z = S z := by rw [up1_at, if_neg h]
theorem up1_eq {S : Nat → Int32} {y : Nat} {v : Int32} : up1 S y v y = v := by rw [up1_at, if_pos rfl]
theorem chN_up {S : Nat → Int32} {i p j : Nat} {v : Int32} (hi : i < 20) (hj : j < 20) (hL : LnOk S) (hp : p < lenS S i) : chN (up1 S (40 * i + p) v) j + (if j = i then (if S (40 * i + p) = -2 then 1 else 0) else 0) = chN S j + (if j = i then (if v = -2 then 1 else 0) else 0) := by
  have h1 := lenS_le hL hi
  have h2 := lenS_le hL hj
  have ag := up1_ag (S := S) (y := 40 * i + p) (v := v) (by omega)
  unfold chN
  rw [ag.lenE hj]
  by_cases hij : j = i
  · subst hij
    rw [if_pos rfl, if_pos rfl]
    have e := cntR_upd (f := fun y => decide (S y = -2)) (g := fun y => decide (up1 S (40 * j + p) v y = -2)) (a := 40 * j) (n := lenS S j) (p := 40 * j + p) (by omega) (by omega) (fun y y1 y2 y3 => by rw [up1_ne y3])
    rw [up1_eq] at e
    simp only [decide_eq_true_eq] at e
    exact e
  · rw [if_neg hij, if_neg hij, Nat.add_zero, Nat.add_zero]
    refine cntR_congr fun y y1 y2 => ?_
    rw [up1_ne (by omega)]
theorem inS_up {S : Nat → Int32} {y j : Nat} {v : Int32} (hy : y < 800) : inS (up1 S y v) j = inS S j := by
  have ag := up1_ag (S := S) (y := y) (v := v) hy
  unfold inS
  rw [ag.nmE]
  refine cntR_congr fun z _ _ => ?_
  rw [up1_ne (by omega), up1_ne (by omega)]
theorem StA.of {S S' : Nat → Int32} {l i q : Nat} (h : StA S l i q) (ag : AgM S S') (hl : l < 400) (h1 : S' (3300 + l) = S (3300 + l)) (h2 : S' (3700 + l) = S (3700 + l)) (h3 : S' (4100 + l) = S (4100 + l)) (h4 : ∀ k, k < spanS S l → S' (40 * i + q + k) = S (40 * i + q + k)) : StA S' l i q := by
  obtain ⟨a1, a2, a3, a4, a5, a6, a7⟩ := h
  refine ⟨by rw [h1]; exact a1, by rw [h2]; exact a2, by rw [h3]; exact a3, a4, by rw [ag.th a4]; exact a5, by rw [ag.span hl, ag.lnE a4]; exact a6, fun k hk => ?_⟩
  rw [ag.span hl] at hk
  rw [h4 k hk]
  exact a7 k hk
theorem NoA.of {S S' : Nat → Int32} {l : Nat} (h : NoA S l) (h1 : S' (3300 + l) = S (3300 + l)) (h2 : S' (3700 + l) = S (3700 + l)) (h3 : S' (4100 + l) = S (4100 + l)) : NoA S' l := by
  unfold NoA
  rw [h1, h2, h3]
  exact h
def EmR (S : Nat → Int32) (l i q : Nat) : Prop := ∀ k, k < spanS S l → S (40 * i + q + k) = -1
section PW
variable {S : Nat → Int32} {l i q : Nat} {w : Int32}
theorem put_st (hl : l < 400) (hi : i < 20) (ht : S (800 + i) = nI 1) (hL : LnOk S) (hq : q + spanS S l ≤ ln S i) : StA (putS S l i q) l i q := by
  have := (hL i hi).2
  have ag := putS_ag (S := S) (l := l) (i := i) (q := q) hl hi (by omega)
  refine ⟨putS_1 hl, putS_2 hl, putS_3, hi, by rw [ag.th hi]; exact ht, by rw [ag.span hl, ag.lnE hi]; exact hq, fun k hk => ?_⟩
  rw [ag.span hl] at hk
  exact putS_in (by omega) (by omega)
theorem put_so {l' i' q' : Nat} (hN : NmOk S) (hL : LnOk S) (hl : l < nm S) (hl' : l' < nm S) (hne : l' ≠ l) (hi : i < 20) (hq : q + spanS S l ≤ 40) (he : EmR S l i q) (h : StA S l' i' q') : StA (putS S l i q) l' i' q' := by
  have n2 := hN.2
  have ag := putS_ag (S := S) (l := l) (i := i) (q := q) (by omega) hi hq
  have h' := (hL i' h.2.2.2.1).2
  have h6 := h.2.2.2.2.2.1
  have h4 := h.2.2.2.1
  refine h.of ag (by omega) (putS_off (by omega) (by omega) (by omega) (by omega)) (putS_off (by omega) (by omega) (by omega) (by omega)) (putS_off (by omega) (by omega) (by omega) (by omega)) (fun k hk => ?_)
  by_cases hr : 40 * i + q ≤ 40 * i' + q' + k ∧ 40 * i' + q' + k < 40 * i + q + spanS S l
  · exfalso
    have e1 := he (40 * i' + q' + k - (40 * i + q)) (by omega)
    have e2 := h.2.2.2.2.2.2 k hk
    rw [show 40 * i + q + (40 * i' + q' + k - (40 * i + q)) = 40 * i' + q' + k by omega, e2] at e1
    exact ne_m1 (by omega) e1
  · exact putS_off (by omega) (by omega) (by omega) (by omega)
theorem put_W (hN : NmOk S) (hL : LnOk S) (hW : WfW S) (hl : l < nm S) (hi : i < 20) (ht : S (800 + i) = nI 1) (hq : q + spanS S l ≤ ln S i) (he : EmR S l i q) : WfW (putS S l i q) := by
  have n2 := hN.2
  have := (hL i hi).2
  have ag := putS_ag (S := S) (l := l) (i := i) (q := q) (by omega) hi (by omega)
  intro l' hl'
  rw [ag.nmE] at hl'
  by_cases hne : l' = l
  · subst hne
    exact Or.inr ⟨i, q, put_st (by omega) hi ht hL hq⟩
  · rcases hW l' hl' with h | ⟨i', q', h⟩
    · exact Or.inl (h.of (putS_off (by omega) (by omega) (by omega) (by omega)) (putS_off (by omega) (by omega) (by omega) (by omega)) (putS_off (by omega) (by omega) (by omega) (by omega)))
    · exact Or.inr ⟨i', q', put_so hN hL hl hl' hne hi (by omega) he h⟩
theorem put_C (hN : NmOk S) (hL : LnOk S) (hC : WfC S) (hl : l < nm S) (h0 : ¬ S (3300 + l) = nI 1) (hi : i < 20) (ht : S (800 + i) = nI 1) (hq : q + spanS S l ≤ ln S i) (he : EmR S l i q) : WfC (putS S l i q) := by
  have n2 := hN.2
  have := (hL i hi).2
  have ag := putS_ag (S := S) (l := l) (i := i) (q := q) (by omega) hi (by omega)
  intro j p hj hp
  by_cases hr : 40 * i + q ≤ 40 * j + p ∧ 40 * j + p < 40 * i + q + spanS S l
  · have hji : j = i := by omega
    subst hji
    exact Or.inr (Or.inr ⟨l, q, by rw [ag.nmE]; exact hl, putS_in (by omega) hr, put_st (by omega) hi ht hL hq, by omega, by rw [ag.span (by omega)]; omega⟩)
  · rw [putS_off (by omega) (by omega) (by omega) (by omega), ag.lenE hj, ag.nmE]
    rcases hC j p hj hp with h | h | ⟨l', q', a1, a2, a3, a4, a5⟩
    · exact Or.inl h
    · exact Or.inr (Or.inl h)
    · have hne : l' ≠ l := fun e => h0 (by rw [← e]; exact a3.1)
      exact Or.inr (Or.inr ⟨l', q', a1, a2, put_so hN hL hl a1 hne hi (by omega) he a3, a4, by rw [ag.span (by omega)]; exact a5⟩)
theorem take_so {l' i' q' : Nat} (hN : NmOk S) (hL : LnOk S) (hl : l < nm S) (hl' : l' < nm S) (hne : l' ≠ l) (hs : StA S l i q) (h : StA S l' i' q') : StA (takeS S l w i q) l' i' q' := by
  have n2 := hN.2
  have hi := hs.2.2.2.1
  have := (hL i hi).2
  have hq := hs.2.2.2.2.2.1
  have ag := takeS_ag (S := S) (l := l) (i := i) (q := q) (w := w) (by omega) hi (by omega)
  have h' := (hL i' h.2.2.2.1).2
  have h6 := h.2.2.2.2.2.1
  have h4 := h.2.2.2.1
  refine h.of ag (by omega) (takeS_off (by omega) (by omega) (by omega) (by omega)) (takeS_off (by omega) (by omega) (by omega) (by omega)) (takeS_off (by omega) (by omega) (by omega) (by omega)) (fun k hk => ?_)
  by_cases hr : 40 * i + q ≤ 40 * i' + q' + k ∧ 40 * i' + q' + k < 40 * i + q + spanS S l
  · exfalso
    have e1 := hs.2.2.2.2.2.2 (40 * i' + q' + k - (40 * i + q)) (by omega)
    have e2 := h.2.2.2.2.2.2 k hk
    rw [show 40 * i + q + (40 * i' + q' + k - (40 * i + q)) = 40 * i' + q' + k by omega, e2, eq_nI (by omega) (by omega)] at e1
    exact hne e1
  · exact takeS_off (by omega) (by omega) (by omega) (by omega)
theorem take_W (hN : NmOk S) (hL : LnOk S) (hW : WfW S) (hl : l < nm S) (hs : StA S l i q) (hw : w = nI 0 ∨ w = nI 2) : WfW (takeS S l w i q) := by
  have n2 := hN.2
  have hi := hs.2.2.2.1
  have := (hL i hi).2
  have hq := hs.2.2.2.2.2.1
  have ag := takeS_ag (S := S) (l := l) (i := i) (q := q) (w := w) (by omega) hi (by omega)
  intro l' hl'
  rw [ag.nmE] at hl'
  by_cases hne : l' = l
  · subst hne
    exact Or.inl ⟨by rw [takeS_1 (by omega)]; exact hw, takeS_2 (by omega), takeS_3⟩
  · rcases hW l' hl' with h | ⟨i', q', h⟩
    · exact Or.inl (h.of (takeS_off (by omega) (by omega) (by omega) (by omega)) (takeS_off (by omega) (by omega) (by omega) (by omega)) (takeS_off (by omega) (by omega) (by omega) (by omega)))
    · exact Or.inr ⟨i', q', take_so hN hL hl hl' hne hs h⟩
theorem take_C (hN : NmOk S) (hL : LnOk S) (hC : WfC S) (hl : l < nm S) (hs : StA S l i q) : WfC (takeS S l w i q) := by
  have n2 := hN.2
  have hi := hs.2.2.2.1
  have := (hL i hi).2
  have hq := hs.2.2.2.2.2.1
  have ag := takeS_ag (S := S) (l := l) (i := i) (q := q) (w := w) (by omega) hi (by omega)
  intro j p hj hp
  by_cases hr : 40 * i + q ≤ 40 * j + p ∧ 40 * j + p < 40 * i + q + spanS S l
  · exact Or.inl (takeS_in (by omega) hr)
  · rw [takeS_off (by omega) (by omega) (by omega) (by omega), ag.lenE hj, ag.nmE]
    rcases hC j p hj hp with h | h | ⟨l', q', a1, a2, a3, a4, a5⟩
    · exact Or.inl h
    · exact Or.inr (Or.inl h)
    · have hne : l' ≠ l := fun e => by
        subst e
        obtain ⟨e1, e2⟩ := a3.inj hL hs
        omega
      exact Or.inr (Or.inr ⟨l', q', a1, a2, take_so hN hL hl a1 hne hs a3, a4, by rw [ag.span (by omega)]; exact a5⟩)
theorem up_so {p l' i' q' : Nat} {v : Int32} (hN : NmOk S) (hL : LnOk S) (hl' : l' < nm S) (hi : i < 20) (hp : p < 40) (hc : S (40 * i + p) = -1 ∨ S (40 * i + p) = -2) (h : StA S l' i' q') : StA (up1 S (40 * i + p) v) l' i' q' := by
  have n2 := hN.2
  refine h.of (up1_ag (by omega)) (by omega) (up1_ne (by omega)) (up1_ne (by omega)) (up1_ne (by omega)) (fun k hk => ?_)
  refine up1_ne fun e => ?_
  have e2 := h.2.2.2.2.2.2 k hk
  rw [e] at e2
  rcases hc with hc | hc
  · rw [hc] at e2; exact ne_m1 (by omega) e2.symm
  · rw [hc] at e2; exact ne_m2 (by omega) e2.symm
theorem up_W {p : Nat} {v : Int32} (hN : NmOk S) (hL : LnOk S) (hW : WfW S) (hi : i < 20) (hp : p < 40) (hc : S (40 * i + p) = -1 ∨ S (40 * i + p) = -2) : WfW (up1 S (40 * i + p) v) := by
  have ag := up1_ag (S := S) (y := 40 * i + p) (v := v) (by omega)
  intro l' hl'
  rw [ag.nmE] at hl'
  rcases hW l' hl' with h | ⟨i', q', h⟩
  · exact Or.inl (h.of (up1_ne (by omega)) (up1_ne (by omega)) (up1_ne (by omega)))
  · exact Or.inr ⟨i', q', up_so hN hL hl' hi hp hc h⟩
theorem up_C {p : Nat} {v : Int32} (hN : NmOk S) (hL : LnOk S) (hC : WfC S) (hi : i < 20) (hp : p < lenS S i) (hc : S (40 * i + p) = -1 ∨ S (40 * i + p) = -2) (hv : v = -1 ∨ v = -2) : WfC (up1 S (40 * i + p) v) := by
  have n2 := hN.2
  have := lenS_le hL hi
  have ag := up1_ag (S := S) (y := 40 * i + p) (v := v) (by omega)
  intro j r hj hr
  by_cases e : 40 * j + r = 40 * i + p
  · have hji : j = i := by omega
    have hrp : r = p := by omega
    subst hji
    subst hrp
    rw [up1_eq, ag.lenE hj]
    rcases hv with hv | hv
    · exact Or.inl hv
    · exact Or.inr (Or.inl ⟨hv, hp⟩)
  · rw [up1_ne e, ag.lenE hj, ag.nmE]
    rcases hC j r hj hr with h | h | ⟨l', q', a1, a2, a3, a4, a5⟩
    · exact Or.inl h
    · exact Or.inr (Or.inl h)
    · exact Or.inr (Or.inr ⟨l', q', a1, a2, up_so hN hL a1 hi (by omega) hc a3, a4, by rw [ag.span (by omega)]; exact a5⟩)
end PW
