/-! lane, miss, day, load: S and the ship behind them -/
theorem cntR_all {f : Nat → Bool} {a : Nat} : ∀ n, cntR f a n = n ↔ ∀ p, a ≤ p → p < a + n → f p = true := by
  intro n
  induction n with
  | zero => exact ⟨fun _ p h1 h2 => by omega, fun _ => rfl⟩
  | succ n ih =>
    have le := cntR_le f a n
    unfold cntR
    cases h : f (a + n) with
    | true =>
      rw [if_pos rfl]
      constructor
      · intro q p h1 h2
        by_cases hp : p = a + n
        · rw [hp]; exact h
        · exact ih.mp (by omega) p h1 (by omega)
      · intro q
        have := ih.mpr (fun p h1 h2 => q p h1 (by omega))
        omega
    | false =>
      rw [if_neg (by decide)]
      constructor
      · intro q; omega
      · intro q
        rw [q (a + n) (by omega) (by omega)] at h
        cases h
section HD
variable {S : Nat → Int32} {i : Nat}
theorem hold_iff (W : Wb S) (hi : i < 20) : (0 < inS S i ∨ 0 < chN S i) ↔ (S (800 + i) = nI 1 ∧ emS S i = false) := by
  have l2 := (W.ln i hi).2
  have n2 := W.nm.2
  have em : emS S i = false ↔ ∃ p, p < ln S i ∧ ¬ S (40 * i + p) = -1 := by
    unfold emS
    rw [decide_eq_false_iff_not, cntR_all]
    constructor
    · intro h
      by_cases q : ∃ p, p < ln S i ∧ ¬ S (40 * i + p) = -1
      · exact q
      · exfalso
        apply h
        intro p h1 h2
        refine decide_eq_true ?_
        by_cases hp : S p = -1
        · exact hp
        · exact absurd ⟨p - 40 * i, by omega, by rw [show 40 * i + (p - 40 * i) = p by omega]; exact hp⟩ q
    · rintro ⟨p, h1, h2⟩ h
      exact h2 (of_decide_eq_true (h (40 * i + p) (by omega) (by omega)))
  rw [em]
  constructor
  · rintro (h | h)
    · have ht := in_th W.ln W.w hi (by omega)
      refine ⟨ht, ?_⟩
      obtain ⟨l, a, b, c⟩ := in_ex (show ¬ inS S i = 0 by omega)
      rcases W.w l a with ⟨q, -⟩ | ⟨i', q, s⟩
      · rw [b] at q; exfalso; revert q; decide
      · have s2 := s.2.1
        have s4 := s.2.2.2.1
        have s6 := s.2.2.2.2.2.1
        have sp := spanS_le S l
        rw [c, eq_nI (by omega) (by omega)] at s2
        subst s2
        exact ⟨q, by omega, by rw [s.at (Nat.le_refl _) (by omega)]; exact ne_m1 (by omega)⟩
    · have ht : S (800 + i) = nI 1 := by
        by_cases q : S (800 + i) = nI 1
        · exact q
        · unfold chN at h
          rw [lenS_n q] at h
          cases h
      refine ⟨ht, ?_⟩
      by_cases q : ∃ p, p < ln S i ∧ ¬ S (40 * i + p) = -1
      · exact q
      · exfalso
        have : chN S i = 0 := by
          unfold chN
          rw [lenS_t ht]
          refine cntR_zero fun p h1 h2 => ?_
          have : S p = -1 := by
            by_cases hp : S p = -1
            · exact hp
            · exact absurd ⟨p - 40 * i, by omega, by rw [show 40 * i + (p - 40 * i) = p by omega]; exact hp⟩ q
          rw [this]
          rfl
        omega
  · rintro ⟨ht, p, h1, h2⟩
    rcases W.c i p hi (by omega) with q | ⟨q, -⟩ | ⟨l, q, a1, a2, a3, a4, a5⟩
    · exact absurd q h2
    · right
      unfold chN
      rw [lenS_t ht]
      exact cntR_pos (p := 40 * i + p) (by omega) (by omega) (decide_eq_true q)
    · left
      exact in_pos a1 a3.1 a3.2.1
theorem em_cells (W : Wb S) (hi : i < 20) (h : ¬ (S (800 + i) = nI 1 ∧ emS S i = false)) : (∀ p, p < 40 → S (40 * i + p) = -1) ∧ inS S i = 0 ∧ chN S i = 0 := by
  have h' := (not_congr (hold_iff W hi)).mpr h
  have h1 : inS S i = 0 := by omega
  have h2 : chN S i = 0 := by omega
  refine ⟨fun p hp => ?_, h1, h2⟩
  rcases W.c i p hi hp with q | ⟨q, q2⟩ | ⟨l, q, a1, a2, a3, a4, a5⟩
  · exact q
  · exfalso
    have : 0 < chN S i := by
      unfold chN
      exact cntR_pos (p := 40 * i + p) (by omega) (by omega) (decide_eq_true q)
    omega
  · exfalso
    have := in_pos a1 a3.1 a3.2.1
    omega
end HD
/-- a lane anew: S' differs from S in lane i's five numbers and the acts -/
def NwL (S S' : Nat → Int32) (i : Nat) : Prop := (∀ y, y ≠ 800 + i → y ≠ 820 + i → y ≠ 840 + i → y ≠ 860 + i → y ≠ 880 + i → y ≠ 6507 → S' y = S y) ∧ S' 6507 = nI 0
section NL
variable {S S' : Nat → Int32} {i : Nat}
theorem NwL.sp (h : NwL S S' i) (hi : i < 20) {l : Nat} (hl : l < 400) : spanS S' l = spanS S l := by unfold spanS; rw [h.1 _ (by omega) (by omega) (by omega) (by omega) (by omega) (by omega)]
theorem NwL.nmE (h : NwL S S' i) (hi : i < 20) : nm S' = nm S := by unfold nm; rw [h.1 _ (by omega) (by omega) (by omega) (by omega) (by omega) (by omega)]
theorem NwL.lnE (h : NwL S S' i) (hi : i < 20) {j : Nat} (hj : j < 20) (hji : j ≠ i) : ln S' j = ln S j := by unfold ln; rw [h.1 _ (by omega) (by omega) (by omega) (by omega) (by omega) (by omega)]
theorem NwL.lenE (h : NwL S S' i) (hi : i < 20) {j : Nat} (hj : j < 20) (hji : j ≠ i) : lenS S' j = lenS S j := by unfold lenS; rw [h.lnE hi hj hji, h.1 _ (by omega) (by omega) (by omega) (by omega) (by omega) (by omega)]
theorem NwL.st (h : NwL S S' i) (hi : i < 20) (hL : LnOk S) (h0 : inS S i = 0) {l j q : Nat} (hl : l < nm S) (hl2 : l < 400) (s : StA S l j q) : StA S' l j q := by
  obtain ⟨a1, a2, a3, a4, a5, a6, a7⟩ := s
  have hji : j ≠ i := fun e => by
    subst e
    have := in_pos hl a1 a2
    omega
  have := (hL j a4).2
  refine ⟨by rw [h.1 _ (by omega) (by omega) (by omega) (by omega) (by omega) (by omega)]; exact a1, by rw [h.1 _ (by omega) (by omega) (by omega) (by omega) (by omega) (by omega)]; exact a2, by rw [h.1 _ (by omega) (by omega) (by omega) (by omega) (by omega) (by omega)]; exact a3, a4, by rw [h.1 _ (by omega) (by omega) (by omega) (by omega) (by omega) (by omega)]; exact a5, by rw [h.sp hi hl2, h.lnE hi a4 hji]; exact a6, fun k hk => ?_⟩
  rw [h.sp hi hl2] at hk
  rw [h.1 _ (by omega) (by omega) (by omega) (by omega) (by omega) (by omega)]
  exact a7 k hk
theorem NwL.inE (h : NwL S S' i) (hi : i < 20) (hN : NmOk S) (j : Nat) : inS S' j = inS S j := by
  have n2 := hN.2
  unfold inS
  rw [h.nmE hi]
  refine cntR_congr fun p _ hp => ?_
  rw [h.1 (3300 + p) (by omega) (by omega) (by omega) (by omega) (by omega) (by omega), h.1 (3700 + p) (by omega) (by omega) (by omega) (by omega) (by omega) (by omega)]
theorem NwL.wf (h : NwL S S' i) (hi : i < 20) (W : Wf S) (hsea : ¬ S 6501 = nI 1) (he : ¬ (S (800 + i) = nI 1 ∧ emS S i = false)) (hl : S' (820 + i) = nI (ln S' i) ∧ ln S' i ≤ 40) (ht : S' (800 + i) = nI 0 ∨ S' (800 + i) = nI 1 ∧ 1 ≤ ln S' i ∧ (S' (880 + i) = nI 1 ∨ S' (880 + i) = nI 2 ∨ S' (880 + i) = nI 3)) : Wf S' := by
  have n2 := W.nm.2
  obtain ⟨c1, c2, c3⟩ := em_cells W.b hi he
  have off : ∀ y, (y < 800 ∨ 900 ≤ y) → y ≠ 6507 → S' y = S y := fun y h1 h2 => h.1 y (by omega) (by omega) (by omega) (by omega) (by omega) h2
  have ek : ak S' = 0 := by unfold ak; rw [h.2]; rfl
  have nmE := h.nmE hi
  refine ⟨fun j hj => ?_, ?_, fun j hj => ?_, fun l hl => ?_, fun l hl => ?_, fun j p hj hp => ?_, W.y.of (off _ (by omega) (by omega)) (off _ (by omega) (by omega)) (off _ (by omega) (by omega)), ⟨by rw [ek]; exact h.2, by omega⟩, by rw [ek]; trivial, W.m1.of (off _ (by omega) (by omega)), W.m2.of (off _ (by omega) (by omega)), fun _ => h.2, fun q => ?_⟩
  · by_cases hji : j = i
    · subst hji; exact hl
    · rw [h.lnE hi hj hji, h.1 _ (by omega) (by omega) (by omega) (by omega) (by omega) (by omega)]; exact W.ln j hj
  · unfold NmOk; rw [nmE, off _ (by omega) (by omega)]; exact W.nm
  · by_cases hji : j = i
    · subst hji; exact ht
    · rw [h.lnE hi hj hji, h.1 (800 + j) (by omega) (by omega) (by omega) (by omega) (by omega) (by omega), h.1 (880 + j) (by omega) (by omega) (by omega) (by omega) (by omega) (by omega)]; exact W.t j hj
  · rw [nmE] at hl ⊢
    rw [off (900 + l) (by omega) (by omega), off (2500 + l) (by omega) (by omega), off (2100 + l) (by omega) (by omega), off (2900 + l) (by omega) (by omega)]
    exact W.d l hl
  · rw [nmE] at hl
    rcases W.w l hl with q | ⟨j, q, s⟩
    · exact Or.inl (q.of (off _ (by omega) (by omega)) (off _ (by omega) (by omega)) (off _ (by omega) (by omega)))
    · exact Or.inr ⟨j, q, h.st hi W.ln c2 hl (by omega) s⟩
  · rw [off _ (by omega) (by omega)]
    by_cases hji : j = i
    · subst hji; exact Or.inl (c1 p hp)
    · rw [h.lenE hi hj hji, nmE]
      rcases W.c j p hj hp with q | q | ⟨l, q, a1, a2, a3, a4, a5⟩
      · exact Or.inl q
      · exact Or.inr (Or.inl q)
      · exact Or.inr (Or.inr ⟨l, q, a1, a2, h.st hi W.ln c2 a1 (by omega) a3, a4, by rw [h.sp hi (by omega)]; exact a5⟩)
  · rw [off _ (by omega) (by omega)] at q
    exact absurd q hsea
theorem NwL.sh (h : NwL S S' i) (hi : i < 20) (W : Wf S) (he : ¬ (S (800 + i) = nI 1 ∧ emS S i = false)) {m : am_M} {a : Nat} {L : Int64} (v : ShV m a S L) {l g o e : Int32} (h1 : l = nI (lenS S' i)) (h12 : lenS S' i ≤ 40) (h2 : S' (800 + i) = nI 1 → g = S' (840 + i) ∧ o = S' (860 + i) ∧ e = S' (880 + i)) :
    ShV (sA (sA (sA m (a + 26 + 2 * i) (bdF (mI m (a + 26 + 2 * i)) l g o e)) (a + 26 + 2 * i + 1) (fillS (mI m (a + 26 + 2 * i + 1)) 0 40 (-1))) (a + 12) (up1 (up1 (mI m (a + 12)) 4 (nI 0)) 5 (nI 0))) a S' L := by
  have n2 := W.nm.2
  obtain ⟨c1, c2, c3⟩ := em_cells W.b hi he
  have off : ∀ y, (y < 800 ∨ 900 ≤ y) → y ≠ 6507 → S' y = S y := fun y h1 h2 => h.1 y (by omega) (by omega) (by omega) (by omega) (by omega) h2
  have hm : ∀ x, x ≠ a + 26 + 2 * i → x ≠ a + 26 + 2 * i + 1 → x ≠ a + 12 → mI (sA (sA (sA m (a + 26 + 2 * i) (bdF (mI m (a + 26 + 2 * i)) l g o e)) (a + 26 + 2 * i + 1) (fillS (mI m (a + 26 + 2 * i + 1)) 0 40 (-1))) (a + 12) (up1 (up1 (mI m (a + 12)) 4 (nI 0)) 5 (nI 0))) x = mI m x := fun x x1 x2 x3 => by rw [I_sA' _ _ x3, I_sA' _ _ x2, I_sA' _ _ x1]
  have chE : ∀ j, j < 20 → j ≠ i → chN S' j = chN S j := by
    intro j hj hji
    have := lenS_le W.ln hj
    unfold chN
    rw [h.lenE hi hj hji]
    refine cntR_congr fun p _ hp => ?_
    rw [off p (by omega) (by omega)]
  refine ⟨fun j hj => ?_, ?_, ?_, ?_, ?_, ?_, ?_⟩
  · by_cases hji : j = i
    · subst hji
      have hch : chN S' j = 0 := by
        unfold chN
        refine cntR_zero fun p p1 p2 => ?_
        have := c1 (p - 40 * j) (by omega)
        rw [show 40 * j + (p - 40 * j) = p by omega] at this
        rw [off p (by omega) (by omega), this]
        rfl
      unfold LaV
      rw [I_sA' _ _ (by omega), I_sA' _ _ (by omega), I_sA, I_sA' _ _ (by omega), I_sA, h.inE hi W.nm, c2, hch]
      refine ⟨by simp [bdF, up1, h1], fun q => ?_, fun p hp => ?_, by simp [bdF, up1], by simp [bdF, up1]⟩
      · obtain ⟨q1, q2, q3⟩ := h2 q
        exact ⟨by simp [bdF, up1, q1], by simp [bdF, up1, q2], by simp [bdF, up1, q3]⟩
      · rw [fillS_in (by omega), off _ (by omega) (by omega), c1 p (by omega)]
    · have := lenS_le W.ln hj
      exact ((v.la hj).mem (hm _ (by omega) (by omega) (by omega)) (hm _ (by omega) (by omega) (by omega))).arr (h.1 _ (by omega) (by omega) (by omega) (by omega) (by omega) (by omega)) (h.1 _ (by omega) (by omega) (by omega) (by omega) (by omega) (by omega)) (h.1 _ (by omega) (by omega) (by omega) (by omega) (by omega) (by omega)) (h.1 _ (by omega) (by omega) (by omega) (by omega) (by omega) (by omega)) (h.1 _ (by omega) (by omega) (by omega) (by omega) (by omega) (by omega)) (fun p hp => off _ (by omega) (by omega)) (h.inE hi W.nm j) (chE j hj hji)
  · have vl := v.lo.mem (m' := sA (sA (sA m (a + 26 + 2 * i) (bdF (mI m (a + 26 + 2 * i)) l g o e)) (a + 26 + 2 * i + 1) (fillS (mI m (a + 26 + 2 * i + 1)) 0 40 (-1))) (a + 12) (up1 (up1 (mI m (a + 12)) 4 (nI 0)) 5 (nI 0))) (fun k hk => hm _ (by omega) (by omega) (by omega))
    unfold LoV
    rw [h.nmE hi, off 6500 (by omega) (by omega)]
    refine ⟨vl.1, fun x hx => ?_⟩
    have t1 : tallS S' x = tallS S x := by unfold tallS moreS; rw [off (900 + x) (by omega) (by omega), off (1300 + x) (by omega) (by omega)]
    have t2 : unitS S' x = unitS S x := by unfold unitS; rw [off (900 + x) (by omega) (by omega), off (1700 + x) (by omega) (by omega)]
    rw [t1, t2, off (900 + x) (by omega) (by omega), off (2100 + x) (by omega) (by omega), off (2500 + x) (by omega) (by omega), off (2900 + x) (by omega) (by omega), off (3300 + x) (by omega) (by omega), off (3700 + x) (by omega) (by omega), off (4100 + x) (by omega) (by omega)]
    exact vl.2 x hx
  · have := AcV.clear (m := sA (sA m (a + 26 + 2 * i) (bdF (mI m (a + 26 + 2 * i)) l g o e)) (a + 26 + 2 * i + 1) (fillS (mI m (a + 26 + 2 * i + 1)) 0 40 (-1))) (o := a + 12) h.2
    rw [I_sA' _ _ (by omega), I_sA' _ _ (by omega)] at this
    exact this
  · exact (v.pl.mem (fun k hk => hm _ (by omega) (by omega) (by omega))).arr (fun y y1 y2 => off _ (by omega) (by omega))
  · exact (v.ash.mem (hm _ (by omega) (by omega) (by omega)) (hm _ (by omega) (by omega) (by omega))).arr W.m1 (off _ (by omega) (by omega)) (fun j hj => off _ (by omega) (by omega))
  · exact (v.dep.mem (hm _ (by omega) (by omega) (by omega)) (hm _ (by omega) (by omega) (by omega))).arr W.m2 (off _ (by omega) (by omega)) (fun j hj => off _ (by omega) (by omega))
  · exact (v.sc.mem (hm _ (by omega) (by omega) (by omega)) rfl).arr (fun y y1 y2 => off _ (by omega) (by omega))
end NL
theorem sh_hold {d a i : Nat} {m : am_M} {S : Nat → Int32} {L : Int64} (k : ShK m a) (v : ShV m a S L) (W : Wb S) (hi : i < 20) : cal d 14 [.ref (a + 26 + 2 * i)] m = some (some (.int (bI (decide (S (800 + i) = nI 1 ∧ emS S i = false)))), m) := by
  have n2 := W.nm.2
  have l2 := lenS_le W.ln hi
  have hin2 : inS S i ≤ 400 := by
    have := cntR_le (fun y => decide (S (3300 + y) = nI 1) && decide (S (3700 + y) = nI i)) 0 (nm S)
    unfold inS
    omega
  have hch2 : chN S i ≤ 40 := by
    have := cntR_le (fun y => decide (S y = -2)) (40 * i) (lenS S i)
    unfold chN
    omega
  rw [sp_14 (k.la i hi), (v.la hi).2.2.2.1, (v.la hi).2.2.2.2, dlt_nI (by omega) (by omega), dlt_nI (by omega) (by omega)]
  have e : (decide (0 < inS S i) || decide (0 < chN S i)) = decide (S (800 + i) = nI 1 ∧ emS S i = false) := by
    rw [Bool.eq_iff_iff, Bool.or_eq_true, decide_eq_true_eq, decide_eq_true_eq, decide_eq_true_eq]
    exact hold_iff W hi
  rw [e]
/-! the day -/
theorem wf_day {S : Nat → Int32} {p : Nat} (W : Wf S) (hs : ¬ S 6501 = nI 1) (h1 : 1 ≤ p) (h2 : p ≤ 12) : Wf (dayE S (nI p)) := by
  have off : ∀ y, y ≠ 6503 → y ≠ 6507 → dayE S (nI p) y = S y := fun y h1 h2 => by unfold dayE; rw [up1_ne h2, up1_ne h1]
  have al : AgL S (dayE S (nI p)) := ⟨fun y hy => off y (by omega) (by omega), off _ (by omega) (by omega)⟩
  have e3 : dayE S (nI p) 6503 = nI p := by unfold dayE; rw [up1_ne (by omega), up1_eq]
  have e7 : dayE S (nI p) 6507 = nI 0 := by unfold dayE; rw [up1_eq]
  have ek : ak (dayE S (nI p)) = 0 := by unfold ak; rw [e7]; rfl
  have q0 : S 6501 = nI 0 ∧ S 6502 = -1 := by
    rcases W.y with ⟨-, h | ⟨h, -⟩⟩
    · exact h
    · exact absurd h hs
  refine ⟨al.lnok W.ln, al.nmok W.nm, al.t W.t, al.d W.nm W.d, al.w W.nm W.ln W.w, al.c W.nm W.ln W.c, ⟨⟨p, e3, h1, h2⟩, Or.inl ⟨by rw [off _ (by omega) (by omega)]; exact q0.1, by rw [off _ (by omega) (by omega)]; exact q0.2⟩⟩, ⟨by rw [ek]; exact e7, by omega⟩, by rw [ek]; trivial, W.m1.of (off _ (by omega) (by omega)), W.m2.of (off _ (by omega) (by omega)), fun _ => e7, fun q => ?_⟩
  rw [off _ (by omega) (by omega)] at q
  exact absurd q hs
theorem ShV.day {m : am_M} {a : Nat} {S : Nat → Int32} {L L' : Int64} {x : Int32} (v : ShV m a S L) (W : Wf S) : ShV (sL (sA (sA m a (up1 (mI m a) 7 x)) (a + 12) (up1 (up1 (mI m (a + 12)) 4 (nI 0)) 5 (nI 0))) a 8 L') a (dayE S x) L' := by
  have off : ∀ y, y ≠ 6503 → y ≠ 6507 → dayE S x y = S y := fun y h1 h2 => by unfold dayE; rw [up1_ne h2, up1_ne h1]
  have al : AgL S (dayE S x) := ⟨fun y hy => off y (by omega) (by omega), off _ (by omega) (by omega)⟩
  have e3 : dayE S x 6503 = x := by unfold dayE; rw [up1_ne (by omega), up1_eq]
  have e7 : dayE S x 6507 = nI 0 := by unfold dayE; rw [up1_eq]
  have hm : ∀ y, y ≠ a → y ≠ a + 12 → mI (sL (sA (sA m a (up1 (mI m a) 7 x)) (a + 12) (up1 (up1 (mI m (a + 12)) 4 (nI 0)) 5 (nI 0))) a 8 L') y = mI m y := fun y y1 y2 => by rw [mI_sL, I_sA' _ _ y2, I_sA' _ _ y1]
  refine ⟨fun i hi => al.la W.nm W.ln hi ((v.la hi).mem (hm _ (by omega) (by omega)) (hm _ (by omega) (by omega))), al.lo W.nm (v.lo.mem fun k hk => hm _ (by omega) (by omega)), ?_, ?_, ?_, ?_, ?_⟩
  · have := AcV.clear (m := sA m a (up1 (mI m a) 7 x)) (o := a + 12) e7
    rw [I_sA' _ _ (by omega)] at this
    exact this.mem (fun k hk => by rw [mI_sL])
  · exact (v.pl.mem (fun k hk => hm _ (by omega) (by omega))).arr (fun y y1 y2 => off _ (by omega) (by omega))
  · exact (v.ash.mem (hm _ (by omega) (by omega)) (hm _ (by omega) (by omega))).arr W.m1 (off _ (by omega) (by omega)) (fun j hj => off _ (by omega) (by omega))
  · exact (v.dep.mem (hm _ (by omega) (by omega)) (hm _ (by omega) (by omega))).arr W.m2 (off _ (by omega) (by omega)) (fun j hj => off _ (by omega) (by omega))
  · unfold ScV
    rw [mI_sL, I_sA' _ _ (by omega), I_sA, xL_sL, if_pos ⟨rfl, rfl⟩, up1_ne (by omega), up1_eq, up1_ne (by omega), e3, off _ (by omega) (by omega), off _ (by omega) (by omega)]
    exact ⟨v.sc.1, rfl, rfl, v.sc.2.2.2⟩
