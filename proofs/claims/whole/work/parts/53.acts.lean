/-! lanes and loads as they were; the acts -/
def AgL (S S' : Nat → Int32) : Prop := (∀ y, y < 4500 → S' y = S y) ∧ S' 6500 = S 6500
section AGL
variable {S S' : Nat → Int32}
theorem AgL.nmE (h : AgL S S') : nm S' = nm S := by unfold nm; rw [h.2]
theorem AgL.lnE (h : AgL S S') {i : Nat} (hi : i < 20) : ln S' i = ln S i := by unfold ln; rw [h.1 _ (by omega)]
theorem AgL.lenE (h : AgL S S') {i : Nat} (hi : i < 20) : lenS S' i = lenS S i := by unfold lenS; rw [h.1 _ (by omega), h.lnE hi]
theorem AgL.sp (h : AgL S S') {l : Nat} (hl : l < 400) : spanS S' l = spanS S l := by unfold spanS; rw [h.1 _ (by omega)]
theorem AgL.tall (h : AgL S S') {l : Nat} (hl : l < 400) : tallS S' l = tallS S l := by unfold tallS moreS; rw [h.1 (900 + l) (by omega), h.1 (1300 + l) (by omega)]
theorem AgL.unit (h : AgL S S') {l : Nat} (hl : l < 400) : unitS S' l = unitS S l := by unfold unitS; rw [h.1 (900 + l) (by omega), h.1 (1700 + l) (by omega)]
theorem AgL.inE (h : AgL S S') (hN : NmOk S) (i : Nat) : inS S' i = inS S i := by
  have := hN.2
  unfold inS
  rw [h.nmE]
  refine cntR_congr fun p _ hp => ?_
  rw [h.1 (3300 + p) (by omega), h.1 (3700 + p) (by omega)]
theorem AgL.chE (h : AgL S S') (hL : LnOk S) {i : Nat} (hi : i < 20) : chN S' i = chN S i := by
  have := lenS_le hL hi
  unfold chN
  rw [h.lenE hi]
  refine cntR_congr fun p _ hp => ?_
  rw [h.1 p (by omega)]
theorem AgL.la (h : AgL S S') (hN : NmOk S) (hL : LnOk S) {m : am_M} {o i : Nat} (hi : i < 20) (v : LaV m o S i) : LaV m o S' i := by
  have := lenS_le hL hi
  exact v.arr (h.1 _ (by omega)) (h.1 _ (by omega)) (h.1 _ (by omega)) (h.1 _ (by omega)) (h.1 _ (by omega)) (fun p hp => h.1 _ (by omega)) (h.inE hN i) (h.chE hL hi)
theorem AgL.lo (h : AgL S S') (hN : NmOk S) {m : am_M} {o : Nat} (v : LoV m o S) : LoV m o S' := by
  have n2 := hN.2
  unfold LoV
  rw [h.nmE, h.2]
  refine ⟨v.1, fun l hl => ?_⟩
  rw [h.1 (900 + l) (by omega), h.tall (by omega), h.unit (by omega), h.1 (2100 + l) (by omega), h.1 (2500 + l) (by omega), h.1 (2900 + l) (by omega), h.1 (3300 + l) (by omega), h.1 (3700 + l) (by omega), h.1 (4100 + l) (by omega)]
  exact v.2 l hl
theorem AgL.lnok (h : AgL S S') (w : LnOk S) : LnOk S' := fun i hi => by rw [h.lnE hi, h.1 _ (by omega)]; exact w i hi
theorem AgL.nmok (h : AgL S S') (w : NmOk S) : NmOk S' := by unfold NmOk; rw [h.nmE, h.2]; exact w
theorem AgL.t (h : AgL S S') (w : WfT S) : WfT S' := fun i hi => by rw [h.lnE hi, h.1 (800 + i) (by omega), h.1 (880 + i) (by omega)]; exact w i hi
theorem AgL.d (h : AgL S S') (hN : NmOk S) (w : WfD S) : WfD S' := by
  have n2 := hN.2
  intro l hl
  rw [h.nmE] at hl ⊢
  rw [h.1 (900 + l) (by omega), h.1 (2500 + l) (by omega), h.1 (2100 + l) (by omega), h.1 (2900 + l) (by omega)]
  exact w l hl
theorem AgL.st (h : AgL S S') (hL : LnOk S) {l i q : Nat} (hl : l < 400) (s : StA S l i q) : StA S' l i q := by
  obtain ⟨a1, a2, a3, a4, a5, a6, a7⟩ := s
  have := (hL i a4).2
  refine ⟨by rw [h.1 _ (by omega)]; exact a1, by rw [h.1 _ (by omega)]; exact a2, by rw [h.1 _ (by omega)]; exact a3, a4, by rw [h.1 _ (by omega)]; exact a5, by rw [h.sp hl, h.lnE a4]; exact a6, fun k hk => ?_⟩
  rw [h.sp hl] at hk
  rw [h.1 _ (by omega)]
  exact a7 k hk
theorem AgL.w (h : AgL S S') (hN : NmOk S) (hL : LnOk S) (w : WfW S) : WfW S' := by
  have n2 := hN.2
  intro l hl
  rw [h.nmE] at hl
  rcases w l hl with q | ⟨i, q, s⟩
  · exact Or.inl (q.of (h.1 _ (by omega)) (h.1 _ (by omega)) (h.1 _ (by omega)))
  · exact Or.inr ⟨i, q, h.st hL (by omega) s⟩
theorem AgL.c (h : AgL S S') (hN : NmOk S) (hL : LnOk S) (w : WfC S) : WfC S' := by
  have n2 := hN.2
  intro i p hi hp
  rw [h.1 _ (by omega), h.lenE hi, h.nmE]
  rcases w i p hi hp with q | q | ⟨l, q, a1, a2, a3, a4, a5⟩
  · exact Or.inl q
  · exact Or.inr (Or.inl q)
  · exact Or.inr (Or.inr ⟨l, q, a1, a2, h.st hL (by omega) a3, a4, by rw [h.sp (by omega)]; exact a5⟩)
end AGL
theorem DyOk.of {S S' : Nat → Int32} (h : DyOk S) (h1 : S' 6501 = S 6501) (h2 : S' 6502 = S 6502) (h3 : S' 6503 = S 6503) : DyOk S' := by unfold DyOk; rw [h1, h2, h3]; exact h
theorem MvOk.of {S S' : Nat → Int32} {c : Nat} (h : MvOk S c) (h1 : S' c = S c) : MvOk S' c := by unfold MvOk; rw [h1]; exact h
theorem actS_agl {S : Nat → Int32} {o a b c : Int32} (hA : AkOk S) : AgL S (actS S o a b c) := ⟨fun y hy => actS_off hA (by omega) (by omega), actS_off hA (by omega) (by omega)⟩
theorem Wf.act {S S1 : Nat → Int32} {o a b c : Int32} (W : Wf S) (ag : AgM S S1) (hW : WfW S1) (hC : WfC S1) (hv : unV S1 o a b c) (he : EqU S (unS S1 o a b c)) (hs : ¬ S 6501 = nI 1) : Wf (actS S1 o a b c) := by
  have hA1 := ag.akok W.a
  have hL1 := ag.lnok W.ln
  have hN1 := ag.nmok W.nm
  have al := actS_agl (o := o) (a := a) (b := b) (c := c) hA1
  refine ⟨al.lnok hL1, al.nmok hN1, al.t (ag.t W.t), al.d hN1 (ag.d W.nm W.d), al.w hN1 hL1 hW, al.c hN1 hL1 hC, (ag.y W.y).of (actS_off hA1 (by omega) (by omega)) (actS_off hA1 (by omega) (by omega)) (actS_off hA1 (by omega) (by omega)), actS_ok hA1, UV_push ag W.ln W.nm W.a W.u hv he, (ag.mv (by omega) W.m1).of (actS_off hA1 (by omega) (by omega)), (ag.mv (by omega) W.m2).of (actS_off hA1 (by omega) (by omega)), fun q => ?_, fun q => ?_⟩
  all_goals
    rw [actS_off hA1 (by omega) (by omega), ag _ (by omega) (by omega)] at q
    exact absurd q hs
/-! the ring -/
section RG
variable {m : am_M} {o t n : Nat} {x1 x2 x3 x4 : Int32}
theorem puM_0 : mI (puM m o t n x1 x2 x3 x4) o = up1 (up1 (mI m o) 5 (nI (if t + 1 < 100 then t + 1 else 0))) 4 (nI (if n < 100 then n + 1 else 100)) := by
  unfold puM
  rw [I_sA]
theorem puM_1 : mI (puM m o t n x1 x2 x3 x4) (o + 1) = up1 (mI m (o + 1)) t x1 := by
  unfold puM
  rw [I_sA' _ _ (by omega), I_sA' _ _ (by omega), I_sA' _ _ (by omega), I_sA' _ _ (by omega), I_sA]
theorem puM_2 : mI (puM m o t n x1 x2 x3 x4) (o + 2) = up1 (mI m (o + 2)) t x2 := by
  unfold puM
  rw [I_sA' _ _ (by omega), I_sA' _ _ (by omega), I_sA' _ _ (by omega), I_sA]
theorem puM_3 : mI (puM m o t n x1 x2 x3 x4) (o + 3) = up1 (mI m (o + 3)) t x3 := by
  unfold puM
  rw [I_sA' _ _ (by omega), I_sA' _ _ (by omega), I_sA]
theorem puM_4 : mI (puM m o t n x1 x2 x3 x4) (o + 4) = up1 (mI m (o + 4)) t x4 := by
  unfold puM
  rw [I_sA' _ _ (by omega), I_sA]
theorem puM_off {x : Nat} (h : x < o ∨ o + 4 < x) : mI (puM m o t n x1 x2 x3 x4) x = mI m x := by
  unfold puM
  rw [I_sA' _ _ (by omega), I_sA' _ _ (by omega), I_sA' _ _ (by omega), I_sA' _ _ (by omega), I_sA' _ _ (by omega)]
theorem puM_fr {a : Nat} {m0 : am_M} (h : Fr a m0 m) (h1 : a ≤ o) (h2 : o + 4 < a + 66) : Fr a m0 (puM m o t n x1 x2 x3 x4) := ((((h.sA (by omega) (by omega)).sA (by omega) (by omega)).sA (by omega) (by omega)).sA (by omega) (by omega)).sA (by omega) (by omega)
end RG
theorem AcV.push {m : am_M} {o : Nat} {S : Nat → Int32} {p a b c x2 x3 x4 : Int32} (v : AcV m o S) (hA : AkOk S) (hx : ((p = nI 1 ∨ p = nI 2) ∧ x2 = a ∧ x3 = b ∧ x4 = c) ∨ ((p = nI 3 ∨ p = nI 4) ∧ x3 = a ∧ x4 = b)) : ∃ t, t < 100 ∧ mI m o 5 = nI t ∧ AcV (puM m o t (ak S) p x2 x3 x4) o (actS S p a b c) := by
  have a2 := hA.2
  obtain ⟨v1, t, v2, v3, v4⟩ := v
  refine ⟨t, v2, v3, ?_⟩
  have hk := actS_ak (o := p) (a := a) (b := b) (c := c) hA
  have hk' := actS_k (o := p) (a := a) (b := b) (c := c) hA
  obtain ⟨n1, n2, n3, n4⟩ := actS_new (o := p) (a := a) (b := b) (c := c) hA
  unfold AcV
  rw [puM_0, puM_1, puM_2, puM_3, puM_4]
  refine ⟨?_, (if t + 1 < 100 then t + 1 else 0), by split <;> omega, ?_, ?_⟩
  · rw [up1_eq, hk']
    congr 1
    by_cases q : ak S = 100
    · rw [if_neg (by omega), if_pos q]
    · rw [if_pos (by omega), if_neg q]
  · rw [up1_ne (by omega), up1_eq]
  · intro j hj
    have hnew : j = ak (actS S p a b c) - 1 → (actS S p a b c (6100 + 4 * j) = p ∧ actS S p a b c (6100 + 4 * j + 1) = a ∧ actS S p a b c (6100 + 4 * j + 2) = b ∧ actS S p a b c (6100 + 4 * j + 3) = c) := by
      intro e
      rw [← e] at n1 n2 n3 n4
      exact ⟨n1, n2, n3, n4⟩
    by_cases hj2 : j = ak (actS S p a b c) - 1
    · obtain ⟨m1, m2, m3, m4⟩ := hnew hj2
      have hidx : rgI (if t + 1 < 100 then t + 1 else 0) (ak (actS S p a b c)) j = t := by
        unfold rgI
        rw [hk] at hj hj2 ⊢
        split <;> split at hj <;> split at hj2 <;> split <;> omega
      rw [hidx, up1_eq, up1_eq, up1_eq, up1_eq, m1, m2, m3, m4]
      refine ⟨rfl, fun hq => ?_, fun hq => ?_⟩
      · rcases hx with ⟨-, e2, e3, e4⟩ | ⟨e1, -⟩
        · exact ⟨e2, e3, e4⟩
        · exfalso
          rcases hq with rfl | rfl <;> rcases e1 with e1 | e1 <;> revert e1 <;> decide
      · rcases hx with ⟨e1, -⟩ | ⟨-, e3, e4⟩
        · exfalso
          rcases hq with rfl | rfl <;> rcases e1 with e1 | e1 <;> revert e1 <;> decide
        · exact ⟨e3, e4⟩
    · -- an old one: the (j + 1)-th if they are full, else the j-th
      have key : ∃ j', j' < ak S ∧ rgI (if t + 1 < 100 then t + 1 else 0) (ak (actS S p a b c)) j = rgI t (ak S) j' ∧ rgI t (ak S) j' ≠ t ∧ (∀ r, r < 4 → actS S p a b c (6100 + 4 * j + r) = S (6100 + 4 * j' + r)) := by
        by_cases q : ak S = 100
        · rw [hk, if_pos q] at hj hj2
          refine ⟨j + 1, by omega, ?_, ?_, ?_⟩
          · unfold rgI
            rw [hk, if_pos q, q]
            split <;> omega
          · unfold rgI
            omega
          · intro r hr
            have := actS_sh (o := p) (a := a) (b := b) (c := c) hA q (j := 4 * j + r) (by omega)
            unfold acR at this
            rw [show 6100 + 4 * j + r = 6100 + (4 * j + r) by omega, this]
            congr 1
            omega
        · rw [hk, if_neg q] at hj hj2
          refine ⟨j, by omega, ?_, ?_, ?_⟩
          · unfold rgI
            rw [hk, if_neg q]
            split <;> omega
          · unfold rgI
            omega
          · intro r hr
            have := actS_old (o := p) (a := a) (b := b) (c := c) hA (by omega) (j := 4 * j + r) (by omega)
            unfold acR at this
            rw [show 6100 + 4 * j + r = 6100 + (4 * j + r) by omega, this]
      obtain ⟨j', k1, k2, k3, k4⟩ := key
      rw [k2, up1_ne k3, up1_ne k3, up1_ne k3, up1_ne k3, show actS S p a b c (6100 + 4 * j) = S (6100 + 4 * j') from k4 0 (by omega), k4 1 (by omega), k4 2 (by omega), k4 3 (by omega)]
      exact v4 j' k1
/-- the ship's acts, one more -/
theorem ShV.push {m : am_M} {s : Nat} {S : Nat → Int32} {L : Int64} {p a b c x2 x3 x4 : Int32} (k : ShK m s) (v : ShV m s S L) (hL : LnOk S) (hN : NmOk S) (hA : AkOk S) (h5 : MvOk S 6505) (h6 : MvOk S 6506) (hx : ((p = nI 1 ∨ p = nI 2) ∧ x2 = a ∧ x3 = b ∧ x4 = c) ∨ ((p = nI 3 ∨ p = nI 4) ∧ x3 = a ∧ x4 = b)) :
    ∃ m', (∀ d, cal d 2 [.ref (s + 12), .int p, .int x2, .int x3, .int x4] m = some (none, m')) ∧ Fr s m m' ∧ ShV m' s (actS S p a b c) L := by
  obtain ⟨t, t1, t2, va⟩ := v.ac.push hA hx
  have al := actS_agl (o := p) (a := a) (b := b) (c := c) hA
  have hm : ∀ x, (x < s + 12 ∨ s + 12 + 4 < x) → mI (puM m (s + 12) t (ak S) p x2 x3 x4) x = mI m x := fun x hx => puM_off hx
  refine ⟨_, fun d => sp_2 k.ac t2 t1 (by rw [v.ac.1]; exact hA.1) hA.2, puM_fr (Fr.refl s m) (by omega) (by omega), ?_⟩
  refine ⟨fun i hi => al.la hN hL hi ((v.la hi).mem (hm _ (by omega)) (hm _ (by omega))), al.lo hN (v.lo.mem fun k hk => hm _ (by omega)), va, ?_, ?_, ?_, ?_⟩
  · exact (v.pl.mem (fun k hk => hm _ (by omega))).arr (fun y y1 y2 => actS_off hA (by omega) (by omega))
  · exact (v.ash.mem (hm _ (by omega)) (hm _ (by omega))).arr h5 (actS_off hA (by omega) (by omega)) (fun j hj => actS_off hA (by omega) (by omega))
  · exact (v.dep.mem (hm _ (by omega)) (hm _ (by omega))).arr h6 (actS_off hA (by omega) (by omega)) (fun j hj => actS_off hA (by omega) (by omega))
  · exact (v.sc.mem (hm _ (by omega)) rfl).arr (fun y y1 y2 => actS_off hA (by omega) (by omega))
