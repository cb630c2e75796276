/-! ACTS THAT CAN BE UNDONE -/
def Du (n y : Nat) : Prop := y < 900 ∨ ∃ l, l < n ∧ (y = 900 + l ∨ y = 3300 + l ∨ y = 3700 + l ∨ y = 4100 + l)
def EqU (S S' : Nat → Int32) : Prop := nm S ≤ nm S' ∧ ∀ y, Du (nm S) y → S' y = S y
theorem EqU.refl (S : Nat → Int32) : EqU S S := ⟨Nat.le_refl _, fun _ _ => rfl⟩
theorem EqU.trans {S T U : Nat → Int32} (h : EqU S T) (g : EqU T U) : EqU S U := by
  refine ⟨Nat.le_trans h.1 g.1, fun y hy => ?_⟩
  rw [g.2 y, h.2 y hy]
  rcases hy with q | ⟨l, a, b⟩
  · exact Or.inl q
  · exact Or.inr ⟨l, Nat.lt_of_lt_of_le a h.1, b⟩
section EU
variable {S S' : Nat → Int32}
theorem EqU.k (h : EqU S S') {l : Nat} (hl : l < nm S) : S' (900 + l) = S (900 + l) := h.2 _ (Or.inr ⟨l, hl, Or.inl rfl⟩)
theorem EqU.w (h : EqU S S') {l : Nat} (hl : l < nm S) : S' (3300 + l) = S (3300 + l) := h.2 _ (Or.inr ⟨l, hl, Or.inr (Or.inl rfl)⟩)
theorem EqU.n (h : EqU S S') {l : Nat} (hl : l < nm S) : S' (3700 + l) = S (3700 + l) := h.2 _ (Or.inr ⟨l, hl, Or.inr (Or.inr (Or.inl rfl))⟩)
theorem EqU.p (h : EqU S S') {l : Nat} (hl : l < nm S) : S' (4100 + l) = S (4100 + l) := h.2 _ (Or.inr ⟨l, hl, Or.inr (Or.inr (Or.inr rfl))⟩)
theorem EqU.c (h : EqU S S') {y : Nat} (hy : y < 900) : S' y = S y := h.2 _ (Or.inl hy)
theorem EqU.sp (h : EqU S S') {l : Nat} (hl : l < nm S) : spanS S' l = spanS S l := by unfold spanS; rw [h.k hl]
theorem EqU.lnE (h : EqU S S') {i : Nat} (hi : i < 20) : ln S' i = ln S i := by unfold ln; rw [h.c (by omega)]
theorem EqU.st (h : EqU S S') (hL : LnOk S) {l i q : Nat} (hl : l < nm S) (s : StA S l i q) : StA S' l i q := by
  obtain ⟨a1, a2, a3, a4, a5, a6, a7⟩ := s
  have := (hL i a4).2
  refine ⟨by rw [h.w hl]; exact a1, by rw [h.n hl]; exact a2, by rw [h.p hl]; exact a3, a4, by rw [h.c (by omega)]; exact a5, by rw [h.sp hl, h.lnE a4]; exact a6, fun k hk => ?_⟩
  rw [h.sp hl] at hk
  rw [h.c (by omega)]
  exact a7 k hk
theorem EqU.take (h : EqU S S') (hN : NmOk S') {l i q : Nat} {w : Int32} (hl : l < nm S) (hi : i < 20) (hq : q + spanS S l ≤ 40) : EqU (takeS S l w i q) (takeS S' l w i q) := by
  have n2 := hN.2
  have h1 := h.1
  have ag := takeS_ag (S := S) (l := l) (i := i) (q := q) (w := w) (by omega) hi hq
  have ag' := takeS_ag (S := S') (l := l) (i := i) (q := q) (w := w) (by omega) hi (by rw [h.sp hl]; exact hq)
  refine ⟨by rw [ag.nmE, ag'.nmE]; exact h.1, fun y hy => ?_⟩
  rw [ag.nmE] at hy
  simp only [takeS, up1_at, fillS]
  rw [h.sp hl, h.2 y hy]
theorem EqU.put (h : EqU S S') (hN : NmOk S') {l i q : Nat} (hl : l < nm S) (hi : i < 20) (hq : q + spanS S l ≤ 40) : EqU (putS S l i q) (putS S' l i q) := by
  have n2 := hN.2
  have h1 := h.1
  have ag := putS_ag (S := S) (l := l) (i := i) (q := q) (by omega) hi hq
  have ag' := putS_ag (S := S') (l := l) (i := i) (q := q) (by omega) hi (by rw [h.sp hl]; exact hq)
  refine ⟨by rw [ag.nmE, ag'.nmE]; exact h.1, fun y hy => ?_⟩
  rw [ag.nmE] at hy
  simp only [putS, up1_at, fillS]
  rw [h.sp hl, h.2 y hy]
theorem EqU.up (h : EqU S S') {y : Nat} {v : Int32} (hy : y < 800) : EqU (up1 S y v) (up1 S' y v) := by
  have ag := up1_ag (S := S) (y := y) (v := v) hy
  have ag' := up1_ag (S := S') (y := y) (v := v) hy
  refine ⟨by rw [ag.nmE, ag'.nmE]; exact h.1, fun z hz => ?_⟩
  rw [ag.nmE] at hz
  simp only [up1_at]
  rw [h.2 z hz]
theorem EqU.v (h : EqU S S') (hL : LnOk S) {o a b c : Int32} (v : unV S o a b c) : unV S' o a b c := by
  have h1 := h.1
  rcases v with ⟨e, l, i, q, x1, x2, x3⟩ | ⟨e, l, i, q, x1, x2, x3, x4, x5, x6, x7, x8, x9⟩ | ⟨e, i, p, x1, x2, x3, x4, x5, x6⟩ | ⟨e, i, p, x1, x2, x3, x4, x5, x6⟩
  · exact Or.inl ⟨e, l, i, q, by omega, x2, h.st hL x1 x3⟩
  · have := (hL i x5).2
    refine Or.inr (Or.inl ⟨e, l, i, q, by omega, x2, x3, x4, x5, by rw [h.w x1]; exact x6, by rw [h.c (by omega)]; exact x7, by rw [h.sp x1, h.lnE x5]; exact x8, fun k hk => ?_⟩)
    rw [h.sp x1] at hk
    rw [h.c (by omega)]
    exact x9 k hk
  · have := (hL i x1).2
    exact Or.inr (Or.inr (Or.inl ⟨e, i, p, x1, x2, x3, by rw [h.c (by omega)]; exact x4, by rw [h.lnE x1]; exact x5, by rw [h.c (by omega)]; exact x6⟩))
  · have := (hL i x1).2
    exact Or.inr (Or.inr (Or.inr ⟨e, i, p, x1, x2, x3, by rw [h.c (by omega)]; exact x4, by rw [h.lnE x1]; exact x5, by rw [h.c (by omega)]; exact x6⟩))
end EU
theorem unS_1 (S : Nat → Int32) (a b c : Int32) : unS S (nI 1) a b c = takeS S a.toNatClampNeg (nI 0) (S (3700 + a.toNatClampNeg)).toNatClampNeg (S (4100 + a.toNatClampNeg)).toNatClampNeg := by unfold unS; rw [if_pos rfl]
theorem unS_2 (S : Nat → Int32) (a b c : Int32) : unS S (nI 2) a b c = putS S a.toNatClampNeg b.toNatClampNeg c.toNatClampNeg := by unfold unS; rw [if_neg (by decide), if_pos rfl]
theorem unS_3 (S : Nat → Int32) (a b c : Int32) : unS S (nI 3) a b c = up1 S (40 * a.toNatClampNeg + b.toNatClampNeg) (-1) := by unfold unS; rw [if_neg (by decide), if_neg (by decide), if_pos rfl]
theorem unS_4 (S : Nat → Int32) (a b c : Int32) : unS S (nI 4) a b c = up1 S (40 * a.toNatClampNeg + b.toNatClampNeg) (-2) := by unfold unS; rw [if_neg (by decide), if_neg (by decide), if_neg (by decide)]
/-- what undoing makes: lanes, loads and acts as they were, and the same numbers -/
theorem un_ag {S : Nat → Int32} {o a b c : Int32} (hL : LnOk S) (hN : NmOk S) (v : unV S o a b c) : AgM S (unS S o a b c) := by
  have n2 := hN.2
  rcases v with ⟨e, l, i, q, x1, x2, x3⟩ | ⟨e, l, i, q, x1, x2, x3, x4, x5, x6, x7, x8, x9⟩ | ⟨e, i, p, x1, x2, x3, x4, x5, x6⟩ | ⟨e, i, p, x1, x2, x3, x4, x5, x6⟩
  · obtain ⟨y1, y2, y3, y4, y5, y6, y7⟩ := x3
    have := (hL i y4).2
    rw [e, x2, unS_1, cl_nI (by omega), y2, y3, cl_nI (by omega), cl_nI (by omega)]
    exact takeS_ag (by omega) y4 (by omega)
  · have := (hL i x5).2
    rw [e, x2, x3, x4, unS_2, cl_nI (by omega), cl_nI (by omega), cl_nI (by omega)]
    exact putS_ag (by omega) x5 (by omega)
  · have := (hL i x1).2
    rw [e, x2, x3, unS_3, cl_nI (by omega), cl_nI (by omega)]
    exact up1_ag (by omega)
  · have := (hL i x1).2
    rw [e, x2, x3, unS_4, cl_nI (by omega), cl_nI (by omega)]
    exact up1_ag (by omega)
theorem EqU.un {S S' : Nat → Int32} (h : EqU S S') (hL : LnOk S) (hN : NmOk S') {o a b c : Int32} (v : unV S o a b c) : EqU (unS S o a b c) (unS S' o a b c) := by
  have h1 := h.1
  have n2 := hN.2
  rcases v with ⟨e, l, i, q, x1, x2, x3⟩ | ⟨e, l, i, q, x1, x2, x3, x4, x5, x6, x7, x8, x9⟩ | ⟨e, i, p, x1, x2, x3, x4, x5, x6⟩ | ⟨e, i, p, x1, x2, x3, x4, x5, x6⟩
  · obtain ⟨y1, y2, y3, y4, y5, y6, y7⟩ := x3
    have := (hL i y4).2
    rw [e, x2, unS_1, unS_1, cl_nI (by omega), h.n x1, h.p x1, y2, y3, cl_nI (by omega), cl_nI (by omega)]
    exact h.take hN x1 y4 (by omega)
  · have := (hL i x5).2
    rw [e, x2, x3, x4, unS_2, unS_2, cl_nI (by omega), cl_nI (by omega), cl_nI (by omega)]
    exact h.put hN x1 x5 (by omega)
  · have := (hL i x1).2
    rw [e, x2, x3, unS_3, unS_3, cl_nI (by omega), cl_nI (by omega)]
    exact h.up (by omega)
  · have := (hL i x1).2
    rw [e, x2, x3, unS_4, unS_4, cl_nI (by omega), cl_nI (by omega)]
    exact h.up (by omega)
theorem UV_eq {A : Nat → Int32} : ∀ k {S S' : Nat → Int32}, EqU S S' → LnOk S → LnOk S' → NmOk S → NmOk S' → UV A k S → UV A k S' := by
  intro k
  induction k with
  | zero => intros; trivial
  | succ k ih =>
    intro S S' h hL hL' hN hN' u
    obtain ⟨u1, u2⟩ := u
    have v' := h.v hL u1
    exact ⟨v', ih (h.un hL hN' u1) ((un_ag hL hN u1).lnok hL) ((un_ag hL' hN' v').lnok hL') ((un_ag hL hN u1).nmok hN) ((un_ag hL' hN' v').nmok hN') u2⟩
theorem UV_A {A A' : Nat → Int32} : ∀ k {S : Nat → Int32}, (∀ j, j < 4 * k → A' j = A j) → UV A k S → UV A' k S := by
  intro k
  induction k with
  | zero => intros; trivial
  | succ k ih =>
    intro S h u
    obtain ⟨u1, u2⟩ := u
    unfold UV
    rw [h (4 * k) (by omega), h (4 * k + 1) (by omega), h (4 * k + 2) (by omega), h (4 * k + 3) (by omega)]
    exact ⟨u1, ih (fun j hj => h j (by omega)) u2⟩
theorem UV_drop {A A' : Nat → Int32} : ∀ k {S : Nat → Int32}, (∀ j, j < 4 * k → A' j = A (j + 4)) → UV A (k + 1) S → UV A' k S := by
  intro k
  induction k with
  | zero => intros; trivial
  | succ k ih =>
    intro S h u
    obtain ⟨u1, u2⟩ := u
    unfold UV
    rw [h (4 * k) (by omega), h (4 * k + 1) (by omega), h (4 * k + 2) (by omega), h (4 * k + 3) (by omega)]
    rw [show 4 * (k + 1) = 4 * k + 4 by omega, show 4 * k + 4 + 1 = 4 * k + 1 + 4 by omega, show 4 * k + 4 + 2 = 4 * k + 2 + 4 by omega, show 4 * k + 4 + 3 = 4 * k + 3 + 4 by omega] at u1 u2
    exact ⟨u1, ih (fun j hj => h j (by omega)) u2⟩
/-! one act more -/
section AC
variable {S : Nat → Int32} {o a b c : Int32}
theorem ac1_off {y : Nat} (h : y < 6100 ∨ 6507 < y ∨ (6496 ≤ y ∧ y < 6507)) : ac1 S y = S y := by
  unfold ac1
  split
  · rw [up1_ne (by omega)]
    unfold shK
    rw [if_neg (by omega)]
  · rfl
theorem ac2_off {k y : Nat} (hk : k < 100) (h : y < 6100 ∨ 6500 ≤ y) (h2 : y ≠ 6507) : ac2 S k o a b c y = S y := by
  unfold ac2
  rw [up1_ne (by omega), up1_ne (by omega), up1_ne (by omega), up1_ne (by omega), up1_ne (by omega)]
theorem actS_off {y : Nat} (hA : AkOk S) (h : y < 6100 ∨ 6500 ≤ y) (h2 : y ≠ 6507) : actS S o a b c y = S y := by
  have := hA.2
  unfold actS
  rw [ac2_off (by split <;> omega) h h2, ac1_off (by omega)]
theorem actS_k (hA : AkOk S) : actS S o a b c 6507 = nI (if ak S = 100 then 100 else ak S + 1) := by
  unfold actS ac2
  rw [up1_eq]
  split <;> rfl
theorem actS_ak (hA : AkOk S) : ak (actS S o a b c) = (if ak S = 100 then 100 else ak S + 1) := by
  have := hA.2
  have e : ak (actS S o a b c) = (actS S o a b c 6507).toNatClampNeg := rfl
  rw [e, actS_k hA, cl_nI (by split <;> omega)]
theorem actS_ok (hA : AkOk S) : AkOk (actS S o a b c) := by
  have := hA.2
  unfold AkOk
  rw [actS_ak hA, actS_k hA]
  exact ⟨rfl, by split <;> omega⟩
/-- the entries behind it -/
theorem actS_new (hA : AkOk S) : acR (actS S o a b c) (4 * (ak (actS S o a b c) - 1)) = o ∧ acR (actS S o a b c) (4 * (ak (actS S o a b c) - 1) + 1) = a ∧ acR (actS S o a b c) (4 * (ak (actS S o a b c) - 1) + 2) = b ∧ acR (actS S o a b c) (4 * (ak (actS S o a b c) - 1) + 3) = c := by
  have h2 := hA.2
  rw [actS_ak hA]
  have e : (if ak S = 100 then 100 else ak S + 1) - 1 = (if ak S = 100 then 99 else ak S) := by split <;> omega
  rw [e]
  unfold acR actS
  generalize hk : (if ak S = 100 then 99 else ak S) = k
  have hk2 : k < 100 := by rw [← hk]; split <;> omega
  unfold ac2
  refine ⟨?_, ?_, ?_, ?_⟩
  · rw [up1_ne (by omega), up1_ne (by omega), up1_ne (by omega), up1_ne (by omega), up1_eq]
  · rw [up1_ne (by omega), up1_ne (by omega), up1_ne (by omega), show 6100 + (4 * k + 1) = 6100 + 4 * k + 1 by omega, up1_eq]
  · rw [up1_ne (by omega), up1_ne (by omega), show 6100 + (4 * k + 2) = 6100 + 4 * k + 2 by omega, up1_eq]
  · rw [up1_ne (by omega), show 6100 + (4 * k + 3) = 6100 + 4 * k + 3 by omega, up1_eq]
theorem actS_old (hA : AkOk S) (h : ak S < 100) {j : Nat} (hj : j < 4 * ak S) : acR (actS S o a b c) j = acR S j := by
  unfold acR actS
  rw [if_neg (by omega)]
  unfold ac2
  rw [up1_ne (by omega), up1_ne (by omega), up1_ne (by omega), up1_ne (by omega), up1_ne (by omega)]
  unfold ac1
  rw [if_neg (by rw [hA.1, eq_nI (by omega) (by omega)]; omega)]
theorem actS_sh (hA : AkOk S) (h : ak S = 100) {j : Nat} (hj : j < 396) : acR (actS S o a b c) j = acR S (j + 4) := by
  unfold acR actS
  rw [if_pos h]
  unfold ac2
  rw [up1_ne (by omega), up1_ne (by omega), up1_ne (by omega), up1_ne (by omega), up1_ne (by omega)]
  unfold ac1
  rw [if_pos (by rw [hA.1, h]), up1_ne (by omega)]
  unfold shK
  rw [if_pos (by omega), Nat.add_assoc]
theorem actS_eqU (hA : AkOk S) (hN : NmOk S) : EqU S (actS S o a b c) := by
  have n2 := hN.2
  refine ⟨?_, fun y hy => ?_⟩
  · unfold nm
    rw [actS_off hA (by omega) (by omega)]
    exact Nat.le_refl _
  · refine actS_off hA ?_ ?_
    · rcases hy with q | ⟨l, x, q⟩ <;> omega
    · rcases hy with q | ⟨l, x, q⟩ <;> omega
end AC
/-- S1: S with something done in its lanes that o a b c undoes -/
theorem UV_push {S S1 : Nat → Int32} {o a b c : Int32} (ag : AgM S S1) (hL : LnOk S) (hN : NmOk S) (hA : AkOk S) (hu : UV (acR S) (ak S) S) (hv : unV S1 o a b c) (he : EqU S (unS S1 o a b c)) : UV (acR (actS S1 o a b c)) (ak (actS S1 o a b c)) (actS S1 o a b c) := by
  have hA1 := ag.akok hA
  have hL1 := ag.lnok hL
  have hN1 := ag.nmok hN
  have a2 := hA1.2
  have eu := actS_eqU (o := o) (a := a) (b := b) (c := c) hA1 hN1
  have hN2 : NmOk (actS S1 o a b c) := by
    unfold NmOk nm
    rw [actS_off hA1 (by omega) (by omega)]
    exact hN1
  have hL2 : LnOk (actS S1 o a b c) := by
    intro i hi
    unfold ln
    rw [actS_off hA1 (by omega) (by omega)]
    exact hL1 i hi
  have hv2 := eu.v hL1 hv
  obtain ⟨n1, n2, n3, n4⟩ := actS_new (o := o) (a := a) (b := b) (c := c) hA1
  have hk : ∃ k, ak (actS S1 o a b c) = k + 1 ∧ k < 100 := by
    rw [actS_ak hA1]
    split
    · exact ⟨99, rfl, by omega⟩
    · exact ⟨ak S1, rfl, by omega⟩
  obtain ⟨k, hk, hk2⟩ := hk
  rw [hk, Nat.add_sub_cancel] at n1 n2 n3 n4
  rw [hk]
  unfold UV
  rw [n1, n2, n3, n4]
  refine ⟨hv2, ?_⟩
  have e2 : EqU S (unS (actS S1 o a b c) o a b c) := he.trans (eu.un hL1 hN2 hv)
  refine UV_eq k e2 hL ((un_ag hL2 hN2 hv2).lnok hL2) hN ((un_ag hL2 hN2 hv2).nmok hN2) ?_
  rw [actS_ak hA1, ag.akE] at hk
  by_cases hf : ak S = 100
  · rw [if_pos hf] at hk
    rw [hf] at hu
    have : k = 99 := by omega
    subst this
    refine UV_drop 99 (fun j hj => ?_) hu
    rw [actS_sh hA1 (by rw [ag.akE]; exact hf) hj]
    unfold acR
    exact ag _ (by omega) (by omega)
  · rw [if_neg hf] at hk
    have : k = ak S := by omega
    subst this
    refine UV_A _ (fun j hj => ?_) hu
    rw [actS_old hA1 (by rw [ag.akE]; omega) (by rw [ag.akE]; exact hj)]
    unfold acR
    exact ag _ (by omega) (by omega)
/-- the latest one undone -/
theorem UV_pop {S : Nat → Int32} {k : Nat} (hL : LnOk S) (hN : NmOk S) (hA : AkOk S) (hk : ak S = k + 1) (hu : UV (acR S) (ak S) S) :
    unV (up1 S 6507 (nI k)) (S (6100 + 4 * k)) (S (6100 + 4 * k + 1)) (S (6100 + 4 * k + 2)) (S (6100 + 4 * k + 3)) ∧ AgM (up1 S 6507 (nI k)) (unS (up1 S 6507 (nI k)) (S (6100 + 4 * k)) (S (6100 + 4 * k + 1)) (S (6100 + 4 * k + 2)) (S (6100 + 4 * k + 3))) ∧
    UV (acR (unS (up1 S 6507 (nI k)) (S (6100 + 4 * k)) (S (6100 + 4 * k + 1)) (S (6100 + 4 * k + 2)) (S (6100 + 4 * k + 3)))) k (unS (up1 S 6507 (nI k)) (S (6100 + 4 * k)) (S (6100 + 4 * k + 1)) (S (6100 + 4 * k + 2)) (S (6100 + 4 * k + 3))) := by
  have a2 := hA.2
  have n2 := hN.2
  have eu : EqU S (up1 S 6507 (nI k)) := by
    refine ⟨?_, fun y hy => up1_ne ?_⟩
    · unfold nm
      rw [up1_ne (by omega)]
      exact Nat.le_refl _
    · rcases hy with q | ⟨l, x, q⟩ <;> omega
  have hN1 : NmOk (up1 S 6507 (nI k)) := by
    unfold NmOk nm
    rw [up1_ne (by omega)]
    exact hN
  have hL1 : LnOk (up1 S 6507 (nI k)) := by
    intro i hi
    unfold ln
    rw [up1_ne (by omega)]
    exact hL i hi
  rw [hk] at hu
  obtain ⟨u1, u2⟩ := hu
  have e0 : acR S (4 * k) = S (6100 + 4 * k) := rfl
  have e1 : acR S (4 * k + 1) = S (6100 + 4 * k + 1) := rfl
  have e2 : acR S (4 * k + 2) = S (6100 + 4 * k + 2) := rfl
  have e3 : acR S (4 * k + 3) = S (6100 + 4 * k + 3) := rfl
  rw [e0, e1, e2, e3] at u1 u2
  have hv := eu.v hL u1
  have ag := un_ag hL1 hN1 hv
  refine ⟨hv, ag, ?_⟩
  refine UV_eq k (eu.un hL hN1 u1) ((un_ag hL hN u1).lnok hL) (ag.lnok hL1) ((un_ag hL hN u1).nmok hN) (ag.nmok hN1) (UV_A _ (fun j hj => ?_) u2)
  unfold acR
  rw [ag _ (by omega) (by omega), up1_ne (by omega)]
