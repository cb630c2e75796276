/-! endFor looks at lanes and loads alone -/
theorem lastR_congr {f g : Nat → Bool} : ∀ n, (∀ p, p < n → f p = g p) → lastR f n = lastR g n := by
  intro n
  induction n with
  | zero => intro _; rfl
  | succ n ih =>
    intro h
    unfold lastR
    rw [h n (by omega), ih (fun p hp => h p (by omega))]
theorem anyR_congr {f g : Nat → Bool} : ∀ r j, (∀ p, j ≤ p → p < j + r → f p = g p) → anyR f j r = anyR g j r := by
  intro r
  induction r with
  | zero => intro j _; rfl
  | succ r ih =>
    intro j h
    unfold anyR
    rw [h j (by omega) (by omega), ih (j + 1) (fun p a b => h p (by omega) (by omega))]
section LL
variable {S S' : Nat → Int32}
theorem AgL.lv (h : AgL S S') (hN : NmOk S) {x g : Int32} (hx : x = -1 ∨ x = -2 ∨ ∃ l, l < nm S ∧ x = nI l) : lvB S' x g = lvB S x g := by
  have n2 := hN.2
  unfold lvB
  rcases hx with rfl | rfl | ⟨l, hl, rfl⟩
  · rfl
  · rfl
  · rw [cl_nI (by omega), h.1 _ (by omega)]
theorem AgL.dp (h : AgL S S') {i n q : Nat} {e : Int32} (hi : i < 20) (hn : n ≤ 40) (hq : q < n) : dpS S' i n e q = dpS S i n e q := by
  unfold dpS
  exact h.1 _ (by split <;> omega)
theorem dp_ok (hC : CellOk S) {i n q : Nat} {e : Int32} (hi : i < 20) (hn : n ≤ 40) (hq : q < n) : dpS S i n e q = -1 ∨ dpS S i n e q = -2 ∨ ∃ l, l < nm S ∧ dpS S i n e q = nI l := by
  unfold dpS
  exact hC i _ hi (by split <;> omega)
theorem AgL.de (h : AgL S S') (hN : NmOk S) (hL : LnOk S) (hC : CellOk S) {i : Nat} {e g : Int32} (hi : i < 20) : deS S' i e g = deS S i e g := by
  have l2 := (hL i hi).2
  unfold deS
  rw [h.lnE hi]
  refine lastR_congr _ fun p hp => ?_
  rw [h.dp hi l2 hp, h.lv hN (dp_ok hC hi l2 hp)]
theorem AgL.dnE (h : AgL S S') (hN : NmOk S) (hL : LnOk S) (hC : CellOk S) {i : Nat} {e g : Int32} (hi : i < 20) : dn S' i e g = dn S i e g := by
  unfold dn
  rw [h.de hN hL hC hi]
theorem AgL.op (h : AgL S S') {i : Nat} {e : Int32} (hi : i < 20) : opS S' i e = opS S i e := by
  unfold opS
  rw [h.1 _ (by omega)]
theorem AgL.ic (h : AgL S S') (hN : NmOk S) (hL : LnOk S) (hC : CellOk S) {i : Nat} {e g : Int32} (hi : i < 20) : icS S' i e g = icS S i e g := by
  have l2 := (hL i hi).2
  have d1 := (dn_lt (e := e) (g := g) l2).1
  unfold icS
  rw [h.op hi, h.dnE hN hL hC hi, h.lnE hi]
  congr 2
  refine anyR_congr _ _ fun p _ hp => ?_
  rw [h.dp hi l2 (by omega)]
theorem AgL.pv (h : AgL S S') {i n q : Nat} {e : Int32} (hi : i < 20) (hn : n ≤ 40) (hq : q ≤ n) : pvS S' i n e q = pvS S i n e q := by
  cases q with
  | zero => rfl
  | succ q => exact h.dp hi hn (by omega)
theorem AgL.hi (h : AgL S S') (hN : NmOk S) (hL : LnOk S) (hC : CellOk S) {i : Nat} {e g : Int32} (hi : i < 20) : hiS S' i e g = hiS S i e g := by
  have l2 := (hL i hi).2
  have n2 := hN.2
  have d1 := (dn_lt (e := e) (g := g) l2).1
  unfold hiS
  rw [h.dnE hN hL hC hi, h.lnE hi]
  refine cntR_congr fun p _ hp => ?_
  unfold hq1
  rw [h.dp hi l2 (by omega), h.pv hi l2 (by omega)]
  rcases dp_ok (e := e) hC hi l2 (show p < ln S i by omega) with q | q | ⟨l, hl, q⟩
  · rw [q]; simp only [u1, decide_true, Bool.not_true, Bool.false_and]
  · rw [q]; simp only [u2, decide_true, Bool.not_true, Bool.false_and]
  · rw [q, cl_nI (by omega), h.1 _ (by omega)]
theorem AgL.ef (h : AgL S S') (hN : NmOk S) (hL : LnOk S) (hC : CellOk S) {i : Nat} {g : Int32} (hi : i < 20) : efA S' i g = efA S i g := by
  unfold efA
  rw [h.1 _ (by omega), h.de hN hL hC hi, h.ic hN hL hC hi, h.ic hN hL hC hi, h.hi hN hL hC hi, h.hi hN hL hC hi]
end LL
theorem wf_sail {S : Nat → Int32} (W : Wf S) (hk : fstR (skB S) (S 6503).toNatClampNeg 0 = none) : Wf (sailE S) := by
  obtain ⟨d1, d2, d3⟩ := dy_ok W.y
  have off : ∀ y, y ≠ 6501 → y ≠ 6502 → y ≠ 6507 → sailE S y = S y := fun y h1 h2 h3 => by unfold sailE; rw [up1_ne h3, up1_ne h2, up1_ne h1]
  have al : AgL S (sailE S) := ⟨fun y hy => off y (by omega) (by omega) (by omega), off _ (by omega) (by omega) (by omega)⟩
  have e1 : sailE S 6501 = nI 1 := by unfold sailE; rw [up1_ne (by omega), up1_ne (by omega), up1_eq]
  have e2 : sailE S 6502 = nI 0 := by unfold sailE; rw [up1_ne (by omega), up1_eq]
  have e7 : sailE S 6507 = nI 0 := by unfold sailE; rw [up1_eq]
  have ek : ak (sailE S) = 0 := by unfold ak; rw [e7]; rfl
  refine ⟨al.lnok W.ln, al.nmok W.nm, al.t W.t, al.d W.nm W.d, al.w W.nm W.ln W.w, al.c W.nm W.ln W.c, ⟨⟨_, by rw [off _ (by omega) (by omega) (by omega)]; exact d1, d2, d3⟩, Or.inr ⟨e1, 0, e2, by rw [off _ (by omega) (by omega) (by omega)]; omega⟩⟩, ⟨by rw [ek]; exact e7, by omega⟩, by rw [ek]; trivial, W.m1.of (off _ (by omega) (by omega) (by omega)), W.m2.of (off _ (by omega) (by omega) (by omega)), fun _ => e7, fun _ p _ hp i hi hx => ?_⟩
  rw [off _ (by omega) (by omega) (by omega)] at hp
  rw [al.ef W.nm W.ln W.c.ok hi] at hx
  have hn := (fstR_none _ _).mp hk p (by omega) (by omega)
  have hsk : skA S (nI p) < nI 0 := by
    unfold skB at hn
    by_cases q : skA S (nI p) < nI 0
    · exact q
    · rw [decide_eq_false q] at hn; cases hn
  cases hf : fstR (skL S (nI p)) 20 0 with
  | some j =>
    obtain ⟨s1, s2⟩ := skA_some hf
    rw [s1, lt_nI (by omega) (by omega)] at hsk
    omega
  | none =>
    have := (fstR_none _ _).mp hf i (by omega) (by omega)
    unfold skL at this
    rw [decide_eq_true hx] at this
    cases this
theorem sa_none {S : Nat → Int32} {L : Int64} (h : saA S L = nI 1) : ¬ S 6501 = nI 1 ∧ fstR (farB S) (nm S) 0 = none ∧ fstR (leB S L) (S 6503).toNatClampNeg 0 = none ∧ fstR (skB S) (S 6503).toNatClampNeg 0 = none := by
  unfold saA at h
  by_cases hs : S 6501 = nI 1
  · rw [if_pos hs] at h; exact absurd h (by decide)
  rw [if_neg hs] at h
  cases h1 : fstR (farB S) (nm S) 0 with
  | some j => rw [h1] at h; dsimp only at h; exact absurd h (by decide)
  | none =>
    rw [h1] at h
    cases h2 : fstR (leB S L) (S 6503).toNatClampNeg 0 with
    | some j => rw [h2] at h; dsimp only at h; exact absurd h (by decide)
    | none =>
      rw [h2] at h
      cases h3 : fstR (skB S) (S 6503).toNatClampNeg 0 with
      | some j => rw [h3] at h; dsimp only at h; exact absurd h (by decide)
      | none => exact ⟨hs, rfl, rfl, rfl⟩
theorem wf_sa {S : Nat → Int32} {L : Int64} (W : Wf S) : Wf (if saA S L = nI 1 then sailE S else S) := by
  by_cases h : saA S L = nI 1
  · rw [if_pos h]
    exact wf_sail W (sa_none h).2.2.2
  · rw [if_neg h]
    exact W
/-! LISTS: who is moved, who leaves; the rows that hold them -/
def rwS (S : Nat → Int32) (MV LF : List Nat) : Nat → Int32 := fun y => if 4500 ≤ y ∧ y < 4500 + MV.length then nI (MV.getD (y - 4500) 0) else if 4900 ≤ y ∧ y < 4900 + LF.length then nI (LF.getD (y - 4900) 0) else if y = 6505 then nI MV.length else if y = 6506 then nI LF.length else S y
section RW
variable {S : Nat → Int32} {MV LF : List Nat}
theorem rw_off {y : Nat} (h : y < 4500 ∨ 5300 ≤ y) (h5 : y ≠ 6505) (h6 : y ≠ 6506) (hm : MV.length ≤ 400) (hl : LF.length ≤ 400) : rwS S MV LF y = S y := by
  unfold rwS
  rw [if_neg (by omega), if_neg (by omega), if_neg h5, if_neg h6]
theorem rw_5 (hm : MV.length ≤ 400) (hl : LF.length ≤ 400) : rwS S MV LF 6505 = nI MV.length := by
  unfold rwS
  rw [if_neg (by omega), if_neg (by omega), if_pos rfl]
theorem rw_6 (hm : MV.length ≤ 400) (hl : LF.length ≤ 400) : rwS S MV LF 6506 = nI LF.length := by
  unfold rwS
  rw [if_neg (by omega), if_neg (by omega), if_neg (by omega), if_pos rfl]
theorem rw_mv {j : Nat} (hj : j < MV.length) : rwS S MV LF (4500 + j) = nI (MV.getD j 0) := by
  unfold rwS
  rw [if_pos (by omega), show 4500 + j - 4500 = j by omega]
theorem rw_lf {j : Nat} (hm : MV.length ≤ 400) (hj : j < LF.length) : rwS S MV LF (4900 + j) = nI (LF.getD j 0) := by
  unfold rwS
  rw [if_neg (by omega), if_pos (by omega), show 4900 + j - 4900 = j by omega]
theorem getD_app1 {l : Nat} {j : Nat} (h : j < MV.length) : (MV ++ [l]).getD j 0 = MV.getD j 0 := by
  rw [List.getD_eq_getElem?_getD, List.getD_eq_getElem?_getD, List.getElem?_append_left h]
theorem getD_app2 {l : Nat} : (MV ++ [l]).getD MV.length 0 = l := by
  rw [List.getD_eq_getElem?_getD, List.getElem?_append_right (Nat.le_refl _), Nat.sub_self]
  rfl
theorem rw_amv {l : Nat} (hm : MV.length < 400) (hl : LF.length ≤ 400) : up1 (up1 (rwS S MV LF) (4500 + MV.length) (nI l)) 6505 (nI (MV.length + 1)) = rwS S (MV ++ [l]) LF := by
  have hlen : (MV ++ [l]).length = MV.length + 1 := by rw [List.length_append]; rfl
  funext y
  by_cases h5 : y = 6505
  · rw [h5, up1_eq, rw_5 (by omega) hl, hlen]
  rw [up1_ne h5]
  by_cases h1 : y = 4500 + MV.length
  · rw [h1, up1_eq, rw_mv (by omega), getD_app2]
  rw [up1_ne h1]
  by_cases h2 : 4500 ≤ y ∧ y < 4500 + MV.length
  · obtain ⟨j, rfl⟩ : ∃ j, y = 4500 + j := ⟨y - 4500, by omega⟩
    rw [rw_mv (by omega), rw_mv (by omega), getD_app1 (by omega)]
  · unfold rwS
    rw [if_neg h2, if_neg (show ¬ (4500 ≤ y ∧ y < 4500 + (MV ++ [l]).length) by omega), if_neg h5, if_neg h5]
theorem rw_alf {l : Nat} (hm : MV.length ≤ 400) (hl : LF.length < 400) : up1 (up1 (rwS S MV LF) (4900 + LF.length) (nI l)) 6506 (nI (LF.length + 1)) = rwS S MV (LF ++ [l]) := by
  have hlen : (LF ++ [l]).length = LF.length + 1 := by rw [List.length_append]; rfl
  funext y
  by_cases h6 : y = 6506
  · rw [h6, up1_eq, rw_6 (by omega) (by omega), hlen]
  rw [up1_ne h6]
  by_cases h1 : y = 4900 + LF.length
  · rw [h1, up1_eq, rw_lf (by omega) (by omega), getD_app2]
  rw [up1_ne h1]
  by_cases h2 : 4900 ≤ y ∧ y < 4900 + LF.length
  · obtain ⟨j, rfl⟩ : ∃ j, y = 4900 + j := ⟨y - 4900, by omega⟩
    rw [rw_lf (by omega) (by omega), rw_lf (by omega) (by omega), getD_app1 (by omega)]
  · unfold rwS
    by_cases h3 : 4500 ≤ y ∧ y < 4500 + MV.length
    · rw [if_pos h3, if_pos h3]
    · rw [if_neg h3, if_neg h3, if_neg h2, if_neg (show ¬ (4900 ≤ y ∧ y < 4900 + (LF ++ [l]).length) by omega), if_neg h6, if_neg h6]
theorem rw_agl (hm : MV.length ≤ 400) (hl : LF.length ≤ 400) : AgL S (rwS S MV LF) := ⟨fun y hy => rw_off (by omega) (by omega) (by omega) hm hl, rw_off (by omega) (by omega) (by omega) hm hl⟩
end RW
theorem nd_le {l : List Nat} (h : l.Nodup) (h2 : ∀ x, x ∈ l → x < 400) : l.length ≤ 400 := by
  have := List.Nodup.length_le_of_subset h (l₂ := List.range 400) (fun x hx => List.mem_range.mpr (h2 x hx))
  rwa [List.length_range] at this
