/-! THE PLANNER, 13: what fits, by the order of driving -/
section FT
variable {S : Nat → Int32} {n dl : Nat} {th dk : Nat → Nat} {P : List (Nat × Nat)}
def rmP (S : Nat → Int32) (th dk : Nat → Nat) (P : List (Nat × Nat)) (j : Nat) : Nat := ln S (dk j) - smP S th P j
def plP (S : Nat → Int32) (th dk : Nat → Nat) (P : List (Nat × Nat)) (k j : Nat) : Nat := if enS S (dk j) = nI 0 then rmP S th dk P j - spanS S (th k) else ln S (dk j) - rmP S th dk P j
theorem pl_P (H : PlH S n dl th dk) (K : Pk S n dl th dk P) {k j : Nat} (hk : k < n) (hj : j < dl) : plS (qS S th dk P) (th k) (dk j) (enS S (dk j)) = plP S th dk P k j := by
  unfold plS plP rmP
  rw [K.way H hj, K.lnE H hj, K.ag.span (H.t4 hk)]
theorem la_none : ∀ {P : List (Nat × Nat)} {j : Nat}, lastK P j = none → smP S th P j = 0 := by
  intro P
  induction P with
  | nil => intro j _; rfl
  | cons c P ih =>
    intro j h
    change (if c.2 = j then some c.1 else lastK P j) = none at h
    show smP S th P j + (if c.2 = j then _ else 0) = 0
    by_cases e : c.2 = j
    · rw [if_pos e] at h; cases h
    · rw [if_neg e] at h ⊢
      rw [ih h]
/-- whether it would be behind another than its own -/
def beP (S : Nat → Int32) (th : Nat → Nat) (P : List (Nat × Nat)) (k j : Nat) : Bool := decide (nI 3 < S (900 + th k)) && match lastK P j with
  | none => true
  | some k' => !decide (nI (th k') = S (2500 + th k))
theorem be_P (H : PlH S n dl th dk) (K : Pk S n dl th dk P) {k j : Nat} (hk : k < n) (hj : j < dl) : beS (qS S th dk P) (th k) (dk j) (enS S (dk j)) = beP S th P k j := by
  have t4 := H.t4 hk
  have sm := K.sm j hj
  unfold beS beP
  rw [K.way H hj, K.lnE H hj, K.ag (900 + th k) (by omega) (by omega), K.ag (2500 + th k) (by omega) (by omega)]
  congr 1
  cases e : lastK P j with
  | none =>
    rw [la_none e, Nat.sub_zero, decide_eq_true rfl]
    rfl
  | some k' =>
    obtain ⟨a1, a2⟩ := K.la j k' hj e
    rw [decide_eq_false (by omega), Bool.false_or, a2]
/-- foes beside: in the lane ahead -/
def bsB (S : Nat → Int32) (th dk : Nat → Nat) (P : List (Nat × Nat)) (j : Nat) (kd : Int32) (q s : Nat) : Bool := P.any (fun x => decide (x.2 + 1 = j) && (decide (S (900 + th x.1) = kd) && (decide (vP S th dk P x.1 < q + s) && decide (q < vP S th dk P x.1 + spanS S (th x.1)))))
def aheB (S : Nat → Int32) (th : Nat → Nat) (P : List (Nat × Nat)) (j : Nat) (kd : Int32) : Bool := match lastK P j with
  | none => false
  | some k' => decide (S (900 + th k') = kd)
theorem kc_m {X : Nat → Int32} {i p : Nat} {kd : Int32} (h : X (40 * i + p) = -1) : kcB X i p kd = false := by
  unfold kcB
  rw [h, decide_eq_true (show (-1 : Int32) < nI 0 from u1)]
  rfl
theorem kc_l (K : Pk S n dl th dk P) {i p x : Nat} {kd : Int32} (hx : x < 400) (h : qS S th dk P (40 * i + p) = nI x) : kcB (qS S th dk P) i p kd = decide (S (900 + x) = kd) := by
  unfold kcB
  rw [h, decide_eq_false (nn_D (by omega)), cl_nI (by omega), K.ag _ (by omega) (by omega)]
  rfl
theorem out_c (H : PlH S n dl th dk) (K : Pk S n dl th dk P) {j p : Nat} (hj : j < dl) (h1 : ln S (dk j) ≤ p) (h2 : p < 40) : qS S th dk P (40 * dk j + p) = -1 := by
  have b := K.wb H
  obtain ⟨d1, d2⟩ := H.dk j hj
  refine b.c.out d1 h2 ?_
  rw [K.ag.lenE d1, lenS_t d2]
  exact h1
theorem ed_P (H : PlH S n dl th dk) (K : Pk S n dl th dk P) {k j : Nat} {kd : Int32} (hk : k < n) (hj : j < dl) (hs : spanS S (th k) ≤ rmP S th dk P j) : edB (qS S th dk P) (dk j) (plP S th dk P k j) (spanS S (th k)) kd = aheB S th P j kd := by
  have l4 := H.l40 hj
  have sm := K.sm j hj
  have sp := sp_pos S (th k)
  unfold rmP at hs
  have A : ∀ p, (enS S (dk j) = nI 0 → p = ln S (dk j) - smP S th P j) → (enS S (dk j) = nI 1 → p + 1 = smP S th P j) → p < ln S (dk j) → kcB (qS S th dk P) (dk j) p kd = aheB S th P j kd := by
    intro p p0 p1 hp
    unfold aheB
    cases e : lastK P j with
    | none =>
      have z := la_none (S := S) (th := th) e
      rcases en_ok S (dk j) with x | x
      · have := p0 x; omega
      · have := p1 x; omega
    | some k' =>
      obtain ⟨a1, a2⟩ := K.la j k' hj e
      have kn := (K.st _ (lastK_mem e)).1
      refine kc_l K (H.t4 kn) ?_
      rw [← a2]
      unfold dpS
      congr 1
      rcases en_ok S (dk j) with x | x
      · rw [if_pos x, ← p0 x]
      · rw [if_neg (by rw [x]; decide)]
        have := p1 x
        omega
  have F : ∀ p, (enS S (dk j) = nI 0 → p < ln S (dk j) - smP S th P j) → (enS S (dk j) = nI 1 → smP S th P j ≤ p) → p < 40 → kcB (qS S th dk P) (dk j) p kd = false := by
    intro p p0 p1 hp
    apply kc_m
    rcases Nat.lt_or_ge p (ln S (dk j)) with z | z
    · rcases en_ok S (dk j) with x | x
      · have f := K.fr j p hj (p0 x)
        unfold dpS at f
        rw [if_pos x] at f
        exact f
      · have := p1 x
        have f := K.fr j (ln S (dk j) - 1 - p) hj (by omega)
        unfold dpS at f
        rw [if_neg (by rw [x]; decide), show ln S (dk j) - 1 - (ln S (dk j) - 1 - p) = p by omega] at f
        exact f
    · exact out_c H K hj z hp
  have N : smP S th P j = 0 → aheB S th P j kd = false := by
    intro z
    unfold aheB
    cases e : lastK P j with
    | none => rfl
    | some k' => exact absurd z (K.la j k' hj e).1
  unfold edB plP rmP
  rcases en_ok S (dk j) with x | x
  · have nx : ¬ enS S (dk j) = nI 1 := by rw [x]; decide
    rw [if_pos x]
    rw [show ln S (dk j) - smP S th P j - spanS S (th k) + spanS S (th k) = ln S (dk j) - smP S th P j by omega]
    have q1 : (!decide (ln S (dk j) - smP S th P j - spanS S (th k) = 0) && kcB (qS S th dk P) (dk j) (ln S (dk j) - smP S th P j - spanS S (th k) - 1) kd) = false := by
      by_cases c : ln S (dk j) - smP S th P j - spanS S (th k) = 0
      · rw [decide_eq_true c]; rfl
      · rw [F _ (fun _ => by omega) (fun y => absurd y nx) (by omega), Bool.and_false]
    rw [q1, Bool.false_or]
    rcases Nat.lt_or_ge (ln S (dk j) - smP S th P j) (ln S (dk j)) with z | z
    · rw [decide_eq_true (by omega), Bool.true_and]
      exact A _ (fun _ => rfl) (fun y => absurd y nx) z
    · rw [N (by omega)]
      by_cases c : ln S (dk j) - smP S th P j < 40
      · rw [kc_m (out_c H K hj z c), Bool.and_false]
      · rw [decide_eq_false c]; rfl
  · have nx : ¬ enS S (dk j) = nI 0 := by rw [x]; decide
    rw [if_neg nx]
    rw [show ln S (dk j) - (ln S (dk j) - smP S th P j) = smP S th P j by omega]
    have q1 : (decide (smP S th P j + spanS S (th k) < 40) && kcB (qS S th dk P) (dk j) (smP S th P j + spanS S (th k)) kd) = false := by
      by_cases c : smP S th P j + spanS S (th k) < 40
      · rw [F _ (fun y => absurd y nx) (fun _ => by omega) c, Bool.and_false]
      · rw [decide_eq_false c]; rfl
    rw [q1, Bool.or_false]
    by_cases c : smP S th P j = 0
    · rw [decide_eq_true c, N c]; rfl
    · rw [decide_eq_false c]
      show (true && _) = _
      rw [Bool.true_and]
      exact A _ (fun y => absurd y nx) (fun _ => by omega) (by omega)
theorem st_in (H : PlH S n dl th dk) (K : Pk S n dl th dk P) {o i q : Nat} (ho : o < nm S) (h : StA (qS S th dk P) o i q) : ∃ x, x ∈ P ∧ o = th x.1 ∧ i = dk x.2 ∧ q = vP S th dk P x.1 := by
  by_cases e : ∃ x, x ∈ P ∧ o = th x.1
  · obtain ⟨x, x1, x2⟩ := e
    subst x2
    obtain ⟨-, -, -, -, s⟩ := v_at H K x1
    obtain ⟨a, b⟩ := h.inj (K.wb H).ln s
    exact ⟨x, x1, rfl, a, b⟩
  · exfalso
    have := (K.off o ho (fun x hx z => e ⟨x, hx, z⟩)).1
    rw [h.1] at this
    exact H.ab o ho this.symm
theorem sd_P (H : PlH S n dl th dk) (K : Pk S n dl th dk P) {j q s : Nat} {kd : Int32} (hj : j < dl) (hx : ∀ x, x ∈ P → x.2 ≤ j) (hq : q + s ≤ 40) (hs1 : 1 ≤ s) : anyR (sdB (qS S th dk P) (dk j) kd) q s = (decide (0 < j ∧ dk j = dk (j - 1) + 1) && bsB S th dk P j kd q s) := by
  have d1 := (H.dk j hj).1
  have b := K.wb H
  have up : ∀ p, p < 40 → dk j < 19 → kcB (qS S th dk P) (dk j + 1) p kd = false := by
    intro p hp hd
    cases e : kcB (qS S th dk P) (dk j + 1) p kd with
    | false => rfl
    | true =>
      obtain ⟨o, q', o1, o2, -⟩ := (kcB_iff b.nm b.c (by omega) hp).1 e
      rw [K.nmE] at o1
      obtain ⟨x, x1, -, x3, -⟩ := st_in H K o1 o2
      have := dk_mono H (hx x x1) hj
      omega
  have iff : anyR (sdB (qS S th dk P) (dk j) kd) q s = true ↔ (decide (0 < j ∧ dk j = dk (j - 1) + 1) && bsB S th dk P j kd q s) = true := by
    rw [anyR_iff, Bool.and_eq_true, decide_eq_true_eq]
    unfold bsB
    rw [List.any_eq_true]
    constructor
    · rintro ⟨p, p1, p2, p3⟩
      unfold sdB at p3
      rw [Bool.or_eq_true] at p3
      rcases p3 with z | z
      · rw [Bool.and_eq_true] at z
        obtain ⟨z1, z2⟩ := z
        have i0 : dk j ≠ 0 := fun w => by rw [decide_eq_true w] at z1; cases z1
        obtain ⟨o, q', o1, o2, o3, o4, o5⟩ := (kcB_iff b.nm b.c (by omega) (by omega)).1 z2
        rw [K.nmE] at o1
        obtain ⟨x, x1, rfl, x3, rfl⟩ := st_in H K o1 o2
        have hx2 := hx x x1
        have xs := K.st x x1
        have t4 := H.t4 xs.1
        rw [K.ag _ (by omega) (by omega)] at o5
        rw [K.ag.span t4] at o4
        have ne : x.2 ≠ j := fun w => by rw [w] at x3; omega
        have ej : x.2 + 1 = j := by
          rcases Nat.lt_or_ge (x.2 + 1) j with w | w
          · have := H.dki x.2 (x.2 + 1) (by omega) (by omega)
            have := H.dki (x.2 + 1) j w hj
            omega
          · omega
        refine ⟨⟨by omega, by rw [show j - 1 = x.2 by omega]; omega⟩, x, x1, ?_⟩
        rw [decide_eq_true ej, decide_eq_true o5, decide_eq_true (by omega), decide_eq_true (by omega)]
        rfl
      · rw [Bool.and_eq_true] at z
        obtain ⟨z1, z2⟩ := z
        have i0 : dk j ≠ 19 := fun w => by rw [decide_eq_true w] at z1; cases z1
        rw [up p (by omega) (by omega)] at z2
        cases z2
    · rintro ⟨⟨c1, c2⟩, x, x1, x2⟩
      simp only [Bool.and_eq_true, decide_eq_true_eq] at x2
      obtain ⟨y1, y2, y3, y4⟩ := x2
      obtain ⟨-, -, -, v4, s⟩ := v_at H K x1
      have xs := K.st x x1
      have t4 := H.t4 xs.1
      have s0 := sp_pos S (th x.1)
      refine ⟨max q (vP S th dk P x.1), by omega, by omega, ?_⟩
      unfold sdB
      rw [Bool.or_eq_true]
      left
      rw [decide_eq_false (show ¬ dk j = 0 by omega)]
      show (true && _) = true
      rw [Bool.true_and]
      refine (kcB_iff b.nm b.c (by omega) (by omega)).2 ⟨th x.1, vP S th dk P x.1, by rw [K.nmE]; exact (H.th _ xs.1).1, ?_, by omega, by rw [K.ag.span t4]; omega, by rw [K.ag _ (by omega) (by omega)]; exact y2⟩
      rw [show dk j - 1 = dk x.2 by rw [c2, show j - 1 = x.2 by omega]; omega]
      exact s
  cases e1 : anyR (sdB (qS S th dk P) (dk j) kd) q s <;> cases e2 : (decide (0 < j ∧ dk j = dk (j - 1) + 1) && bsB S th dk P j kd q s)
  · rfl
  · rw [iff.2 e2] at e1; cases e1
  · rw [iff.1 e1] at e2; cases e2
  · rfl
def foP (S : Nat → Int32) (th dk : Nat → Nat) (P : List (Nat × Nat)) (k j : Nat) : Bool := if foK (S (900 + th k)) = -1 then false else (aheB S th P j (foK (S (900 + th k))) || (decide (0 < j ∧ dk j = dk (j - 1) + 1) && bsB S th dk P j (foK (S (900 + th k))) (plP S th dk P k j) (spanS S (th k))))
theorem fo_P (H : PlH S n dl th dk) (K : Pk S n dl th dk P) {k j : Nat} (hk : k < n) (hj : j < dl) (hx : ∀ x, x ∈ P → x.2 ≤ j) (hs : spanS S (th k) ≤ rmP S th dk P j) : foS (qS S th dk P) (th k) (dk j) (plP S th dk P k j) = foP S th dk P k j := by
  have t4 := H.t4 hk
  have l4 := H.l40 hj
  have sm := K.sm j hj
  have b := K.wb H
  have sp : spanS (qS S th dk P) (th k) = spanS S (th k) := K.ag.span t4
  have hs' : spanS S (th k) ≤ ln S (dk j) - smP S th P j := hs
  have q4 : plP S th dk P k j + spanS S (th k) ≤ 40 := by
    unfold plP rmP
    split <;> omega
  have em : EmR (qS S th dk P) (th k) (dk j) (plP S th dk P k j) := by
    rw [← pl_P H K hk hj]
    exact pl_em (en_ok _ _) (by rw [sp, K.way H hj]; exact hs')
  rw [fo_eq b.nm b.ln b.w b.c (H.dk j hj).1 (by rw [sp]; exact q4) em, K.ag (900 + th k) (by omega) (by omega), sp]
  unfold foP
  by_cases c : foK (S (900 + th k)) = -1
  · rw [if_pos c, if_pos c]
  · rw [if_neg c, if_neg c]
    unfold fmB
    rw [ed_P H K hk hj hs, sd_P H K hj hx q4 (sp_pos _ _)]
/-- what couldDrive says -/
theorem cd_P (H : PlH S n dl th dk) (K : Pk S n dl th dk P) {k j : Nat} (hk : k < n) (hj : j < dl) (hx : ∀ x, x ∈ P → x.2 ≤ j) (hu : usB P k = false) : cdA (qS S th dk P) (th k) (dk j) (enS S (dk j)) < nI 0 ↔ (S (840 + dk j) < tallS S (th k) ∨ rmP S th dk P j < spanS S (th k) ∨ beP S th P k j = true ∨ foP S th dk P k j = true) := by
  have t4 := H.t4 hk
  have tn := (H.th k hk).1
  obtain ⟨d1, d2⟩ := H.dk j hj
  have off := K.off _ tn (fun x hx e => us_no.1 hu x hx (H.inj (K.st x hx).1 hk e.symm))
  have op : opS (qS S th dk P) (dk j) (enS S (dk j)) = true := by
    have : opS (qS S th dk P) (dk j) (enS S (dk j)) = opS S (dk j) (enS S (dk j)) := by unfold opS; rw [K.ag _ (by omega) (by omega)]
    rw [this]
    rcases ends_ok H.wf.t d1 d2 with e | e | e
    · obtain ⟨o0, o1⟩ := opn_1 e
      have : enS S (dk j) = nI 0 := by unfold enS; rw [if_pos o0]
      rw [this]; exact o0
    · obtain ⟨o0, o1⟩ := opn_2 e
      have : enS S (dk j) = nI 1 := by unfold enS; rw [if_neg (by rw [o0]; decide)]
      rw [this]; exact o1
    · exact opn_3 e _
  unfold cdA
  rw [K.ag 6501 (by omega) (by omega), if_neg H.sea, off.1, if_pos (H.th k hk).2, K.ag.th d1, if_pos d2, if_pos op, K.ag (840 + dk j) (by omega) (by omega), K.ag.tall t4, K.way H hj, K.ag.span t4, be_P H K hk hj, pl_P H K hk hj]
  by_cases c1 : S (840 + dk j) < tallS S (th k)
  · rw [if_pos c1]
    exact ⟨fun _ => Or.inl c1, fun _ => by decide⟩
  rw [if_neg c1]
  by_cases c2 : ln S (dk j) - smP S th P j < spanS S (th k)
  · rw [if_pos c2]
    exact ⟨fun _ => Or.inr (Or.inl c2), fun _ => by decide⟩
  rw [if_neg c2]
  by_cases c3 : beP S th P k j = true
  · rw [if_pos c3]
    exact ⟨fun _ => Or.inr (Or.inr (Or.inl c3)), fun _ => by decide⟩
  rw [if_neg c3, fo_P H K hk hj hx (show spanS S (th k) ≤ ln S (dk j) - smP S th P j by omega)]
  by_cases c4 : foP S th dk P k j = true
  · rw [if_pos c4]
    exact ⟨fun _ => Or.inr (Or.inr (Or.inr c4)), fun _ => by decide⟩
  rw [if_neg c4]
  have l4 := H.l40 hj
  have : plP S th dk P k j ≤ 40 := by unfold plP rmP; split <;> omega
  constructor
  · intro z
    exact absurd z (nn_D (by omega))
  · rintro (z | z | z | z)
    · exact absurd z c1
    · exact absurd z c2
    · exact absurd z c3
    · exact absurd z c4
end FT
