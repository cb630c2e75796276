/-! THE PLANNER, 3: a lane's share of the bound -/
def sgP : List (Nat × Nat) → Nat → List Nat
  | [], _ => []
  | c :: P, j => if c.2 = j then c.1 :: sgP P j else sgP P j
def hpB (T : Nat → Int32) (l : List Nat) (g : Int32) : Bool := l.any (fun k => decide (T k = g))
def hE (T : Nat → Int32) : List Nat → Int32 → Nat
  | [], _ => 0
  | k :: r, g => if hpB T r g = true then hE T r g + (if g < T k then 1 else 0) else 0
def cB (T : Nat → Int32) : List Nat → Int32 → Nat
  | [], _ => 0
  | k :: r, g => cB T r g + (if g < T k then 1 else 0)
def hF (T : Nat → Int32) : List Nat → Int32 → Nat
  | [], _ => 0
  | k :: r, g => if T k = g then cB T r g else hF T r g
def ptS (S : Nat → Int32) (th : Nat → Nat) (k : Nat) : Int32 := S (2100 + th k)
def faE (S : Nat → Int32) (i : Nat) : Int32 := if enS S i = nI 0 then nI 1 else nI 0
theorem dG_congr {T G G' : Nat → Int32} {g : Int32} {L : Nat} (h : ∀ q, q < L → G' q = G q) : dG T G' g L = dG T G g L := lastR_congr L (fun p hp => by unfold lvG; rw [h p hp])
theorem cG_congr {T G G' : Nat → Int32} {g : Int32} {L c : Nat} (h : ∀ q, q < L → G' q = G q) (hc : c ≤ L) : cG T G' g c = cG T G g c := cntR_congr (fun p _ p2 => by
  unfold hqG
  rcases Nat.eq_zero_or_pos p with z | z
  · subst z
    rw [h 0 (by omega)]
    rfl
  · rw [pv_s z, pv_s z, h p (by omega), h (p - 1) (by omega)])
theorem hpB_cons (T : Nat → Int32) (k : Nat) (r : List Nat) (g : Int32) : hpB T (k :: r) g = (decide (T k = g) || hpB T r g) := rfl
section LN
variable {S : Nat → Int32} {n dl : Nat} {th dk : Nat → Nat} {P : List (Nat × Nat)} {g : Int32}
theorem faE_0 {i : Nat} (e : enS S i = nI 0) : faE S i = nI 1 := by unfold faE; rw [if_pos e]
theorem faE_1 {i : Nat} (e : enS S i = nI 1) : faE S i = nI 0 := by unfold faE; rw [if_neg (by rw [e]; decide)]
theorem dp_far (X : Nat → Int32) {i L q : Nat} (hq : q < L) : dpS X i L (faE S i) q = dpS X i L (enS S i) (L - 1 - q) := by
  rcases en_ok S i with e | e
  · rw [faE_0 e, e]
    unfold dpS
    rw [if_neg (by decide), if_pos rfl]
  · rw [faE_1 e, e]
    unfold dpS
    rw [if_pos rfl, if_neg (by decide)]
    congr 2
    omega
/-- what holds of lane j by its order -/
def LnV (S : Nat → Int32) (th dk : Nat → Nat) (P : List (Nat × Nat)) (j : Nat) (g : Int32) : Prop :=
  (hpB (ptS S th) (sgP P j) g = true → (∃ D, D < ln S (dk j) ∧ dG (fun x => S (2100 + x)) (dpS (qS S th dk P) (dk j) (ln S (dk j)) (enS S (dk j))) g (ln S (dk j)) = nI D ∧ cG (fun x => S (2100 + x)) (dpS (qS S th dk P) (dk j) (ln S (dk j)) (enS S (dk j))) g D = hE (ptS S th) (sgP P j) g) ∧
    (∃ D, D < ln S (dk j) ∧ dG (fun x => S (2100 + x)) (dpS (qS S th dk P) (dk j) (ln S (dk j)) (faE S (dk j))) g (ln S (dk j)) = nI D ∧ cG (fun x => S (2100 + x)) (dpS (qS S th dk P) (dk j) (ln S (dk j)) (faE S (dk j))) g D = hF (ptS S th) (sgP P j) g)) ∧
  (hpB (ptS S th) (sgP P j) g = false → dG (fun x => S (2100 + x)) (dpS (qS S th dk P) (dk j) (ln S (dk j)) (enS S (dk j))) g (ln S (dk j)) = -1) ∧
  cG (fun x => S (2100 + x)) (dpS (qS S th dk P) (dk j) (ln S (dk j)) (faE S (dk j))) g (smP S th P j) = cB (ptS S th) (sgP P j) g
theorem sp_pos (S : Nat → Int32) (l : Nat) : 1 ≤ spanS S l := by unfold spanS; split <;> omega
theorem ln_v (H : PlH S n dl th dk) {j : Nat} (hj : j < dl) : ∀ {P : List (Nat × Nat)}, Vd S n dl th dk P → LnV S th dk P j g := by
  intro P
  induction P with
  | nil =>
    intro _
    have l4 := H.l40 hj
    have d1 := (H.dk j hj).1
    refine ⟨fun h => (by cases h), fun _ => lastR_none (fun p hp => lv_m ?_), rfl⟩
    show dpS S (dk j) (ln S (dk j)) (enS S (dk j)) p = -1
    unfold dpS
    apply H.em
    split <;> omega
  | cons c P ih =>
    intro V
    obtain ⟨v1, v2, v3, v4, v5⟩ := id V
    obtain ⟨k, j'⟩ := c
    simp only at v2 v3 v4 v5
    have K := v1.pk H
    have K' := V.pk H
    have I := ih v1
    have hs := cd_rm H K v2 v3 v5
    have l4 := H.l40 hj
    have t4 := H.t4 v2
    by_cases e : j' = j
    · subst e
      have sm := K.sm j' hj
      have sp := sp_pos S (th k)
      have esg : sgP ((k, j') :: P) j' = k :: sgP P j' := by
        show (if j' = j' then k :: sgP P j' else sgP P j') = _
        rw [if_pos rfl]
      have esm : smP S th ((k, j') :: P) j' = smP S th P j' + spanS S (th k) := by
        show smP S th P j' + (if j' = j' then _ else _) = _
        rw [if_pos rfl]
      have oc : ∀ q, ln S (dk j') - smP S th P j' ≤ q → q < ln S (dk j') → ∃ x, x < 400 ∧ x ≠ th k ∧ dpS (qS S th dk P) (dk j') (ln S (dk j')) (enS S (dk j')) q = nI x := by
        intro q q1 q2
        obtain ⟨k', a1, a2⟩ := K.oc j' q hj q1 q2
        have := (K.st _ a1).1
        exact ⟨th k', H.t4 this, fun z => (v4 _ a1).1 (H.inj this v2 z), a2⟩
      obtain ⟨E1, E2, E3⟩ := en_step (T := fun x => S (2100 + x)) (g := g) (G := dpS (qS S th dk P) (dk j') (ln S (dk j')) (enS S (dk j'))) (G' := dpS (qS S th dk ((k, j') :: P)) (dk j') (ln S (dk j')) (enS S (dk j'))) (L := ln S (dk j')) (r := ln S (dk j') - smP S th P j') (s := spanS S (th k)) (l := th k) l4 t4 sp hs (by omega) (fun q hq => dp_put H K v2 v3 hs hq) (fun q hq => K.fr j' q hj hq) oc
      obtain ⟨F1, F2, F3⟩ := fa_step (T := fun x => S (2100 + x)) (g := g) (G := dpS (qS S th dk P) (dk j') (ln S (dk j')) (faE S (dk j'))) (G' := dpS (qS S th dk ((k, j') :: P)) (dk j') (ln S (dk j')) (faE S (dk j'))) (L := ln S (dk j')) (u := smP S th P j') (s := spanS S (th k)) (l := th k) l4 t4 sp (by omega) (fun q hq => by
          rw [dp_far _ hq, dp_far _ hq, dp_put H K v2 v3 hs (by omega)]
          by_cases c : smP S th P j' ≤ q ∧ q < smP S th P j' + spanS S (th k)
          · rw [if_pos c, if_pos (by omega)]
          · rw [if_neg c, if_neg (by omega)]) (fun q q1 q2 => by rw [dp_far _ q2]; exact K.fr j' _ hj (by omega)) (fun q hq => by rw [dp_far _ (by omega)]; exact oc _ (by omega) (by omega))
      obtain ⟨I1, I2, I3⟩ := I
      unfold LnV
      rw [esg, esm, hpB_cons]
      refine ⟨fun hp => ?_, fun hp => ?_, ?_⟩
      · by_cases hb : hpB (ptS S th) (sgP P j') g = true
        · obtain ⟨⟨D, D1, D2, D3⟩, ⟨U, U1, U2, U3⟩⟩ := I1 hb
          obtain ⟨-, x2, x3⟩ := E1 D D1 D2
          refine ⟨⟨D, D1, x2, ?_⟩, ?_⟩
          · rw [x3, D3]
            show _ = (if hpB (ptS S th) (sgP P j') g = true then _ else _)
            rw [if_pos hb]; rfl
          · by_cases ht : S (2100 + th k) = g
            · obtain ⟨y1, y2⟩ := F1 ht
              refine ⟨_, by omega, y1, ?_⟩
              rw [y2, I3]
              show _ = (if S (2100 + th k) = g then _ else _)
              rw [if_pos ht]
            · obtain ⟨-, y1, y2⟩ := F2 ht U U1 U2
              refine ⟨U, U1, y1, ?_⟩
              rw [y2, U3]
              show _ = (if S (2100 + th k) = g then _ else _)
              rw [if_neg ht]
        · have hb' : hpB (ptS S th) (sgP P j') g = false := by revert hb; cases hpB (ptS S th) (sgP P j') g <;> simp
          have ht : S (2100 + th k) = g := by
            rw [hb', Bool.or_false] at hp
            exact of_decide_eq_true hp
          have d0 := I2 hb'
          obtain ⟨x1, x2⟩ := E2 d0 ht
          obtain ⟨y1, y2⟩ := F1 ht
          refine ⟨⟨_, by omega, x1, ?_⟩, ⟨_, by omega, y1, ?_⟩⟩
          · rw [x2]
            show _ = (if hpB (ptS S th) (sgP P j') g = true then _ else _)
            rw [if_neg hb]
          · rw [y2, I3]
            show _ = (if S (2100 + th k) = g then _ else _)
            rw [if_pos ht]
      · rw [Bool.or_eq_false_iff] at hp
        exact E3 (I2 hp.2) (of_decide_eq_false hp.1)
      · rw [F3, I3]; rfl
    · have esg : sgP ((k, j') :: P) j = sgP P j := by
        show (if j' = j then _ else _) = _
        rw [if_neg e]
      have esm : smP S th ((k, j') :: P) j = smP S th P j := by
        show smP S th P j + (if j' = j then _ else _) = _
        rw [if_neg e]; rfl
      have sm := K.sm j hj
      have dn' : ∀ x q, q < ln S (dk j) → dpS (qS S th dk ((k, j') :: P)) (dk j) (ln S (dk j)) x q = dpS (qS S th dk P) (dk j) (ln S (dk j)) x q := fun x q hq => by
        unfold dpS
        refine put_ot H K v2 v3 hs (H.dk j hj).1 ?_ (fun z => e (H.inj' v3 hj z.symm))
        split <;> omega
      obtain ⟨I1, I2, I3⟩ := I
      unfold LnV
      rw [esg, esm]
      refine ⟨fun hp => ?_, fun hp => ?_, ?_⟩
      · obtain ⟨⟨D, D1, D2, D3⟩, ⟨U, U1, U2, U3⟩⟩ := I1 hp
        exact ⟨⟨D, D1, by rw [dG_congr (dn' _)]; exact D2, by rw [cG_congr (dn' _) (by omega)]; exact D3⟩, ⟨U, U1, by rw [dG_congr (dn' _)]; exact U2, by rw [cG_congr (dn' _) (by omega)]; exact U3⟩⟩
      · rw [dG_congr (dn' _)]; exact I2 hp
      · rw [cG_congr (dn' _) sm]; exact I3
/-- the array's own words for it -/
theorem cell_c (H : PlH S n dl th dk) (K : Pk S n dl th dk P) {j q : Nat} {e : Int32} (he : okE e) (hj : j < dl) (hq : q < ln S (dk j)) : dpS (qS S th dk P) (dk j) (ln S (dk j)) e q = -1 ∨ ∃ x, x < 400 ∧ dpS (qS S th dk P) (dk j) (ln S (dk j)) e q = nI x := by
  have A : ∀ q, q < ln S (dk j) → dpS (qS S th dk P) (dk j) (ln S (dk j)) (enS S (dk j)) q = -1 ∨ ∃ x, x < 400 ∧ dpS (qS S th dk P) (dk j) (ln S (dk j)) (enS S (dk j)) q = nI x := by
    intro q hq
    rcases Nat.lt_or_ge q (ln S (dk j) - smP S th P j) with z | z
    · exact Or.inl (K.fr j q hj z)
    · obtain ⟨k, a, b⟩ := K.oc j q hj z hq
      exact Or.inr ⟨th k, H.t4 (K.st _ a).1, b⟩
  have E : e = enS S (dk j) ∨ e = faE S (dk j) := by
    unfold faE
    rcases en_ok S (dk j) with x | x <;> rcases he with y | y
    · left; rw [x, y]
    · right; rw [x, if_pos rfl, y]
    · right; rw [x, if_neg (by decide), y]
    · left; rw [x, y]
  rcases E with rfl | rfl
  · exact A q hq
  · rw [dp_far _ hq]; exact A _ (by omega)
theorem de_G (H : PlH S n dl th dk) (K : Pk S n dl th dk P) {j : Nat} {e : Int32} (he : okE e) (hj : j < dl) : deS (qS S th dk P) (dk j) e g = dG (fun x => S (2100 + x)) (dpS (qS S th dk P) (dk j) (ln S (dk j)) e) g (ln S (dk j)) := by
  unfold deS dG
  rw [K.lnE H hj]
  refine lastR_congr _ (fun p hp => ?_)
  unfold lvB lvG
  rcases cell_c H K he hj hp with z | ⟨x, x1, z⟩
  · rw [z]; rfl
  · rw [z, cl_nI (by omega), K.ag _ (by omega) (by omega)]
theorem hi_G (H : PlH S n dl th dk) (K : Pk S n dl th dk P) {j D : Nat} {e : Int32} (he : okE e) (hj : j < dl) (hD : D < ln S (dk j)) (hd : dG (fun x => S (2100 + x)) (dpS (qS S th dk P) (dk j) (ln S (dk j)) e) g (ln S (dk j)) = nI D) : hiS (qS S th dk P) (dk j) e g = cG (fun x => S (2100 + x)) (dpS (qS S th dk P) (dk j) (ln S (dk j)) e) g D := by
  have l4 := H.l40 hj
  unfold hiS cG dn
  rw [de_G H K he hj, hd, cl_nI (by omega), K.lnE H hj]
  refine cntR_congr (fun p _ p2 => ?_)
  unfold hq1 hqG
  have pe : pvS (qS S th dk P) (dk j) (ln S (dk j)) e p = pvG (dpS (qS S th dk P) (dk j) (ln S (dk j)) e) p := by
    cases p <;> rfl
  rw [pe]
  rcases cell_c H K he hj (show p < ln S (dk j) by omega) with z | ⟨x, x1, z⟩
  · rw [z, decide_eq_true (show (-1 : Int32) < nI 0 from u1)]
    rw [Bool.not_true, Bool.false_and, Bool.false_and]
  · rw [z, cl_nI (by omega), K.ag _ (by omega) (by omega)]
theorem ic_G (H : PlH S n dl th dk) (K : Pk S n dl th dk P) {j : Nat} {e : Int32} (he : okE e) (hj : j < dl) : icS (qS S th dk P) (dk j) e g = opS S (dk j) e := by
  have d1 := (H.dk j hj).1
  have op : opS (qS S th dk P) (dk j) e = opS S (dk j) e := by unfold opS; rw [K.ag _ (by omega) (by omega)]
  unfold icS
  rw [op]
  have l4 := H.l40 hj
  have z : anyR (fun q => decide (dpS (qS S th dk P) (dk j) (ln (qS S th dk P) (dk j)) e q = -2)) 0 (dn (qS S th dk P) (dk j) e g) = false := by
    have lt := (dn_lt (S := qS S th dk P) (i := dk j) (e := e) (g := g) (by rw [K.lnE H hj]; exact l4)).1
    rw [K.lnE H hj] at lt ⊢
    rw [anyR_no]
    intro p _ p2
    apply decide_eq_false
    rcases cell_c H K he hj (show p < ln S (dk j) by omega) with z | ⟨x, x1, z⟩
    · rw [z]; decide
    · rw [z]; exact ne_m2 (by omega)
  rw [z]
  simp
end LN
