/-! THE PLANNER, 4: the bound is the sum of the lanes' costs -/
def conP (S : Nat → Int32) (th dk : Nat → Nat) (P : List (Nat × Nat)) (j : Nat) (g : Int32) : Nat := if S (880 + dk j) = nI 3 then min (hE (ptS S th) (sgP P j) g) (hF (ptS S th) (sgP P j) g) else hE (ptS S th) (sgP P j) g
theorem sumN_congr {f g : Nat → Nat} : ∀ {n : Nat}, (∀ i, i < n → f i = g i) → sumN f n = sumN g n := by
  intro n
  induction n with
  | zero => intro _; rfl
  | succ n ih =>
    intro h
    show sumN f n + f n = sumN g n + g n
    rw [ih (fun i hi => h i (by omega)), h n (by omega)]
theorem sumN_zero {f : Nat → Nat} {n : Nat} (h : ∀ i, i < n → f i = 0) : sumN f n = 0 := by
  rw [sumN_congr h]
  induction n with
  | zero => rfl
  | succ n ih => show sumN (fun _ => 0) n + 0 = 0; rw [ih (fun i hi => h i (by omega))]
theorem sumN_add (f g : Nat → Nat) : ∀ n, sumN (fun i => f i + g i) n = sumN f n + sumN g n := by
  intro n
  induction n with
  | zero => rfl
  | succ n ih =>
    show sumN (fun i => f i + g i) n + (f n + g n) = sumN f n + f n + (sumN g n + g n)
    rw [ih]
    omega
theorem sumN_swap (f : Nat → Nat → Nat) (m : Nat) : ∀ n, sumN (fun i => sumN (fun j => f i j) m) n = sumN (fun j => sumN (fun i => f i j) n) m := by
  intro n
  induction n with
  | zero => exact (sumN_zero (fun _ _ => rfl)).symm
  | succ n ih =>
    show sumN (fun i => sumN (fun j => f i j) m) n + sumN (fun j => f n j) m = sumN (fun j => sumN (fun i => f i j) n + f n j) m
    rw [ih, sumN_add]
theorem sumN_upd {f g : Nat → Nat} {v j0 : Nat} : ∀ {n : Nat}, j0 < n → (∀ j, j < n → j ≠ j0 → g j = f j) → f j0 = 0 → g j0 = v → sumN g n = sumN f n + v := by
  intro n
  induction n with
  | zero => intro h; omega
  | succ n ih =>
    intro h1 h2 h3 h4
    show sumN g n + g n = sumN f n + f n + v
    by_cases e : j0 = n
    · subst e
      rw [h3, h4, sumN_congr (fun i hi => h2 i (by omega) (by omega)), Nat.add_zero]
    · rw [ih (by omega) (fun j hj hn => h2 j (by omega) hn) h3 h4, h2 n (by omega) (fun z => e z.symm)]
      omega
section BD
variable {S : Nat → Int32} {n dl : Nat} {th dk : Nat → Nat} {P : List (Nat × Nat)} {g : Int32}
theorem opn_3 {i : Nat} (h : S (880 + i) = nI 3) (e : Int32) : opS S i e = true := by unfold opS; rw [h]; simp
theorem opn_1 {i : Nat} (h : S (880 + i) = nI 1) : opS S i (nI 0) = true ∧ opS S i (nI 1) = false := by
  unfold opS
  rw [h]
  exact ⟨rfl, rfl⟩
theorem opn_2 {i : Nat} (h : S (880 + i) = nI 2) : opS S i (nI 0) = false ∧ opS S i (nI 1) = true := by
  unfold opS
  rw [h]
  exact ⟨rfl, rfl⟩
theorem de_no (H : PlH S n dl th dk) (K : Pk S n dl th dk P) {j : Nat} (hj : j < dl) (h : dG (fun x => S (2100 + x)) (dpS (qS S th dk P) (dk j) (ln S (dk j)) (enS S (dk j))) g (ln S (dk j)) = -1) : deS (qS S th dk P) (dk j) (nI 0) g = -1 := by
  have l4 := H.l40 hj
  rw [de_G H K (Or.inl rfl) hj]
  rcases en_ok S (dk j) with e | e
  · rw [e] at h; exact h
  · rcases lastR_spec (lvG (fun x => S (2100 + x)) (dpS (qS S th dk P) (dk j) (ln S (dk j)) (enS S (dk j))) g) (ln S (dk j)) with ⟨-, a⟩ | ⟨a, a1, a2, -⟩
    · refine lastR_none (fun p hp => ?_)
      have := a (ln S (dk j) - 1 - p) (by omega)
      unfold lvG at this ⊢
      rw [← dp_far (S := S) _ hp, faE_1 e] at this
      exact this
    · unfold dG at h
      rw [a2] at h
      exact absurd h (ne_m1 (by omega))
theorem nn_D {D : Nat} (h : D < 1000) : ¬ nI D < nI 0 := by rw [lt_nI (by omega) (by omega)]; omega
theorem bd_dk (H : PlH S n dl th dk) (V : Vd S n dl th dk P) {j : Nat} (hj : j < dl) : bdL (qS S th dk P) g (dk j) = (if hpB (ptS S th) (sgP P j) g = true then conP S th dk P j g else 0) ∧ ¬ efA (qS S th dk P) (dk j) g = -1 := by
  have K := V.pk H
  have l4 := H.l40 hj
  obtain ⟨d1, d2⟩ := H.dk j hj
  obtain ⟨I1, I2, -⟩ := ln_v (g := g) H hj V
  have t1 : qS S th dk P (800 + dk j) = nI 1 := by rw [K.ag.th d1]; exact d2
  have c0 := ic_G (g := g) H K (Or.inl rfl) hj
  have c1 := ic_G (g := g) H K (Or.inr rfl) hj
  by_cases hb : hpB (ptS S th) (sgP P j) g = true
  · rw [if_pos hb]
    obtain ⟨⟨D, D1, D2, D3⟩, ⟨U, U1, U2, U3⟩⟩ := I1 hb
    have h1 := hi_G H K (en_ok S (dk j)) hj D1 D2
    rw [D3] at h1
    have fo : okE (faE S (dk j)) := by
      rcases en_ok S (dk j) with e | e
      · exact Or.inr (faE_0 e)
      · exact Or.inl (faE_1 e)
    have h2 := hi_G H K fo hj U1 U2
    rw [U3] at h2
    rw [← de_G H K (en_ok S (dk j)) hj] at D2
    rw [← de_G H K fo hj] at U2
    unfold conP
    rcases ends_ok H.wf.t d1 d2 with e | e | e
    · obtain ⟨o0, o1⟩ := opn_1 e
      have en0 : enS S (dk j) = nI 0 := by unfold enS; rw [if_pos o0]
      rw [en0] at D2 h1
      rw [o0] at c0
      rw [o1] at c1
      have ef : efA (qS S th dk P) (dk j) g = nI 0 := by
        rw [efA_ic t1 (by rw [D2]; exact nn_D (by omega)) _ _ c0 c1]
        rfl
      rw [if_neg (by rw [e]; decide)]
      refine ⟨?_, by rw [ef]; decide⟩
      unfold bdL
      rw [ef, if_pos (by decide), h1]
    · obtain ⟨o0, o1⟩ := opn_2 e
      have en0 : enS S (dk j) = nI 1 := by unfold enS; rw [if_neg (by rw [o0]; decide)]
      rw [faE_1 en0] at U2
      rw [en0] at D2 h1
      rw [o0] at c0
      rw [o1] at c1
      have ef : efA (qS S th dk P) (dk j) g = nI 1 := by
        rw [efA_ic t1 (by rw [U2]; exact nn_D (by omega)) _ _ c0 c1]
        rfl
      rw [if_neg (by rw [e]; decide)]
      refine ⟨?_, by rw [ef]; decide⟩
      unfold bdL
      rw [ef, if_pos (by decide), h1]
    · have o0 := opn_3 e (nI 0)
      have o1 := opn_3 e (nI 1)
      have en0 : enS S (dk j) = nI 0 := by unfold enS; rw [if_pos o0]
      rw [faE_0 en0] at U2 h2
      rw [en0] at D2 h1
      rw [o0] at c0
      rw [o1] at c1
      rw [if_pos e]
      by_cases lt : hF (ptS S th) (sgP P j) g < hE (ptS S th) (sgP P j) g
      · have ef : efA (qS S th dk P) (dk j) g = nI 1 := by
          rw [efA_ic t1 (by rw [D2]; exact nn_D (by omega)) _ _ c0 c1, if_pos rfl, if_pos rfl, if_pos (by rw [h1, h2]; exact lt)]
        refine ⟨?_, by rw [ef]; decide⟩
        unfold bdL
        rw [ef, if_pos (by decide), h2]
        omega
      · have ef : efA (qS S th dk P) (dk j) g = nI 0 := by
          rw [efA_ic t1 (by rw [D2]; exact nn_D (by omega)) _ _ c0 c1, if_pos rfl, if_pos rfl, if_neg (by rw [h1, h2]; exact lt)]
        refine ⟨?_, by rw [ef]; decide⟩
        unfold bdL
        rw [ef, if_pos (by decide), h1]
        omega
  · rw [if_neg hb]
    have hb' : hpB (ptS S th) (sgP P j) g = false := by revert hb; cases hpB (ptS S th) (sgP P j) g <;> simp
    have d0 := de_no H K hj (I2 hb')
    have ef : efA (qS S th dk P) (dk j) g = nI 2 := by
      unfold efA
      rw [if_pos t1, if_pos (by rw [d0]; exact u1)]
    refine ⟨?_, by rw [ef]; decide⟩
    unfold bdL
    rw [ef, if_neg (by decide)]
theorem bd_no (H : PlH S n dl th dk) (K : Pk S n dl th dk P) {i : Nat} (hi : i < 20) (hd : ∀ j, j < dl → i ≠ dk j) : bdL (qS S th dk P) g i = 0 ∧ ¬ efA (qS S th dk P) i g = -1 := by
  have t1 : ¬ qS S th dk P (800 + i) = nI 1 := by
    rw [K.ag.th hi]
    intro q
    obtain ⟨j, h1, h2⟩ := H.dkc i hi q
    exact hd j h1 h2
  have ef : efA (qS S th dk P) i g = nI 2 := by
    unfold efA
    rw [if_neg t1]
  refine ⟨?_, by rw [ef]; decide⟩
  unfold bdL
  rw [ef, if_neg (by decide)]
theorem dk_em (dl i : Nat) (dk : Nat → Nat) : (∃ j, j < dl ∧ i = dk j) ∨ ∀ j, j < dl → i ≠ dk j := by
  by_cases h : ∃ j, j < dl ∧ i = dk j
  · exact Or.inl h
  · exact Or.inr (fun j hj e => h ⟨j, hj, e⟩)
theorem sum_dk (H : PlH S n dl th dk) (f : Nat → Nat) (h0 : ∀ i, i < 20 → (∀ j, j < dl → i ≠ dk j) → f i = 0) : sumN f 20 = sumN (fun j => f (dk j)) dl := by
  have A : ∀ m, m ≤ 20 → sumN f m = sumN (fun j => if dk j < m then f (dk j) else 0) dl := by
    intro m
    induction m with
    | zero => intro _; exact (sumN_zero (fun _ _ => rfl)).symm
    | succ m ih =>
      intro hm
      show sumN f m + f m = _
      rw [ih (by omega)]
      rcases dk_em dl m dk with ⟨j0, a1, a2⟩ | a
      · refine (sumN_upd (j0 := j0) a1 (fun j hj hn => ?_) ?_ ?_).symm
        · have : dk j ≠ m := fun z => hn (H.inj' hj a1 (by omega))
          by_cases c : dk j < m
          · rw [if_pos c, if_pos (by omega)]
          · rw [if_neg c, if_neg (by omega)]
        · rw [if_neg (by omega)]
        · rw [if_pos (by omega), a2]
      · rw [h0 m (by omega) a]
        refine sumN_congr (fun j hj => ?_)
        have := a j hj
        by_cases c : dk j < m
        · rw [if_pos c, if_pos (by omega)]
        · rw [if_neg c, if_neg (by omega)]
  rw [A 20 (Nat.le_refl _)]
  exact sumN_congr (fun j hj => by rw [if_pos (H.dk j hj).1])
def lcP (S : Nat → Int32) (th dk : Nat → Nat) (P : List (Nat × Nat)) (j : Nat) : Nat := sumN (fun p => if hpB (ptS S th) (sgP P j) (nI p) = true then conP S th dk P j (nI p) else 0) (S 6503).toNatClampNeg
theorem sk_no (H : PlH S n dl th dk) (V : Vd S n dl th dk P) : skA (qS S th dk P) g = -1 := by
  apply skA_none
  rw [fstR_none]
  intro i _ hi
  have K := V.pk H
  unfold skL
  apply decide_eq_false
  rcases dk_em dl i dk with ⟨j0, a1, a2⟩ | a
  · rw [a2]; exact (bd_dk H V a1).2
  · exact (bd_no H K (by omega) a).2
theorem bdP_sum (H : PlH S n dl th dk) (V : Vd S n dl th dk P) : ∀ r p s, bdP (qS S th dk P) r p s = nI (s + sumN (fun q => sumN (bdL (qS S th dk P) (nI (p + q))) 20) r) := by
  intro r
  induction r with
  | zero => intro p s; rfl
  | succ r ih =>
    intro p s
    show (if skA (qS S th dk P) (nI p) < nI 0 then bdP (qS S th dk P) r (p + 1) (s + sumN (bdL (qS S th dk P) (nI p)) 20) else -13) = _
    rw [if_pos (by rw [sk_no H V]; exact u1), ih]
    congr 1
    have : ∀ r, sumN (fun q => sumN (bdL (qS S th dk P) (nI (p + q))) 20) (r + 1) = sumN (bdL (qS S th dk P) (nI p)) 20 + sumN (fun q => sumN (bdL (qS S th dk P) (nI (p + 1 + q))) 20) r := by
      intro r
      induction r with
      | zero => show 0 + sumN (bdL (qS S th dk P) (nI (p + 0))) 20 = _; rw [Nat.zero_add]; rfl
      | succ r ih =>
        show sumN (fun q => sumN (bdL (qS S th dk P) (nI (p + q))) 20) (r + 1) + sumN (bdL (qS S th dk P) (nI (p + (r + 1)))) 20 = _ + (sumN (fun q => sumN (bdL (qS S th dk P) (nI (p + 1 + q))) 20) r + sumN (bdL (qS S th dk P) (nI (p + 1 + r))) 20)
        rw [ih, show p + (r + 1) = p + 1 + r by omega]
        omega
    rw [this]
    omega
/-- the bound of what is driven -/
theorem bd_cost (H : PlH S n dl th dk) (V : Vd S n dl th dk P) : bdA (qS S th dk P) = nI (sumN (lcP S th dk P) dl) := by
  have K := V.pk H
  have e1 : p0S (qS S th dk P) = 0 := by
    unfold p0S
    rw [K.ag 6501 (by omega) (by omega), if_neg H.sea]
  unfold bdA
  rw [e1, K.ag 6503 (by omega) (by omega), bdP_sum H V, Nat.zero_add, Nat.sub_zero]
  congr 1
  show _ = sumN (fun j => sumN (fun p => if hpB (ptS S th) (sgP P j) (nI p) = true then conP S th dk P j (nI p) else 0) (S 6503).toNatClampNeg) dl
  refine Eq.trans ?_ (sumN_swap (fun p j => if hpB (ptS S th) (sgP P j) (nI p) = true then conP S th dk P j (nI p) else 0) dl _)
  refine sumN_congr (fun p hp => ?_)
  rw [Nat.zero_add, sum_dk H _ (fun i hi hd => (bd_no H K hi hd).1)]
  exact sumN_congr (fun j hj => (bd_dk H V hj).1)
end BD
