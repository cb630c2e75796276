/-! THE PLANNER, 21: the class: put and back -/
section PU
variable {m m' : am_M} {o a : Nat} {S : Nat → Int32} {L : Int64} {n dl : Nat} {th dk : Nat → Nat} {P : List (Nat × Nat)} {b : Bst}
theorem OrO_up {C : Nat → Int32} {x : Nat} {v : Int32} : ∀ {P : List (Nat × Nat)}, P.length ≤ x → OrO C P → OrO (up1 C x v) P := by
  intro P
  induction P with
  | nil => intro _ _; trivial
  | cons c P ih =>
    intro hx ⟨a, b⟩
    rw [List.length_cons] at hx
    exact ⟨by rw [up1_ne (by omega)]; exact a, ih (by omega) b⟩
theorem rm_c (H : PlH S n dl th dk) {x j j' : Nat} : rmP S th dk ((x, j) :: P) j' = if j = j' then rmP S th dk P j' - spanS S (th x) else rmP S th dk P j' := by
  unfold rmP
  show ln S (dk j') - (smP S th P j' + (if j = j' then spanS S (th x) else 0)) = _
  by_cases e : j = j'
  · rw [if_pos e, if_pos e]; omega
  · rw [if_neg e, if_neg e]; rfl
theorem v_new (H : PlH S n dl th dk) (V : Vd S n dl th dk P) {x j : Nat} (V' : Vd S n dl th dk ((x, j) :: P)) : vP S th dk ((x, j) :: P) x = plP S th dk P x j := by
  have K := V.pk H
  obtain ⟨v1, v2, v3, v4, v5⟩ := id V'
  simp only at v2 v3
  have l4 := H.l40 v3
  have pb : plP S th dk P x j ≤ 40 := by unfold plP rmP; split <;> omega
  unfold vP
  have : qS S th dk ((x, j) :: P) (4100 + th x) = nI (plS (qS S th dk P) (th x) (dk j) (enS S (dk j))) := putS_3 (l := th x) (i := dk j)
  rw [this, pl_P H K v2 v3, cl_nI (by omega)]
theorem sp_48 {d x j : Nat} (C : PC m o a S L n dl th dk) (H : PlH S n dl th dk) (V : Vd S n dl th dk P) (V' : Vd S n dl th dk ((x, j) :: P)) (D : PD m o S n dl th dk P j) (ha : a + 66 ≤ o) : ∃ m', cal (d + 3) 48 [.ref o, .int (nI x), .int (nI j), .int (nI P.length)] m = some (none, m') ∧ FrP (fun x => o + 4 ≤ x ∧ x ≤ o + 8 ∧ x ≠ o + 5) m m' ∧ PD m' o S n dl th dk ((x, j) :: P) j := by
  have p := C.p; have rs := C.rs; have k := C.sk; have ko := k.lo
  have n6 := H.n6
  have d3 := H.d3
  have K := V.pk H
  obtain ⟨-, v2, v3, v4, v5⟩ := id V'
  simp only at v2 v3 v4 v5
  have vl := V'.len
  rw [List.length_cons] at vl
  have hs : spanS S (th x) ≤ rmP S th dk P j := cd_rm H K v2 v3 v5
  have l4 := H.l40 v3
  have rl : rmP S th dk P j ≤ 40 := by unfold rmP; omega
  have ro := D.ro j v3
  have e46 := sp_46 (d := d) C H v2 v3 ro hs
  generalize hm1 : sA (sA m (o + 8) (up1 (mI m (o + 8)) x (nI (plP S th dk P x j)))) (o + 7) (up1 (mI m (o + 7)) x (nI j)) = m1
  have Q1 : FqC o a m m1 := by
    rw [← hm1]
    exact ((FqC.refl o a m).sA ha (by omega)).sA ha (by omega)
  have C1 := C.fq ha Q1
  have e43 := sp_43 (d := d + 2) C1 H v2
  have i6 : mI m1 (o + 6) = mI m (o + 6) := by rw [← hm1, I_sA' _ _ (by omega), I_sA' _ _ (by omega)]
  have i4 : mI m1 (o + 4) = mI m (o + 4) := by rw [← hm1, I_sA' _ _ (by omega), I_sA' _ _ (by omega)]
  have i5 : mI m1 (o + 5) = mI m (o + 5) := by rw [← hm1, I_sA' _ _ (by omega), I_sA' _ _ (by omega)]
  have i7 : mI m1 (o + 7) = up1 (mI m (o + 7)) x (nI j) := by rw [← hm1, I_sA]
  have i8 : mI m1 (o + 8) = up1 (mI m (o + 8)) x (nI (plP S th dk P x j)) := by rw [← hm1, I_sA' _ _ (by omega), I_sA]
  have X1 : cal (d + 3) 48 [.ref o, .int (nI x), .int (nI j), .int (nI P.length)] m = ev (d + 3) 48 19 [some (.ref o), some (.int (nI x)), some (.int (nI j)), some (.int (nI P.length))] [] m1 := by
    rw [← hm1]
    simp (disch := first | (simp (disch := omega) only [am_k_some, va_rf_some, va_rf_none, tl_some, tl_none, am_clr_int, am_clr_ref, am_clr_none, am_clr_long, am_w_nil, am_w_int, am_w_ref, am_w_long, am_w_null, am_bb_0, am_bb_1, am_bb_bI, xK_sI, xR_sI, xS_sI, xN_sI, xK_sL, xR_sL, xS_sL, xN_sL, xK_sR, xR_sR, xS_sR, xN_sR, xK_sA, xR_sA, xS_sA, xN_sA, Nat.reduceAdd, Nat.reduceLeDiff, sI_sA, I_sA', sA_sA, I_sA, I_sA', nI_add, mul_nI, bI_0, bI_1, p.k, rs, p.r1, p.k1, p.r2, p.k2, p.r3, p.k3, p.r4, p.k4, p.r5, p.k5, p.r6, p.k6, p.r7, p.k7, p.r8, p.k8, k.k, k.r0, k.k0, k.rl, k.r1, k.r3, ko.k, ko.r0, ko.k0, ko.r1, ko.k1, ko.r2, ko.k2, ko.r3, ko.k3, ko.r4, ko.k4, ix_nI, cl_nI]; done) | omega | assumption) only [c48, e48_0, e48_1, e48_4, e48_5, e48_6, e48_7, e48_8, e48_11, e48_12, e48_13, e48_16, e48_17, e48_18, e48_20, e48_23, e48_24, e48_25, e48_26, e48_27, e48_28, e48_31, e48_34, e48_35, e48_36, e48_37, e48_40, e48_41, e48_42, e48_43, am_k_some, va_rf_some, va_rf_none, tl_some, tl_none, am_clr_int, am_clr_ref, am_clr_none, am_clr_long, am_w_nil, am_w_int, am_w_ref, am_w_long, am_w_null, am_bb_0, am_bb_1, am_bb_bI, xK_sI, xR_sI, xS_sI, xN_sI, xK_sL, xR_sL, xS_sL, xN_sL, xK_sR, xR_sR, xS_sR, xN_sR, xK_sA, xR_sA, xS_sA, xN_sA, Nat.reduceAdd, Nat.reduceLeDiff, sI_sA, I_sA', sA_sA, I_sA, I_sA', nI_add, mul_nI, bI_0, bI_1, p.k, rs, p.r1, p.k1, p.r2, p.k2, p.r3, p.k3, p.r4, p.k4, p.r5, p.k5, p.r6, p.k6, p.r7, p.k7, p.r8, p.k8, k.k, k.r0, k.k0, k.rl, k.r1, k.r3, ko.k, ko.r0, ko.k0, ko.r1, ko.k1, ko.r2, ko.k2, ko.r3, ko.k3, ko.r4, ko.k4, ix_nI, cl_nI, lt_nI, eq_nI, sub_nI, Nat.reduceEqDiff, Nat.one_ne_zero, Nat.not_lt_zero, ↓reduceIte, e46]
  have sp : (if S (900 + th x) = nI 3 then 3 else 1) = spanS S (th x) := rfl
  have ro1 : mI m1 (o + 6) j = nI (rmP S th dk P j) := by rw [i6]; exact ro
  refine ⟨sA (sA m1 (o + 6) (up1 (mI m1 (o + 6)) j (nI (rmP S th dk P j - spanS S (th x))))) (o + 4) (up1 (mI m1 (o + 4)) P.length (nI x)), ?_, ?_, ?_⟩
  · rw [X1]
    clear hm1 X1
    have p := C1.p
    have rs := C1.rs
    have k := C1.sk
    have ko := k.lo
    simp (disch := first | (simp (disch := omega) only [am_k_some, va_rf_some, va_rf_none, tl_some, tl_none, am_clr_int, am_clr_ref, am_clr_none, am_clr_long, am_w_nil, am_w_int, am_w_ref, am_w_long, am_w_null, am_bb_0, am_bb_1, am_bb_bI, xK_sI, xR_sI, xS_sI, xN_sI, xK_sL, xR_sL, xS_sL, xN_sL, xK_sR, xR_sR, xS_sR, xN_sR, xK_sA, xR_sA, xS_sA, xN_sA, Nat.reduceAdd, Nat.reduceLeDiff, sI_sA, I_sA', sA_sA, I_sA, I_sA', nI_add, mul_nI, bI_0, bI_1, p.k, rs, p.r1, p.k1, p.r2, p.k2, p.r3, p.k3, p.r4, p.k4, p.r5, p.k5, p.r6, p.k6, p.r7, p.k7, p.r8, p.k8, k.k, k.r0, k.k0, k.rl, k.r1, k.r3, ko.k, ko.r0, ko.k0, ko.r1, ko.k1, ko.r2, ko.k2, ko.r3, ko.k3, ko.r4, ko.k4, ix_nI, cl_nI]; done) | omega | assumption) only [e48_0, e48_1, e48_4, e48_5, e48_6, e48_7, e48_8, e48_11, e48_12, e48_13, e48_16, e48_17, e48_18, e48_19, e48_20, e48_23, e48_24, e48_25, e48_26, e48_27, e48_28, e48_31, e48_34, e48_35, e48_36, e48_37, e48_40, e48_41, e48_42, e48_43, am_k_some, va_rf_some, va_rf_none, tl_some, tl_none, am_clr_int, am_clr_ref, am_clr_none, am_clr_long, am_w_nil, am_w_int, am_w_ref, am_w_long, am_w_null, am_bb_0, am_bb_1, am_bb_bI, xK_sI, xR_sI, xS_sI, xN_sI, xK_sL, xR_sL, xS_sL, xN_sL, xK_sR, xR_sR, xS_sR, xN_sR, xK_sA, xR_sA, xS_sA, xN_sA, Nat.reduceAdd, Nat.reduceLeDiff, sI_sA, I_sA', sA_sA, I_sA, I_sA', nI_add, mul_nI, bI_0, bI_1, p.k, rs, p.r1, p.k1, p.r2, p.k2, p.r3, p.k3, p.r4, p.k4, p.r5, p.k5, p.r6, p.k6, p.r7, p.k7, p.r8, p.k8, k.k, k.r0, k.k0, k.rl, k.r1, k.r3, ko.k, ko.r0, ko.k0, ko.r1, ko.k1, ko.r2, ko.k2, ko.r3, ko.k3, ko.r4, ko.k4, ix_nI, cl_nI, lt_nI, eq_nI, sub_nI, Nat.reduceEqDiff, Nat.one_ne_zero, Nat.not_lt_zero, ↓reduceIte, e43, ro1, sp_134, sp]
  · rw [← hm1]
    exact ((((FrP.refl _ m).sA (by omega)).sA (by omega)).sA (by omega)).sA (by omega)
  · have j4 : mI (sA (sA m1 (o + 6) (up1 (mI m1 (o + 6)) j (nI (rmP S th dk P j - spanS S (th x))))) (o + 4) (up1 (mI m1 (o + 4)) P.length (nI x))) (o + 4) = up1 (mI m (o + 4)) P.length (nI x) := by rw [I_sA, i4]
    have j5 : mI (sA (sA m1 (o + 6) (up1 (mI m1 (o + 6)) j (nI (rmP S th dk P j - spanS S (th x))))) (o + 4) (up1 (mI m1 (o + 4)) P.length (nI x))) (o + 5) = mI m (o + 5) := by rw [I_sA' _ _ (by omega), I_sA' _ _ (by omega), i5]
    have j6 : mI (sA (sA m1 (o + 6) (up1 (mI m1 (o + 6)) j (nI (rmP S th dk P j - spanS S (th x))))) (o + 4) (up1 (mI m1 (o + 4)) P.length (nI x))) (o + 6) = up1 (mI m (o + 6)) j (nI (rmP S th dk P j - spanS S (th x))) := by rw [I_sA' _ _ (by omega), I_sA, i6]
    have j7 : mI (sA (sA m1 (o + 6) (up1 (mI m1 (o + 6)) j (nI (rmP S th dk P j - spanS S (th x))))) (o + 4) (up1 (mI m1 (o + 4)) P.length (nI x))) (o + 7) = up1 (mI m (o + 7)) x (nI j) := by rw [I_sA' _ _ (by omega), I_sA' _ _ (by omega), i7]
    have j8 : mI (sA (sA m1 (o + 6) (up1 (mI m1 (o + 6)) j (nI (rmP S th dk P j - spanS S (th x))))) (o + 4) (up1 (mI m1 (o + 4)) P.length (nI x))) (o + 8) = up1 (mI m (o + 8)) x (nI (plP S th dk P x j)) := by rw [I_sA' _ _ (by omega), I_sA' _ _ (by omega), i8]
    generalize sA (sA m1 (o + 6) (up1 (mI m1 (o + 6)) j (nI (rmP S th dk P j - spanS S (th x))))) (o + 4) (up1 (mI m1 (o + 4)) P.length (nI x)) = m2 at *
    refine ⟨fun j' hj' => ?_, fun y hy hu => ?_, fun y hy => ?_, fun y hy => ?_, ?_, fun j' hj' => ?_⟩
    · rw [j6, rm_c H]
      by_cases e : j = j'
      · rw [if_pos e, ← e, up1_eq]
      · rw [if_neg e, up1_ne (fun z => e z.symm)]; exact D.ro j' hj'
    · rw [us_cons, Bool.or_eq_false_iff] at hu
      have ne : y ≠ x := fun z => of_decide_eq_false hu.1 z.symm
      rw [j7, up1_ne ne]
      exact D.lf y hy hu.2
    · rw [j7]
      rcases List.mem_cons.1 hy with e | e
      · rw [e, up1_eq]
      · rw [up1_ne (v4 y e).1]; exact D.lu y e
    · rw [j8]
      rcases List.mem_cons.1 hy with e | e
      · rw [e, up1_eq, v_new H V V']
      · rw [up1_ne (v4 y e).1, (v_old H V' (us_iff.2 ⟨y, e, rfl⟩)).2]; exact D.pu y e
    · rw [j4]
      exact ⟨up1_eq, OrO_up (Nat.le_refl _) D.od⟩
    · rw [j5]
      show _ = nI (stQ P j' + if j < j' then 1 else 0)
      rw [if_neg (by omega), Nat.add_zero]
      exact D.st j' hj'
/-- taken back -/
theorem pd_back {x j : Nat} (H : PlH S n dl th dk) (V : Vd S n dl th dk P) (V' : Vd S n dl th dk ((x, j) :: P)) (D : PD m o S n dl th dk ((x, j) :: P) j) (h4 : mI m' (o + 4) = mI m (o + 4)) (h5 : mI m' (o + 5) = mI m (o + 5)) (h6 : mI m' (o + 6) = up1 (mI m (o + 6)) j (nI (rmP S th dk P j))) (h7 : mI m' (o + 7) = up1 (mI m (o + 7)) x (-1)) (h8 : mI m' (o + 8) = mI m (o + 8)) : PD m' o S n dl th dk P j := by
  obtain ⟨-, v2, v3, v4, v5⟩ := id V'
  simp only at v2 v3 v4 v5
  refine ⟨fun j' hj' => ?_, fun y hy hu => ?_, fun y hy => ?_, fun y hy => ?_, ?_, fun j' hj' => ?_⟩
  · rw [h6]
    by_cases e : j' = j
    · rw [e, up1_eq]
    · rw [up1_ne e, D.ro j' hj', rm_c H, if_neg (fun z => e z.symm)]
  · rw [h7]
    by_cases e : y = x
    · rw [e, up1_eq]
    · rw [up1_ne e]
      refine D.lf y hy ?_
      rw [us_cons, hu, Bool.or_false]
      exact decide_eq_false (fun z => e z.symm)
  · rw [h7, up1_ne (v4 y hy).1]
    exact D.lu y (List.mem_cons_of_mem _ hy)
  · rw [h8, D.pu y (List.mem_cons_of_mem _ hy), (v_old H V' (us_iff.2 ⟨y, hy, rfl⟩)).2]
  · rw [h4]; exact D.od.2
  · rw [h5, D.st j' hj']
    show nI (stQ P j' + if j < j' then 1 else 0) = _
    rw [if_neg (by omega), Nat.add_zero]
theorem ex_ok (H : PlH S n dl th dk) : ∀ t {P : List (Nat × Nat)} {j : Nat} {b : Bst}, Vd S n dl th dk P → (∀ x, x ∈ P → x.2 ≤ j) → P.length + t = n → BsOk n b → BsOk n (exA S L n dl th dk t P j b) := by
  intro t
  induction t with
  | zero => intro P j b V hj hl hb; exact jd_ok H V (by omega) hb
  | succ t ih =>
    intro P j b V hj hl hb
    show BsOk n (fld (fun c b => if okB S n th dk P c = true then exA S L n dl th dk t ((c % 6, c / 6) :: P) (c / 6) b else b) (6 * dl - 6 * j) (6 * j) b)
    refine fld_inv (I := BsOk n) _ _ _ (fun c b c1 c2 hb => ?_) hb
    show BsOk n (if okB S n th dk P c = true then exA S L n dl th dk t ((c % 6, c / 6) :: P) (c / 6) b else b)
    by_cases o : okB S n th dk P c = true
    · rw [if_pos o]
      have V' := ok_vd V hj c1 (by omega) o
      refine ih V' (fun x hx => ?_) (by rw [List.length_cons]; omega) hb
      rcases List.mem_cons.1 hx with e | e
      · rw [e]; exact Nat.le_refl _
      · have := hj x e
        omega
    · rw [if_neg o]; exact hb
end PU
