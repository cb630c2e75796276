/-! THE PLANNER, 11: the model: least, stow -/
theorem fld_inv {β : Type} {f : Nat → β → β} {I : β → Prop} : ∀ r c b, (∀ x b, c ≤ x → x < c + r → I b → I (f x b)) → I b → I (fld f r c b) := by
  intro r
  induction r with
  | zero => intro c b _ h; exact h
  | succ r ih =>
    intro c b h hb
    show I (fld f r (c + 1) (f c b))
    exact ih (c + 1) (f c b) (fun x b x1 x2 => h x b (by omega) (by omega)) (h c b (by omega) (by omega) hb)
def FromB (S : Nat → Int32) (n dl : Nat) (th dk : Nat → Nat) : Bst → Prop
  | none => True
  | some (c, bl, bp) => ∃ Q, Vd S n dl th dk Q ∧ Q.length = n ∧ c = cost S dl th dk Q ∧ bl = vL S th dk Q ∧ bp = vP S th dk Q
theorem ex_from {S : Nat → Int32} {L : Int64} {n dl : Nat} {th dk : Nat → Nat} : ∀ t {P : List (Nat × Nat)} {j : Nat} {b : Bst}, Vd S n dl th dk P → (∀ x, x ∈ P → x.2 ≤ j) → P.length + t = n → FromB S n dl th dk b → FromB S n dl th dk (exA S L n dl th dk t P j b) := by
  intro t
  induction t with
  | zero =>
    intro P j b V hj hl hb
    show FromB S n dl th dk (jdP S L n dl th dk P b)
    unfold jdP
    split
    · split
      · exact ⟨P, V, by omega, rfl, rfl, rfl⟩
      · exact hb
    · exact hb
  | succ t ih =>
    intro P j b V hj hl hb
    show FromB S n dl th dk (fld (fun c b => if okB S n th dk P c = true then exA S L n dl th dk t ((c % 6, c / 6) :: P) (c / 6) b else b) (6 * dl - 6 * j) (6 * j) b)
    refine fld_inv (I := FromB S n dl th dk) _ _ _ (fun c b c1 c2 hb => ?_) hb
    show FromB S n dl th dk (if okB S n th dk P c = true then exA S L n dl th dk t ((c % 6, c / 6) :: P) (c / 6) b else b)
    by_cases o : okB S n th dk P c = true
    · rw [if_pos o]
      have V' := ok_vd V hj c1 (by omega) o
      refine ih V' (fun x hx => ?_) (by rw [List.length_cons]; omega) hb
      rcases List.mem_cons.1 hx with e | e
      · rw [e]; exact Nat.le_refl _
      · have := hj x e
        omega
    · rw [if_neg o]; exact hb
def PlS (S S' : Nat → Int32) (n : Nat) (th : Nat → Nat) (b : Bst) : Prop := (∀ y, (y < 5300 ∨ 6100 ≤ y) → S' y = S y) ∧ (∀ l, l < 400 → (∀ k, k < n → l ≠ th k) → S' (5300 + l) = -1 ∧ S' (5700 + l) = -1) ∧ match b with
  | none => ∀ l, l < 400 → S' (5300 + l) = -1 ∧ S' (5700 + l) = -1
  | some (_, bl, bp) => ∀ k, k < n → S' (5300 + th k) = nI (bl k) ∧ S' (5700 + th k) = nI (bp k)
theorem sp_214a {d M : Nat} {x1 : Option Value} : ∀ (n i : Nat) (m : am_M) (_ : i + n = 400) (_ : Mo m M), ev d 214 17 [some (.ref M), some (.int (nI 0)), some (.int (nI i))] [] m = ev d 214 52 [some (.ref M), some (.int (nI 0)), some (.int (nI 400))] [] (sA m (M + 1) (flB i (mI m (M + 1))))
  | 0, i, m, hi, h => by
    have hi' : i = 400 := by omega
    subst hi'
    rw [flB_0, sA_self]
    simp (disch := omega) only [e214_0, e214_1, e214_4, e214_5, e214_6, e214_9, e214_10, e214_11, e214_12, e214_15, e214_16, e214_17, e214_18, e214_21, e214_24, e214_25, e214_28, e214_31, e214_32, e214_33, e214_34, e214_35, e214_36, e214_39, e214_42, e214_43, e214_44, e214_45, e214_46, e214_49, e214_53, e214_54, e214_55, e214_56, e214_59, e214_62, e214_63, e214_66, e214_69, e214_70, e214_73, e214_76, e214_77, e214_80, e214_81, e214_82, e214_83, e214_84, e214_87, e214_88, e214_89, e214_90, e214_91, e214_94, e214_97, e214_98, e214_101, e214_102, e214_103, e214_104, e214_105, e214_108, e214_109, e214_110, e214_111, e214_114, e214_117, e214_118, e214_121, e214_124, e214_126, e214_129, e214_130, e214_133, am_k_some, va_rf_some, va_rf_none, tl_some, tl_none, am_clr_int, am_clr_ref, am_clr_none, am_clr_long, am_w_nil, am_w_int, am_w_ref, am_w_long, am_w_null, am_bb_0, am_bb_1, am_bb_bI, xK_sI, xR_sI, xS_sI, xN_sI, xK_sL, xR_sL, xS_sL, xN_sL, xK_sR, xR_sR, xS_sR, xN_sR, xK_sA, xR_sA, xS_sA, xN_sA, Nat.reduceAdd, Nat.reduceLeDiff, sI_sA, I_sA', sA_sA, I_sA, I_sA', nI_add, mul_nI, bI_0, bI_1, ix_nI, cl_nI, lt_nI, eq_nI, sub_nI, Nat.reduceEqDiff, Nat.one_ne_zero, Nat.not_lt_zero, ↓reduceIte, Nat.lt_irrefl]
  | n + 1, i, m, hi, h => by
    have hlt : i < 400 := by omega
    have g := sp_214a (d := d) (M := M) (x1 := x1) n (i + 1) (sA m (M + 1) (up1 (up1 (mI m (M + 1)) (5300 + i) (-1)) (5700 + i) (-1))) (by omega) (by rw [Mo_sA]; exact h)
    rw [I_sA, flB_s _ hlt, sA_sA] at g
    rw [← g, e214_17]
    simp (disch := first | (simp (disch := omega) only [am_k_some, va_rf_some, va_rf_none, tl_some, tl_none, am_clr_int, am_clr_ref, am_clr_none, am_clr_long, am_w_nil, am_w_int, am_w_ref, am_w_long, am_w_null, am_bb_0, am_bb_1, am_bb_bI, xK_sI, xR_sI, xS_sI, xN_sI, xK_sL, xR_sL, xS_sL, xN_sL, xK_sR, xR_sR, xS_sR, xN_sR, xK_sA, xR_sA, xS_sA, xN_sA, Nat.reduceAdd, Nat.reduceLeDiff, sI_sA, I_sA', sA_sA, I_sA, I_sA', nI_add, mul_nI, bI_0, bI_1, h.k, h.r0, h.k0, h.r1, h.k1, h.r2, h.k2, h.r3, h.k3, h.r4, h.k4, h.r5, h.k5, h.r6, h.k6, h.r8, h.k8, h.r9, h.k9, h.r15, h.k15, h.r17, h.k17, h.r19, h.k19, h.r20, h.k20, h.r21, h.k21, h.r22, h.k22, h, Mo_sA, Mo_sL, ix_nI, cl_nI]; done) | omega | (simp only [I_sA]; assumption)) only [e214_0, e214_1, e214_4, e214_5, e214_6, e214_9, e214_10, e214_11, e214_12, e214_15, e214_16, e214_18, e214_21, e214_24, e214_25, e214_28, e214_31, e214_32, e214_33, e214_34, e214_35, e214_36, e214_39, e214_42, e214_43, e214_44, e214_45, e214_46, e214_49, e214_53, e214_54, e214_55, e214_56, e214_59, e214_62, e214_63, e214_66, e214_69, e214_70, e214_73, e214_76, e214_77, e214_80, e214_81, e214_82, e214_83, e214_84, e214_87, e214_88, e214_89, e214_90, e214_91, e214_94, e214_97, e214_98, e214_101, e214_102, e214_103, e214_104, e214_105, e214_108, e214_109, e214_110, e214_111, e214_114, e214_117, e214_118, e214_121, e214_124, e214_126, e214_129, e214_130, e214_133, am_k_some, va_rf_some, va_rf_none, tl_some, tl_none, am_clr_int, am_clr_ref, am_clr_none, am_clr_long, am_w_nil, am_w_int, am_w_ref, am_w_long, am_w_null, am_bb_0, am_bb_1, am_bb_bI, xK_sI, xR_sI, xS_sI, xN_sI, xK_sL, xR_sL, xS_sL, xN_sL, xK_sR, xR_sR, xS_sR, xN_sR, xK_sA, xR_sA, xS_sA, xN_sA, Nat.reduceAdd, Nat.reduceLeDiff, sI_sA, I_sA', sA_sA, I_sA, I_sA', nI_add, mul_nI, bI_0, bI_1, h.k, h.r0, h.k0, h.r1, h.k1, h.r2, h.k2, h.r3, h.k3, h.r4, h.k4, h.r5, h.k5, h.r6, h.k6, h.r8, h.k8, h.r9, h.k9, h.r15, h.k15, h.r17, h.k17, h.r19, h.k19, h.r20, h.k20, h.r21, h.k21, h.r22, h.k22, ix_nI, cl_nI, lt_nI, eq_nI, sub_nI, Nat.reduceEqDiff, Nat.one_ne_zero, Nat.not_lt_zero, ↓reduceIte, hlt]
theorem flB_at (g : Nat → Int32) (y : Nat) : flB 0 g y = if 5300 ≤ y ∧ y < 6100 then -1 else g y := by
  simp only [flB, flA]
  by_cases a : 5300 + 0 ≤ y ∧ y < 5700
  · rw [if_pos a, if_pos (by omega)]
  · rw [if_neg a]
    by_cases b : 5700 + 0 ≤ y ∧ y < 6100
    · rw [if_pos b, if_pos (by omega)]
    · rw [if_neg b, if_neg (by omega)]
section LS
variable {S : Nat → Int32} {n dl : Nat} {th dk : Nat → Nat}
theorem sp_214b {d M c : Nat} {bl bp : Nat → Nat} (hc : c < 1000) (n6 : n ≤ 6) (t4 : ∀ k, k < n → th k < 400) (ti : ∀ k k', k < n → k' < n → th k = th k' → k = k') (S0 : Nat → Int32) : ∀ r k (m : am_M), k + r = n → Mo m M → mI m M 16 = nI n → mI m M 23 = nI c → (∀ k, k < n → mI m (M + 10) k = nI (th k)) → (∀ k, k < n → mI m (M + 14) k = nI (bl k) ∧ mI m (M + 15) k = nI (bp k)) →
    (∀ y, (y < 5300 ∨ 6100 ≤ y) → mI m (M + 1) y = S0 y) → (∀ l, l < 400 → (∀ k', k' < k → l ≠ th k') → mI m (M + 1) (5300 + l) = -1 ∧ mI m (M + 1) (5700 + l) = -1) → (∀ k', k' < k → mI m (M + 1) (5300 + th k') = nI (bl k') ∧ mI m (M + 1) (5700 + th k') = nI (bp k')) →
    ∃ m', ev d 214 54 [some (.ref M), some (.int (nI 0)), some (.int (nI k))] [] m = ev d 214 117 [some (.ref M), some (.int (nI 0)), some (.int (nI n))] [] m' ∧ FrI (fun x => x = M + 1) m m' ∧ (∀ y, (y < 5300 ∨ 6100 ≤ y) → mI m' (M + 1) y = S0 y) ∧ (∀ l, l < 400 → (∀ k', k' < n → l ≠ th k') → mI m' (M + 1) (5300 + l) = -1 ∧ mI m' (M + 1) (5700 + l) = -1) ∧ (∀ k', k' < n → mI m' (M + 1) (5300 + th k') = nI (bl k') ∧ mI m' (M + 1) (5700 + th k') = nI (bp k')) := by
  intro r
  induction r with
  | zero =>
    intro k m hk h tm hb ts hbs q1 q2 q3
    have hk' : k = n := by omega
    subst hk'
    have hnl : ¬ k < k := by omega
    refine ⟨m, ?_, FrI.refl _ m, q1, q2, q3⟩
    rw [e214_54]
    simp (disch := first | (simp (disch := omega) only [am_k_some, va_rf_some, va_rf_none, tl_some, tl_none, am_clr_int, am_clr_ref, am_clr_none, am_clr_long, am_w_nil, am_w_int, am_w_ref, am_w_long, am_w_null, am_bb_0, am_bb_1, am_bb_bI, xK_sI, xR_sI, xS_sI, xN_sI, xK_sL, xR_sL, xS_sL, xN_sL, xK_sR, xR_sR, xS_sR, xN_sR, xK_sA, xR_sA, xS_sA, xN_sA, Nat.reduceAdd, Nat.reduceLeDiff, sI_sA, I_sA', sA_sA, I_sA, I_sA', nI_add, mul_nI, bI_0, bI_1, h.k, h.r0, h.k0, h.r1, h.k1, h.r2, h.k2, h.r3, h.k3, h.r4, h.k4, h.r5, h.k5, h.r6, h.k6, h.r8, h.k8, h.r9, h.k9, h.r15, h.k15, h.r17, h.k17, h.r19, h.k19, h.r20, h.k20, h.r21, h.k21, h.r22, h.k22, h, Mo_sA, Mo_sL, ix_nI, cl_nI]; done) | omega | (simp only [I_sA]; assumption)) only [e214_0, e214_1, e214_4, e214_5, e214_6, e214_9, e214_10, e214_11, e214_12, e214_15, e214_16, e214_18, e214_21, e214_24, e214_25, e214_28, e214_31, e214_32, e214_33, e214_34, e214_35, e214_36, e214_39, e214_42, e214_43, e214_44, e214_45, e214_46, e214_49, e214_52, e214_53, e214_55, e214_56, e214_59, e214_62, e214_63, e214_66, e214_69, e214_70, e214_73, e214_76, e214_77, e214_80, e214_81, e214_82, e214_83, e214_84, e214_87, e214_88, e214_89, e214_90, e214_91, e214_94, e214_97, e214_98, e214_101, e214_102, e214_103, e214_104, e214_105, e214_108, e214_109, e214_110, e214_111, e214_114, e214_118, e214_121, e214_124, e214_126, e214_129, e214_130, e214_133, am_k_some, va_rf_some, va_rf_none, tl_some, tl_none, am_clr_int, am_clr_ref, am_clr_none, am_clr_long, am_w_nil, am_w_int, am_w_ref, am_w_long, am_w_null, am_bb_0, am_bb_1, am_bb_bI, xK_sI, xR_sI, xS_sI, xN_sI, xK_sL, xR_sL, xS_sL, xN_sL, xK_sR, xR_sR, xS_sR, xN_sR, xK_sA, xR_sA, xS_sA, xN_sA, Nat.reduceAdd, Nat.reduceLeDiff, sI_sA, I_sA', sA_sA, I_sA, I_sA', nI_add, mul_nI, bI_0, bI_1, h.k, h.r0, h.k0, h.r1, h.k1, h.r2, h.k2, h.r3, h.k3, h.r4, h.k4, h.r5, h.k5, h.r6, h.k6, h.r8, h.k8, h.r9, h.k9, h.r15, h.k15, h.r17, h.k17, h.r19, h.k19, h.r20, h.k20, h.r21, h.k21, h.r22, h.k22, ix_nI, cl_nI, lt_nI, eq_nI, sub_nI, Nat.reduceEqDiff, Nat.one_ne_zero, Nat.not_lt_zero, ↓reduceIte, k1, k2, k3, k4, k5, k6, k7, k8, k9, n10, n01, if_true, if_false, decide_true, decide_false, Bool.true_eq_false, Bool.false_eq_true, not_true_eq_false, not_false_eq_true, and_true, true_and, and_false, false_and, tm, hnl]
  | succ r ih =>
    intro k m hk h tm hb ts hbs q1 q2 q3
    have hnl : k < n := by omega
    have z : ¬ c < 0 := by omega
    have t1 := ts k hnl
    have t2 := t4 k hnl
    obtain ⟨b1, b2⟩ := hbs k hnl
    generalize hm1 : sA m (M + 1) (up1 (up1 (mI m (M + 1)) (5300 + th k) (nI (bl k))) (5700 + th k) (nI (bp k))) = m1
    have F1 : FrI (fun x => x = M + 1) m m1 := by rw [← hm1]; exact (FrI.refl (fun x => x = M + 1) m).sA rfl
    have i1 : mI m1 (M + 1) = up1 (up1 (mI m (M + 1)) (5300 + th k) (nI (bl k))) (5700 + th k) (nI (bp k)) := by rw [← hm1, I_sA]
    obtain ⟨m', e, F2, r1, r2, r3⟩ := ih (k + 1) m1 (by omega) (h.frI F1) (by rw [F1.i (by omega)]; exact tm) (by rw [F1.i (by omega)]; exact hb) (fun k hk => by rw [F1.i (by omega)]; exact ts k hk) (fun k hk => by rw [F1.i (by omega), F1.i (by omega)]; exact hbs k hk)
      (fun y hy => by rw [i1, up1_ne (by omega), up1_ne (by omega)]; exact q1 y hy)
      (fun l hl hne => by
        have := hne k (by omega)
        rw [i1, up1_ne (by omega), up1_ne (by omega), up1_ne (by omega), up1_ne (by omega)]
        exact q2 l hl (fun k' hk' => hne k' (by omega)))
      (fun k' hk' => by
        rw [i1]
        by_cases e : k' = k
        · rw [e, up1_ne (by omega), up1_eq, up1_eq]; exact ⟨rfl, rfl⟩
        · have ne : th k' ≠ th k := fun w => e (ti k' k (by omega) hnl w)
          have := t4 k' (by omega)
          rw [up1_ne (by omega), up1_ne (by omega), up1_ne (by omega), up1_ne (by omega)]
          exact q3 k' (by omega))
    refine ⟨m', ?_, F1.trans F2, r1, r2, r3⟩
    rw [← e, ← hm1, e214_54]
    simp (disch := first | (simp (disch := omega) only [am_k_some, va_rf_some, va_rf_none, tl_some, tl_none, am_clr_int, am_clr_ref, am_clr_none, am_clr_long, am_w_nil, am_w_int, am_w_ref, am_w_long, am_w_null, am_bb_0, am_bb_1, am_bb_bI, xK_sI, xR_sI, xS_sI, xN_sI, xK_sL, xR_sL, xS_sL, xN_sL, xK_sR, xR_sR, xS_sR, xN_sR, xK_sA, xR_sA, xS_sA, xN_sA, Nat.reduceAdd, Nat.reduceLeDiff, sI_sA, I_sA', sA_sA, I_sA, I_sA', nI_add, mul_nI, bI_0, bI_1, h.k, h.r0, h.k0, h.r1, h.k1, h.r2, h.k2, h.r3, h.k3, h.r4, h.k4, h.r5, h.k5, h.r6, h.k6, h.r8, h.k8, h.r9, h.k9, h.r15, h.k15, h.r17, h.k17, h.r19, h.k19, h.r20, h.k20, h.r21, h.k21, h.r22, h.k22, h, Mo_sA, Mo_sL, ix_nI, cl_nI]; done) | omega | (simp only [I_sA]; assumption)) only [e214_0, e214_1, e214_4, e214_5, e214_6, e214_9, e214_10, e214_11, e214_12, e214_15, e214_16, e214_18, e214_21, e214_24, e214_25, e214_28, e214_31, e214_32, e214_33, e214_34, e214_35, e214_36, e214_39, e214_42, e214_43, e214_44, e214_45, e214_46, e214_49, e214_52, e214_53, e214_55, e214_56, e214_59, e214_62, e214_63, e214_66, e214_69, e214_70, e214_73, e214_76, e214_77, e214_80, e214_81, e214_82, e214_83, e214_84, e214_87, e214_88, e214_89, e214_90, e214_91, e214_94, e214_97, e214_98, e214_101, e214_102, e214_103, e214_104, e214_105, e214_108, e214_109, e214_110, e214_111, e214_114, e214_118, e214_121, e214_124, e214_126, e214_129, e214_130, e214_133, am_k_some, va_rf_some, va_rf_none, tl_some, tl_none, am_clr_int, am_clr_ref, am_clr_none, am_clr_long, am_w_nil, am_w_int, am_w_ref, am_w_long, am_w_null, am_bb_0, am_bb_1, am_bb_bI, xK_sI, xR_sI, xS_sI, xN_sI, xK_sL, xR_sL, xS_sL, xN_sL, xK_sR, xR_sR, xS_sR, xN_sR, xK_sA, xR_sA, xS_sA, xN_sA, Nat.reduceAdd, Nat.reduceLeDiff, sI_sA, I_sA', sA_sA, I_sA, I_sA', nI_add, mul_nI, bI_0, bI_1, h.k, h.r0, h.k0, h.r1, h.k1, h.r2, h.k2, h.r3, h.k3, h.r4, h.k4, h.r5, h.k5, h.r6, h.k6, h.r8, h.k8, h.r9, h.k9, h.r15, h.k15, h.r17, h.k17, h.r19, h.k19, h.r20, h.k20, h.r21, h.k21, h.r22, h.k22, ix_nI, cl_nI, lt_nI, eq_nI, sub_nI, Nat.reduceEqDiff, Nat.one_ne_zero, Nat.not_lt_zero, ↓reduceIte, k1, k2, k3, k4, k5, k6, k7, k8, k9, n10, n01, if_true, if_false, decide_true, decide_false, Bool.true_eq_false, Bool.false_eq_true, not_true_eq_false, not_false_eq_true, and_true, true_and, and_false, false_and, tm, hnl, hb, z, t1, b1, b2]
end LS
