/-! THE PLANNER, 8: the model: tryAll goes through the search -/
section DF
variable {S : Nat → Int32} {L : Int64} {n dl : Nat} {th dk : Nat → Nat} {P : List (Nat × Nat)} {b : Bst}
def stp (S : Nat → Int32) (L : Int64) (n dl : Nat) (th dk : Nat → Nat) (t : Nat) (P : List (Nat × Nat)) (c : Nat) (b : Bst) : Bst := if okB S n th dk P c = true then exA S L n dl th dk t ((c % 6, c / 6) :: P) (c / 6) b else b
def nR (S : Nat → Int32) (L : Int64) (n dl : Nat) (th dk : Nat → Nat) (t : Nat) (P : List (Nat × Nat)) (lo : Nat) (b : Bst) : Bst := match t with
  | 0 => jdP S L n dl th dk P b
  | t + 1 => fld (stp S L n dl th dk t P) (6 * dl - lo) lo b
theorem ex_nR (t : Nat) (P : List (Nat × Nat)) (j : Nat) (b : Bst) : exA S L n dl th dk t P j b = nR S L n dl th dk t P (6 * j) b := by
  cases t <;> rfl
/-- back at the loop's head, one less; or at the end -/
def PoM (d M : Nat) (S : Nat → Int32) (n dl : Nat) (th dk : Nat → Nat) (b' : Bst) (r : Option (Option Value × am_M)) (m0 : am_M) : List (Nat × Nat) → Prop
  | [] => ∃ m', FqM M m0 m' ∧ r = some (none, m') ∧ MP m' M S n dl th dk [] b'
  | c :: P => ∃ m', FqM M m0 m' ∧ r = ev (d + 8) 213 30 [some (.ref M), some (.int (nI P.length)), some (.int (nI (6 * c.2 + c.1 + 1))), some (.int (-1))] [] m' ∧ MP m' M S n dl th dk P b'
theorem PoM.tr {d M : Nat} {b' : Bst} {r : Option (Option Value × am_M)} {m0 m1 : am_M} (h : FqM M m0 m1) (p : PoM d M S n dl th dk b' r m1 P) : PoM d M S n dl th dk b' r m0 P := by
  cases P with
  | nil => obtain ⟨m', a, q⟩ := p; exact ⟨m', h.trans a, q⟩
  | cons c P => obtain ⟨m', a, q⟩ := p; exact ⟨m', h.trans a, q⟩
theorem po_m {d M : Nat} {m : am_M} {x2 : Option Value} (H : PlH S n dl th dk) (V : Vd S n dl th dk P) (A : MP m M S n dl th dk P b) : PoM d M S n dl th dk b (ev (d + 8) 213 65 [some (.ref M), some (.int (nI P.length)), x2, some (.int (-1))] [] m) m P := by
  cases P with
  | nil => exact ⟨m, FqM.refl M m, sp_213z, A⟩
  | cons c P =>
    obtain ⟨m', e, f, a⟩ := sp_213p (d := d) (x2 := x2) H V A
    exact ⟨m', f, e, a⟩
theorem ll_le (V : Vd S n dl th dk P) : ∀ x, x ∈ P → x.2 ≤ llP P := by
  cases P with
  | nil => intro x hx; cases hx
  | cons c P =>
    intro x hx
    rcases List.mem_cons.1 hx with e | e
    · rw [e]; exact Nat.le_refl _
    · exact (V.2.2.2.1 x e).2
theorem fld_skip {β : Type} {f : Nat → β → β} {lo c r : Nat} {b : β} (h1 : lo ≤ c) (h2 : c < lo + r) (h : ∀ x, lo ≤ x → x < c → f x b = b) : fld f r lo b = fld f (lo + r - (c + 1)) (c + 1) (f c b) := by
  obtain ⟨u, rfl⟩ : ∃ u, c = lo + u := ⟨c - lo, by omega⟩
  obtain ⟨v, rfl⟩ : ∃ v, r = u + (v + 1) := ⟨r - u - 1, by omega⟩
  rw [fld_add, fld_id u lo (fun x x1 x2 => h x x1 (by omega)), show lo + (u + (v + 1)) - (lo + u + 1) = v by omega]
  rfl
theorem dfs {d M : Nat} (H : PlH S n dl th dk) : ∀ t {P : List (Nat × Nat)} {f : Nat} {b : Bst} {m : am_M} {x3 : Option Value}, Vd S n dl th dk P → P.length + t = n → MP m M S n dl th dk P b → BsOk n b → mL m (M + 6) 0 = L → f ≤ 6 * dl →
    BsOk n (nR S L n dl th dk t P (max f (6 * llP P)) b) ∧ PoM d M S n dl th dk (nR S L n dl th dk t P (max f (6 * llP P)) b) (ev (d + 8) 213 30 [some (.ref M), some (.int (nI P.length)), some (.int (nI f)), x3] [] m) m P := by
  have n6 := H.n6
  have d3 := H.d3
  intro t
  induction t with
  | zero =>
    intro P f b m x3 V hl A ok hL hf
    have hl' : P.length = n := by omega
    have h := A.mo
    have tm := A.tm
    refine ⟨jd_ok H V hl' ok, ?_⟩
    obtain ⟨m1, e1, F1, O1, A1⟩ := sp_211 (d := d) H V hl' A ok hL
    have q1 : FqM M m m1 := ⟨F1.mono (fun x hx => by omega), O1⟩
    refine PoM.tr q1 ?_
    have pm := po_m (d := d) (x2 := some (.int (nI f))) H V A1
    have E : ev (d + 8) 213 30 [some (.ref M), some (.int (nI P.length)), some (.int (nI f)), x3] [] m = ev (d + 8) 213 65 [some (.ref M), some (.int (nI P.length)), some (.int (nI f)), some (.int (-1))] [] m1 := by
      rw [hl']
      have z0 : ¬ n < 0 := by omega
      have z1 : ¬ n < n := by omega
      rw [e213_30]
      simp (disch := first | (simp (disch := omega) only [am_k_some, va_rf_some, va_rf_none, tl_some, tl_none, am_clr_int, am_clr_ref, am_clr_none, am_clr_long, am_w_nil, am_w_int, am_w_ref, am_w_long, am_w_null, am_bb_0, am_bb_1, am_bb_bI, xK_sI, xR_sI, xS_sI, xN_sI, xK_sL, xR_sL, xS_sL, xN_sL, xK_sR, xR_sR, xS_sR, xN_sR, xK_sA, xR_sA, xS_sA, xN_sA, Nat.reduceAdd, Nat.reduceLeDiff, sI_sA, I_sA', sA_sA, I_sA, I_sA', nI_add, mul_nI, bI_0, bI_1, h.k, h.r0, h.k0, h.r1, h.k1, h.r2, h.k2, h.r3, h.k3, h.r4, h.k4, h.r5, h.k5, h.r6, h.k6, h.r8, h.k8, h.r9, h.k9, h.r15, h.k15, h.r17, h.k17, h.r19, h.k19, h.r20, h.k20, h.r21, h.k21, h.r22, h.k22, h, Mo_sA, Mo_sL, ix_nI, cl_nI]; done) | omega | exact six_ne | (simp only [I_sA]; assumption)) only [e213_0, e213_1, e213_2, e213_5, e213_6, e213_8, e213_10, e213_13, e213_14, e213_17, e213_18, e213_19, e213_20, e213_23, e213_26, e213_27, e213_28, e213_29, e213_31, e213_34, e213_35, e213_36, e213_39, e213_42, e213_43, e213_44, e213_45, e213_48, e213_51, e213_52, e213_53, e213_54, e213_55, e213_58, e213_61, e213_62, e213_66, e213_69, e213_70, e213_73, e213_74, e213_75, e213_76, e213_79, e213_80, e213_81, e213_84, e213_87, e213_88, e213_91, e213_92, e213_95, e213_96, e213_99, e213_100, e213_101, e213_104, e213_105, e213_106, e213_107, e213_108, e213_111, e213_112, e213_115, e213_116, e213_117, e213_120, e213_121, e213_122, e213_125, e213_126, e213_129, e213_130, e213_131, e213_132, e213_133, e213_134, e213_137, am_k_some, va_rf_some, va_rf_none, tl_some, tl_none, am_clr_int, am_clr_ref, am_clr_none, am_clr_long, am_w_nil, am_w_int, am_w_ref, am_w_long, am_w_null, am_bb_0, am_bb_1, am_bb_bI, xK_sI, xR_sI, xS_sI, xN_sI, xK_sL, xR_sL, xS_sL, xN_sL, xK_sR, xR_sR, xS_sR, xN_sR, xK_sA, xR_sA, xS_sA, xN_sA, Nat.reduceAdd, Nat.reduceLeDiff, sI_sA, I_sA', sA_sA, I_sA, I_sA', nI_add, mul_nI, bI_0, bI_1, h.k, h.r0, h.k0, h.r1, h.k1, h.r2, h.k2, h.r3, h.k3, h.r4, h.k4, h.r5, h.k5, h.r6, h.k6, h.r8, h.k8, h.r9, h.k9, h.r15, h.k15, h.r17, h.k17, h.r19, h.k19, h.r20, h.k20, h.r21, h.k21, h.r22, h.k22, ix_nI, cl_nI, lt_nI, eq_nI, sub_nI, Nat.reduceEqDiff, Nat.one_ne_zero, Nat.not_lt_zero, ↓reduceIte, k1, k2, k3, k4, k5, k6, k7, k8, k9, n10, n01, if_true, if_false, decide_true, decide_false, Bool.true_eq_false, Bool.false_eq_true, not_true_eq_false, not_false_eq_true, and_true, true_and, and_false, false_and, z0, z1, tm, e1]
    rw [E]
    exact pm
  | succ t iho =>
    intro P f b m x3 V hl A ok hL hf
    have hll : llP P ≤ dl := by
      cases P with
      | nil => exact Nat.zero_le _
      | cons c P => have := V.hd; show c.2 ≤ _; omega
    generalize hs : 6 * dl - max f (6 * llP P) = s
    induction s using Nat.strongRecOn generalizing f b m x3 with
    | _ s ihi =>
    have h := A.mo
    have tm := A.tm
    have z0 : ¬ P.length < 0 := by omega
    have z1 : P.length < n := by omega
    have z2 : ¬ P.length = n := by omega
    have ch := sp_212 (d := d + 3) H V A hf
    rcases hfs : fstR (okB S n th dk P) (6 * dl - max f (6 * llP P)) (max f (6 * llP P)) with _ | c
    · rw [hfs] at ch
      rw [fstR_none] at hfs
      have eb : nR S L n dl th dk (t + 1) P (max f (6 * llP P)) b = b := by
        show fld _ _ _ b = b
        refine fld_id _ _ (fun x x1 x2 => ?_)
        unfold stp
        rw [hfs x x1 x2, if_neg (by decide)]
      rw [eb]
      refine ⟨ok, ?_⟩
      have pm := po_m (d := d) (x2 := some (.int (nI f))) H V A
      have E : ev (d + 8) 213 30 [some (.ref M), some (.int (nI P.length)), some (.int (nI f)), x3] [] m = ev (d + 8) 213 65 [some (.ref M), some (.int (nI P.length)), some (.int (nI f)), some (.int (-1))] [] m := by
        rw [e213_30]
        simp (disch := first | (simp (disch := omega) only [am_k_some, va_rf_some, va_rf_none, tl_some, tl_none, am_clr_int, am_clr_ref, am_clr_none, am_clr_long, am_w_nil, am_w_int, am_w_ref, am_w_long, am_w_null, am_bb_0, am_bb_1, am_bb_bI, xK_sI, xR_sI, xS_sI, xN_sI, xK_sL, xR_sL, xS_sL, xN_sL, xK_sR, xR_sR, xS_sR, xN_sR, xK_sA, xR_sA, xS_sA, xN_sA, Nat.reduceAdd, Nat.reduceLeDiff, sI_sA, I_sA', sA_sA, I_sA, I_sA', nI_add, mul_nI, bI_0, bI_1, h.k, h.r0, h.k0, h.r1, h.k1, h.r2, h.k2, h.r3, h.k3, h.r4, h.k4, h.r5, h.k5, h.r6, h.k6, h.r8, h.k8, h.r9, h.k9, h.r15, h.k15, h.r17, h.k17, h.r19, h.k19, h.r20, h.k20, h.r21, h.k21, h.r22, h.k22, h, Mo_sA, Mo_sL, ix_nI, cl_nI]; done) | omega | exact six_ne | (simp only [I_sA]; assumption)) only [e213_0, e213_1, e213_2, e213_5, e213_6, e213_8, e213_10, e213_13, e213_14, e213_17, e213_18, e213_19, e213_20, e213_23, e213_26, e213_27, e213_28, e213_29, e213_31, e213_34, e213_35, e213_36, e213_39, e213_42, e213_43, e213_44, e213_45, e213_48, e213_51, e213_52, e213_53, e213_54, e213_55, e213_58, e213_61, e213_62, e213_66, e213_69, e213_70, e213_73, e213_74, e213_75, e213_76, e213_79, e213_80, e213_81, e213_84, e213_87, e213_88, e213_91, e213_92, e213_95, e213_96, e213_99, e213_100, e213_101, e213_104, e213_105, e213_106, e213_107, e213_108, e213_111, e213_112, e213_115, e213_116, e213_117, e213_120, e213_121, e213_122, e213_125, e213_126, e213_129, e213_130, e213_131, e213_132, e213_133, e213_134, e213_137, am_k_some, va_rf_some, va_rf_none, tl_some, tl_none, am_clr_int, am_clr_ref, am_clr_none, am_clr_long, am_w_nil, am_w_int, am_w_ref, am_w_long, am_w_null, am_bb_0, am_bb_1, am_bb_bI, xK_sI, xR_sI, xS_sI, xN_sI, xK_sL, xR_sL, xS_sL, xN_sL, xK_sR, xR_sR, xS_sR, xN_sR, xK_sA, xR_sA, xS_sA, xN_sA, Nat.reduceAdd, Nat.reduceLeDiff, sI_sA, I_sA', sA_sA, I_sA, I_sA', nI_add, mul_nI, bI_0, bI_1, h.k, h.r0, h.k0, h.r1, h.k1, h.r2, h.k2, h.r3, h.k3, h.r4, h.k4, h.r5, h.k5, h.r6, h.k6, h.r8, h.k8, h.r9, h.k9, h.r15, h.k15, h.r17, h.k17, h.r19, h.k19, h.r20, h.k20, h.r21, h.k21, h.r22, h.k22, ix_nI, cl_nI, lt_nI, eq_nI, sub_nI, Nat.reduceEqDiff, Nat.one_ne_zero, Nat.not_lt_zero, ↓reduceIte, k1, k2, k3, k4, k5, k6, k7, k8, k9, n10, n01, if_true, if_false, decide_true, decide_false, Bool.true_eq_false, Bool.false_eq_true, not_true_eq_false, not_false_eq_true, and_true, true_and, and_false, false_and, z0, z1, z2, tm, ch]
      rw [E]
      exact pm
    · rw [hfs] at ch
      obtain ⟨c1, c2, c3, c4⟩ := fstR_some _ _ _ hfs
      have c18 : c < 6 * dl := by omega
      have V' := ok_vd V (ll_le V) (show 6 * llP P ≤ c by omega) c18 c3
      obtain ⟨Q1, A1⟩ := mp_put (c := c) H A (by omega) (by omega)
      have E : ev (d + 8) 213 30 [some (.ref M), some (.int (nI P.length)), some (.int (nI f)), x3] [] m = ev (d + 8) 213 30 [some (.ref M), some (.int (nI ((c % 6, c / 6) :: P).length)), some (.int (nI 0)), some (.int (nI c))] [] (sA (sA (sA m (M + 1) (qS S th dk ((c % 6, c / 6) :: P))) (M + 13) (up1 (mI m (M + 13)) (c % 6) (nI 1))) (M + 12) (up1 (mI m (M + 12)) P.length (nI c))) := by
        have z3 : ¬ c < 0 := by omega
        rw [List.length_cons, e213_30]
        simp (disch := first | (simp (disch := omega) only [am_k_some, va_rf_some, va_rf_none, tl_some, tl_none, am_clr_int, am_clr_ref, am_clr_none, am_clr_long, am_w_nil, am_w_int, am_w_ref, am_w_long, am_w_null, am_bb_0, am_bb_1, am_bb_bI, xK_sI, xR_sI, xS_sI, xN_sI, xK_sL, xR_sL, xS_sL, xN_sL, xK_sR, xR_sR, xS_sR, xN_sR, xK_sA, xR_sA, xS_sA, xN_sA, Nat.reduceAdd, Nat.reduceLeDiff, sI_sA, I_sA', sA_sA, I_sA, I_sA', nI_add, mul_nI, bI_0, bI_1, h.k, h.r0, h.k0, h.r1, h.k1, h.r2, h.k2, h.r3, h.k3, h.r4, h.k4, h.r5, h.k5, h.r6, h.k6, h.r8, h.k8, h.r9, h.k9, h.r15, h.k15, h.r17, h.k17, h.r19, h.k19, h.r20, h.k20, h.r21, h.k21, h.r22, h.k22, h, Mo_sA, Mo_sL, ix_nI, cl_nI]; done) | omega | exact six_ne | (simp only [I_sA]; assumption)) only [e213_0, e213_1, e213_2, e213_5, e213_6, e213_8, e213_10, e213_13, e213_14, e213_17, e213_18, e213_19, e213_20, e213_23, e213_26, e213_27, e213_28, e213_29, e213_31, e213_34, e213_35, e213_36, e213_39, e213_42, e213_43, e213_44, e213_45, e213_48, e213_51, e213_52, e213_53, e213_54, e213_55, e213_58, e213_61, e213_62, e213_65, e213_66, e213_69, e213_70, e213_73, e213_74, e213_75, e213_76, e213_79, e213_80, e213_81, e213_84, e213_87, e213_88, e213_91, e213_92, e213_95, e213_96, e213_99, e213_100, e213_101, e213_104, e213_105, e213_106, e213_107, e213_108, e213_111, e213_112, e213_115, e213_116, e213_117, e213_120, e213_121, e213_122, e213_125, e213_126, e213_129, e213_130, e213_131, e213_132, e213_133, e213_134, e213_137, am_k_some, va_rf_some, va_rf_none, tl_some, tl_none, am_clr_int, am_clr_ref, am_clr_none, am_clr_long, am_w_nil, am_w_int, am_w_ref, am_w_long, am_w_null, am_bb_0, am_bb_1, am_bb_bI, xK_sI, xR_sI, xS_sI, xN_sI, xK_sL, xR_sL, xS_sL, xN_sL, xK_sR, xR_sR, xS_sR, xN_sR, xK_sA, xR_sA, xS_sA, xN_sA, Nat.reduceAdd, Nat.reduceLeDiff, sI_sA, I_sA', sA_sA, I_sA, I_sA', nI_add, mul_nI, bI_0, bI_1, h.k, h.r0, h.k0, h.r1, h.k1, h.r2, h.k2, h.r3, h.k3, h.r4, h.k4, h.r5, h.k5, h.r6, h.k6, h.r8, h.k8, h.r9, h.k9, h.r15, h.k15, h.r17, h.k17, h.r19, h.k19, h.r20, h.k20, h.r21, h.k21, h.r22, h.k22, ix_nI, cl_nI, lt_nI, eq_nI, sub_nI, Nat.reduceEqDiff, Nat.one_ne_zero, Nat.not_lt_zero, ↓reduceIte, k1, k2, k3, k4, k5, k6, k7, k8, k9, n10, n01, if_true, if_false, decide_true, decide_false, Bool.true_eq_false, Bool.false_eq_true, not_true_eq_false, not_false_eq_true, and_true, true_and, and_false, false_and, z0, z1, z2, z3, tm, ch]
      rw [E]
      generalize sA (sA (sA m (M + 1) (qS S th dk ((c % 6, c / 6) :: P))) (M + 13) (up1 (mI m (M + 13)) (c % 6) (nI 1))) (M + 12) (up1 (mI m (M + 12)) P.length (nI c)) = m1 at Q1 A1 ⊢
      obtain ⟨ok1, m2, F2, e2, A2⟩ := iho (x3 := some (.int (nI c))) (f := 0) V' (by rw [List.length_cons]; omega) A1 ok (by rw [Q1.1.l (by omega)]; exact hL) (by omega)
      have e0 : max 0 (6 * llP ((c % 6, c / 6) :: P)) = 6 * (c / 6) := by show max 0 (6 * (c / 6)) = _; omega
      rw [e0, ← ex_nR] at ok1 A2
      have es : exA S L n dl th dk t ((c % 6, c / 6) :: P) (c / 6) b = stp S L n dl th dk t P c b := by
        unfold stp
        rw [if_pos c3]
      rw [es] at ok1 A2
      have e6 : 6 * (c / 6) + c % 6 + 1 = c + 1 := by omega
      change ev (d + 8) 213 30 [some (.ref M), some (.int (nI ((c % 6, c / 6) :: P).length)), some (.int (nI 0)), some (.int (nI c))] [] m1 = ev (d + 8) 213 30 [some (.ref M), some (.int (nI P.length)), some (.int (nI (6 * (c / 6) + c % 6 + 1))), some (.int (-1))] [] m2 at e2
      rw [e6] at e2
      obtain ⟨ok3, p3⟩ := ihi (6 * dl - max (c + 1) (6 * llP P)) (by omega) (f := c + 1) (x3 := some (.int (-1))) A2 ok1 (by rw [F2.1.l (by omega), Q1.1.l (by omega)]; exact hL) (by omega) rfl
      have eb : nR S L n dl th dk (t + 1) P (max (c + 1) (6 * llP P)) (stp S L n dl th dk t P c b) = nR S L n dl th dk (t + 1) P (max f (6 * llP P)) b := by
        show fld _ _ _ _ = fld _ _ _ _
        rw [show max (c + 1) (6 * llP P) = c + 1 by omega]
        rw [fld_skip (f := stp S L n dl th dk t P) (c := c) (lo := max f (6 * llP P)) (r := 6 * dl - max f (6 * llP P)) c1 c2 (fun x x1 x2 => by
          unfold stp
          rw [c4 x x1 x2, if_neg (by decide)]), show max f (6 * llP P) + (6 * dl - max f (6 * llP P)) - (c + 1) = 6 * dl - (c + 1) by omega]
      rw [eb] at ok3 p3
      refine ⟨ok3, ?_⟩
      rw [e2]
      exact p3.tr (Q1.trans F2)
theorem sp_213u {d M : Nat} : ∀ r k (m : am_M) (x2 x3 : Option Value), k + r = 6 → Mo m M → (∀ y, y < k → mI m (M + 13) y = nI 0) → ∃ m', ev (d + 8) 213 7 [some (.ref M), some (.int (nI k)), x2, x3] [] m = ev (d + 8) 213 26 [some (.ref M), some (.int (nI 6)), x2, x3] [] m' ∧ FrI (fun x => x = M + 13) m m' ∧ ∀ y, y < 6 → mI m' (M + 13) y = nI 0 := by
  intro r
  induction r with
  | zero =>
    intro k m x2 x3 hk h hy
    have hk' : k = 6 := by omega
    subst hk'
    have hnl : ¬ 6 < 6 := by omega
    refine ⟨m, ?_, FrI.refl _ m, hy⟩
    rw [e213_7]
    simp (disch := first | (simp (disch := omega) only [am_k_some, va_rf_some, va_rf_none, tl_some, tl_none, am_clr_int, am_clr_ref, am_clr_none, am_clr_long, am_w_nil, am_w_int, am_w_ref, am_w_long, am_w_null, am_bb_0, am_bb_1, am_bb_bI, xK_sI, xR_sI, xS_sI, xN_sI, xK_sL, xR_sL, xS_sL, xN_sL, xK_sR, xR_sR, xS_sR, xN_sR, xK_sA, xR_sA, xS_sA, xN_sA, Nat.reduceAdd, Nat.reduceLeDiff, sI_sA, I_sA', sA_sA, I_sA, I_sA', nI_add, mul_nI, bI_0, bI_1, h.k, h.r0, h.k0, h.r1, h.k1, h.r2, h.k2, h.r3, h.k3, h.r4, h.k4, h.r5, h.k5, h.r6, h.k6, h.r8, h.k8, h.r9, h.k9, h.r15, h.k15, h.r17, h.k17, h.r19, h.k19, h.r20, h.k20, h.r21, h.k21, h.r22, h.k22, h, Mo_sA, Mo_sL, ix_nI, cl_nI]; done) | omega | exact six_ne | (simp only [I_sA]; assumption)) only [e213_0, e213_1, e213_2, e213_5, e213_6, e213_8, e213_10, e213_13, e213_14, e213_17, e213_18, e213_19, e213_20, e213_23, e213_27, e213_28, e213_29, e213_31, e213_34, e213_35, e213_36, e213_39, e213_42, e213_43, e213_44, e213_45, e213_48, e213_51, e213_52, e213_53, e213_54, e213_55, e213_58, e213_61, e213_62, e213_65, e213_66, e213_69, e213_70, e213_73, e213_74, e213_75, e213_76, e213_79, e213_80, e213_81, e213_84, e213_87, e213_88, e213_91, e213_92, e213_95, e213_96, e213_99, e213_100, e213_101, e213_104, e213_105, e213_106, e213_107, e213_108, e213_111, e213_112, e213_115, e213_116, e213_117, e213_120, e213_121, e213_122, e213_125, e213_126, e213_129, e213_130, e213_131, e213_132, e213_133, e213_134, e213_137, am_k_some, va_rf_some, va_rf_none, tl_some, tl_none, am_clr_int, am_clr_ref, am_clr_none, am_clr_long, am_w_nil, am_w_int, am_w_ref, am_w_long, am_w_null, am_bb_0, am_bb_1, am_bb_bI, xK_sI, xR_sI, xS_sI, xN_sI, xK_sL, xR_sL, xS_sL, xN_sL, xK_sR, xR_sR, xS_sR, xN_sR, xK_sA, xR_sA, xS_sA, xN_sA, Nat.reduceAdd, Nat.reduceLeDiff, sI_sA, I_sA', sA_sA, I_sA, I_sA', nI_add, mul_nI, bI_0, bI_1, h.k, h.r0, h.k0, h.r1, h.k1, h.r2, h.k2, h.r3, h.k3, h.r4, h.k4, h.r5, h.k5, h.r6, h.k6, h.r8, h.k8, h.r9, h.k9, h.r15, h.k15, h.r17, h.k17, h.r19, h.k19, h.r20, h.k20, h.r21, h.k21, h.r22, h.k22, ix_nI, cl_nI, lt_nI, eq_nI, sub_nI, Nat.reduceEqDiff, Nat.one_ne_zero, Nat.not_lt_zero, ↓reduceIte, hnl]
  | succ r ih =>
    intro k m x2 x3 hk h hy
    have hnl : k < 6 := by omega
    have F1 : FrI (fun x => x = M + 13) m (sA m (M + 13) (up1 (mI m (M + 13)) k (nI 0))) := (FrI.refl (fun x => x = M + 13) m).sA rfl
    obtain ⟨m', e, F2, q⟩ := ih (k + 1) _ x2 x3 (by omega) (h.frI F1) (fun y hy' => by
      rw [I_sA]
      by_cases c : y = k
      · rw [c, up1_eq]
      · rw [up1_ne c]; exact hy y (by omega))
    refine ⟨m', ?_, F1.trans F2, q⟩
    rw [← e, e213_7]
    simp (disch := first | (simp (disch := omega) only [am_k_some, va_rf_some, va_rf_none, tl_some, tl_none, am_clr_int, am_clr_ref, am_clr_none, am_clr_long, am_w_nil, am_w_int, am_w_ref, am_w_long, am_w_null, am_bb_0, am_bb_1, am_bb_bI, xK_sI, xR_sI, xS_sI, xN_sI, xK_sL, xR_sL, xS_sL, xN_sL, xK_sR, xR_sR, xS_sR, xN_sR, xK_sA, xR_sA, xS_sA, xN_sA, Nat.reduceAdd, Nat.reduceLeDiff, sI_sA, I_sA', sA_sA, I_sA, I_sA', nI_add, mul_nI, bI_0, bI_1, h.k, h.r0, h.k0, h.r1, h.k1, h.r2, h.k2, h.r3, h.k3, h.r4, h.k4, h.r5, h.k5, h.r6, h.k6, h.r8, h.k8, h.r9, h.k9, h.r15, h.k15, h.r17, h.k17, h.r19, h.k19, h.r20, h.k20, h.r21, h.k21, h.r22, h.k22, h, Mo_sA, Mo_sL, ix_nI, cl_nI]; done) | omega | exact six_ne | (simp only [I_sA]; assumption)) only [e213_0, e213_1, e213_2, e213_5, e213_6, e213_8, e213_10, e213_13, e213_14, e213_17, e213_18, e213_19, e213_20, e213_23, e213_27, e213_28, e213_29, e213_31, e213_34, e213_35, e213_36, e213_39, e213_42, e213_43, e213_44, e213_45, e213_48, e213_51, e213_52, e213_53, e213_54, e213_55, e213_58, e213_61, e213_62, e213_65, e213_66, e213_69, e213_70, e213_73, e213_74, e213_75, e213_76, e213_79, e213_80, e213_81, e213_84, e213_87, e213_88, e213_91, e213_92, e213_95, e213_96, e213_99, e213_100, e213_101, e213_104, e213_105, e213_106, e213_107, e213_108, e213_111, e213_112, e213_115, e213_116, e213_117, e213_120, e213_121, e213_122, e213_125, e213_126, e213_129, e213_130, e213_131, e213_132, e213_133, e213_134, e213_137, am_k_some, va_rf_some, va_rf_none, tl_some, tl_none, am_clr_int, am_clr_ref, am_clr_none, am_clr_long, am_w_nil, am_w_int, am_w_ref, am_w_long, am_w_null, am_bb_0, am_bb_1, am_bb_bI, xK_sI, xR_sI, xS_sI, xN_sI, xK_sL, xR_sL, xS_sL, xN_sL, xK_sR, xR_sR, xS_sR, xN_sR, xK_sA, xR_sA, xS_sA, xN_sA, Nat.reduceAdd, Nat.reduceLeDiff, sI_sA, I_sA', sA_sA, I_sA, I_sA', nI_add, mul_nI, bI_0, bI_1, h.k, h.r0, h.k0, h.r1, h.k1, h.r2, h.k2, h.r3, h.k3, h.r4, h.k4, h.r5, h.k5, h.r6, h.k6, h.r8, h.k8, h.r9, h.k9, h.r15, h.k15, h.r17, h.k17, h.r19, h.k19, h.r20, h.k20, h.r21, h.k21, h.r22, h.k22, ix_nI, cl_nI, lt_nI, eq_nI, sub_nI, Nat.reduceEqDiff, Nat.one_ne_zero, Nat.not_lt_zero, ↓reduceIte, hnl]
/-- tryAll -/
theorem sp_213 {d M : Nat} {m : am_M} (H : PlH S n dl th dk) (h : Mo m M) (hS : mI m (M + 1) = S) (tm : mI m M 16 = nI n) (dm : mI m M 18 = nI dl) (ts : ∀ k, k < n → mI m (M + 10) k = nI (th k)) (ds : ∀ j, j < dl → mI m (M + 11) j = nI (dk j)) (hL : mL m (M + 6) 0 = L) : ∃ m', cal (d + 8) 213 [.ref M] m = some (none, m') ∧ FqM M m m' ∧ BsOk n (exA S L n dl th dk n [] 0 none) ∧ MP m' M S n dl th dk [] (exA S L n dl th dk n [] 0 none) := by
  have F0 : FqM M m (sA m M (up1 (mI m M) 23 (-1))) := ⟨(FrI.refl _ m).sA (Or.inl rfl), fun j hj => by rw [I_sA, up1_ne hj]⟩
  obtain ⟨m1, e1, F1, u1'⟩ := sp_213u (d := d) (M := M) 6 0 (sA m M (up1 (mI m M) 23 (-1))) none none rfl (h.frI F0.1) (fun y hy => by omega)
  have G1 : FqM M m m1 := F0.trans ⟨F1.mono (fun x hx => by omega), fun j hj => by rw [F1.i (by omega)]⟩
  have i : ∀ x, x ≠ M → x ≠ M + 13 → mI m1 x = mI m x := fun x a c => by rw [F1.i c, I_sA' _ _ a]
  have A1 : MP m1 M S n dl th dk [] none := by
    refine ⟨h.frI G1.1, by rw [i _ (by omega) (by omega)]; exact hS, by rw [G1.2 _ (by omega)]; exact tm, by rw [G1.2 _ (by omega)]; exact dm, fun k hk => by rw [i _ (by omega) (by omega)]; exact ts k hk, fun k hk => by rw [i _ (by omega) (by omega)]; exact ds k hk, fun k hk => by rw [u1' k hk]; rfl, trivial, ?_⟩
    show mI m1 M 23 = -1
    rw [F1.i (by omega), I_sA, up1_eq]
  obtain ⟨ok, m2, F2, e2, A2⟩ := dfs (d := d) (L := L) (f := 0) (x3 := none) H n (P := []) trivial (Nat.zero_add _) A1 trivial (by rw [G1.1.l (by omega)]; exact hL) (by omega)
  have e0 : nR S L n dl th dk n [] (max 0 (6 * llP [])) none = exA S L n dl th dk n [] 0 none := by rw [ex_nR]; rfl
  rw [e0] at ok A2
  refine ⟨m2, ?_, G1.trans F2, ok, A2⟩
  have X : cal (d + 8) 213 [.ref M] m = ev (d + 8) 213 7 [some (.ref M), some (.int (nI 0)), none, none] [] (sA m M (up1 (mI m M) 23 (-1))) := by
    simp (disch := first | (simp (disch := omega) only [am_k_some, va_rf_some, va_rf_none, tl_some, tl_none, am_clr_int, am_clr_ref, am_clr_none, am_clr_long, am_w_nil, am_w_int, am_w_ref, am_w_long, am_w_null, am_bb_0, am_bb_1, am_bb_bI, xK_sI, xR_sI, xS_sI, xN_sI, xK_sL, xR_sL, xS_sL, xN_sL, xK_sR, xR_sR, xS_sR, xN_sR, xK_sA, xR_sA, xS_sA, xN_sA, Nat.reduceAdd, Nat.reduceLeDiff, sI_sA, I_sA', sA_sA, I_sA, I_sA', nI_add, mul_nI, bI_0, bI_1, h.k, h.r0, h.k0, h.r1, h.k1, h.r2, h.k2, h.r3, h.k3, h.r4, h.k4, h.r5, h.k5, h.r6, h.k6, h.r8, h.k8, h.r9, h.k9, h.r15, h.k15, h.r17, h.k17, h.r19, h.k19, h.r20, h.k20, h.r21, h.k21, h.r22, h.k22, h, Mo_sA, Mo_sL, ix_nI, cl_nI]; done) | omega | exact six_ne | (simp only [I_sA]; assumption)) only [c213, e213_0, e213_1, e213_2, e213_5, e213_6, am_k_some, va_rf_some, va_rf_none, tl_some, tl_none, am_clr_int, am_clr_ref, am_clr_none, am_clr_long, am_w_nil, am_w_int, am_w_ref, am_w_long, am_w_null, am_bb_0, am_bb_1, am_bb_bI, xK_sI, xR_sI, xS_sI, xN_sI, xK_sL, xR_sL, xS_sL, xN_sL, xK_sR, xR_sR, xS_sR, xN_sR, xK_sA, xR_sA, xS_sA, xN_sA, Nat.reduceAdd, Nat.reduceLeDiff, sI_sA, I_sA', sA_sA, I_sA, I_sA', nI_add, mul_nI, bI_0, bI_1, h.k, h.r0, h.k0, h.r1, h.k1, h.r2, h.k2, h.r3, h.k3, h.r4, h.k4, h.r5, h.k5, h.r6, h.k6, h.r8, h.k8, h.r9, h.k9, h.r15, h.k15, h.r17, h.k17, h.r19, h.k19, h.r20, h.k20, h.r21, h.k21, h.r22, h.k22, ix_nI, cl_nI, lt_nI, eq_nI, sub_nI, Nat.reduceEqDiff, Nat.one_ne_zero, Nat.not_lt_zero, ↓reduceIte]
  rw [X, e1, ← e2]
  simp only [e213_26, e213_27, e213_28, e213_29, am_k_some, va_rf_some, va_rf_none, tl_some, tl_none, am_clr_int, am_clr_ref, am_clr_none, am_clr_long, am_w_nil, am_w_int, am_w_ref, am_w_long, am_w_null, am_bb_0, am_bb_1, am_bb_bI, xK_sI, xR_sI, xS_sI, xN_sI, xK_sL, xR_sL, xS_sL, xN_sL, xK_sR, xR_sR, xS_sR, xN_sR, xK_sA, xR_sA, xS_sA, xN_sA, Nat.reduceAdd, Nat.reduceLeDiff, sI_sA, I_sA', sA_sA, I_sA, I_sA', nI_add, mul_nI, bI_0, bI_1, List.length_nil]
end DF
