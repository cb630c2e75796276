/-! chockAct -/
theorem LaV.ck {m : am_M} {o i p : Nat} {S : Nat → Int32} {v : Int32} {x : Nat → Int32} (vl : LaV m o S i) (hL : LnOk S) (hi : i < 20) (hp : p < lenS S i) (hx : x 6 = nI (chN (up1 S (40 * i + p) v) i)) (h1 : x 1 = mI m o 1) (h2 : x 2 = mI m o 2) (h3 : x 3 = mI m o 3) (h4 : x 4 = mI m o 4) (h5 : x 5 = mI m o 5) : LaV (sA (sA m (o + 1) (fillS (mI m (o + 1)) p 1 v)) o x) o (up1 S (40 * i + p) v) i := by
  have l2 := lenS_le hL hi
  refine vl.ch (up1_ag (by omega)) hi (F := fillS (mI m (o + 1)) p 1 v) (G := x) (by rw [I_sA' _ _ (by omega), I_sA]) (by rw [I_sA]) h1 h2 h3 h4 ?_ ?_ hx
  · intro r hr
    by_cases hrp : r = p
    · rw [hrp, fillS_in (by omega), up1_eq]
    · rw [fillS_out (by omega), up1_ne (by omega)]
      exact vl.2.2.1 r hr
  · rw [h5, inS_up (by omega)]
    exact vl.2.2.2.1
theorem LoV.cell {m : am_M} {o y : Nat} {S : Nat → Int32} {v : Int32} (w : LoV m o S) (hN : NmOk S) (hy : y < 800) : LoV m o (up1 S y v) := by
  have ag := up1_ag (S := S) (y := y) (v := v) hy
  have n2 := hN.2
  unfold LoV
  rw [ag.nmE, ag 6500 (by omega) (by omega)]
  refine ⟨w.1, fun l hl => ?_⟩
  rw [ag (900 + l) (by omega) (by omega), ag.tall (by omega), ag.unit (by omega), ag (2100 + l) (by omega) (by omega), ag (2500 + l) (by omega) (by omega), ag (2900 + l) (by omega) (by omega), up1_ne (by omega), up1_ne (by omega), up1_ne (by omega)]
  exact w.2 l hl
/-- lay or lift a chock on the ship -/
theorem ShV.ck {m : am_M} {a i p : Nat} {S : Nat → Int32} {L : Int64} {v : Int32} {x : Nat → Int32} (w : ShV m a S L) (hL : LnOk S) (hN : NmOk S) (hA : AkOk S) (h5 : MvOk S 6505) (h6 : MvOk S 6506) (hi : i < 20) (hp : p < lenS S i) (hx : x 6 = nI (chN (up1 S (40 * i + p) v) i)) (h1 : ∀ r, r < 6 → x r = mI m (a + 26 + 2 * i) r) : ShV (sA (sA m (a + 26 + 2 * i + 1) (fillS (mI m (a + 26 + 2 * i + 1)) p 1 v)) (a + 26 + 2 * i) x) a (up1 S (40 * i + p) v) L := by
  have l2 := lenS_le hL hi
  refine w.ch hL hA h5 h6 (up1_ag (by omega)) hi ?_ rfl ?_ ?_ ?_
  · intro y y1 y2 y3 y4 y5
    rw [I_sA' _ _ (by omega), I_sA' _ _ (by omega)]
  · refine LoV.cell (w.lo.mem fun j hj => ?_) hN (by omega)
    rw [I_sA' _ _ (by omega), I_sA' _ _ (by omega)]
  · exact (w.la hi).ck hL hi hp hx (h1 1 (by omega)) (h1 2 (by omega)) (h1 3 (by omega)) (h1 4 (by omega)) (h1 5 (by omega))
  · intro j hj hji
    refine ⟨fun r hr => up1_ne (by omega), inS_up (by omega), ?_⟩
    have := chN_up (v := v) hi hj hL hp
    rw [if_neg hji, if_neg hji] at this
    exact this
theorem chN_lay {S : Nat → Int32} {i p : Nat} (hi : i < 20) (hL : LnOk S) (hp : p < lenS S i) (hc : S (40 * i + p) = -1) : chN (up1 S (40 * i + p) (-2)) i = chN S i + 1 := by
  have := chN_up (v := -2) hi hi hL hp
  rw [if_pos rfl, if_pos rfl, hc, if_neg (by decide), if_pos rfl] at this
  exact this
theorem chN_lift {S : Nat → Int32} {i p : Nat} (hi : i < 20) (hL : LnOk S) (hp : p < lenS S i) (hc : S (40 * i + p) = -2) : chN (up1 S (40 * i + p) (-1)) i + 1 = chN S i := by
  have := chN_up (v := -1) hi hi hL hp
  rw [if_pos rfl, if_pos rfl, hc, if_pos rfl, if_neg (by decide)] at this
  exact this
theorem sh_lay {d a i p : Nat} {m : am_M} {S : Nat → Int32} {L : Int64} (k : ShK m a) (w : ShV m a S L) (hL : LnOk S) (hN : NmOk S) (hA : AkOk S) (h5 : MvOk S 6505) (h6 : MvOk S 6506) (hi : i < 20) (hp : p < lenS S i) (hc : S (40 * i + p) = -1) : ∃ m', cal (d + 1) 23 [.ref (a + 26 + 2 * i), .int (nI p)] m = some (none, m') ∧ Fr a m m' ∧ ShV m' a (up1 S (40 * i + p) (-2)) L := by
  have vl := w.la hi
  refine ⟨_, sp_23 (k.la i hi) vl.1 (lenS_le hL hi) hp, ((Fr.refl a m).sA (by omega) (by omega)).sA (by omega) (by omega), w.ck hL hN hA h5 h6 hi hp ?_ (fun r hr => up1_ne (by omega))⟩
  rw [up1_eq, vl.2.2.2.2, nI_add, chN_lay hi hL hp hc]
theorem sh_lift {d a i p : Nat} {m : am_M} {S : Nat → Int32} {L : Int64} (k : ShK m a) (w : ShV m a S L) (hL : LnOk S) (hN : NmOk S) (hA : AkOk S) (h5 : MvOk S 6505) (h6 : MvOk S 6506) (hi : i < 20) (hp : p < lenS S i) (hc : S (40 * i + p) = -2) : ∃ m', cal (d + 1) 24 [.ref (a + 26 + 2 * i), .int (nI p)] m = some (none, m') ∧ Fr a m m' ∧ ShV m' a (up1 S (40 * i + p) (-1)) L := by
  have vl := w.la hi
  refine ⟨_, sp_24 (k.la i hi) vl.1 (lenS_le hL hi) hp, ((Fr.refl a m).sA (by omega) (by omega)).sA (by omega) (by omega), w.ck hL hN hA h5 h6 hi hp ?_ (fun r hr => up1_ne (by omega))⟩
  rw [up1_eq, vl.2.2.2.2, ← chN_lift hi hL hp hc, sub_nI (by omega), Nat.add_sub_cancel]
theorem up_lenS {S : Nat → Int32} {y i : Nat} {v : Int32} (hy : y < 800) (hi : i < 20) : lenS (up1 S y v) i = lenS S i := (up1_ag hy).lenE hi
theorem wf_chock {S : Nat → Int32} {i p : Nat} (W : Wf S) (hi : i < 20) (hp : p < ln S i) (ht : S (800 + i) = nI 1) (hs : ¬ S 6501 = nI 1) (hc : S (40 * i + p) = -1) : Wf (chE S i p (nI 3) (-2)) := by
  have l2 := (W.ln i hi).2
  have hp' : p < lenS S i := by rw [lenS_t ht]; exact hp
  have ag := up1_ag (S := S) (y := 40 * i + p) (v := -2) (by omega)
  refine W.act ag (up_W W.nm W.ln W.w hi (by omega) (Or.inl hc)) (up_C W.nm W.ln W.c hi hp' (Or.inl hc) (Or.inr rfl)) ?_ ?_ hs
  · exact Or.inr (Or.inr (Or.inl ⟨rfl, i, p, hi, rfl, rfl, by rw [ag.th hi]; exact ht, by rw [ag.lnE hi]; exact hp, up1_eq⟩))
  · rw [unS_3, cl_nI (by omega), cl_nI (by omega)]
    have e : up1 (up1 S (40 * i + p) (-2)) (40 * i + p) (-1) = S := by
      funext y
      by_cases hy : y = 40 * i + p
      · rw [hy, up1_eq, hc]
      · rw [up1_ne hy, up1_ne hy]
    rw [e]
    exact EqU.refl S
theorem wf_lift {S : Nat → Int32} {i p : Nat} (W : Wf S) (hi : i < 20) (hp : p < ln S i) (ht : S (800 + i) = nI 1) (hs : ¬ S 6501 = nI 1) (hc : S (40 * i + p) = -2) : Wf (chE S i p (nI 4) (-1)) := by
  have l2 := (W.ln i hi).2
  have hp' : p < lenS S i := by rw [lenS_t ht]; exact hp
  have ag := up1_ag (S := S) (y := 40 * i + p) (v := -1) (by omega)
  refine W.act ag (up_W W.nm W.ln W.w hi (by omega) (Or.inr hc)) (up_C W.nm W.ln W.c hi hp' (Or.inr hc) (Or.inl rfl)) ?_ ?_ hs
  · exact Or.inr (Or.inr (Or.inr ⟨rfl, i, p, hi, rfl, rfl, by rw [ag.th hi]; exact ht, by rw [ag.lnE hi]; exact hp, up1_eq⟩))
  · rw [unS_4, cl_nI (by omega), cl_nI (by omega)]
    have e : up1 (up1 S (40 * i + p) (-1)) (40 * i + p) (-2) = S := by
      funext y
      by_cases hy : y = 40 * i + p
      · rw [hy, up1_eq, hc]
      · rw [up1_ne hy, up1_ne hy]
    rw [e]
    exact EqU.refl S
theorem sp_68b {d a : Nat} {c x y : Int32} {m : am_M} (hb : x < nI 0 ∨ ¬ x < nI 20) : cal (d + 3) 68 [.ref a, .int c, .int x, .int y] m = some (some (.int (-1)), m) := by
  simp (disch := first | (simp (disch := omega) only [am_k_some, va_rf_some, va_rf_none, tl_some, tl_none, am_clr_int, am_clr_ref, am_clr_none, am_clr_long, am_w_nil, am_w_int, am_w_ref, am_w_long, am_w_null, am_bb_0, am_bb_1, am_bb_bI, xK_sI, xR_sI, xS_sI, xN_sI, xK_sL, xR_sL, xS_sL, xN_sL, xK_sR, xR_sR, xS_sR, xN_sR, xK_sA, xR_sA, xS_sA, xN_sA, Nat.reduceAdd, Nat.reduceLeDiff, sI_sA, I_sA', sA_sA, I_sA, I_sA', nI_add, mul_nI, bI_0, bI_1, ix_nI, cl_nI]; done) | omega | assumption) only [c68, e68_0, e68_1, e68_4, e68_7, e68_8, am_k_some, va_rf_some, va_rf_none, tl_some, tl_none, am_clr_int, am_clr_ref, am_clr_none, am_clr_long, am_w_nil, am_w_int, am_w_ref, am_w_long, am_w_null, am_bb_0, am_bb_1, am_bb_bI, xK_sI, xR_sI, xS_sI, xN_sI, xK_sL, xR_sL, xS_sL, xN_sL, xK_sR, xR_sR, xS_sR, xN_sR, xK_sA, xR_sA, xS_sA, xN_sA, Nat.reduceAdd, Nat.reduceLeDiff, sI_sA, I_sA', sA_sA, I_sA, I_sA', nI_add, mul_nI, bI_0, bI_1, ix_nI, cl_nI, lt_nI, eq_nI, sub_nI, Nat.reduceEqDiff, Nat.one_ne_zero, Nat.not_lt_zero, ↓reduceIte, sp_131b hb]
/-- refused, or the place -/
theorem sp_68r {d a i : Nat} {c x v : Int32} {m : am_M} {S : Nat → Int32} {L : Int64} (k : ShK m a) (w : ShV m a S L) (W : Wf S) (hi : i < 20) (hv : v = if c = nI 3 then -1 else -2) (hn : hinA S i x v < nI 0) : cal (d + 3) 68 [.ref a, .int c, .int (nI i), .int x] m = some (some (.int (hinA S i x v)), m) := by
  have kl := k.la i hi
  have vl := w.la hi
  have l2 := lenS_le W.ln hi
  have q := sp_65w (d := d + 2) k w W.y
  have th := sp_13 (d := d + 2) kl
  have hp := sp_15 (d := d + 2) (x := x) kl
  unfold hinA at hn ⊢
  by_cases a1 : S 6501 = nI 1
  · rw [decide_eq_true a1] at q
    rw [if_pos a1]
    simp (disch := first | (simp (disch := omega) only [am_k_some, va_rf_some, va_rf_none, tl_some, tl_none, am_clr_int, am_clr_ref, am_clr_none, am_clr_long, am_w_nil, am_w_int, am_w_ref, am_w_long, am_w_null, am_bb_0, am_bb_1, am_bb_bI, xK_sI, xR_sI, xS_sI, xN_sI, xK_sL, xR_sL, xS_sL, xN_sL, xK_sR, xR_sR, xS_sR, xN_sR, xK_sA, xR_sA, xS_sA, xN_sA, Nat.reduceAdd, Nat.reduceLeDiff, sI_sA, I_sA', sA_sA, I_sA, I_sA', nI_add, mul_nI, bI_0, bI_1, k.k, k.r0, k.k0, k.rl, k.r1, k.lo.k, k.r2, k.ac.k, kl.k, kl.r0, kl.k0, LaK_sA, LoK_sA, ix_nI, cl_nI]; done) | omega | assumption) only [c68, e68_0, e68_1, e68_4, e68_7, e68_8, e68_9, e68_10, e68_13, e68_16, e68_18, e68_19, e68_20, e68_23, e68_24, e68_25, e68_28, e68_31, e68_33, e68_34, e68_35, e68_38, e68_39, e68_40, e68_41, e68_44, e68_47, e68_48, e68_49, e68_50, e68_53, e68_54, e68_55, e68_58, e68_59, e68_60, e68_61, e68_62, e68_65, e68_66, e68_69, e68_71, e68_74, e68_76, e68_77, e68_78, e68_79, e68_82, e68_83, e68_86, e68_87, e68_88, e68_89, e68_92, e68_95, e68_96, e68_99, e68_100, e68_101, e68_102, e68_105, e68_106, e68_109, e68_110, e68_111, e68_112, e68_113, e68_116, e68_117, am_k_some, va_rf_some, va_rf_none, tl_some, tl_none, am_clr_int, am_clr_ref, am_clr_none, am_clr_long, am_w_nil, am_w_int, am_w_ref, am_w_long, am_w_null, am_bb_0, am_bb_1, am_bb_bI, xK_sI, xR_sI, xS_sI, xN_sI, xK_sL, xR_sL, xS_sL, xN_sL, xK_sR, xR_sR, xS_sR, xN_sR, xK_sA, xR_sA, xS_sA, xN_sA, Nat.reduceAdd, Nat.reduceLeDiff, sI_sA, I_sA', sA_sA, I_sA, I_sA', nI_add, mul_nI, bI_0, bI_1, k.k, k.r0, k.k0, k.rl, k.r1, k.lo.k, k.r2, k.ac.k, kl.k, kl.r0, kl.k0, ix_nI, cl_nI, lt_nI, eq_nI, sub_nI, Nat.reduceEqDiff, Nat.one_ne_zero, Nat.not_lt_zero, ↓reduceIte, k1, k2, k3, k4, k5, k6, k7, k8, k9, n10, n01, if_true, if_false, decide_true, decide_false, Bool.true_eq_false, Bool.false_eq_true, not_true_eq_false, not_false_eq_true, and_true, true_and, and_false, false_and, sp_131v, q, Bool.not_true, bI_f]
  rw [if_neg a1] at hn ⊢
  rw [decide_eq_false a1] at q
  by_cases a2 : S (800 + i) = nI 1
  · rw [if_pos a2] at hn ⊢
    have hlen := lenS_t a2
    have l1 := (W.ln i hi).1
    have t1 : 1 ≤ ln S i := by
      rcases W.t i hi with z | ⟨-, z, -⟩
      · rw [a2] at z; exact absurd z (by decide)
      · exact z
    rw [vl.1, decide_eq_true (by rw [lt_nI (by omega) (by omega)]; omega)] at th
    rw [vl.1, hlen] at hp
    rw [l1] at hn ⊢
    rcases rng x (ln S i) (by omega) with hr | ⟨p, hp2, rfl⟩
    · have hh : (!decide (x < nI 0) && decide (x < nI (ln S i))) = false := by
        rcases hr with z | z
        · rw [decide_eq_true z]; rfl
        · rw [decide_eq_false z, Bool.and_false]
      rw [hh] at hp
      have hv : (if x < nI 0 then (-1 : Int32) else if x < nI (ln S i) then (if S (40 * i + x.toNatClampNeg) = v then nI 0 else -4) else -1) = -1 := by
        by_cases z : x < nI 0
        · rw [if_pos z]
        · rw [if_neg z, if_neg (fun z2 => by rcases hr with z3 | z3; exact z z3; exact z3 z2)]
      rw [hv]
      simp (disch := first | (simp (disch := omega) only [am_k_some, va_rf_some, va_rf_none, tl_some, tl_none, am_clr_int, am_clr_ref, am_clr_none, am_clr_long, am_w_nil, am_w_int, am_w_ref, am_w_long, am_w_null, am_bb_0, am_bb_1, am_bb_bI, xK_sI, xR_sI, xS_sI, xN_sI, xK_sL, xR_sL, xS_sL, xN_sL, xK_sR, xR_sR, xS_sR, xN_sR, xK_sA, xR_sA, xS_sA, xN_sA, Nat.reduceAdd, Nat.reduceLeDiff, sI_sA, I_sA', sA_sA, I_sA, I_sA', nI_add, mul_nI, bI_0, bI_1, k.k, k.r0, k.k0, k.rl, k.r1, k.lo.k, k.r2, k.ac.k, kl.k, kl.r0, kl.k0, LaK_sA, LoK_sA, ix_nI, cl_nI]; done) | omega | assumption) only [c68, e68_0, e68_1, e68_4, e68_7, e68_8, e68_9, e68_10, e68_13, e68_16, e68_18, e68_19, e68_20, e68_23, e68_24, e68_25, e68_28, e68_31, e68_33, e68_34, e68_35, e68_38, e68_39, e68_40, e68_41, e68_44, e68_47, e68_48, e68_49, e68_50, e68_53, e68_54, e68_55, e68_58, e68_59, e68_60, e68_61, e68_62, e68_65, e68_66, e68_69, e68_71, e68_74, e68_76, e68_77, e68_78, e68_79, e68_82, e68_83, e68_86, e68_87, e68_88, e68_89, e68_92, e68_95, e68_96, e68_99, e68_100, e68_101, e68_102, e68_105, e68_106, e68_109, e68_110, e68_111, e68_112, e68_113, e68_116, e68_117, am_k_some, va_rf_some, va_rf_none, tl_some, tl_none, am_clr_int, am_clr_ref, am_clr_none, am_clr_long, am_w_nil, am_w_int, am_w_ref, am_w_long, am_w_null, am_bb_0, am_bb_1, am_bb_bI, xK_sI, xR_sI, xS_sI, xN_sI, xK_sL, xR_sL, xS_sL, xN_sL, xK_sR, xR_sR, xS_sR, xN_sR, xK_sA, xR_sA, xS_sA, xN_sA, Nat.reduceAdd, Nat.reduceLeDiff, sI_sA, I_sA', sA_sA, I_sA, I_sA', nI_add, mul_nI, bI_0, bI_1, k.k, k.r0, k.k0, k.rl, k.r1, k.lo.k, k.r2, k.ac.k, kl.k, kl.r0, kl.k0, ix_nI, cl_nI, lt_nI, eq_nI, sub_nI, Nat.reduceEqDiff, Nat.one_ne_zero, Nat.not_lt_zero, ↓reduceIte, k1, k2, k3, k4, k5, k6, k7, k8, k9, n10, n01, if_true, if_false, decide_true, decide_false, Bool.true_eq_false, Bool.false_eq_true, not_true_eq_false, not_false_eq_true, and_true, true_and, and_false, false_and, sp_131v, q, Bool.not_false, bI_t, th, hp, bI_f]
    · have z0 : ¬ nI p < nI 0 := by rw [lt_nI (by omega) (by omega)]; omega
      have z1 : nI p < nI (ln S i) := by rw [lt_nI (by omega) (by omega)]; exact hp2
      rw [if_neg z0, if_pos z1, cl_nI (by omega)] at hn ⊢
      rw [decide_eq_true z1, decide_eq_false z0] at hp
      have hcell := vl.2.2.1 p (by omega)
      by_cases a3 : S (40 * i + p) = v
      · rw [if_pos a3] at hn; exact absurd hn (by decide)
      · rw [if_neg a3]
        by_cases a4 : c = nI 3
        · rw [if_pos a4] at hv
          subst hv
          simp (disch := first | (simp (disch := omega) only [am_k_some, va_rf_some, va_rf_none, tl_some, tl_none, am_clr_int, am_clr_ref, am_clr_none, am_clr_long, am_w_nil, am_w_int, am_w_ref, am_w_long, am_w_null, am_bb_0, am_bb_1, am_bb_bI, xK_sI, xR_sI, xS_sI, xN_sI, xK_sL, xR_sL, xS_sL, xN_sL, xK_sR, xR_sR, xS_sR, xN_sR, xK_sA, xR_sA, xS_sA, xN_sA, Nat.reduceAdd, Nat.reduceLeDiff, sI_sA, I_sA', sA_sA, I_sA, I_sA', nI_add, mul_nI, bI_0, bI_1, k.k, k.r0, k.k0, k.rl, k.r1, k.lo.k, k.r2, k.ac.k, kl.k, kl.r0, kl.k0, LaK_sA, LoK_sA, ix_nI, cl_nI]; done) | omega | assumption) only [c68, e68_0, e68_1, e68_4, e68_7, e68_8, e68_9, e68_10, e68_13, e68_16, e68_18, e68_19, e68_20, e68_23, e68_24, e68_25, e68_28, e68_31, e68_33, e68_34, e68_35, e68_38, e68_39, e68_40, e68_41, e68_44, e68_47, e68_48, e68_49, e68_50, e68_53, e68_54, e68_55, e68_58, e68_59, e68_60, e68_61, e68_62, e68_65, e68_66, e68_69, e68_71, e68_74, e68_76, e68_77, e68_78, e68_79, e68_82, e68_83, e68_86, e68_87, e68_88, e68_89, e68_92, e68_95, e68_96, e68_99, e68_100, e68_101, e68_102, e68_105, e68_106, e68_109, e68_110, e68_111, e68_112, e68_113, e68_116, e68_117, am_k_some, va_rf_some, va_rf_none, tl_some, tl_none, am_clr_int, am_clr_ref, am_clr_none, am_clr_long, am_w_nil, am_w_int, am_w_ref, am_w_long, am_w_null, am_bb_0, am_bb_1, am_bb_bI, xK_sI, xR_sI, xS_sI, xN_sI, xK_sL, xR_sL, xS_sL, xN_sL, xK_sR, xR_sR, xS_sR, xN_sR, xK_sA, xR_sA, xS_sA, xN_sA, Nat.reduceAdd, Nat.reduceLeDiff, sI_sA, I_sA', sA_sA, I_sA, I_sA', nI_add, mul_nI, bI_0, bI_1, k.k, k.r0, k.k0, k.rl, k.r1, k.lo.k, k.r2, k.ac.k, kl.k, kl.r0, kl.k0, ix_nI, cl_nI, lt_nI, eq_nI, sub_nI, Nat.reduceEqDiff, Nat.one_ne_zero, Nat.not_lt_zero, ↓reduceIte, k1, k2, k3, k4, k5, k6, k7, k8, k9, n10, n01, if_true, if_false, decide_true, decide_false, Bool.true_eq_false, Bool.false_eq_true, not_true_eq_false, not_false_eq_true, and_true, true_and, and_false, false_and, sp_131v, q, Bool.not_false, Bool.and_self, bI_t, th, hp, hcell, a3, a4]
        · rw [if_neg a4] at hv
          subst hv
          simp (disch := first | (simp (disch := omega) only [am_k_some, va_rf_some, va_rf_none, tl_some, tl_none, am_clr_int, am_clr_ref, am_clr_none, am_clr_long, am_w_nil, am_w_int, am_w_ref, am_w_long, am_w_null, am_bb_0, am_bb_1, am_bb_bI, xK_sI, xR_sI, xS_sI, xN_sI, xK_sL, xR_sL, xS_sL, xN_sL, xK_sR, xR_sR, xS_sR, xN_sR, xK_sA, xR_sA, xS_sA, xN_sA, Nat.reduceAdd, Nat.reduceLeDiff, sI_sA, I_sA', sA_sA, I_sA, I_sA', nI_add, mul_nI, bI_0, bI_1, k.k, k.r0, k.k0, k.rl, k.r1, k.lo.k, k.r2, k.ac.k, kl.k, kl.r0, kl.k0, LaK_sA, LoK_sA, ix_nI, cl_nI]; done) | omega | assumption) only [c68, e68_0, e68_1, e68_4, e68_7, e68_8, e68_9, e68_10, e68_13, e68_16, e68_18, e68_19, e68_20, e68_23, e68_24, e68_25, e68_28, e68_31, e68_33, e68_34, e68_35, e68_38, e68_39, e68_40, e68_41, e68_44, e68_47, e68_48, e68_49, e68_50, e68_53, e68_54, e68_55, e68_58, e68_59, e68_60, e68_61, e68_62, e68_65, e68_66, e68_69, e68_71, e68_74, e68_76, e68_77, e68_78, e68_79, e68_82, e68_83, e68_86, e68_87, e68_88, e68_89, e68_92, e68_95, e68_96, e68_99, e68_100, e68_101, e68_102, e68_105, e68_106, e68_109, e68_110, e68_111, e68_112, e68_113, e68_116, e68_117, am_k_some, va_rf_some, va_rf_none, tl_some, tl_none, am_clr_int, am_clr_ref, am_clr_none, am_clr_long, am_w_nil, am_w_int, am_w_ref, am_w_long, am_w_null, am_bb_0, am_bb_1, am_bb_bI, xK_sI, xR_sI, xS_sI, xN_sI, xK_sL, xR_sL, xS_sL, xN_sL, xK_sR, xR_sR, xS_sR, xN_sR, xK_sA, xR_sA, xS_sA, xN_sA, Nat.reduceAdd, Nat.reduceLeDiff, sI_sA, I_sA', sA_sA, I_sA, I_sA', nI_add, mul_nI, bI_0, bI_1, k.k, k.r0, k.k0, k.rl, k.r1, k.lo.k, k.r2, k.ac.k, kl.k, kl.r0, kl.k0, ix_nI, cl_nI, lt_nI, eq_nI, sub_nI, Nat.reduceEqDiff, Nat.one_ne_zero, Nat.not_lt_zero, ↓reduceIte, k1, k2, k3, k4, k5, k6, k7, k8, k9, n10, n01, if_true, if_false, decide_true, decide_false, Bool.true_eq_false, Bool.false_eq_true, not_true_eq_false, not_false_eq_true, and_true, true_and, and_false, false_and, sp_131v, q, Bool.not_false, Bool.and_self, bI_t, th, hp, hcell, a3, a4]
  · rw [if_neg a2]
    rw [vl.1, lenS_n a2, decide_eq_false (by decide)] at th
    simp (disch := first | (simp (disch := omega) only [am_k_some, va_rf_some, va_rf_none, tl_some, tl_none, am_clr_int, am_clr_ref, am_clr_none, am_clr_long, am_w_nil, am_w_int, am_w_ref, am_w_long, am_w_null, am_bb_0, am_bb_1, am_bb_bI, xK_sI, xR_sI, xS_sI, xN_sI, xK_sL, xR_sL, xS_sL, xN_sL, xK_sR, xR_sR, xS_sR, xN_sR, xK_sA, xR_sA, xS_sA, xN_sA, Nat.reduceAdd, Nat.reduceLeDiff, sI_sA, I_sA', sA_sA, I_sA, I_sA', nI_add, mul_nI, bI_0, bI_1, k.k, k.r0, k.k0, k.rl, k.r1, k.lo.k, k.r2, k.ac.k, kl.k, kl.r0, kl.k0, LaK_sA, LoK_sA, ix_nI, cl_nI]; done) | omega | assumption) only [c68, e68_0, e68_1, e68_4, e68_7, e68_8, e68_9, e68_10, e68_13, e68_16, e68_18, e68_19, e68_20, e68_23, e68_24, e68_25, e68_28, e68_31, e68_33, e68_34, e68_35, e68_38, e68_39, e68_40, e68_41, e68_44, e68_47, e68_48, e68_49, e68_50, e68_53, e68_54, e68_55, e68_58, e68_59, e68_60, e68_61, e68_62, e68_65, e68_66, e68_69, e68_71, e68_74, e68_76, e68_77, e68_78, e68_79, e68_82, e68_83, e68_86, e68_87, e68_88, e68_89, e68_92, e68_95, e68_96, e68_99, e68_100, e68_101, e68_102, e68_105, e68_106, e68_109, e68_110, e68_111, e68_112, e68_113, e68_116, e68_117, am_k_some, va_rf_some, va_rf_none, tl_some, tl_none, am_clr_int, am_clr_ref, am_clr_none, am_clr_long, am_w_nil, am_w_int, am_w_ref, am_w_long, am_w_null, am_bb_0, am_bb_1, am_bb_bI, xK_sI, xR_sI, xS_sI, xN_sI, xK_sL, xR_sL, xS_sL, xN_sL, xK_sR, xR_sR, xS_sR, xN_sR, xK_sA, xR_sA, xS_sA, xN_sA, Nat.reduceAdd, Nat.reduceLeDiff, sI_sA, I_sA', sA_sA, I_sA, I_sA', nI_add, mul_nI, bI_0, bI_1, k.k, k.r0, k.k0, k.rl, k.r1, k.lo.k, k.r2, k.ac.k, kl.k, kl.r0, kl.k0, ix_nI, cl_nI, lt_nI, eq_nI, sub_nI, Nat.reduceEqDiff, Nat.one_ne_zero, Nat.not_lt_zero, ↓reduceIte, k1, k2, k3, k4, k5, k6, k7, k8, k9, n10, n01, if_true, if_false, decide_true, decide_false, Bool.true_eq_false, Bool.false_eq_true, not_true_eq_false, not_false_eq_true, and_true, true_and, and_false, false_and, sp_131v, q, Bool.not_false, bI_t, th, bI_f]
theorem sp_68c {d a i : Nat} {x : Int32} {m : am_M} {S : Nat → Int32} {L : Int64} (k : ShK m a) (w : ShV m a S L) (W : Wf S) (hi : i < 20) (hn : ¬ hinA S i x (-1) < nI 0) : ∃ m', cal (d + 3) 68 [.ref a, .int (nI 3), .int (nI i), .int x] m = some (some (.int (nI 1)), m') ∧ Fr a m m' ∧ ShV m' a (chE S i x.toNatClampNeg (nI 3) (-2)) L ∧ Wf (chE S i x.toNatClampNeg (nI 3) (-2)) := by
  have kl := k.la i hi
  have vl := w.la hi
  have l2 := lenS_le W.ln hi
  obtain ⟨p, hp, rfl, hc, hs, ht⟩ := hin_in W.ln hi hn
  have hlen := lenS_t ht
  have q := sp_65w (d := d + 2) k w W.y
  have th := sp_13 (d := d + 2) kl
  have hpl := sp_15 (d := d + 2) (x := nI p) kl
  rw [decide_eq_false hs] at q
  rw [vl.1, decide_eq_true (by rw [lt_nI (by omega) (by omega)]; omega)] at th
  have z0 : ¬ nI p < nI 0 := by rw [lt_nI (by omega) (by omega)]; omega
  have z1 : nI p < nI (ln S i) := by rw [lt_nI (by omega) (by omega)]; exact hp
  rw [vl.1, hlen, decide_eq_true z1, decide_eq_false z0] at hpl
  have hcell := vl.2.2.1 p (by omega)
  rw [hc] at hcell
  have ag := up1_ag (S := S) (y := 40 * i + p) (v := -2) (by omega)
  obtain ⟨m1, e1, f1, s1⟩ := sh_lay (d := d + 1) k w W.ln W.nm W.a W.m1 W.m2 hi (show p < lenS S i by omega) hc
  have k1 := k.fr f1
  obtain ⟨m2, e2, f2, s2⟩ := s1.push (p := nI 3) (a := nI i) (b := nI p) (c := nI 0) (x2 := -1) k1 (ag.lnok W.ln) (ag.nmok W.nm) (ag.akok W.a) (ag.mv (by omega) W.m1) (ag.mv (by omega) W.m2) (Or.inr ⟨Or.inl rfl, rfl, rfl⟩)
  rw [cl_nI (by omega)]
  refine ⟨m2, ?_, f1.trans f2, s2, wf_chock W hi hp ht hs hc⟩
  simp (disch := first | (simp (disch := omega) only [am_k_some, va_rf_some, va_rf_none, tl_some, tl_none, am_clr_int, am_clr_ref, am_clr_none, am_clr_long, am_w_nil, am_w_int, am_w_ref, am_w_long, am_w_null, am_bb_0, am_bb_1, am_bb_bI, xK_sI, xR_sI, xS_sI, xN_sI, xK_sL, xR_sL, xS_sL, xN_sL, xK_sR, xR_sR, xS_sR, xN_sR, xK_sA, xR_sA, xS_sA, xN_sA, Nat.reduceAdd, Nat.reduceLeDiff, sI_sA, I_sA', sA_sA, I_sA, I_sA', nI_add, mul_nI, bI_0, bI_1, k.k, k.r0, k.k0, k.rl, k.r1, k.lo.k, k.r2, k.ac.k, kl.k, kl.r0, kl.k0, k1.k, k1.r2, k1.ac.k, LaK_sA, LoK_sA, ix_nI, cl_nI]; done) | omega | assumption) only [c68, e68_0, e68_1, e68_4, e68_7, e68_8, e68_9, e68_10, e68_13, e68_16, e68_18, e68_19, e68_20, e68_23, e68_24, e68_25, e68_28, e68_31, e68_33, e68_34, e68_35, e68_38, e68_39, e68_40, e68_41, e68_44, e68_47, e68_48, e68_49, e68_50, e68_53, e68_54, e68_55, e68_58, e68_59, e68_60, e68_61, e68_62, e68_65, e68_66, e68_69, e68_71, e68_74, e68_76, e68_77, e68_78, e68_79, e68_82, e68_83, e68_86, e68_87, e68_88, e68_89, e68_92, e68_95, e68_96, e68_99, e68_100, e68_101, e68_102, e68_105, e68_106, e68_109, e68_110, e68_111, e68_112, e68_113, e68_116, e68_117, am_k_some, va_rf_some, va_rf_none, tl_some, tl_none, am_clr_int, am_clr_ref, am_clr_none, am_clr_long, am_w_nil, am_w_int, am_w_ref, am_w_long, am_w_null, am_bb_0, am_bb_1, am_bb_bI, xK_sI, xR_sI, xS_sI, xN_sI, xK_sL, xR_sL, xS_sL, xN_sL, xK_sR, xR_sR, xS_sR, xN_sR, xK_sA, xR_sA, xS_sA, xN_sA, Nat.reduceAdd, Nat.reduceLeDiff, sI_sA, I_sA', sA_sA, I_sA, I_sA', nI_add, mul_nI, bI_0, bI_1, k.k, k.r0, k.k0, k.rl, k.r1, k.lo.k, k.r2, k.ac.k, kl.k, kl.r0, kl.k0, ix_nI, cl_nI, lt_nI, eq_nI, sub_nI, Nat.reduceEqDiff, Nat.one_ne_zero, Nat.not_lt_zero, ↓reduceIte, k1, k2, k3, k4, k5, k6, k7, k8, k9, n10, n01, if_true, if_false, decide_true, decide_false, Bool.true_eq_false, Bool.false_eq_true, not_true_eq_false, not_false_eq_true, and_true, true_and, and_false, false_and, sp_131v, q, Bool.not_false, Bool.and_self, bI_t, th, hpl, hcell, e1, k1.k, k1.r2, k1.ac.k, e2]
theorem sp_68l {d a i : Nat} {x : Int32} {m : am_M} {S : Nat → Int32} {L : Int64} (k : ShK m a) (w : ShV m a S L) (W : Wf S) (hi : i < 20) (hn : ¬ hinA S i x (-2) < nI 0) : ∃ m', cal (d + 3) 68 [.ref a, .int (nI 4), .int (nI i), .int x] m = some (some (.int (nI 1)), m') ∧ Fr a m m' ∧ ShV m' a (chE S i x.toNatClampNeg (nI 4) (-1)) L ∧ Wf (chE S i x.toNatClampNeg (nI 4) (-1)) := by
  have kl := k.la i hi
  have vl := w.la hi
  have l2 := lenS_le W.ln hi
  obtain ⟨p, hp, rfl, hc, hs, ht⟩ := hin_in W.ln hi hn
  have hlen := lenS_t ht
  have q := sp_65w (d := d + 2) k w W.y
  have th := sp_13 (d := d + 2) kl
  have hpl := sp_15 (d := d + 2) (x := nI p) kl
  rw [decide_eq_false hs] at q
  rw [vl.1, decide_eq_true (by rw [lt_nI (by omega) (by omega)]; omega)] at th
  have z0 : ¬ nI p < nI 0 := by rw [lt_nI (by omega) (by omega)]; omega
  have z1 : nI p < nI (ln S i) := by rw [lt_nI (by omega) (by omega)]; exact hp
  rw [vl.1, hlen, decide_eq_true z1, decide_eq_false z0] at hpl
  have hcell := vl.2.2.1 p (by omega)
  rw [hc] at hcell
  have ag := up1_ag (S := S) (y := 40 * i + p) (v := -1) (by omega)
  obtain ⟨m1, e1, f1, s1⟩ := sh_lift (d := d + 1) k w W.ln W.nm W.a W.m1 W.m2 hi (show p < lenS S i by omega) hc
  have k1 := k.fr f1
  obtain ⟨m2, e2, f2, s2⟩ := s1.push (p := nI 4) (a := nI i) (b := nI p) (c := nI 0) (x2 := -1) k1 (ag.lnok W.ln) (ag.nmok W.nm) (ag.akok W.a) (ag.mv (by omega) W.m1) (ag.mv (by omega) W.m2) (Or.inr ⟨Or.inr rfl, rfl, rfl⟩)
  rw [cl_nI (by omega)]
  have n43 : ¬ nI 4 = nI 3 := by decide
  refine ⟨m2, ?_, f1.trans f2, s2, wf_lift W hi hp ht hs hc⟩
  simp (disch := first | (simp (disch := omega) only [am_k_some, va_rf_some, va_rf_none, tl_some, tl_none, am_clr_int, am_clr_ref, am_clr_none, am_clr_long, am_w_nil, am_w_int, am_w_ref, am_w_long, am_w_null, am_bb_0, am_bb_1, am_bb_bI, xK_sI, xR_sI, xS_sI, xN_sI, xK_sL, xR_sL, xS_sL, xN_sL, xK_sR, xR_sR, xS_sR, xN_sR, xK_sA, xR_sA, xS_sA, xN_sA, Nat.reduceAdd, Nat.reduceLeDiff, sI_sA, I_sA', sA_sA, I_sA, I_sA', nI_add, mul_nI, bI_0, bI_1, k.k, k.r0, k.k0, k.rl, k.r1, k.lo.k, k.r2, k.ac.k, kl.k, kl.r0, kl.k0, k1.k, k1.r2, k1.ac.k, LaK_sA, LoK_sA, ix_nI, cl_nI]; done) | omega | assumption) only [c68, e68_0, e68_1, e68_4, e68_7, e68_8, e68_9, e68_10, e68_13, e68_16, e68_18, e68_19, e68_20, e68_23, e68_24, e68_25, e68_28, e68_31, e68_33, e68_34, e68_35, e68_38, e68_39, e68_40, e68_41, e68_44, e68_47, e68_48, e68_49, e68_50, e68_53, e68_54, e68_55, e68_58, e68_59, e68_60, e68_61, e68_62, e68_65, e68_66, e68_69, e68_71, e68_74, e68_76, e68_77, e68_78, e68_79, e68_82, e68_83, e68_86, e68_87, e68_88, e68_89, e68_92, e68_95, e68_96, e68_99, e68_100, e68_101, e68_102, e68_105, e68_106, e68_109, e68_110, e68_111, e68_112, e68_113, e68_116, e68_117, am_k_some, va_rf_some, va_rf_none, tl_some, tl_none, am_clr_int, am_clr_ref, am_clr_none, am_clr_long, am_w_nil, am_w_int, am_w_ref, am_w_long, am_w_null, am_bb_0, am_bb_1, am_bb_bI, xK_sI, xR_sI, xS_sI, xN_sI, xK_sL, xR_sL, xS_sL, xN_sL, xK_sR, xR_sR, xS_sR, xN_sR, xK_sA, xR_sA, xS_sA, xN_sA, Nat.reduceAdd, Nat.reduceLeDiff, sI_sA, I_sA', sA_sA, I_sA, I_sA', nI_add, mul_nI, bI_0, bI_1, k.k, k.r0, k.k0, k.rl, k.r1, k.lo.k, k.r2, k.ac.k, kl.k, kl.r0, kl.k0, ix_nI, cl_nI, lt_nI, eq_nI, sub_nI, Nat.reduceEqDiff, Nat.one_ne_zero, Nat.not_lt_zero, ↓reduceIte, k1, k2, k3, k4, k5, k6, k7, k8, k9, n10, n01, if_true, if_false, decide_true, decide_false, Bool.true_eq_false, Bool.false_eq_true, not_true_eq_false, not_false_eq_true, and_true, true_and, and_false, false_and, sp_131v, q, Bool.not_false, Bool.and_self, bI_t, th, hpl, hcell, e1, k1.k, k1.r2, k1.ac.k, e2, n43]
