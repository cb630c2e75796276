/-! comeToPort; the ship behind a port is well -/
theorem ef_m1 {S : Nat → Int32} {i : Nat} {g : Int32} : efA S i g = -1 ↔ S (800 + i) = nI 1 ∧ ¬ deS S i (nI 0) g < nI 0 ∧ icS S i (nI 0) g = false ∧ icS S i (nI 1) g = false := by
  unfold efA
  by_cases a1 : S (800 + i) = nI 1
  · rw [if_pos a1]
    by_cases a2 : deS S i (nI 0) g < nI 0
    · rw [if_pos a2]
      exact ⟨fun h => absurd h (by decide), fun h => absurd a2 h.2.1⟩
    · rw [if_neg a2]
      cases c0 : icS S i (nI 0) g with
      | true =>
        rw [if_pos rfl]
        refine ⟨fun h => ?_, fun h => absurd h.2.2.1 (by decide)⟩
        exfalso
        revert h
        repeat' split
        all_goals decide
      | false =>
        rw [if_neg (by decide)]
        cases c1 : icS S i (nI 1) g with
        | true =>
          rw [if_pos rfl]
          exact ⟨fun h => absurd h (by decide), fun h => absurd h.2.2.2 (by decide)⟩
        | false =>
          rw [if_neg (by decide)]
          exact ⟨fun _ => ⟨a1, a2, rfl, rfl⟩, fun _ => rfl⟩
  · rw [if_neg a1]
    exact ⟨fun h => absurd h (by decide), fun h => absurd h.1 a1⟩
section TD
variable {S : Nat → Int32} {B : List Nat} {i : Nat} {e g x : Int32}
theorem tk_dp (hN : NmOk S) (hC : CellOk S) (hB : ∀ l, l ∈ B → S (2100 + l) = g) (hx : ¬ x = g) (hi : i < 20) {n q : Nat} (hn : n ≤ 40) (hq : q < n) : lvB (tkS S B) (dpS (tkS S B) i n e q) x = lvB S (dpS S i n e q) x ∧ (dpS (tkS S B) i n e q = -2 ↔ dpS S i n e q = -2) := by
  have n2 := hN.2
  have hp : (if e = nI 0 then q else n - 1 - q) < 40 := by split <;> omega
  unfold dpS
  generalize (if e = nI 0 then q else n - 1 - q) = p at *
  rw [tk_c (by omega)]
  rcases hC i p hi hp with z | z | ⟨l, hl, z⟩
  · rw [z, if_neg (fun q => q.1 u1)]
    exact ⟨rfl, Iff.rfl⟩
  · rw [z, if_neg (fun q => q.1 u2)]
    exact ⟨rfl, Iff.rfl⟩
  · have hz : ¬ nI l < nI 0 := by rw [lt_nI (by omega) (by omega)]; omega
    rw [z, cl_nI (by omega)]
    unfold lvB
    by_cases hm : l ∈ B
    · rw [if_pos ⟨hz, hm⟩, cl_nI (by omega), hB l hm]
      have : ¬ g = x := fun q => hx q.symm
      rw [decide_eq_true u1, decide_eq_false this, Bool.and_false]
      exact ⟨rfl, fun q => absurd q (by decide), fun q => absurd q (ne_m2 (by omega))⟩
    · rw [if_neg (fun q => hm q.2), cl_nI (by omega), tk_ag _ (by omega) (by omega)]
      exact ⟨rfl, Iff.rfl⟩
theorem tk_de (hN : NmOk S) (hL : LnOk S) (hC : CellOk S) (hB : ∀ l, l ∈ B → S (2100 + l) = g) (hx : ¬ x = g) (hi : i < 20) : deS (tkS S B) i e x = deS S i e x := by
  have l2 := (hL i hi).2
  unfold deS
  rw [tk_ag.lnE hi]
  exact lastR_congr _ fun p hp => (tk_dp hN hC hB hx hi l2 hp).1
theorem tk_ic (hN : NmOk S) (hL : LnOk S) (hC : CellOk S) (hB : ∀ l, l ∈ B → S (2100 + l) = g) (hx : ¬ x = g) (hi : i < 20) : icS (tkS S B) i e x = icS S i e x := by
  have l2 := (hL i hi).2
  have d1 := (dn_lt (e := e) (g := x) l2).1
  unfold icS
  have eo : opS (tkS S B) i e = opS S i e := by unfold opS; rw [tk_ag _ (by omega) (by omega)]
  have ed : dn (tkS S B) i e x = dn S i e x := by unfold dn; rw [tk_de hN hL hC hB hx hi]
  rw [eo, ed, tk_ag.lnE hi]
  congr 2
  refine anyR_congr _ _ fun p _ hp => ?_
  rw [decide_eq_decide]
  exact (tk_dp hN hC hB hx hi l2 (by omega)).2
theorem tk_ef (hN : NmOk S) (hL : LnOk S) (hC : CellOk S) (hB : ∀ l, l ∈ B → S (2100 + l) = g) (hx : ¬ x = g) (hi : i < 20) (h : ¬ efA S i x = -1) : ¬ efA (tkS S B) i x = -1 := by
  rw [ef_m1] at h ⊢
  rw [tk_ag _ (by omega) (by omega), tk_de hN hL hC hB hx hi, tk_ic hN hL hC hB hx hi, tk_ic hN hL hC hB hx hi]
  exact h
end TD
theorem sea_p {S : Nat → Int32} (W : Wf S) (a1 : S 6501 = nI 1) : ∃ p, S 6502 = nI p ∧ p < (S 6503).toNatClampNeg ∧ p0S S = p := by
  obtain ⟨d1, d2, d3⟩ := dy_ok W.y
  rcases W.y with ⟨-, ⟨b1, b2⟩ | ⟨b1, p, b2, b3⟩⟩
  · rw [a1] at b1; exact absurd b1 (by decide)
  · exact ⟨p, b2, b3, by unfold p0S; rw [if_pos a1, b2]; exact cl_nI (by omega)⟩
theorem sea_k {S : Nat → Int32} (W : Wf S) (a1 : S 6501 = nI 1) : ∀ i, i < 20 → ¬ efA S i (S 6502) = -1 := by
  obtain ⟨p, p1, p2, p3⟩ := sea_p W a1
  intro i hi
  rw [p1]
  exact W.k a1 p (by omega) p2 i hi
/-- what a port changes beside lanes, loads and rows -/
theorem arE_off {S : Nat → Int32} {y : Nat} (h1 : y ≠ 6501) (h2 : y ≠ 6502) (h4 : y ≠ 6504) : arE S y = arS S (S 6502) y := by
  unfold arE
  split
  · rw [up1_ne h2, up1_ne h1, up1_ne h2, up1_ne h4]
  · rw [up1_ne h2, up1_ne h4]
theorem arE_4 {S : Nat → Int32} : arE S 6504 = S 6504 + nI (alL S (S 6502) 20).1.length := by
  unfold arE
  split
  · rw [up1_ne (by omega), up1_ne (by omega), up1_ne (by omega), up1_eq]
  · rw [up1_ne (by omega), up1_eq]
theorem wf_arrive {S : Nat → Int32} (W : Wf S) (a1 : S 6501 = nI 1) : Wf (arE S) := by
  obtain ⟨p, p1, p2, p3⟩ := sea_p W a1
  obtain ⟨d1, d2, d3⟩ := dy_ok W.y
  have G := al_G (e := nI 0) W.nm W.ln W.c (sea_k W a1) 20 (Nat.le_refl _)
  have gm := G.m W.nm
  have gl := G.l W.nm
  have hB : ∀ l, l ∈ (alL S (S 6502) 20).2 → S (2100 + l) = S 6502 := fun l hl => (G.2.2.2 l hl).2
  have hT : arS S (S 6502) = tcS S (alL S (S 6502) 20).1 (alL S (S 6502) 20).2 := rfl
  have off := fun y h1 h2 h4 => arE_off (S := S) (y := y) h1 h2 h4
  rw [hT] at off
  generalize (alL S (S 6502) 20).1 = A at *
  generalize (alL S (S 6502) 20).2 = B at *
  have WT := tc_b (A := A) (B := B) W.b gm gl
  have al : AgL (tcS S A B) (arE S) := ⟨fun y hy => off y (by omega) (by omega) (by omega), off _ (by omega) (by omega) (by omega)⟩
  have al2 := rw_agl (S := tkS S B) gm gl
  have hD : WfD (tcS S A B) := al2.d (tk_ag.nmok W.nm) (tk_ag.d W.nm W.d)
  have e3 : arE S 6503 = S 6503 := by rw [off _ (by omega) (by omega) (by omega), tc_hi (by omega) (by omega) (by omega) gm gl]
  have e7 : arE S 6507 = nI 0 := by rw [off _ (by omega) (by omega) (by omega), tc_hi (by omega) (by omega) (by omega) gm gl]; exact W.s a1
  have ek : ak (arE S) = 0 := by unfold ak; rw [e7]; rfl
  have e12 : (arE S 6501 = nI 0 ∧ arE S 6502 = -1) ∨ (arE S 6501 = nI 1 ∧ arE S 6502 = nI (p + 1) ∧ p + 1 < (S 6503).toNatClampNeg) := by
    unfold arE
    by_cases hc : S 6502 + nI 1 = S 6503
    · rw [if_pos hc]
      left
      exact ⟨by rw [up1_ne (by omega), up1_eq], by rw [up1_eq]⟩
    · rw [if_neg hc]
      right
      refine ⟨?_, by rw [up1_eq, p1, nI_add], ?_⟩
      · rw [up1_ne (by omega), up1_ne (by omega), hT, tc_hi (by omega) (by omega) (by omega) gm gl]
        exact a1
      · rw [p1, nI_add, d1, eq_nI (by omega) (by omega)] at hc
        omega
  refine ⟨al.lnok WT.ln, al.nmok WT.nm, al.t WT.t, al.d WT.nm hD, al.w WT.nm WT.ln WT.w, al.c WT.nm WT.ln WT.c, ⟨⟨_, by rw [e3]; exact d1, d2, d3⟩, ?_⟩, ⟨by rw [ek]; exact e7, by omega⟩, by rw [ek]; trivial, (tc_m5 gm gl).of (off _ (by omega) (by omega) (by omega)), (tc_m6 gm gl).of (off _ (by omega) (by omega) (by omega)), fun _ => e7, fun hsea r hr1 hr2 i hi => ?_⟩
  · rcases e12 with h | ⟨h1, h2, h3⟩
    · exact Or.inl h
    · exact Or.inr ⟨h1, p + 1, h2, by rw [e3]; exact h3⟩
  · rcases e12 with h | ⟨h1, h2, h3⟩
    · rw [h.1] at hsea; exact absurd hsea (by decide)
    · have hp0 : p0S (arE S) = p + 1 := by unfold p0S; rw [if_pos h1, h2]; exact cl_nI (by omega)
      rw [hp0] at hr1
      rw [e3] at hr2
      rw [al.ef WT.nm WT.ln WT.c.ok hi]
      have e5 : efA (tcS S A B) i (nI r) = efA (tkS S B) i (nI r) := al2.ef (tk_ag.nmok W.nm) (tk_ag.lnok W.ln) (tk_C W.nm W.ln W.c).ok hi
      rw [e5]
      refine tk_ef W.nm W.ln W.c.ok hB ?_ hi (W.k a1 r (by omega) hr2 i hi)
      rw [p1, eq_nI (by omega) (by omega)]
      omega
/-! comeToPort -/
theorem ShV.clr {m : am_M} {a : Nat} {S : Nat → Int32} {L : Int64} (v : ShV m a S L) (hL : LnOk S) (hN : NmOk S) (hA : AkOk S) : ShV (sA (sA m (a + 21) (up1 (mI m (a + 21)) 1 (nI 0))) (a + 23) (up1 (mI m (a + 23)) 1 (nI 0))) a (tcS S [] []) L := by
  have e : tcS S [] [] = up1 (up1 S 6505 (nI 0)) 6506 (nI 0) := by unfold tcS; rw [tk_nil, rw_nil]
  rw [e]
  refine v.row hL hN hA (fun y y1 y2 y3 => ?_) (fun x hx => ?_) rfl ?_ ?_
  · rw [up1_ne y3, up1_ne y2]
  · rw [I_sA' _ _ (by omega), I_sA' _ _ (by omega)]
  · unfold RwV
    rw [I_sA' _ _ (by omega), I_sA, up1_eq, up1_ne (by omega), up1_eq]
    exact ⟨rfl, fun j hj => by have : (nI 0).toNatClampNeg = 0 := rfl; omega⟩
  · unfold RwV
    rw [I_sA, up1_eq, up1_eq]
    exact ⟨rfl, fun j hj => by have : (nI 0).toNatClampNeg = 0 := rfl; omega⟩
theorem sp_83_loop {d a : Nat} {g : Int32} {S : Nat → Int32} {L : Int64} (W : Wb S) (hA : AkOk S) (hk : ∀ i, i < 20 → ¬ efA S i g = -1) (hg : S 6502 = g) : ∀ r i (m : am_M), i + r = 20 → ShK m a → ShV m a (tcS S (alL S g i).1 (alL S g i).2) L →
    ∃ m', ev (d + 5) 83 26 [some (.ref a), some (.int (nI i))] [] m = ev (d + 5) 83 52 [some (.ref a), some (.int (nI 20))] [] m' ∧ Fr a m m' ∧ ShV m' a (tcS S (alL S g 20).1 (alL S g 20).2) L := by
  intro r
  induction r with
  | zero =>
    intro i m hi k v
    have hi' : i = 20 := by omega
    subst hi'
    have hnl : ¬ 20 < 20 := by omega
    refine ⟨m, ?_, Fr.refl a m, v⟩
    rw [e83_26]
    simp (disch := first | (simp (disch := omega) only [am_k_some, va_rf_some, va_rf_none, tl_some, tl_none, am_clr_int, am_clr_ref, am_clr_none, am_clr_long, am_w_nil, am_w_int, am_w_ref, am_w_long, am_w_null, am_bb_0, am_bb_1, am_bb_bI, xK_sI, xR_sI, xS_sI, xN_sI, xK_sL, xR_sL, xS_sL, xN_sL, xK_sR, xR_sR, xS_sR, xN_sR, xK_sA, xR_sA, xS_sA, xN_sA, Nat.reduceAdd, Nat.reduceLeDiff, sI_sA, I_sA', sA_sA, I_sA, I_sA', nI_add, mul_nI, bI_0, bI_1, k.k, ix_nI, cl_nI]; done) | omega | assumption) only [e83_0, e83_1, e83_4, e83_7, e83_9, e83_10, e83_11, e83_14, e83_17, e83_18, e83_21, e83_24, e83_25, e83_27, e83_29, e83_32, e83_33, e83_34, e83_37, e83_38, e83_39, e83_40, e83_43, e83_46, e83_49, e83_53, e83_53r, e83_54, e83_57, e83_58, e83_61, e83_64, e83_65, e83_68, e83_69, e83_70, e83_73, e83_74, e83_75, e83_76, e83_79, e83_82, e83_83, e83_86, e83_87, e83_88, e83_91, e83_92, e83_95, e83_96, e83_99, e83_102, am_k_some, va_rf_some, va_rf_none, tl_some, tl_none, am_clr_int, am_clr_ref, am_clr_none, am_clr_long, am_w_nil, am_w_int, am_w_ref, am_w_long, am_w_null, am_bb_0, am_bb_1, am_bb_bI, xK_sI, xR_sI, xS_sI, xN_sI, xK_sL, xR_sL, xS_sL, xN_sL, xK_sR, xR_sR, xS_sR, xN_sR, xK_sA, xR_sA, xS_sA, xN_sA, Nat.reduceAdd, Nat.reduceLeDiff, sI_sA, I_sA', sA_sA, I_sA, I_sA', nI_add, mul_nI, bI_0, bI_1, ix_nI, cl_nI, lt_nI, eq_nI, sub_nI, Nat.reduceEqDiff, Nat.one_ne_zero, Nat.not_lt_zero, ↓reduceIte, hnl]
  | succ r ih =>
    intro i m hi k v
    have hnl : i < 20 := by omega
    have G := al_G (e := nI 0) W.nm W.ln W.c hk i (by omega)
    have kl := k.la i hnl
    have h9 : mI m a 9 = g := by rw [v.sc.2.2.2, tc_hi (by omega) (by omega) (by omega) (G.m W.nm) (G.l W.nm)]; exact hg
    obtain ⟨m1, e1, f1, s1⟩ := sp_84 (d := d) (g := g) k W hA hnl (hk i hnl) G v
    have s1' : ShV m1 a (tcS S (alL S g (i + 1)).1 (alL S g (i + 1)).2) L := by
      rw [alL]
      by_cases h2 : efA S i g < nI 2
      · rw [if_pos h2] at s1 ⊢
        exact s1
      · rw [if_neg h2] at s1 ⊢
        exact s1
    obtain ⟨m2, e2, f2, s2⟩ := ih (i + 1) m1 (by omega) (k.fr f1) s1'
    refine ⟨m2, ?_, f1.trans f2, s2⟩
    rw [e83_26]
    simp (disch := first | (simp (disch := omega) only [am_k_some, va_rf_some, va_rf_none, tl_some, tl_none, am_clr_int, am_clr_ref, am_clr_none, am_clr_long, am_w_nil, am_w_int, am_w_ref, am_w_long, am_w_null, am_bb_0, am_bb_1, am_bb_bI, xK_sI, xR_sI, xS_sI, xN_sI, xK_sL, xR_sL, xS_sL, xN_sL, xK_sR, xR_sR, xS_sR, xN_sR, xK_sA, xR_sA, xS_sA, xN_sA, Nat.reduceAdd, Nat.reduceLeDiff, sI_sA, I_sA', sA_sA, I_sA, I_sA', nI_add, mul_nI, bI_0, bI_1, k.k, k.r0, k.k0, k.rl, kl.k, ix_nI, cl_nI]; done) | omega | assumption) only [e83_0, e83_1, e83_4, e83_7, e83_9, e83_10, e83_11, e83_14, e83_17, e83_18, e83_21, e83_24, e83_25, e83_27, e83_29, e83_32, e83_33, e83_34, e83_37, e83_38, e83_39, e83_40, e83_43, e83_46, e83_49, e83_53, e83_53r, e83_54, e83_57, e83_58, e83_61, e83_64, e83_65, e83_68, e83_69, e83_70, e83_73, e83_74, e83_75, e83_76, e83_79, e83_82, e83_83, e83_86, e83_87, e83_88, e83_91, e83_92, e83_95, e83_96, e83_99, e83_102, am_k_some, va_rf_some, va_rf_none, tl_some, tl_none, am_clr_int, am_clr_ref, am_clr_none, am_clr_long, am_w_nil, am_w_int, am_w_ref, am_w_long, am_w_null, am_bb_0, am_bb_1, am_bb_bI, xK_sI, xR_sI, xS_sI, xN_sI, xK_sL, xR_sL, xS_sL, xN_sL, xK_sR, xR_sR, xS_sR, xN_sR, xK_sA, xR_sA, xS_sA, xN_sA, Nat.reduceAdd, Nat.reduceLeDiff, sI_sA, I_sA', sA_sA, I_sA, I_sA', nI_add, mul_nI, bI_0, bI_1, k.k, k.r0, k.k0, k.rl, ix_nI, cl_nI, lt_nI, eq_nI, sub_nI, Nat.reduceEqDiff, Nat.one_ne_zero, Nat.not_lt_zero, ↓reduceIte, hnl, h9, e1, e2]
theorem sp_83q {d a : Nat} {m : am_M} {S : Nat → Int32} {L : Int64} (k : ShK m a) (v : ShV m a S L) (W : Wf S) (a1 : ¬ S 6501 = nI 1) : cal (d + 5) 83 [.ref a] m = some (some (.int (-2)), m) := by
  have q := sp_65w (d := d + 4) k v W.y
  rw [decide_eq_false a1] at q
  simp (disch := first | (simp (disch := omega) only [am_k_some, va_rf_some, va_rf_none, tl_some, tl_none, am_clr_int, am_clr_ref, am_clr_none, am_clr_long, am_w_nil, am_w_int, am_w_ref, am_w_long, am_w_null, am_bb_0, am_bb_1, am_bb_bI, xK_sI, xR_sI, xS_sI, xN_sI, xK_sL, xR_sL, xS_sL, xN_sL, xK_sR, xR_sR, xS_sR, xN_sR, xK_sA, xR_sA, xS_sA, xN_sA, Nat.reduceAdd, Nat.reduceLeDiff, sI_sA, I_sA', sA_sA, I_sA, I_sA', nI_add, mul_nI, bI_0, bI_1, k.k, ix_nI, cl_nI]; done) | omega | assumption) only [c83, e83_0, e83_1, e83_4, e83_7, e83_9, e83_10, e83_11, e83_14, e83_17, e83_18, e83_21, e83_24, e83_25, e83_27, e83_29, e83_32, e83_33, e83_34, e83_37, e83_38, e83_39, e83_40, e83_43, e83_46, e83_49, e83_53, e83_53r, e83_54, e83_57, e83_58, e83_61, e83_64, e83_65, e83_68, e83_69, e83_70, e83_73, e83_74, e83_75, e83_76, e83_79, e83_82, e83_83, e83_86, e83_87, e83_88, e83_91, e83_92, e83_95, e83_96, e83_99, e83_102, am_k_some, va_rf_some, va_rf_none, tl_some, tl_none, am_clr_int, am_clr_ref, am_clr_none, am_clr_long, am_w_nil, am_w_int, am_w_ref, am_w_long, am_w_null, am_bb_0, am_bb_1, am_bb_bI, xK_sI, xR_sI, xS_sI, xN_sI, xK_sL, xR_sL, xS_sL, xN_sL, xK_sR, xR_sR, xS_sR, xN_sR, xK_sA, xR_sA, xS_sA, xN_sA, Nat.reduceAdd, Nat.reduceLeDiff, sI_sA, I_sA', sA_sA, I_sA, I_sA', nI_add, mul_nI, bI_0, bI_1, k.k, ix_nI, cl_nI, lt_nI, eq_nI, sub_nI, Nat.reduceEqDiff, Nat.one_ne_zero, Nat.not_lt_zero, ↓reduceIte, q, Bool.not_false, bI_t, n10]
theorem sp_83 {d a : Nat} {m : am_M} {S : Nat → Int32} {L : Int64} (k : ShK m a) (v : ShV m a S L) (W : Wf S) (a1 : S 6501 = nI 1) : ∃ m', cal (d + 5) 83 [.ref a] m = some (some (.int (nI (alL S (S 6502) 20).1.length)), m') ∧ Fr a m m' ∧ ShV m' a (arE S) L := by
  obtain ⟨p, p1, p2, p3⟩ := sea_p W a1
  obtain ⟨d1, d2, d3⟩ := dy_ok W.y
  have q := sp_65w (d := d + 4) k v W.y
  rw [decide_eq_true a1] at q
  have v0 := v.clr W.ln W.nm W.a
  have f0 : Fr a m (sA (sA m (a + 21) (up1 (mI m (a + 21)) 1 (nI 0))) (a + 23) (up1 (mI m (a + 23)) 1 (nI 0))) := ((Fr.refl a m).sA (by omega) (by omega)).sA (by omega) (by omega)
  have c1 := sp_59 (d := d + 4) k.ash
  have f01 : Fr a m (sA m (a + 21) (up1 (mI m (a + 21)) 1 (nI 0))) := (Fr.refl a m).sA (by omega) (by omega)
  have k01 := k.fr f01
  have c2 := sp_59 (d := d + 4) k01.dep
  rw [I_sA' _ _ (by omega)] at c2
  have k0 := k.fr f0
  generalize hm0 : sA (sA m (a + 21) (up1 (mI m (a + 21)) 1 (nI 0))) (a + 23) (up1 (mI m (a + 23)) 1 (nI 0)) = m0 at *
  generalize sA m (a + 21) (up1 (mI m (a + 21)) 1 (nI 0)) = m01 at *
  obtain ⟨m1, e1, f1, s1⟩ := sp_83_loop (d := d) (g := S 6502) W.b W.a (sea_k W a1) rfl 20 0 m0 rfl k0 v0
  have G := al_G (e := nI 0) W.nm W.ln W.c (sea_k W a1) 20 (Nat.le_refl _)
  have gm := G.m W.nm
  have gl := G.l W.nm
  have k1 := k0.fr f1
  have hT : arS S (S 6502) = tcS S (alL S (S 6502) 20).1 (alL S (S 6502) 20).2 := rfl
  have off := fun y h1 h2 h4 => arE_off (S := S) (y := y) h1 h2 h4
  have e4 := arE_4 (S := S)
  rw [hT] at off
  have e2 : arE S 6502 = if p + 1 < (S 6503).toNatClampNeg then nI (p + 1) else -1 := by
    unfold arE
    by_cases hc : S 6502 + nI 1 = S 6503
    · rw [if_pos hc, up1_eq]
      rw [p1, nI_add, d1, eq_nI (by omega) (by omega)] at hc
      rw [if_neg (by omega)]
    · rw [if_neg hc, up1_eq, p1, nI_add]
      rw [p1, nI_add, d1, eq_nI (by omega) (by omega)] at hc
      rw [if_pos (by omega)]
  generalize (alL S (S 6502) 20).1 = A at *
  generalize (alL S (S 6502) 20).2 = B at *
  have WT := tc_b (A := A) (B := B) W.b gm gl
  have h6 : mI m1 a 6 = S 6504 := by rw [s1.sc.1, tc_hi (by omega) (by omega) (by omega) gm gl]
  have h7 : mI m1 a 7 = nI (S 6503).toNatClampNeg := by rw [s1.sc.2.1, tc_hi (by omega) (by omega) (by omega) gm gl]; exact d1
  have h9 : mI m1 a 9 = nI p := by rw [s1.sc.2.2.2, tc_hi (by omega) (by omega) (by omega) gm gl]; exact p1
  have ha : mI m1 (a + 21) 1 = nI A.length := by rw [s1.ash.1, tc_5 gm gl]
  have u7 : ∀ v, up1 (mI m1 a) 6 v 7 = nI (S 6503).toNatClampNeg := fun v => by rw [up1_ne (by omega), h7]
  have u9 : ∀ v, up1 (mI m1 a) 6 v 9 = nI p := fun v => by rw [up1_ne (by omega), h9]
  refine ⟨sA m1 a (up1 (up1 (mI m1 a) 6 (S 6504 + nI A.length)) 9 (arE S 6502)), ?_, (f0.trans f1).sA (by omega) (by omega), ?_⟩
  · rw [e2]
    by_cases hc : p + 1 < (S 6503).toNatClampNeg
    · simp (disch := first | (simp (disch := omega) only [am_k_some, va_rf_some, va_rf_none, tl_some, tl_none, am_clr_int, am_clr_ref, am_clr_none, am_clr_long, am_w_nil, am_w_int, am_w_ref, am_w_long, am_w_null, am_bb_0, am_bb_1, am_bb_bI, xK_sI, xR_sI, xS_sI, xN_sI, xK_sL, xR_sL, xS_sL, xN_sL, xK_sR, xR_sR, xS_sR, xN_sR, xK_sA, xR_sA, xS_sA, xN_sA, Nat.reduceAdd, Nat.reduceLeDiff, sI_sA, I_sA', sA_sA, I_sA, I_sA', nI_add, mul_nI, bI_0, bI_1, k.k, k.r4, k.ash.k, k01.k, k01.r5, k01.dep.k, k1.k, k1.r4, k1.ash.k, ix_nI, cl_nI]; done) | omega | assumption) only [c83, e83_0, e83_1, e83_4, e83_7, e83_9, e83_10, e83_11, e83_14, e83_17, e83_18, e83_21, e83_24, e83_25, e83_27, e83_29, e83_32, e83_33, e83_34, e83_37, e83_38, e83_39, e83_40, e83_43, e83_46, e83_49, e83_53, e83_53r, e83_54, e83_57, e83_58, e83_61, e83_64, e83_65, e83_68, e83_69, e83_70, e83_73, e83_74, e83_75, e83_76, e83_79, e83_82, e83_83, e83_86, e83_87, e83_88, e83_91, e83_92, e83_95, e83_96, e83_99, e83_102, am_k_some, va_rf_some, va_rf_none, tl_some, tl_none, am_clr_int, am_clr_ref, am_clr_none, am_clr_long, am_w_nil, am_w_int, am_w_ref, am_w_long, am_w_null, am_bb_0, am_bb_1, am_bb_bI, xK_sI, xR_sI, xS_sI, xN_sI, xK_sL, xR_sL, xS_sL, xN_sL, xK_sR, xR_sR, xS_sR, xN_sR, xK_sA, xR_sA, xS_sA, xN_sA, Nat.reduceAdd, Nat.reduceLeDiff, sI_sA, I_sA', sA_sA, I_sA, I_sA', nI_add, mul_nI, bI_0, bI_1, k.k, k.r4, k.ash.k, k01.k, k01.r5, k01.dep.k, k1.k, k1.r4, k1.ash.k, ix_nI, cl_nI, lt_nI, eq_nI, sub_nI, Nat.reduceEqDiff, Nat.one_ne_zero, Nat.not_lt_zero, ↓reduceIte, q, Bool.not_true, bI_f, c1, c2, e1, e83_52, e83_53r, h6, h7, h9, ha, u7, u9, hc]
    · simp (disch := first | (simp (disch := omega) only [am_k_some, va_rf_some, va_rf_none, tl_some, tl_none, am_clr_int, am_clr_ref, am_clr_none, am_clr_long, am_w_nil, am_w_int, am_w_ref, am_w_long, am_w_null, am_bb_0, am_bb_1, am_bb_bI, xK_sI, xR_sI, xS_sI, xN_sI, xK_sL, xR_sL, xS_sL, xN_sL, xK_sR, xR_sR, xS_sR, xN_sR, xK_sA, xR_sA, xS_sA, xN_sA, Nat.reduceAdd, Nat.reduceLeDiff, sI_sA, I_sA', sA_sA, I_sA, I_sA', nI_add, mul_nI, bI_0, bI_1, k.k, k.r4, k.ash.k, k01.k, k01.r5, k01.dep.k, k1.k, k1.r4, k1.ash.k, ix_nI, cl_nI]; done) | omega | assumption) only [c83, e83_0, e83_1, e83_4, e83_7, e83_9, e83_10, e83_11, e83_14, e83_17, e83_18, e83_21, e83_24, e83_25, e83_27, e83_29, e83_32, e83_33, e83_34, e83_37, e83_38, e83_39, e83_40, e83_43, e83_46, e83_49, e83_53, e83_53r, e83_54, e83_57, e83_58, e83_61, e83_64, e83_65, e83_68, e83_69, e83_70, e83_73, e83_74, e83_75, e83_76, e83_79, e83_82, e83_83, e83_86, e83_87, e83_88, e83_91, e83_92, e83_95, e83_96, e83_99, e83_102, am_k_some, va_rf_some, va_rf_none, tl_some, tl_none, am_clr_int, am_clr_ref, am_clr_none, am_clr_long, am_w_nil, am_w_int, am_w_ref, am_w_long, am_w_null, am_bb_0, am_bb_1, am_bb_bI, xK_sI, xR_sI, xS_sI, xN_sI, xK_sL, xR_sL, xS_sL, xN_sL, xK_sR, xR_sR, xS_sR, xN_sR, xK_sA, xR_sA, xS_sA, xN_sA, Nat.reduceAdd, Nat.reduceLeDiff, sI_sA, I_sA', sA_sA, I_sA, I_sA', nI_add, mul_nI, bI_0, bI_1, k.k, k.r4, k.ash.k, k01.k, k01.r5, k01.dep.k, k1.k, k1.r4, k1.ash.k, ix_nI, cl_nI, lt_nI, eq_nI, sub_nI, Nat.reduceEqDiff, Nat.one_ne_zero, Nat.not_lt_zero, ↓reduceIte, q, Bool.not_true, bI_f, c1, c2, e1, e83_52, e83_53r, h6, h7, h9, ha, u7, u9, hc]
  · have hm : ∀ x, x ≠ a → mI (sA m1 a (up1 (up1 (mI m1 a) 6 (S 6504 + nI A.length)) 9 (arE S 6502))) x = mI m1 x := fun x hx => I_sA' _ _ hx
    have al : AgL (tcS S A B) (arE S) := ⟨fun y hy => off y (by omega) (by omega) (by omega), off _ (by omega) (by omega) (by omega)⟩
    refine ⟨fun i hi => al.la WT.nm WT.ln hi ((s1.la hi).mem (hm _ (by omega)) (hm _ (by omega))), al.lo WT.nm (s1.lo.mem fun k hk => hm _ (by omega)), ?_, ?_, ?_, ?_, ?_⟩
    · exact (s1.ac.mem (fun k hk => hm _ (by omega))).arr (fun y hy => off y (by omega) (by omega) (by omega)) (tc_a W.a gm gl)
    · exact (s1.pl.mem (fun k hk => hm _ (by omega))).arr (fun y y1 y2 => off _ (by omega) (by omega) (by omega))
    · exact (s1.ash.mem (hm _ (by omega)) (hm _ (by omega))).arr (tc_m5 gm gl) (off _ (by omega) (by omega) (by omega)) (fun j hj => off _ (by omega) (by omega) (by omega))
    · exact (s1.dep.mem (hm _ (by omega)) (hm _ (by omega))).arr (tc_m6 gm gl) (off _ (by omega) (by omega) (by omega)) (fun j hj => off _ (by omega) (by omega) (by omega))
    · unfold ScV
      rw [I_sA, up1_ne (by omega), up1_eq, up1_ne (by omega), up1_ne (by omega), up1_eq, e4, off 6503 (by omega) (by omega) (by omega), s1.sc.2.1]
      exact ⟨rfl, rfl, s1.sc.2.2.1, rfl⟩
