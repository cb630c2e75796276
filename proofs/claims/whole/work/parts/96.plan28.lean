/-! THE CALL: stow -/
/-- stand leaves the plan as it is -/
theorem sp_73x {d a l i q : Nat} {m : am_M} {S : Nat → Int32} {L : Int64} (k : ShK m a) (v : ShV m a S L) (hL : LnOk S) (hN : NmOk S) (hA : AkOk S) (h5 : MvOk S 6505) (h6 : MvOk S 6506) (hl : l < nm S) (hi : i < 20) (hq : q + spanS S l ≤ lenS S i) (h0 : ¬ S (3300 + l) = nI 1) (he : EmR S l i q) :
    ∃ m', cal (d + 2) 73 [.ref a, .int (nI l), .int (nI i), .int (nI q)] m = some (none, m') ∧ Fr a m m' ∧ ShV m' a (putS S l i q) L ∧ ∀ x, a + 12 ≤ x → x ≤ a + 25 → mI m' x = mI m x := by
  obtain ⟨m', e, F, V⟩ := sp_73 (d := d) k v hL hN hA h5 h6 hl hi hq h0 he
  refine ⟨m', e, F, V, fun x h1 h2 => ?_⟩
  have n2 := hN.2
  have l2 := lenS_le hL hi
  have kl := k.la i hi
  have vl := v.la hi
  obtain ⟨w1, -⟩ := v.lo.2 l hl
  have f22 := sp_22 (d := d + 1) (v := nI l) kl vl.1 l2 hq
  have s1 : ∀ d', cal d' 134 [.int (S (900 + l))] (m : am_M) = some (some (.int (nI (spanS S l))), m) := fun d' => sp_134
  have f28 := fun m' (kl : LoK m' (a + 2)) => sp_28 (d := d + 1) (m := m') (s := nI 1) (i := nI i) (p := nI q) kl (show l < 400 by omega)
  have f28 := f28 (sA (sA m (a + 26 + 2 * i + 1) (fillS (mI m (a + 26 + 2 * i + 1)) q (spanS S l) (nI l))) (a + 26 + 2 * i) (up1 (mI m (a + 26 + 2 * i)) 5 (mI m (a + 26 + 2 * i) 5 + nI 1))) k.lo
  have e2 : cal (d + 2) 73 [.ref a, .int (nI l), .int (nI i), .int (nI q)] m = some (none, lpM (sA (sA m (a + 26 + 2 * i + 1) (fillS (mI m (a + 26 + 2 * i + 1)) q (spanS S l) (nI l))) (a + 26 + 2 * i) (up1 (mI m (a + 26 + 2 * i)) 5 (mI m (a + 26 + 2 * i) 5 + nI 1))) (a + 2) l (nI 1) (nI i) (nI q)) := by
    simp (disch := first | (simp (disch := omega) only [am_k_some, va_rf_some, va_rf_none, tl_some, tl_none, am_clr_int, am_clr_ref, am_clr_none, am_clr_long, am_w_nil, am_w_int, am_w_ref, am_w_long, am_w_null, am_bb_0, am_bb_1, am_bb_bI, xK_sI, xR_sI, xS_sI, xN_sI, xK_sL, xR_sL, xS_sL, xN_sL, xK_sR, xR_sR, xS_sR, xN_sR, xK_sA, xR_sA, xS_sA, xN_sA, Nat.reduceAdd, Nat.reduceLeDiff, sI_sA, I_sA', sA_sA, I_sA, I_sA', nI_add, mul_nI, bI_0, bI_1, k.k, k.r0, k.k0, k.rl, k.r1, k.lo.k, k.lo.r0, k.lo.k0, k.lo.r7, k.lo.k7, k.lo.r8, k.lo.k8, kl.k, kl.r0, kl.k0, LaK_sA, LoK_sA, ix_nI, cl_nI]; done) | omega | assumption) only [c73, e73_0, e73_1, e73_4, e73_5, e73_6, e73_7, e73_8, e73_11, e73_14, e73_15, e73_16, e73_19, e73_20, e73_23, e73_24, e73_27, e73_28, e73_29, e73_29r, e73_30, e73_33, e73_34, e73_35, e73_38, e73_39, e73_42, e73_43, e73_44, e73_45, e73_46, e73_49, am_k_some, va_rf_some, va_rf_none, tl_some, tl_none, am_clr_int, am_clr_ref, am_clr_none, am_clr_long, am_w_nil, am_w_int, am_w_ref, am_w_long, am_w_null, am_bb_0, am_bb_1, am_bb_bI, xK_sI, xR_sI, xS_sI, xN_sI, xK_sL, xR_sL, xS_sL, xN_sL, xK_sR, xR_sR, xS_sR, xN_sR, xK_sA, xR_sA, xS_sA, xN_sA, Nat.reduceAdd, Nat.reduceLeDiff, sI_sA, I_sA', sA_sA, I_sA, I_sA', nI_add, mul_nI, bI_0, bI_1, k.k, k.r0, k.k0, k.rl, k.r1, k.lo.k, k.lo.r0, k.lo.k0, k.lo.r7, k.lo.k7, k.lo.r8, k.lo.k8, kl.k, kl.r0, kl.k0, ix_nI, cl_nI, lt_nI, eq_nI, sub_nI, Nat.reduceEqDiff, Nat.one_ne_zero, Nat.not_lt_zero, ↓reduceIte, w1, s1, f22, f28]
  rw [e] at e2
  have e3 := (Prod.mk.inj (Option.some.inj e2)).2
  rw [e3, lpM_off (by omega), I_sA' _ _ (by omega), I_sA' _ _ (by omega)]
section SW
variable {S X : Nat → Int32} {n dl : Nat} {th dk : Nat → Nat} {Q : List (Nat × Nat)}
def SwI (S X : Nat → Int32) (n : Nat) (th dk : Nat → Nat) (Q : List (Nat × Nat)) (k : Nat) : Prop :=
  AgM X (swS X th (vL S th dk Q) (vP S th dk Q) k) ∧ WfW (swS X th (vL S th dk Q) (vP S th dk Q) k) ∧ WfC (swS X th (vL S th dk Q) (vP S th dk Q) k) ∧ (∀ y, y < 800 → swS X th (vL S th dk Q) (vP S th dk Q) k y = -1 ∨ ∃ k', k' < k ∧ qS S th dk Q y = nI (th k')) ∧ ∀ k', k ≤ k' → k' < n → swS X th (vL S th dk Q) (vP S th dk Q) k (3300 + th k') = nI 0
/-- what the k-th wants: room, and nobody there -/
theorem sw_k (H : PlH S n dl th dk) (V : Vd S n dl th dk Q) (hl : Q.length = n) (hX : ∀ y, (y < 5300 ∨ 6100 ≤ y) → X y = S y) {k : Nat} (hk : k < n) (I : SwI S X n th dk Q k) : vL S th dk Q k < 20 ∧ vP S th dk Q k < 40 ∧ X (800 + vL S th dk Q k) = nI 1 ∧ vP S th dk Q k + spanS (swS X th (vL S th dk Q) (vP S th dk Q) k) (th k) ≤ ln (swS X th (vL S th dk Q) (vP S th dk Q) k) (vL S th dk Q k) ∧ vP S th dk Q k + spanS (swS X th (vL S th dk Q) (vP S th dk Q) k) (th k) ≤ 40 ∧ EmR (swS X th (vL S th dk Q) (vP S th dk Q) k) (th k) (vL S th dk Q k) (vP S th dk Q k) ∧ swS X th (vL S th dk Q) (vP S th dk Q) k (3300 + th k) = nI 0 := by
  obtain ⟨ag, -, -, ce, ne⟩ := I
  have K := V.pk H
  obtain ⟨x, x1, x2⟩ := us_iff.1 (V.all hl hk)
  obtain ⟨v1, -, -, v4, s⟩ := v_at H K x1
  rw [x2] at v1 v4 s
  have xs := K.st x x1
  obtain ⟨d1, d2⟩ := H.dk _ xs.2.1
  have t4 := H.t4 hk
  have l4 := H.l40 xs.2.1
  have spe : spanS (swS X th (vL S th dk Q) (vP S th dk Q) k) (th k) = spanS S (th k) := by
    rw [ag.span t4]
    unfold spanS
    rw [hX _ (by omega)]
  have lne : ln (swS X th (vL S th dk Q) (vP S th dk Q) k) (dk x.2) = ln S (dk x.2) := by
    rw [ag.lnE d1]
    unfold ln
    rw [hX _ (by omega)]
  have s6 := s.2.2.2.2.2.1
  rw [K.lnE H xs.2.1, K.ag.span t4] at s6
  rw [v1, spe, lne]
  refine ⟨d1, v4, by rw [hX _ (by omega)]; exact d2, s6, by omega, fun t ht => ?_, ne k (Nat.le_refl _) hk⟩
  rw [spe] at ht
  rcases ce (40 * dk x.2 + vP S th dk Q k + t) (by omega) with z | ⟨k', z1, z2⟩
  · exact z
  · exfalso
    have c := s.2.2.2.2.2.2 t (by rw [K.ag.span t4]; exact ht)
    rw [z2, eq_nI (by have := H.t4 (show k' < n by omega); omega) (by omega)] at c
    have := H.inj (show k' < n by omega) hk c
    omega
theorem sw_all (H : PlH S n dl th dk) (V : Vd S n dl th dk Q) (hl : Q.length = n) (hX : ∀ y, (y < 5300 ∨ 6100 ≤ y) → X y = S y) (W : Wf X) : ∀ k, k ≤ n → SwI S X n th dk Q k := by
  have nE : nm X = nm S := by unfold nm; rw [hX _ (by omega)]
  intro k
  induction k with
  | zero =>
    intro _
    refine ⟨AgM.refl, W.w, W.c, fun y hy => Or.inl ?_, fun k' _ hk' => ?_⟩
    · show X y = -1
      rw [hX y (by omega)]; exact H.em y hy
    · have := H.t4 hk'
      show X (3300 + th k') = nI 0
      rw [hX _ (by omega)]; exact (H.th k' hk').2
  | succ k ih =>
    intro hk
    have I := ih (by omega)
    obtain ⟨a1, a2, a3, a4, a5, a6, a7⟩ := sw_k H V hl hX (show k < n by omega) I
    obtain ⟨ag, iw, ic, ce, ne⟩ := I
    have t4 := H.t4 (show k < n by omega)
    have tn := (H.th k (show k < n by omega)).1
    have hn : th k < nm (swS X th (vL S th dk Q) (vP S th dk Q) k) := by rw [ag.nmE, nE]; exact tn
    have ht : swS X th (vL S th dk Q) (vP S th dk Q) k (800 + vL S th dk Q k) = nI 1 := by rw [ag.th a1]; exact a3
    have K := V.pk H
    obtain ⟨x, x1, x2⟩ := us_iff.1 (V.all hl (show k < n by omega))
    obtain ⟨v1, -, -, v4, s⟩ := v_at H K x1
    rw [x2] at v1 v4 s
    have spe : spanS (swS X th (vL S th dk Q) (vP S th dk Q) k) (th k) = spanS S (th k) := by
      rw [ag.span t4]
      unfold spanS
      rw [hX _ (by omega)]
    refine ⟨ag.trans (putS_ag t4 a1 a5), put_W (ag.nmok W.nm) (ag.lnok W.ln) iw hn a1 ht a4 a6, put_C (ag.nmok W.nm) (ag.lnok W.ln) ic hn (by rw [a7]; decide) a1 ht a4 a6, fun y hy => ?_, fun k' h1 h2 => ?_⟩
    · show putS (swS X th (vL S th dk Q) (vP S th dk Q) k) (th k) (vL S th dk Q k) (vP S th dk Q k) y = -1 ∨ _
      by_cases c : 40 * vL S th dk Q k + vP S th dk Q k ≤ y ∧ y < 40 * vL S th dk Q k + vP S th dk Q k + spanS (swS X th (vL S th dk Q) (vP S th dk Q) k) (th k)
      · right
        refine ⟨k, by omega, ?_⟩
        rw [spe] at c
        have z := s.2.2.2.2.2.2 (y - (40 * dk x.2 + vP S th dk Q k)) (by rw [K.ag.span t4]; omega)
        rw [show 40 * dk x.2 + vP S th dk Q k + (y - (40 * dk x.2 + vP S th dk Q k)) = y by omega] at z
        exact z
      · rw [putS_off (by omega) (by omega) (by omega) (by omega)]
        rcases ce y hy with z | ⟨k', z1, z2⟩
        · exact Or.inl z
        · exact Or.inr ⟨k', by omega, z2⟩
    · show putS (swS X th (vL S th dk Q) (vP S th dk Q) k) (th k) (vL S th dk Q k) (vP S th dk Q k) (3300 + th k') = nI 0
      have lt := H.thi k k' (by omega) h2
      have t4' := H.t4 h2
      rw [putS_off (by omega) (by omega) (by omega) (by omega)]
      exact ne k' (by omega) h2
theorem wf_sw (W : Wf X) (hs : ¬ X 6501 = nI 1) (I : SwI S X n th dk Q n) : Wf (up1 (swS X th (vL S th dk Q) (vP S th dk Q) n) 6507 (nI 0)) := by
  obtain ⟨ag, iw, ic, -, -⟩ := I
  generalize swS X th (vL S th dk Q) (vP S th dk Q) n = T at *
  have al : AgL T (up1 T 6507 (nI 0)) := ⟨fun y hy => up1_ne (by omega), up1_ne (by omega)⟩
  have hN := ag.nmok W.nm
  have hL := ag.lnok W.ln
  have ns : ¬ up1 T 6507 (nI 0) 6501 = nI 1 := by rw [up1_ne (by omega), ag 6501 (by omega) (by omega)]; exact hs
  have e7 : up1 T 6507 (nI 0) 6507 = nI 0 := up1_eq
  have ak0 : ak (up1 T 6507 (nI 0)) = 0 := by unfold ak; rw [e7]; rfl
  refine ⟨al.lnok hL, al.nmok hN, al.t (ag.t W.t), al.d hN (ag.d W.nm W.d), al.w hN hL iw, al.c hN hL ic, (ag.y W.y).of (up1_ne (by omega)) (up1_ne (by omega)) (up1_ne (by omega)), ⟨by rw [ak0, e7], by omega⟩, by rw [ak0]; trivial, (ag.mv (by omega) W.m1).of (up1_ne (by omega)), (ag.mv (by omega) W.m2).of (up1_ne (by omega)), fun z => absurd z ns, fun z => absurd z ns⟩
/-- acts forgotten -/
theorem sh_clear {m : am_M} {a : Nat} {T : Nat → Int32} {L : Int64} (v : ShV m a T L) (hN : NmOk T) (hL : LnOk T) (h5 : MvOk T 6505) (h6 : MvOk T 6506) : ShV (sA m (a + 12) (up1 (up1 (mI m (a + 12)) 4 (nI 0)) 5 (nI 0))) a (up1 T 6507 (nI 0)) L := by
  have al : AgL T (up1 T 6507 (nI 0)) := ⟨fun y hy => up1_ne (by omega), up1_ne (by omega)⟩
  have i : ∀ x, x ≠ a + 12 → mI (sA m (a + 12) (up1 (up1 (mI m (a + 12)) 4 (nI 0)) 5 (nI 0))) x = mI m x := fun x hx => I_sA' _ _ hx
  exact ⟨fun j hj => al.la hN hL hj ((v.la hj).mem (i _ (by omega)) (i _ (by omega))), al.lo hN (v.lo.mem (fun x hx => i _ (by omega))), AcV.clear up1_eq, (v.pl.mem (fun x hx => i _ (by omega))).arr (fun y h1 h2 => up1_ne (by omega)), (v.ash.mem (i _ (by omega)) (i _ (by omega))).arr h5 (up1_ne (by omega)) (fun j hj => up1_ne (by omega)), (v.dep.mem (i _ (by omega)) (i _ (by omega))).arr h6 (up1_ne (by omega)) (fun j hj => up1_ne (by omega)), (v.sc.mem (i _ (by omega)) (by rw [mL_sA])).arr (fun y h1 h2 => up1_ne (by omega))⟩
/-- standAsPlanned -/
theorem sp_88 {d a : Nat} {m : am_M} {L : Int64} (H : PlH S n dl th dk) (V : Vd S n dl th dk Q) (hl : Q.length = n) (hX : ∀ y, (y < 5300 ∨ 6100 ≤ y) → X y = S y) (W : Wf X) (k : ShK m a) (v : ShV m a X L) (hs : mI m (a + 17) 3 = nI n) (hp : ∀ k, k < n → mI m (a + 18) k = nI (th k) ∧ mI m (a + 19) k = nI (vL S th dk Q k) ∧ mI m (a + 20) k = nI (vP S th dk Q k)) : ∃ m', cal (d + 3) 88 [.ref a] m = some (none, m') ∧ Fr a m m' ∧ ShV m' a (swS X th (vL S th dk Q) (vP S th dk Q) n) L := by
  have n6 := H.n6
  have nE : nm X = nm S := by unfold nm; rw [hX _ (by omega)]
  have lp : ∀ r i (m1 : am_M), i + r = n → Fr a m m1 → ShV m1 a (swS X th (vL S th dk Q) (vP S th dk Q) i) L → (∀ x, a + 12 ≤ x → x ≤ a + 25 → mI m1 x = mI m x) → ∃ m', ev (d + 3) 88 2 [some (.ref a), some (.int (nI i))] [] m1 = some (none, m') ∧ Fr a m m' ∧ ShV m' a (swS X th (vL S th dk Q) (vP S th dk Q) n) L := by
    intro r
    induction r with
    | zero =>
      intro i m1 hi F1 v1 g1
      have k := k.fr F1
      have kp := k.pl
      have hi' : i = n := by omega
      subst hi'
      have hs1 : mI m1 (a + 17) 3 = nI i := by rw [g1 _ (by omega) (by omega)]; exact hs
      have hnl : ¬ i < i := by omega
      refine ⟨m1, ?_, F1, v1⟩
      rw [e88_2]
      simp (disch := first | (simp (disch := omega) only [am_k_some, va_rf_some, va_rf_none, tl_some, tl_none, am_clr_int, am_clr_ref, am_clr_none, am_clr_long, am_w_nil, am_w_int, am_w_ref, am_w_long, am_w_null, am_bb_0, am_bb_1, am_bb_bI, xK_sI, xR_sI, xS_sI, xN_sI, xK_sL, xR_sL, xS_sL, xN_sL, xK_sR, xR_sR, xS_sR, xN_sR, xK_sA, xR_sA, xS_sA, xN_sA, Nat.reduceAdd, Nat.reduceLeDiff, sI_sA, I_sA', sA_sA, I_sA, I_sA', nI_add, mul_nI, bI_0, bI_1, k.k, k.r3, kp.k, ix_nI, cl_nI]; done) | omega | assumption) only [e88_0, e88_1, e88_3, e88_4, e88_7, e88_10, e88_13, e88_14, e88_15, e88_18, e88_21, e88_22, e88_23, e88_24, e88_27, e88_30, e88_31, e88_32, e88_33, e88_36, e88_39, e88_40, e88_41, e88_44, e88_47, e88_50, am_k_some, va_rf_some, va_rf_none, tl_some, tl_none, am_clr_int, am_clr_ref, am_clr_none, am_clr_long, am_w_nil, am_w_int, am_w_ref, am_w_long, am_w_null, am_bb_0, am_bb_1, am_bb_bI, xK_sI, xR_sI, xS_sI, xN_sI, xK_sL, xR_sL, xS_sL, xN_sL, xK_sR, xR_sR, xS_sR, xN_sR, xK_sA, xR_sA, xS_sA, xN_sA, Nat.reduceAdd, Nat.reduceLeDiff, sI_sA, I_sA', sA_sA, I_sA, I_sA', nI_add, mul_nI, bI_0, bI_1, k.k, k.r3, kp.k, ix_nI, cl_nI, lt_nI, eq_nI, sub_nI, Nat.reduceEqDiff, Nat.one_ne_zero, Nat.not_lt_zero, ↓reduceIte, hs1, hnl]
    | succ r ih =>
      intro i m1 hi F1 v1 g1
      have k := k.fr F1
      have kp := k.pl
      have hnl : i < n := by omega
      have hs1 : mI m1 (a + 17) 3 = nI n := by rw [g1 _ (by omega) (by omega)]; exact hs
      obtain ⟨q1, q2, q3⟩ := hp i hnl
      rw [← g1 _ (by omega) (by omega)] at q1 q2 q3
      have I := sw_all H V hl hX W i (by omega)
      obtain ⟨a1, a2, a3, a4, a5, a6, a7⟩ := sw_k H V hl hX hnl I
      obtain ⟨ag, iw, ic, -, -⟩ := I
      have t4 := H.t4 hnl
      have tn := (H.th i hnl).1
      have ht : swS X th (vL S th dk Q) (vP S th dk Q) i (800 + vL S th dk Q i) = nI 1 := by rw [ag.th a1]; exact a3
      obtain ⟨m2, e2, F2, v2, g2⟩ := sp_73x (d := d) k v1 (ag.lnok W.ln) (ag.nmok W.nm) (ag.akok W.a) (ag.mv (by omega) W.m1) (ag.mv (by omega) W.m2) (show th i < nm (swS X th (vL S th dk Q) (vP S th dk Q) i) by rw [ag.nmE, nE]; exact tn) a1 (by rw [lenS_t ht]; exact a4) (by rw [a7]; decide) a6
      obtain ⟨m', e3, F3, v3⟩ := ih (i + 1) m2 (by omega) (F1.trans F2) v2 (fun x h1 h2 => by rw [g2 x h1 h2]; exact g1 x h1 h2)
      refine ⟨m', ?_, F3, v3⟩
      rw [← e3, e88_2]
      simp (disch := first | (simp (disch := omega) only [am_k_some, va_rf_some, va_rf_none, tl_some, tl_none, am_clr_int, am_clr_ref, am_clr_none, am_clr_long, am_w_nil, am_w_int, am_w_ref, am_w_long, am_w_null, am_bb_0, am_bb_1, am_bb_bI, xK_sI, xR_sI, xS_sI, xN_sI, xK_sL, xR_sL, xS_sL, xN_sL, xK_sR, xR_sR, xS_sR, xN_sR, xK_sA, xR_sA, xS_sA, xN_sA, Nat.reduceAdd, Nat.reduceLeDiff, sI_sA, I_sA', sA_sA, I_sA, I_sA', nI_add, mul_nI, bI_0, bI_1, k.k, k.r3, kp.k, kp.r0, kp.k0, kp.r1, kp.k1, kp.r2, kp.k2, ix_nI, cl_nI]; done) | omega | assumption) only [e88_0, e88_1, e88_3, e88_4, e88_7, e88_10, e88_13, e88_14, e88_15, e88_18, e88_21, e88_22, e88_23, e88_24, e88_27, e88_30, e88_31, e88_32, e88_33, e88_36, e88_39, e88_40, e88_41, e88_44, e88_47, e88_50, am_k_some, va_rf_some, va_rf_none, tl_some, tl_none, am_clr_int, am_clr_ref, am_clr_none, am_clr_long, am_w_nil, am_w_int, am_w_ref, am_w_long, am_w_null, am_bb_0, am_bb_1, am_bb_bI, xK_sI, xR_sI, xS_sI, xN_sI, xK_sL, xR_sL, xS_sL, xN_sL, xK_sR, xR_sR, xS_sR, xN_sR, xK_sA, xR_sA, xS_sA, xN_sA, Nat.reduceAdd, Nat.reduceLeDiff, sI_sA, I_sA', sA_sA, I_sA, I_sA', nI_add, mul_nI, bI_0, bI_1, k.k, k.r3, kp.k, kp.r0, kp.k0, kp.r1, kp.k1, kp.r2, kp.k2, ix_nI, cl_nI, lt_nI, eq_nI, sub_nI, Nat.reduceEqDiff, Nat.one_ne_zero, Nat.not_lt_zero, ↓reduceIte, hs1, hnl, q1, q2, q3, e2]
  obtain ⟨m', e, F, V'⟩ := lp n 0 m (Nat.zero_add _) (Fr.refl a m) v (fun _ _ _ => rfl)
  refine ⟨m', ?_, F, V'⟩
  rw [← e]
  simp only [c88, e88_0, e88_1, am_k_some, va_rf_some, va_rf_none, tl_some, tl_none, am_clr_int, am_clr_ref, am_clr_none, am_clr_long, am_w_nil, am_w_int, am_w_ref, am_w_long, am_w_null, am_bb_0, am_bb_1, am_bb_bI, xK_sI, xR_sI, xS_sI, xN_sI, xK_sL, xR_sL, xS_sL, xN_sL, xK_sR, xR_sR, xS_sR, xN_sR, xK_sA, xR_sA, xS_sA, xN_sA, Nat.reduceAdd, Nat.reduceLeDiff, sI_sA, I_sA', sA_sA, I_sA, I_sA', nI_add, mul_nI, bI_0, bI_1]
end SW
