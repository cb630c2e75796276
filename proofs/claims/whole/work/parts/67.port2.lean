/-! clearLane, comeToPort -/
def tcS (S : Nat → Int32) (A B : List Nat) : Nat → Int32 := rwS (tkS S B) A B
section TC
variable {S : Nat → Int32} {A B : List Nat}
theorem tc_lo {y : Nat} (hy : y < 4500) (ha : A.length ≤ 400) (hb : B.length ≤ 400) : tcS S A B y = tkS S B y := rw_off (by omega) (by omega) (by omega) ha hb
theorem tc_hi {y : Nat} (hy : 5300 ≤ y) (h5 : y ≠ 6505) (h6 : y ≠ 6506) (ha : A.length ≤ 400) (hb : B.length ≤ 400) : tcS S A B y = S y := by
  have e : tcS S A B y = tkS S B y := rw_off (by omega) h5 h6 ha hb
  rw [e, tk_ag y (by omega) (by omega)]
theorem tc_mid {y : Nat} (hy : 800 ≤ y) (hy2 : y < 3300) (ha : A.length ≤ 400) (hb : B.length ≤ 400) : tcS S A B y = S y := by
  rw [tc_lo (by omega) ha hb, tk_ag y (by omega) (by omega)]
theorem tc_nm (ha : A.length ≤ 400) (hb : B.length ≤ 400) : nm (tcS S A B) = nm S := by
  unfold nm
  rw [tc_hi (by omega) (by omega) (by omega) ha hb]
theorem tc_ln {i : Nat} (hi : i < 20) (ha : A.length ≤ 400) (hb : B.length ≤ 400) : ln (tcS S A B) i = ln S i := by
  unfold ln
  rw [tc_mid (by omega) (by omega) ha hb]
theorem tc_b (W : Wb S) (ha : A.length ≤ 400) (hb : B.length ≤ 400) : Wb (tcS S A B) := by
  have al := rw_agl (S := tkS S B) ha hb
  have hL := tk_ag.lnok (S := S) (S' := tkS S B) W.ln
  have hN := tk_ag.nmok (S := S) (S' := tkS S B) W.nm
  exact ⟨al.lnok hL, al.nmok hN, al.t (tk_ag.t W.t), al.w hN hL (tk_W W.nm W.ln W.w), al.c hN hL (tk_C W.nm W.ln W.c)⟩
theorem tc_a (hA : AkOk S) (ha : A.length ≤ 400) (hb : B.length ≤ 400) : AkOk (tcS S A B) := by
  unfold AkOk ak
  rw [tc_hi (by omega) (by omega) (by omega) ha hb]
  exact hA
theorem tc_5 (ha : A.length ≤ 400) (hb : B.length ≤ 400) : tcS S A B 6505 = nI A.length := rw_5 ha hb
theorem tc_6 (ha : A.length ≤ 400) (hb : B.length ≤ 400) : tcS S A B 6506 = nI B.length := rw_6 ha hb
theorem tc_m5 (ha : A.length ≤ 400) (hb : B.length ≤ 400) : MvOk (tcS S A B) 6505 := by
  unfold MvOk
  rw [tc_5 ha hb, cl_nI (by omega)]
  exact ⟨rfl, ha⟩
theorem tc_m6 (ha : A.length ≤ 400) (hb : B.length ≤ 400) : MvOk (tcS S A B) 6506 := by
  unfold MvOk
  rw [tc_6 ha hb, cl_nI (by omega)]
  exact ⟨rfl, hb⟩
end TC
theorem lv_mem {S : Nat → Int32} {i : Nat} {e g : Int32} (hN : NmOk S) (hL : LnOk S) (hC : WfC S) (hi : i < 20) (he : okE e) {l q : Nat} (hl : l < nm S) (hs : StA S l i q) (hg : S (2100 + l) = g) : ∀ k, k ≤ ln S i → fdq (ln S i) e q (spanS S l) < k → l ∈ lvL S i e g k := by
  have l2 := (hL i hi).2
  have n2 := hN.2
  have s6 := hs.2.2.2.2.2.1
  have sp := spanS_le S l
  intro k
  induction k with
  | zero => intro _ h; omega
  | succ k ih =>
    intro hk hf
    rw [lvL, List.mem_append]
    by_cases h : fdq (ln S i) e q (spanS S l) < k
    · exact Or.inl (ih (by omega) h)
    · have hk2 : fdq (ln S i) e q (spanS S l) = k := by omega
      have hpl : q ≤ plK S i e k ∧ plK S i e k < q + spanS S l := by
        unfold fdq at hk2
        unfold plK
        split at hk2
        · next hz => rw [if_pos hz]; omega
        · next hz => rw [if_neg hz]; omega
      have hx : dpS S i (ln S i) e k = nI l := by rw [dp_pl]; exact hs.at hpl.1 hpl.2
      have hld : ldK S i e k = l := by unfold ldK; rw [hx, cl_nI (by omega)]
      have hnw := (nw_iff hN hL hC hi he (by omega) hl hx hs hpl.1 hpl.2).mpr hk2
      right
      rw [hld, if_pos ⟨hnw, hg⟩]
      exact List.mem_singleton.mpr rfl
theorem mc_le {S : Nat → Int32} {i k : Nat} {e g : Int32} (hN : NmOk S) (hL : LnOk S) (hC : WfC S) (hi : i < 20) (he : okE e) (hk : k ≤ ln S i) : (mcL S i e g k).length ≤ (mvL S i e g k).length := by
  rcases he with rfl | rfl
  · rw [mc_0 hN hL hC hi k hk]
    exact Nat.le_refl _
  · rw [mc_1 hN hL hC hi k hk, List.length_append]
    omega
theorem sp_84_loop {d a i b : Nat} {e g : Int32} {S : Nat → Int32} {L : Int64} {MV LF : List Nat} (W : Wb S) (hA : AkOk S) (hi : i < 20) (ht : S (800 + i) = nI 1) (he : okE e) (hb : b < ln S i) (hG : GdL S g i 0 e MV LF) : ∀ r k (m : am_M), k + r = b + 1 → ShK m a → ShV m a (tcS S (MV ++ mcL S i e g k) (LF ++ lvL S i e g k)) L → mI m (a + 25) 0 = e →
    ∃ m', ev (d + 4) 84 39 [some (.ref a), some (.ref (a + 26 + 2 * i)), some (.int g), some (.int (nI b)), some (.int (nI k))] [] m = some (none, m') ∧ Fr a m m' ∧ ShV m' a (tcS S (MV ++ mcL S i e g (b + 1)) (LF ++ lvL S i e g (b + 1))) L := by
  obtain ⟨l1, l2⟩ := W.ln i hi
  have n2 := W.nm.2
  intro r
  induction r with
  | zero =>
    intro k' m hk k v hg0
    have hk' : k' = b + 1 := by omega
    subst hk'
    have hnl : b < b + 1 := by omega
    refine ⟨m, ?_, Fr.refl a m, v⟩
    rw [e84_39]
    simp (disch := first | (simp (disch := omega) only [am_k_some, va_rf_some, va_rf_none, tl_some, tl_none, am_clr_int, am_clr_ref, am_clr_none, am_clr_long, am_w_nil, am_w_int, am_w_ref, am_w_long, am_w_null, am_bb_0, am_bb_1, am_bb_bI, xK_sI, xR_sI, xS_sI, xN_sI, xK_sL, xR_sL, xS_sL, xN_sL, xK_sR, xR_sR, xS_sR, xN_sR, xK_sA, xR_sA, xS_sA, xN_sA, Nat.reduceAdd, Nat.reduceLeDiff, sI_sA, I_sA', sA_sA, I_sA, I_sA', nI_add, mul_nI, bI_0, bI_1, k.k, ix_nI, cl_nI]; done) | omega | assumption) only [e84_0, e84_1, e84_4, e84_5, e84_6, e84_9, e84_10, e84_13, e84_14, e84_17, e84_20, e84_23, e84_26, e84_27, e84_28, e84_31, e84_32, e84_35, e84_36, e84_37, e84_41, e84_42, e84_45, e84_46, e84_47, e84_48, e84_49, e84_52, e84_55, e84_57, e84_60, e84_61, e84_64, e84_67, e84_70, am_k_some, va_rf_some, va_rf_none, tl_some, tl_none, am_clr_int, am_clr_ref, am_clr_none, am_clr_long, am_w_nil, am_w_int, am_w_ref, am_w_long, am_w_null, am_bb_0, am_bb_1, am_bb_bI, xK_sI, xR_sI, xS_sI, xN_sI, xK_sL, xR_sL, xS_sL, xN_sL, xK_sR, xR_sR, xS_sR, xN_sR, xK_sA, xR_sA, xS_sA, xN_sA, Nat.reduceAdd, Nat.reduceLeDiff, sI_sA, I_sA', sA_sA, I_sA, I_sA', nI_add, mul_nI, bI_0, bI_1, ix_nI, cl_nI, lt_nI, eq_nI, sub_nI, Nat.reduceEqDiff, Nat.one_ne_zero, Nat.not_lt_zero, ↓reduceIte, hnl]
  | succ r ih =>
    intro c m hk k v hg0
    have hnl : ¬ b < c := by omega
    have hcl : c < ln S i := by omega
    have G := hG.run W.nm W.ln W.c hi he c (by omega)
    have G1 := hG.run W.nm W.ln W.c hi he (c + 1) (by omega)
    have mle := mc_le (g := g) W.nm W.ln W.c hi he (show c ≤ ln S i by omega)
    have mle1 := mc_le (g := g) W.nm W.ln W.c hi he (show c + 1 ≤ ln S i by omega)
    have gm := G.m W.nm
    have gl := G.l W.nm
    have gm1 := G1.m W.nm
    have gl1 := G1.l W.nm
    have am : (MV ++ mcL S i e g c).length ≤ 400 := by rw [List.length_append] at gm ⊢; omega
    have am1 : (MV ++ mcL S i e g (c + 1)).length ≤ 400 := by rw [List.length_append] at gm1 ⊢; omega
    have ih := fun m => ih (c + 1) m (by omega)
    rw [mcL, lvL, ← List.append_assoc, ← List.append_assoc] at ih
    rw [mcL, ← List.append_assoc] at am1
    rw [lvL, ← List.append_assoc] at gl1
    have hmemB : ∀ l, l ∈ LF ++ lvL S i e g c → Vs S i c e l ∧ S (2100 + l) = g := G.2.2.2
    have hin : ∀ l q, l < nm S → StA S l i q → S (2100 + l) = g → fdq (ln S i) e q (spanS S l) < c → l ∈ LF ++ lvL S i e g c := fun l q h1 h2 h3 h4 => List.mem_append.mpr (Or.inr (lv_mem W.nm W.ln W.c hi he h1 h2 h3 c (by omega) h4))
    generalize MV ++ mcL S i e g c = A at *
    generalize LF ++ lvL S i e g c = B at *
    have kl := k.la i hi
    have vl := v.la hi
    have WT := tc_b (A := A) (B := B) W am gl
    have hAT := tc_a (A := A) (B := B) hA am gl
    have htT : tcS S A B (800 + i) = nI 1 := by rw [tc_mid (by omega) (by omega) am gl]; exact ht
    have hlenT : lenS (tcS S A B) i = ln S i := by rw [lenS_t htT, tc_ln hi am gl]
    have hp : plK S i e c < ln S i := by unfold plK; split <;> omega
    have pa : cal (d + 3) 18 [.ref (a + 26 + 2 * i), .int e, .int (nI c)] m = some (some (.int (nI (plK S i e c))), m) := by
      rw [sp_18 kl, vl.1, hlenT]
      unfold plK
      by_cases hz : e = nI 0
      · rw [if_pos hz, if_pos hz]
      · rw [if_neg hz, if_neg hz, sub_nI (by omega), sub_nI (by omega)]
    -- what meet does
    have step : ∃ m', cal (d + 3) 85 [.ref a, .ref (a + 26 + 2 * i), .int (nI (plK S i e c)), .int g] m = some (none, m') ∧ Fr a m m' ∧ ShV m' a (tcS S (A ++ (if ¬ dpS S i (ln S i) e c < nI 0 ∧ ¬ S (2100 + ldK S i e c) = g ∧ S (4100 + ldK S i e c) = nI (plK S i e c) then [ldK S i e c] else [])) (B ++ (if nwB S i e c = true ∧ S (2100 + ldK S i e c) = g then [ldK S i e c] else []))) L ∧ mI m' (a + 25) = mI m (a + 25) := by
      have hcell : tcS S A B (40 * i + plK S i e c) = if ¬ S (40 * i + plK S i e c) < nI 0 ∧ (S (40 * i + plK S i e c)).toNatClampNeg ∈ B then -1 else S (40 * i + plK S i e c) := by
        rw [tc_lo (by omega) am gl, tk_c (by omega)]
      rcases at_k (e := e) W.nm W.ln W.c hi hcl with hx | ⟨l, q, a1, a2, a3, a4, a5, a6⟩
      · have hnw : nwB S i e c = false := by unfold nwB; rw [decide_eq_true hx]; rfl
        rw [if_neg (fun q => q.1 hx), hnw, if_neg (fun q => by cases q.1), List.append_nil, List.append_nil]
        rw [dp_pl] at hx
        rw [if_neg (fun q => q.1 hx)] at hcell
        exact ⟨m, sp_85n k v WT.ln WT.nm hi (by rw [hlenT]; exact hp) (by rw [hcell]; exact hx), Fr.refl a m, v, rfl⟩
      · have z : ¬ nI l < nI 0 := by rw [lt_nI (by omega) (by omega)]; omega
        have hnw := nw_iff W.nm W.ln W.c hi he hcl a1 a2 a4 a5 a6
        have s6 := a4.2.2.2.2.2.1
        have hx : S (40 * i + plK S i e c) = nI l := by rw [← dp_pl S i e c]; exact a2
        rw [hx, cl_nI (by omega)] at hcell
        rw [a2, a3]
        rw [a3] at am1 gl1
        rw [a2] at am1
        by_cases hg : S (2100 + l) = g
        · rw [if_neg (fun q => q.2.1 hg), List.append_nil]
          by_cases hf : fdq (ln S i) e q (spanS S l) = c
          · -- it leaves
            have hnot : l ∉ B := fun hm => Vs.new W.ln a4 hf (hmemB l hm).1
            rw [if_neg (fun q => hnot q.2)] at hcell
            rw [if_pos ⟨hnw.mpr hf, hg⟩] at gl1 ⊢
            have gl2 : B.length < 400 := by rw [List.length_append] at gl1; simp only [List.length_singleton] at gl1; omega
            have stT : StA (tcS S A B) l i q := (rw_agl am gl).st (tk_ag.lnok W.ln) (by omega) (tk_st W.nm W.ln a1 hnot a4)
            obtain ⟨m', e1, f1, s1, g1⟩ := sp_85d (d := d) (g := g) (n := B.length) k v WT.ln WT.nm hAT (tc_m5 am gl) hi (by rw [hlenT]; exact hp) (by rw [tc_nm am gl]; exact a1) hcell (by rw [tc_mid (by omega) (by omega) am gl]; exact hg) stT (tc_6 am gl) gl2
            refine ⟨m', e1, f1, ?_, g1⟩
            have h4 := a4.2.2.2.1
            have e3 : takeS (up1 (up1 (tcS S A B) (4900 + B.length) (nI l)) 6506 (nI (B.length + 1))) l (nI 2) i q = tcS S A (B ++ [l]) := by
              unfold tcS
              rw [rw_alf am gl2, take_rw am gl1 (by omega) hi (by rw [tk_ag.span (by omega)]; omega), tk_app W.nm W.ln W.c a1 hnot a4]
            rw [← e3]
            exact s1
          · -- it left before
            have hf2 : fdq (ln S i) e q (spanS S l) < c := by
              have := (pv_iff W.nm W.ln W.c hi he hcl a1 a4 a5 a6).2
              omega
            have hmem := hin l q a1 a4 hg hf2
            rw [if_pos ⟨z, hmem⟩] at hcell
            rw [if_neg (fun q => hf (hnw.mp q.1)), List.append_nil]
            exact ⟨m, sp_85n k v WT.ln WT.nm hi (by rw [hlenT]; exact hp) (by rw [hcell]; exact u1), Fr.refl a m, v, rfl⟩
        · have hnot : l ∉ B := fun hm => hg (hmemB l hm).2
          rw [if_neg (fun q => hnot q.2)] at hcell
          rw [if_neg (show ¬ (nwB S i e c = true ∧ S (2100 + l) = g) from fun q => hg q.2), List.append_nil]
          have hpT : tcS S A B (4100 + l) = nI q := by rw [tc_lo (by omega) am gl, tk_p (by omega), if_neg hnot]; exact a4.2.2.1
          have hgT : ¬ tcS S A B (2100 + l) = g := by rw [tc_mid (by omega) (by omega) am gl]; exact hg
          by_cases hqp : q = plK S i e c
          · rw [if_pos ⟨z, hg, by rw [a4.2.2.1, hqp]⟩] at am1 ⊢
            have am2 : A.length < 400 := by rw [List.length_append] at am1; simp only [List.length_singleton] at am1; omega
            obtain ⟨m', e1, f1, s1, g1⟩ := sp_85a (d := d) (g := g) (n := A.length) k v WT.ln WT.nm hAT (tc_m6 am gl) hi (by rw [hlenT]; exact hp) (by rw [tc_nm am gl]; exact a1) hcell hgT (by rw [hpT, hqp]) (tc_5 am gl) am2
            refine ⟨m', e1, f1, ?_, g1⟩
            have e3 : up1 (up1 (tcS S A B) (4500 + A.length) (nI l)) 6505 (nI (A.length + 1)) = tcS S (A ++ [l]) B := by
              unfold tcS
              rw [rw_amv am2 gl]
            rw [← e3]
            exact s1
          · have hne : ¬ S (4100 + l) = nI (plK S i e c) := by rw [a4.2.2.1, eq_nI (by omega) (by omega)]; exact hqp
            rw [if_neg (fun q => hne q.2.2), List.append_nil]
            exact ⟨m, sp_85s k v WT.ln WT.nm hi (by rw [hlenT]; exact hp) (by rw [tc_nm am gl]; exact a1) hcell hgT (by rw [hpT, eq_nI (by omega) (by omega)]; exact hqp), Fr.refl a m, v, rfl⟩
    obtain ⟨m1, e1, f1, s1, g1⟩ := step
    obtain ⟨m2, e2, f2, s2⟩ := ih m1 (k.fr f1) s1 (by rw [g1]; exact hg0)
    refine ⟨m2, ?_, f1.trans f2, s2⟩
    rw [e84_39]
    simp (disch := first | (simp (disch := omega) only [am_k_some, va_rf_some, va_rf_none, tl_some, tl_none, am_clr_int, am_clr_ref, am_clr_none, am_clr_long, am_w_nil, am_w_int, am_w_ref, am_w_long, am_w_null, am_bb_0, am_bb_1, am_bb_bI, xK_sI, xR_sI, xS_sI, xN_sI, xK_sL, xR_sL, xS_sL, xN_sL, xK_sR, xR_sR, xS_sR, xN_sR, xK_sA, xR_sA, xS_sA, xN_sA, Nat.reduceAdd, Nat.reduceLeDiff, sI_sA, I_sA', sA_sA, I_sA, I_sA', nI_add, mul_nI, bI_0, bI_1, k.k, k.r1, k.r10, k.ga, kl.k, ix_nI, cl_nI]; done) | omega | assumption) only [e84_0, e84_1, e84_4, e84_5, e84_6, e84_9, e84_10, e84_13, e84_14, e84_17, e84_20, e84_23, e84_26, e84_27, e84_28, e84_31, e84_32, e84_35, e84_36, e84_37, e84_41, e84_42, e84_45, e84_46, e84_47, e84_48, e84_49, e84_52, e84_55, e84_57, e84_60, e84_61, e84_64, e84_67, e84_70, am_k_some, va_rf_some, va_rf_none, tl_some, tl_none, am_clr_int, am_clr_ref, am_clr_none, am_clr_long, am_w_nil, am_w_int, am_w_ref, am_w_long, am_w_null, am_bb_0, am_bb_1, am_bb_bI, xK_sI, xR_sI, xS_sI, xN_sI, xK_sL, xR_sL, xS_sL, xN_sL, xK_sR, xR_sR, xS_sR, xN_sR, xK_sA, xR_sA, xS_sA, xN_sA, Nat.reduceAdd, Nat.reduceLeDiff, sI_sA, I_sA', sA_sA, I_sA, I_sA', nI_add, mul_nI, bI_0, bI_1, k.k, k.r1, k.r10, k.ga, kl.k, ix_nI, cl_nI, lt_nI, eq_nI, sub_nI, Nat.reduceEqDiff, Nat.one_ne_zero, Nat.not_lt_zero, ↓reduceIte, hnl, hg0, pa, e1, e2]
theorem sp_7 {d o g : Nat} {m : am_M} (kg : mK m g = (1, 1, 0)) (k : LaK m o) : cal d 7 [.ref g, .ref o] m = some (some (.int (if mI m g 0 = nI 0 then mI m g 3 else mI m o 1 - nI 1 - mI m g 2)), m) := by
  by_cases h1 : mI m g 0 = nI 0
  · simp (disch := first | (simp (disch := omega) only [am_k_some, va_rf_some, va_rf_none, tl_some, tl_none, am_clr_int, am_clr_ref, am_clr_none, am_clr_long, am_w_nil, am_w_int, am_w_ref, am_w_long, am_w_null, am_bb_0, am_bb_1, am_bb_bI, xK_sI, xR_sI, xS_sI, xN_sI, xK_sL, xR_sL, xS_sL, xN_sL, xK_sR, xR_sR, xS_sR, xN_sR, xK_sA, xR_sA, xS_sA, xN_sA, Nat.reduceAdd, Nat.reduceLeDiff, sI_sA, I_sA', sA_sA, I_sA, I_sA', nI_add, mul_nI, bI_0, bI_1, kg, k.k, ix_nI, cl_nI]; done) | omega | assumption) only [c7, e7_0, e7_1, e7_4, e7_7, e7_8, e7_11, e7_14, e7_15, e7_18, e7_19, e7_20, e7_21, e7_24, e7_25, am_k_some, va_rf_some, va_rf_none, tl_some, tl_none, am_clr_int, am_clr_ref, am_clr_none, am_clr_long, am_w_nil, am_w_int, am_w_ref, am_w_long, am_w_null, am_bb_0, am_bb_1, am_bb_bI, xK_sI, xR_sI, xS_sI, xN_sI, xK_sL, xR_sL, xS_sL, xN_sL, xK_sR, xR_sR, xS_sR, xN_sR, xK_sA, xR_sA, xS_sA, xN_sA, Nat.reduceAdd, Nat.reduceLeDiff, sI_sA, I_sA', sA_sA, I_sA, I_sA', nI_add, mul_nI, bI_0, bI_1, kg, k.k, ix_nI, cl_nI, lt_nI, eq_nI, sub_nI, Nat.reduceEqDiff, Nat.one_ne_zero, Nat.not_lt_zero, ↓reduceIte, h1]
  · simp (disch := first | (simp (disch := omega) only [am_k_some, va_rf_some, va_rf_none, tl_some, tl_none, am_clr_int, am_clr_ref, am_clr_none, am_clr_long, am_w_nil, am_w_int, am_w_ref, am_w_long, am_w_null, am_bb_0, am_bb_1, am_bb_bI, xK_sI, xR_sI, xS_sI, xN_sI, xK_sL, xR_sL, xS_sL, xN_sL, xK_sR, xR_sR, xS_sR, xN_sR, xK_sA, xR_sA, xS_sA, xN_sA, Nat.reduceAdd, Nat.reduceLeDiff, sI_sA, I_sA', sA_sA, I_sA, I_sA', nI_add, mul_nI, bI_0, bI_1, kg, k.k, ix_nI, cl_nI]; done) | omega | assumption) only [c7, e7_0, e7_1, e7_4, e7_7, e7_8, e7_11, e7_14, e7_15, e7_18, e7_19, e7_20, e7_21, e7_24, e7_25, am_k_some, va_rf_some, va_rf_none, tl_some, tl_none, am_clr_int, am_clr_ref, am_clr_none, am_clr_long, am_w_nil, am_w_int, am_w_ref, am_w_long, am_w_null, am_bb_0, am_bb_1, am_bb_bI, xK_sI, xR_sI, xS_sI, xN_sI, xK_sL, xR_sL, xS_sL, xN_sL, xK_sR, xR_sR, xS_sR, xN_sR, xK_sA, xR_sA, xS_sA, xN_sA, Nat.reduceAdd, Nat.reduceLeDiff, sI_sA, I_sA', sA_sA, I_sA, I_sA', nI_add, mul_nI, bI_0, bI_1, kg, k.k, ix_nI, cl_nI, lt_nI, eq_nI, sub_nI, Nat.reduceEqDiff, Nat.one_ne_zero, Nat.not_lt_zero, ↓reduceIte, h1]
theorem sp_84 {d a i : Nat} {g e' : Int32} {m : am_M} {S : Nat → Int32} {L : Int64} {MV LF : List Nat} (k : ShK m a) (W : Wb S) (hA : AkOk S) (hi : i < 20) (hk : ¬ efA S i g = -1) (hG : GdL S g i 0 e' MV LF) (v : ShV m a (tcS S MV LF) L) :
    ∃ m', cal (d + 4) 84 [.ref a, .ref (a + 26 + 2 * i), .int g] m = some (none, m') ∧ Fr a m m' ∧ ShV m' a (if efA S i g < nI 2 then tcS S (MV ++ mvL S i (efA S i g) g (dn S i (efA S i g) g + 1)) (LF ++ lvL S i (efA S i g) g (dn S i (efA S i g) g + 1)) else tcS S MV LF) L := by
  have n2 := W.nm.2
  have gm := hG.m W.nm
  have gl := hG.l W.nm
  have WT := tc_b (A := MV) (B := LF) W gm gl
  have kl := k.la i hi
  have ai : AgI i S (tcS S MV LF) := by
    refine ⟨fun p hp => ?_, tc_mid (by omega) (by omega) gm gl, tc_mid (by omega) (by omega) gm gl, tc_mid (by omega) (by omega) gm gl, fun l hl => tc_mid (by omega) (by omega) gm gl⟩
    rw [tc_lo (by omega) gm gl, tk_c (by omega), if_neg]
    intro hc
    rcases W.c i p hi hp with z | ⟨z, -⟩ | ⟨l, q, a1, a2, a3, a4, a5⟩
    · rw [z] at hc; exact hc.1 u1
    · rw [z] at hc; exact hc.1 u2
    · rw [a2, cl_nI (by omega)] at hc
      obtain ⟨⟨-, j, q', s', hj⟩, -⟩ := hG.2.2.2 l hc.2
      have := (s'.inj W.ln a3).1
      omega
  have hef := ai.ef (g := g) W.nm W.ln W.c.ok hi
  obtain ⟨F, e1, g1⟩ := sp_6 (d := d) (x := g) (m := m) (g := a + 25) (o := a + 26 + 2 * i) (lo := a + 2) (S := tcS S MV LF) k.ga (ShV.gt k v WT.nm hi) (by omega) (by omega) WT hi
  have f1 : Fr a m (sA m (a + 25) F) := (Fr.refl a m).sA (by omega) (by omega)
  have k1 := k.fr f1
  have v1 : ShV (sA m (a + 25) F) a (tcS S MV LF) L := v.gate
  have hF : mI (sA m (a + 25) F) (a + 25) = F := I_sA ..
  unfold GtR at g1
  rw [hef] at g1
  generalize sA m (a + 25) F = m1 at *
  rcases g1 with ⟨h1, h2, -⟩ | ⟨h1, -⟩ | ⟨e, he, h1, h2, h3, h4, b, hb, hd, hfl⟩
  · rw [h1, if_neg (by decide)]
    have is := sp_132b (d := d + 3) (m := m1) (x := -1) (Or.inl u1)
    have hF0 : mI m1 (a + 25) 0 = -1 := by rw [hF]; exact h2
    refine ⟨m1, ?_, f1, v1⟩
    simp (disch := first | (simp (disch := omega) only [am_k_some, va_rf_some, va_rf_none, tl_some, tl_none, am_clr_int, am_clr_ref, am_clr_none, am_clr_long, am_w_nil, am_w_int, am_w_ref, am_w_long, am_w_null, am_bb_0, am_bb_1, am_bb_bI, xK_sI, xR_sI, xS_sI, xN_sI, xK_sL, xR_sL, xS_sL, xN_sL, xK_sR, xR_sR, xS_sR, xN_sR, xK_sA, xR_sA, xS_sA, xN_sA, Nat.reduceAdd, Nat.reduceLeDiff, sI_sA, I_sA', sA_sA, I_sA, I_sA', nI_add, mul_nI, bI_0, bI_1, k.k, k.r1, k.r10, k.ga, kl.k, k1.k, k1.r10, k1.ga, ix_nI, cl_nI]; done) | omega | assumption) only [c84, e84_0, e84_1, e84_4, e84_5, e84_6, e84_9, e84_10, e84_13, e84_14, e84_17, e84_20, e84_23, e84_26, e84_27, e84_28, e84_31, e84_32, e84_35, e84_36, e84_37, e84_41, e84_42, e84_45, e84_46, e84_47, e84_48, e84_49, e84_52, e84_55, e84_57, e84_60, e84_61, e84_64, e84_67, e84_70, am_k_some, va_rf_some, va_rf_none, tl_some, tl_none, am_clr_int, am_clr_ref, am_clr_none, am_clr_long, am_w_nil, am_w_int, am_w_ref, am_w_long, am_w_null, am_bb_0, am_bb_1, am_bb_bI, xK_sI, xR_sI, xS_sI, xN_sI, xK_sL, xR_sL, xS_sL, xN_sL, xK_sR, xR_sR, xS_sR, xN_sR, xK_sA, xR_sA, xS_sA, xN_sA, Nat.reduceAdd, Nat.reduceLeDiff, sI_sA, I_sA', sA_sA, I_sA, I_sA', nI_add, mul_nI, bI_0, bI_1, k.k, k.r1, k.r10, k.ga, kl.k, ix_nI, cl_nI, lt_nI, eq_nI, sub_nI, Nat.reduceEqDiff, Nat.one_ne_zero, Nat.not_lt_zero, ↓reduceIte, e1, k1.k, k1.r10, k1.ga, hF0, is]
  · exact absurd h1 hk
  · rw [ai.lnE] at hb hfl
    rw [ai.de W.nm W.ln W.c.ok hi] at hd
    rw [ai.2.1] at h4
    obtain ⟨l1, l2⟩ := W.ln i hi
    have hdn : dn S i e g = b := by unfold dn; rw [hd, cl_nI (by omega)]
    have h2' : e < nI 2 := by rcases he with rfl | rfl <;> decide
    rw [h1, if_pos h2', hdn, ← mc_eq W.nm W.ln W.c hi he hb hd]
    have is := sp_132v (d := d + 3) (m := m1) he
    have hF0 : mI m1 (a + 25) 0 = e := by rw [hF]; exact h2
    have htT : tcS S MV LF (800 + i) = nI 1 := by rw [tc_mid (by omega) (by omega) gm gl]; exact h4
    have dd := sp_7 (d := d + 3) (m := m1) (g := a + 25) (o := a + 26 + 2 * i) k1.ga (k1.la i hi)
    have hdd : (if mI m1 (a + 25) 0 = nI 0 then mI m1 (a + 25) 3 else mI m1 (a + 26 + 2 * i) 1 - nI 1 - mI m1 (a + 25) 2) = nI b := by
      rw [hF0, hF, (v1.la hi).1, lenS_t htT, tc_ln hi gm gl]
      by_cases hz : e = nI 0
      · rw [if_pos hz] at hfl ⊢
        exact hfl
      · rw [if_neg hz] at hfl ⊢
        rw [hfl, sub_nI (by omega), sub_nI (by omega)]
        congr 1
        omega
    rw [hdd] at dd
    have lp := sp_84_loop (d := d) (a := a) (L := L) W hA hi h4 he hb hG.start (b + 1) 0 m1 (by omega) k1
    rw [mcL, lvL, List.append_nil, List.append_nil] at lp
    obtain ⟨m2, e2, f2, s2⟩ := lp v1 hF0
    refine ⟨m2, ?_, f1.trans f2, s2⟩
    simp (disch := first | (simp (disch := omega) only [am_k_some, va_rf_some, va_rf_none, tl_some, tl_none, am_clr_int, am_clr_ref, am_clr_none, am_clr_long, am_w_nil, am_w_int, am_w_ref, am_w_long, am_w_null, am_bb_0, am_bb_1, am_bb_bI, xK_sI, xR_sI, xS_sI, xN_sI, xK_sL, xR_sL, xS_sL, xN_sL, xK_sR, xR_sR, xS_sR, xN_sR, xK_sA, xR_sA, xS_sA, xN_sA, Nat.reduceAdd, Nat.reduceLeDiff, sI_sA, I_sA', sA_sA, I_sA, I_sA', nI_add, mul_nI, bI_0, bI_1, k.k, k.r1, k.r10, k.ga, kl.k, k1.k, k1.r10, k1.ga, ix_nI, cl_nI]; done) | omega | assumption) only [c84, e84_0, e84_1, e84_4, e84_5, e84_6, e84_9, e84_10, e84_13, e84_14, e84_17, e84_20, e84_23, e84_26, e84_27, e84_28, e84_31, e84_32, e84_35, e84_36, e84_37, e84_41, e84_42, e84_45, e84_46, e84_47, e84_48, e84_49, e84_52, e84_55, e84_57, e84_60, e84_61, e84_64, e84_67, e84_70, am_k_some, va_rf_some, va_rf_none, tl_some, tl_none, am_clr_int, am_clr_ref, am_clr_none, am_clr_long, am_w_nil, am_w_int, am_w_ref, am_w_long, am_w_null, am_bb_0, am_bb_1, am_bb_bI, xK_sI, xR_sI, xS_sI, xN_sI, xK_sL, xR_sL, xS_sL, xN_sL, xK_sR, xR_sR, xS_sR, xN_sR, xK_sA, xR_sA, xS_sA, xN_sA, Nat.reduceAdd, Nat.reduceLeDiff, sI_sA, I_sA', sA_sA, I_sA, I_sA', nI_add, mul_nI, bI_0, bI_1, k.k, k.r1, k.r10, k.ga, kl.k, ix_nI, cl_nI, lt_nI, eq_nI, sub_nI, Nat.reduceEqDiff, Nat.one_ne_zero, Nat.not_lt_zero, ↓reduceIte, e1, k1.k, k1.r10, k1.ga, hF0, is, n10, dd]
    exact e2
