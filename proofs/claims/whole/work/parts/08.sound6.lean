theorem am_call_inv {P : am_Pr} {z : am_R} {pc : Nat} {ls : am_L} {st : List Value} {m : am_M} {c : Nat × List Value × Nat × am_L × List Value × am_M} (h : am_stp P z pc ls st m = some (.inr (.inr c))) :
    (∃ i, z.1 = .invokevirtual i) ∨ (∃ i, z.1 = .invokespecial i ∧ ¬ z.2.2.2.1 = 9) ∨ ∃ i, z.1 = .invokestatic i ∧ ¬ z.2.2.2.1 = 7 ∧ ¬ z.2.2.2.1 = 8 ∧ ¬ z.2.2.2.1 = 9 := by
  unfold am_stp am_step at h
  split at h
  all_goals (repeat' (split at h))
  all_goals first
    | (cases h; done)
    | exact Or.inl ⟨_, by assumption⟩
    | exact Or.inr (Or.inl ⟨_, by assumption, by assumption⟩)
    | exact Or.inr (Or.inr ⟨_, by assumption, by assumption, by assumption, by assumption⟩)
theorem am_ret_inv {P : am_Pr} {z : am_R} {pc : Nat} {ls : am_L} {st : List Value} {m : am_M} {r : Option Value × am_M} (h : am_stp P z pc ls st m = some (.inr (.inl r))) : z.1 = .ireturn ∨ z.1 = .lreturn ∨ z.1 = .return_ := by
  unfold am_stp am_step at h
  split at h
  all_goals (repeat' (split at h))
  all_goals first
    | (cases h; done)
    | exact Or.inl (by assumption)
    | exact Or.inr (Or.inl (by assumption))
    | exact Or.inr (Or.inr (by assumption))
section AMX
variable {p : Program} {l : Launch} {e : Env} {R : Room} {s : State} {mid : MethodId} {args : Array Value} {below : List Frame} {meth : Method} {c : Code} {Q : State → Prop} {g : am_G} {j sz0 sl0 pc : Nat} {z : am_R}
theorem am_take {n : Nat} {st st' : List Value} (h : n ≤ st.length) (hd : st.drop n = st') : st = ((st.take n).reverse).reverse ++ st' ∧ ((st.take n).reverse).length = n := by
  refine ⟨by rw [List.reverse_reverse, ← hd, List.take_append_drop], by rw [List.length_reverse, List.length_take]; omega⟩
/-- a call, by kind -/
theorem am_callW {n : Nat} (hS : am_Snd n) (hA : am_AllOk) {d j' pc' : Nat} {ls ls' : am_L} {st st' as : List Value} {m m1 m2 : am_M} {v : Option Value} {H : Heap} {locs : List Loc} {lsA : Array Slot}
    (C : am_Cx p R s mid args meth c g j) (hd : decode (am_mi j).2.1 pc = .ok (z.1, z.2.1)) (hx : am_okx (am_mi j).1 (am_mi j).2.2.2 pc z = true) (ho : am_stp am_P z pc ls st m = some (.inr (.inr (j', as, pc', ls', st', m1))))
    (hlen : (am_en (am_mx j') as).length = am_mx j') (hr : am_ex am_P n d j' 0 (am_en (am_mx j') as) [] m1 = some (v, m2)) (hfr : d + 1 + 1 ≤ R.frames) (hlo : 100 + 40 * (d + 1) ≤ R.locals) (hl : lv_has lsA (am_mx j) (am_al ls)) (hH : am_Hp g s m H) (hloc : ∀ q ∈ locs, g.2.2 ≤ q.base) (hs0 : sz0 ≤ mS m) (hs1 : sl0 ≤ mN m) (hR1 : mS m2 - sz0 ≤ R.cells) (hR2 : mN m2 - sl0 ≤ R.slots)
    (kk : ∀ (H' : Heap) (locs' : List Loc), am_Hp g s m2 H' → (∀ q ∈ locs', g.2.2 ≤ q.base) → W p l e R s mid args below meth c H' locs' (mS m2 - sz0) (mN m2 - sl0) Q (F0 mid pc' lsA (v.toList ++ st'))) : W p l e R s mid args below meth c H locs (mS m - sz0) (mN m - sl0) Q (F0 mid pc lsA st) := by
  have hcm := am_call_m ho
  obtain ⟨rfl, -, rfl⟩ := hcm
  have hgr := am_ex_grow hr
  have inv := am_call_inv ho
  obtain ⟨hexec, hb, hml, hown, hts, hnm, hW, -, -⟩ := C
  have e1 : mS m1 - sz0 + (mS m2 - mS m1) = mS m2 - sz0 := by omega
  have e2 : mN m1 - sl0 + (mN m2 - mN m1) = mN m2 - sl0 := by omega
  rw [← e1, ← e2] at kk
  have hf : mS m1 - sz0 + (mS m2 - mS m1) ≤ R.cells ∧ mN m1 - sl0 + (mN m2 - mN m1) ≤ R.slots := by rw [e1, e2]; exact ⟨hR1, hR2⟩
  have hsz : (F0 mid pc lsA st).locals.size = am_mx j := hl.1
  have hpre : ∀ U : State, U.heap = H → s.WarmedH U.vm → am_Pc g as m1 as.toArray U := fun U hU hw => ⟨rfl, hW.moved hw, by rw [hU]; exact hH.moved hw.alike⟩
  rcases inv with ⟨i, hi⟩ | ⟨i, hi, h9⟩ | ⟨i, hi, h7, h8, h9⟩
  · rw [hi] at hd
    simp only [am_okx, hi, Bool.and_eq_true, decide_eq_true_eq] at hx
    simp only [am_stp, am_step, hi] at ho
    rw [hx.1.1.1] at hd
    have hj' := hx.1.1.2
    have hkind := hx.1.2
    split at ho
    · next a st1 hdrop =>
      split at ho
      · next hc =>
        obtain ⟨q1, q2, q3⟩ := hc
        cases ho
        obtain ⟨hok, hcode⟩ := hA.2 _ hj'
        unfold am_okm at hok
        rw [if_pos hkind] at hok
        simp only [Bool.and_eq_true, decide_eq_true_eq] at hok
        obtain ⟨⟨⟨⟨⟨hcl, hci⟩, hpar⟩, hmx⟩, hmx9⟩, hins, hsel⟩ := hok
        obtain ⟨t1, t2⟩ := am_take q2 hdrop
        obtain ⟨o1, o2, o3⟩ := am_obj hH q1
        have hrecv := va_recv hW.1 (am_P1 o1) (ci := am_ci z.2.2.1) (q0 := 0) (vwCl_of hci) rfl
        have hM := am_met hS hA l g hj' hr hlen
        refine am_after (va_runV (Ts := lw_good) (own := (am_mi j).1.cls) (C := (am_mi z.2.2.1).1.cls) (As := (st.take (am_na z.2.2.1)).reverse) (b := a) (rest := st') ⟨hexec, hb, hml, hown, hts⟩ hM ⟨⟨rfl, rfl, by show d + 1 + 1 ≤ _; exact hfr, by show 8 + (_ + 11) + (100 + 40 * d) ≤ _; rw [hmx]; omega, am_pay hts hcode, List.mem_cons_self, hts _ (am_good hcode rfl), hts _ (by rw [hcl]; exact am_init hci), by rw [hcl]; exact (am_csok hci).2, fun sig h => by rw [h] at hpar; exact (Option.some.inj hpar).symm, hts _ (am_good (am_wd_mem hx.2) rfl)⟩, hts _ (am_good (am_wd_mem hins) rfl), hts _ (am_good (am_wd_mem hsel) rfl)⟩ ⟨am_blind, ?_, hpre⟩ rfl t2 hsz t1 (lv_room q3) hd hf) hloc kk
        rw [hcl]
        exact hrecv
      · cases ho
    · cases ho
  · rw [hi] at hd
    simp only [am_okx, hi, if_neg h9, Bool.and_eq_true, decide_eq_true_eq] at hx
    simp only [am_stp, am_step, hi, if_neg h9] at ho
    rw [hx.1] at hd
    have hj' := hx.2.1.1
    have hkind := hx.2.1.2
    split at ho
    · next a st1 hdrop =>
      split at ho
      · next hc =>
        obtain ⟨q2, q3⟩ := hc
        cases ho
        obtain ⟨hok, hcode⟩ := hA.2 _ hj'
        unfold am_okm at hok
        rw [if_neg (by rw [hkind]; decide), if_pos hkind] at hok
        simp only [Bool.and_eq_true, decide_eq_true_eq] at hok
        obtain ⟨⟨⟨⟨⟨hcl, hci⟩, hpar⟩, hmx⟩, hmx9⟩, ⟨hins, hnam⟩, hnon⟩ := hok
        obtain ⟨t1, t2⟩ := am_take q2 hdrop
        have hM := am_met hS hA l g hj' hr hlen
        have hcode' := hcode
        rw [hnon] at hcode'
        have hmem : Cond.code (am_mi z.2.2.1).1 (am_mi z.2.2.1).2.1 (am_mi z.2.2.1).2.2.1 none ∈ am_wsj z.2.2.1 := by
          have := List.mem_cons_self (a := Cond.code (am_mi z.2.2.1).1 (am_mi z.2.2.1).2.1 (am_mi z.2.2.1).2.2.1 (am_mi z.2.2.1).2.2.2) (l := lw_good)
          rw [hnon] at this
          unfold am_wsj
          rw [hnon]
          exact this
        have hx22 := hx.2.2
        by_cases h0 : z.2.2.2.1 = 0
        · rw [if_pos h0] at hx22
          exact am_after (va_runI (Ts := lw_good) (own := (am_mi j).1.cls) (As := (st.take (am_na z.2.2.1)).reverse) (b := a) (rest := st') ⟨hexec, hb, hml, hown, hts⟩ hM ⟨⟨rfl, rfl, by show d + 1 + 1 ≤ _; exact hfr, by show 8 + (_ + 11) + (100 + 40 * d) ≤ _; rw [hmx]; omega, am_pay hts hcode, hmem, hts _ (am_good hcode' rfl), hts _ (by rw [hcl]; exact am_init hci), by rw [hcl]; exact (am_csok hci).2, fun sig h => by rw [h] at hpar; exact (Option.some.inj hpar).symm, hts _ (am_good (am_wd_mem hx22) rfl)⟩, hnam, hts _ (am_good (am_wd_mem hins) rfl)⟩ ⟨am_blind, hpre⟩ rfl t2 hsz t1 (lv_room q3) hd hf) hloc kk
        · rw [if_neg h0] at hx22
          exact am_after (va_runIN (Ts := lw_good) (own := (am_mi j).1.cls) (host := am_host) (As := (st.take (am_na z.2.2.1)).reverse) (b := a) (rest := st') ⟨hexec, hb, hml, hown, hts⟩ hM ⟨⟨⟨rfl, rfl, by show d + 1 + 1 ≤ _; exact hfr, by show 8 + (_ + 11) + (100 + 40 * d) ≤ _; rw [hmx]; omega, am_pay hts hcode, hmem⟩, hts _ (am_good hcode' rfl), hts _ (by rw [hcl]; exact am_init hci), by rw [hcl]; exact (am_csok hci).2, fun sig h => by rw [h] at hpar; exact (Option.some.inj hpar).symm, va_Nw.use rfl (hW.2.2.2 _ _ _ _ (am_wd_mem hx22))⟩, hnam, hts _ (am_good (am_wd_mem hins) rfl)⟩ ⟨am_blind, hpre⟩ rfl t2 hsz t1 (lv_room q3) hd hf) hloc kk
      · cases ho
    · cases ho
  · rw [hi] at hd
    simp only [am_okx, hi, if_neg h7, if_neg h8, if_neg h9, Bool.and_eq_true, decide_eq_true_eq] at hx
    simp only [am_stp, am_step, hi, if_neg h7, if_neg h8, if_neg h9] at ho
    rw [hx.1] at hd
    have hj' := hx.2.1.1
    have hkind := hx.2.1.2
    split at ho
    · next hc =>
      obtain ⟨q2, q3⟩ := hc
      cases ho
      obtain ⟨hok, hcode⟩ := hA.2 _ hj'
      unfold am_okm at hok
      rw [if_neg (by rw [hkind]; decide), if_neg (by rw [hkind]; decide)] at hok
      simp only [Bool.and_eq_true, decide_eq_true_eq] at hok
      obtain ⟨⟨⟨⟨⟨hcl, hci⟩, hpar⟩, hmx⟩, hmx9⟩, hsta⟩ := hok
      obtain ⟨t1, t2⟩ := am_take q2 rfl
      have hM := am_met hS hA l g hj' hr hlen
      have hx22 := hx.2.2
      by_cases h0 : z.2.2.2.1 = 0
      · rw [if_pos h0] at hx22
        exact am_after (va_runS (Ts := lw_good) (own := (am_mi j).1.cls) (As := (st.take (am_na z.2.2.1)).reverse) (rest := st.drop (am_na z.2.2.1)) ⟨hexec, hb, hml, hown, hts⟩ hM ⟨⟨rfl, rfl, by show d + 1 + 1 ≤ _; exact hfr, by show 8 + (_ + 11) + (100 + 40 * d) ≤ _; rw [hmx]; omega, am_pay hts hcode, List.mem_cons_self, hts _ (am_good hcode rfl), hts _ (by rw [hcl]; exact am_init hci), by rw [hcl]; exact (am_csok hci).2, fun sig h => by rw [h] at hpar; exact (Option.some.inj hpar).symm, hts _ (am_good (am_wd_mem hx22) rfl)⟩, hts _ (am_good (am_wd_mem hsta) rfl)⟩ ⟨am_blind, hpre⟩ rfl t2 hsz t1 (lv_room q3) hd hf) hloc kk
      · rw [if_neg h0] at hx22
        exact am_after (va_runSN (Ts := lw_good) (own := (am_mi j).1.cls) (host := am_host) (As := (st.take (am_na z.2.2.1)).reverse) (rest := st.drop (am_na z.2.2.1)) ⟨hexec, hb, hml, hown, hts⟩ hM ⟨⟨⟨rfl, rfl, by show d + 1 + 1 ≤ _; exact hfr, by show 8 + (_ + 11) + (100 + 40 * d) ≤ _; rw [hmx]; omega, am_pay hts hcode, List.mem_cons_self⟩, hts _ (am_good hcode rfl), hts _ (by rw [hcl]; exact am_init hci), by rw [hcl]; exact (am_csok hci).2, fun sig h => by rw [h] at hpar; exact (Option.some.inj hpar).symm, va_Nw.use rfl (hW.2.2.2 _ _ _ _ (am_wd_mem hx22))⟩, hts _ (am_good (am_wd_mem hsta) rfl), trivial⟩ ⟨am_blind, hpre⟩ rfl t2 hsz t1 (lv_room q3) hd hf) hloc kk
    · cases ho
/-- a step that goes on, by the instruction -/
theorem am_stepW (C : am_Cx p R s mid args meth c g j) (hd : decode (am_mi j).2.1 pc = .ok (z.1, z.2.1)) (hx : am_okx (am_mi j).1 (am_mi j).2.2.2 pc z = true) : am_SS p l e R s mid args below meth c Q g j sz0 sl0 z pc := by
  intro ls st m pc' ls' st' m' H locs lsA ho
  have ho' := ho
  revert ho
  unfold am_stp am_step at ho'
  split at ho'
  · next h => exact as_iconst C hd hx h _ _ _ _ _ _ _ _ _ _
  · next h => exact as_bipush C hd hx h _ _ _ _ _ _ _ _ _ _
  · next h => exact as_sipush C hd hx h _ _ _ _ _ _ _ _ _ _
  · next h => exact as_lconst C hd hx h _ _ _ _ _ _ _ _ _ _
  · next h => exact as_ldc C hd hx h _ _ _ _ _ _ _ _ _ _
  · next h => exact as_ldc2 C hd hx h _ _ _ _ _ _ _ _ _ _
  · next h => exact as_iload_n C hd hx h _ _ _ _ _ _ _ _ _ _
  · next h => exact as_iload C hd hx h _ _ _ _ _ _ _ _ _ _
  · next h => exact as_lload_n C hd hx h _ _ _ _ _ _ _ _ _ _
  · next h => exact as_lload C hd hx h _ _ _ _ _ _ _ _ _ _
  · next h => exact as_aload_n C hd hx h _ _ _ _ _ _ _ _ _ _
  · next h => exact as_aload C hd hx h _ _ _ _ _ _ _ _ _ _
  · next h => exact as_istore_n C hd hx h _ _ _ _ _ _ _ _ _ _
  · next h => exact as_istore C hd hx h _ _ _ _ _ _ _ _ _ _
  · next h => exact as_lstore_n C hd hx h _ _ _ _ _ _ _ _ _ _
  · next h => exact as_lstore C hd hx h _ _ _ _ _ _ _ _ _ _
  · next h => exact as_astore_n C hd hx h _ _ _ _ _ _ _ _ _ _
  · next h => exact as_astore C hd hx h _ _ _ _ _ _ _ _ _ _
  · next h => exact as_iinc C hd hx h _ _ _ _ _ _ _ _ _ _
  · next h => exact as_iadd C hd hx h _ _ _ _ _ _ _ _ _ _
  · next h => exact as_isub C hd hx h _ _ _ _ _ _ _ _ _ _
  · next h => exact as_imul C hd hx h _ _ _ _ _ _ _ _ _ _
  · next h => exact as_iand C hd hx h _ _ _ _ _ _ _ _ _ _
  · next h => exact as_idiv C hd hx h _ _ _ _ _ _ _ _ _ _
  · next h => exact as_irem C hd hx h _ _ _ _ _ _ _ _ _ _
  · next h => exact as_ladd C hd hx h _ _ _ _ _ _ _ _ _ _
  · next h => exact as_lsub C hd hx h _ _ _ _ _ _ _ _ _ _
  · next h => exact as_lmul C hd hx h _ _ _ _ _ _ _ _ _ _
  · next h => exact as_land C hd hx h _ _ _ _ _ _ _ _ _ _
  · next h => exact as_lor C hd hx h _ _ _ _ _ _ _ _ _ _
  · next h => exact as_lneg C hd hx h _ _ _ _ _ _ _ _ _ _
  · next h => exact as_lshl C hd hx h _ _ _ _ _ _ _ _ _ _
  · next h => exact as_lcmp C hd hx h _ _ _ _ _ _ _ _ _ _
  · next h => exact as_i2l C hd hx h _ _ _ _ _ _ _ _ _ _
  · next h => exact as_dup C hd hx h _ _ _ _ _ _ _ _ _ _
  · next h => exact as_dup2 C hd hx h _ _ _ _ _ _ _ _ _ _
  · next h => exact as_goto C hd hx h _ _ _ _ _ _ _ _ _ _
  · next h => exact as_ifCond_eq C hd hx h _ _ _ _ _ _ _ _ _ _
  · next h => exact as_ifCond_ne C hd hx h _ _ _ _ _ _ _ _ _ _
  · next h => exact as_ifCond_lt C hd hx h _ _ _ _ _ _ _ _ _ _
  · next h => exact as_ifCond_ge C hd hx h _ _ _ _ _ _ _ _ _ _
  · next h => exact as_ifCond_gt C hd hx h _ _ _ _ _ _ _ _ _ _
  · next h => exact as_ifCond_le C hd hx h _ _ _ _ _ _ _ _ _ _
  · next h => exact as_if_icmp_eq C hd hx h _ _ _ _ _ _ _ _ _ _
  · next h => exact as_if_icmp_ne C hd hx h _ _ _ _ _ _ _ _ _ _
  · next h => exact as_if_icmp_lt C hd hx h _ _ _ _ _ _ _ _ _ _
  · next h => exact as_if_icmp_ge C hd hx h _ _ _ _ _ _ _ _ _ _
  · next h => exact as_if_icmp_gt C hd hx h _ _ _ _ _ _ _ _ _ _
  · next h => exact as_if_icmp_le C hd hx h _ _ _ _ _ _ _ _ _ _
  · next h => exact as_ifnonnull C hd hx h _ _ _ _ _ _ _ _ _ _
  · next h => exact as_tableswitch C hd hx h _ _ _ _ _ _ _ _ _ _
  · next h => exact as_getfield C hd hx h _ _ _ _ _ _ _ _ _ _
  · next h => exact as_putfield C hd hx h _ _ _ _ _ _ _ _ _ _
  · next h => exact as_iaload C hd hx h _ _ _ _ _ _ _ _ _ _
  · next h => exact as_baload C hd hx h _ _ _ _ _ _ _ _ _ _
  · next h => exact as_laload C hd hx h _ _ _ _ _ _ _ _ _ _
  · next h => exact as_aaload C hd hx h _ _ _ _ _ _ _ _ _ _
  · next h => exact as_iastore C hd hx h _ _ _ _ _ _ _ _ _ _
  · next h => exact as_bastore C hd hx h _ _ _ _ _ _ _ _ _ _
  · next h => exact as_lastore C hd hx h _ _ _ _ _ _ _ _ _ _
  · next h => exact as_aastore C hd hx h _ _ _ _ _ _ _ _ _ _
  · next h => exact as_arraylength C hd hx h _ _ _ _ _ _ _ _ _ _
  · next h => exact as_newarray_int C hd hx h _ _ _ _ _ _ _ _ _ _
  · next h => exact as_newarray_boolean C hd hx h _ _ _ _ _ _ _ _ _ _
  · next h => exact as_newarray_long C hd hx h _ _ _ _ _ _ _ _ _ _
  · next h => exact as_anewarray C hd hx h _ _ _ _ _ _ _ _ _ _
  · next h => exact as_new C hd hx h _ _ _ _ _ _ _ _ _ _
  · repeat' (split at ho')
    all_goals cases ho'
  · repeat' (split at ho')
    all_goals cases ho'
  · repeat' (split at ho')
    all_goals cases ho'
  · repeat' (split at ho')
    all_goals cases ho'
  · next h =>
    split at ho'
    · next h9 => exact as_objinit h9 C hd hx h _ _ _ _ _ _ _ _ _ _
    · repeat' (split at ho')
      all_goals cases ho'
  · next h =>
    split at ho'
    · next h9 => exact as_mmax h9 C hd hx h _ _ _ _ _ _ _ _ _ _
    · split at ho'
      · next h9 => exact as_mmin h9 C hd hx h _ _ _ _ _ _ _ _ _ _
      · split at ho'
        · next h9 => exact as_copy h9 C hd hx h _ _ _ _ _ _ _ _ _ _
        · split at ho'
          all_goals cases ho'
  · cases ho'
end AMX
/-- A RUN OF am_ex IS A RUN OF THE MACHINE -/
theorem am_sound (hA : am_AllOk) : ∀ n, am_Snd n := by
  intro n
  induction n with
  | zero => intro d j pc ls st m r m' h; cases h
  | succ n ih =>
    intro d j pc ls st m r m' h p l e R s mid args below meth c Q g sz0 sl0 H locs lsA C hfr hlo hl hn hH hloc hs0 hs1 hR1 hR2 hQ
    unfold am_ex at h
    split at h
    · cases h
    · next z hz =>
      have hz' : am_lk (am_cd.getD j []) pc = some z := hz
      have hok := hA.1 j _ (am_lk_mem hz')
      unfold am_ok at hok
      rw [Bool.and_eq_true, decide_eq_true_eq] at hok
      obtain ⟨hd, hx⟩ := hok
      dsimp only at hd hx
      split at h
      · cases h
      · next pc' ls' st' m1 ho =>
        have hg := am_grow ho
        have hg2 := am_ex_grow h
        refine am_stepW C hd hx ls st m pc' ls' st' m1 H locs lsA ho hl hn hH hloc hs0 hs1 (by omega) (by omega) ?_
        intro H' locs' lsA' hH' hloc' hl'
        exact ih d j pc' ls' st' m1 r m' h p l e R s mid args below meth c Q g sz0 sl0 H' locs' lsA' C hfr hlo hl' (by rw [hg.2.2, hn]) hH' hloc' (by omega) (by omega) hR1 hR2 hQ
      · next q ho =>
        cases h
        have hm := am_ret_m ho
        subst hm
        have hi := am_ret_inv ho
        have hq := hQ H locs lsA pc hH hloc
        rcases hi with hi | hi | hi
        · rw [hi] at hd
          simp only [am_okx, hi, Bool.and_eq_true, decide_eq_true_eq, Bool.or_eq_true] at hx
          simp only [am_stp, am_step, hi] at ho
          rw [hx.1] at hd
          split at ho
          · next x =>
            split at ho
            · next hc =>
              cases ho
              refine hq.1 x rfl hd ?_
              rcases hx.2 with ⟨-, h2⟩ | ⟨h1, h2⟩
              · exact Or.inl h2
              · rcases hc with hc | hc
                · rw [hc] at h1; cases h1
                · exact Or.inr ⟨h2, hc⟩
            · cases ho
          · cases ho
        · rw [hi] at hd
          simp only [am_okx, hi, Bool.and_eq_true, decide_eq_true_eq] at hx
          simp only [am_stp, am_step, hi] at ho
          rw [hx.1] at hd
          split at ho
          · cases ho
            exact hq.2.1 _ rfl hd hx.2
          · cases ho
        · rw [hi] at hd
          simp only [am_okx, hi, Bool.and_eq_true, decide_eq_true_eq] at hx
          simp only [am_stp, am_step, hi] at ho
          rw [hx.1] at hd
          split at ho
          · cases ho
            exact hq.2.2 rfl hd hx.2
          · cases ho
      · next j' as pc' ls' st' m1 ho =>
        have hcm := am_call_m ho
        split at h
        · cases h
        · next d' =>
          split at h
          · next hlen =>
            split at h
            · cases h
            · next v m2 hr =>
              have hg1 := am_ex_grow hr
              have hg2 := am_ex_grow h
              rw [hcm.1] at hg1
              refine am_callW ih hA (d := d') C hd hx ho hlen hr (by omega) (by omega) hl hH hloc hs0 hs1 (by omega) (by omega) ?_
              intro H' locs' hH' hloc'
              exact ih (d' + 1) j pc' ls' (v.toList ++ st') m2 r m' h p l e R s mid args below meth c Q g sz0 sl0 H' locs' lsA C hfr hlo (by rw [hcm.2.1]; exact hl) (by rw [hcm.2.1]; exact hn) hH' hloc' (by omega) (by omega) hR1 hR2 hQ
          · cases h
