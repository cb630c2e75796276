section AMT
variable {p : Program} {l : Launch} {e : Env} {R : Room} {s : State} {mid : MethodId} {args : Array Value} {below : List Frame} {meth : Method} {c : Code} {Q : State → Prop} {g : am_G} {j sz0 sl0 pc : Nat} {z : am_R}
theorem am_fl_at {m : am_M} {a ci k : Nat} (hk : k < am_fn ci) : (am_fl m a ci)[k]? = some (am_fv m a ci k) := by
  unfold am_fl
  rw [List.getElem?_map, List.getElem?_range hk]
  rfl
theorem am_fl_len {m : am_M} {a ci : Nat} : (am_fl m a ci).length = am_fn ci := by
  unfold am_fl
  rw [List.length_map, List.length_range]
theorem am_fl_V {m : am_M} {a ci k : Nat} (hk : k < am_fn ci) : vp_V (am_fl m a ci) k = am_fv m a ci k := by
  unfold vp_V
  rw [List.getD_eq_getElem?_getD, am_fl_at hk]
  rfl
theorem am_obj {m : am_M} {a ci : Nat} {H : Heap} (hH : am_Hp g s m H) (hk : mK m a = (1, ci, 0)) : va_at g.1 vwCl (a, .inr (ci, am_fl m a ci)) H ∧ g.2.2 ≤ a ∧ ci < 11 := by
  have h1 : am_cell g m a = some (.inr (ci, am_fl m a ci)) := by
    have := (am_kind (g := g) (m := m) (a := a)).1 (by rw [hk])
    rw [hk] at this
    exact this
  obtain ⟨h2, h3⟩ := hH.2.2.1 a _ h1
  obtain ⟨r, hr, -⟩ := id h2
  exact ⟨h2, h3, (vwCl_at hr).1⟩
/-- a field's store, in the memory's words -/
theorem am_fs_spec {m m' : am_M} {a ci k : Nat} {v : Value} (hci : ci < 11) (hk : k < am_fn ci) (h : am_fs m a ci k v = some m') : mS m' = mS m ∧ mN m' = mN m ∧ mK m' = mK m ∧ (∀ b, b ≠ a → mI m' b = mI m b ∧ mL m' b = mL m b ∧ mR m' b = mR m b) ∧ (∀ i, i < am_fn ci → am_fv m' a ci i = updV (am_fv m a ci) k v i) ∧ narrow (am_cy ci k) v = v ∧ fits (am_cy ci k) v = true := by
  have hf := am_fkty hci k hk
  unfold am_fs at h
  split at h
  · next x h0 =>
    cases h
    refine ⟨rfl, rfl, rfl, fun b hb => ⟨by rw [mI_sI, up2_ne hb], rfl, rfl⟩, fun i _ => ?_, ?_⟩
    · unfold updV am_fv
      by_cases hi : i = k
      · subst hi
        rw [if_pos rfl, h0]
        simp only [mI_sI, up2_at]
        simp
      · rw [if_neg hi, mI_sI, up2_at, mL_sI, mR_sI]
        simp only [if_neg hi]
    · rcases hf with ⟨-, e⟩ | ⟨e, -⟩ | ⟨e, -⟩
      · rw [e]; exact ⟨rfl, rfl⟩
      · rw [h0] at e; cases e
      · rw [h0] at e; cases e
  · next x h0 =>
    cases h
    refine ⟨rfl, rfl, rfl, fun b hb => ⟨rfl, by rw [mL_sL, up2_ne hb], rfl⟩, fun i _ => ?_, ?_⟩
    · unfold updV am_fv
      by_cases hi : i = k
      · subst hi
        rw [if_pos rfl, h0]
        simp only [mL_sL, up2_at]
        simp
      · rw [if_neg hi, mL_sL, up2_at, mI_sL, mR_sL]
        simp only [if_neg hi]
    · rcases hf with ⟨e, -⟩ | ⟨-, e⟩ | ⟨e, -⟩
      · rw [h0] at e; cases e
      · rw [e]; exact ⟨rfl, rfl⟩
      · rw [h0] at e; cases e
  · next x h0 =>
    cases h
    refine ⟨rfl, rfl, rfl, fun b hb => ⟨rfl, rfl, by rw [mR_sR, up2_ne hb]⟩, fun i _ => ?_, ?_⟩
    · unfold updV am_fv
      by_cases hi : i = k
      · subst hi
        rw [if_pos rfl, h0]
        simp only [mR_sR, up2_at]
        simp [va_rf]
      · rw [if_neg hi, mR_sR, up2_at, mI_sR, mL_sR]
        simp only [if_neg hi]
    · rcases hf with ⟨e, -⟩ | ⟨e, -⟩ | ⟨-, -, -, e⟩
      · rw [h0] at e; cases e
      · rw [h0] at e; cases e
      · exact e x
  · cases h
theorem as_getfield {i : Nat} (C : am_Cx p R s mid args meth c g j) (hd : decode (am_mi j).2.1 pc = .ok (z.1, z.2.1)) (hx : am_okx (am_mi j).1 (am_mi j).2.2.2 pc z = true) (hi : z.1 = .getfield i) : am_SS p l e R s mid args below meth c Q g j sz0 sl0 z pc := by
  intro ls st m pc' ls' st' m' H locs lsA ho hl hn hH hloc hs0 hs1 hR1 hR2 kk
  obtain ⟨hexec, hb, hml, hown, hts, hnm, hW, hfr, hlo⟩ := C
  rw [hi] at hd
  simp only [am_okx, hi, am_len, Bool.and_eq_true, decide_eq_true_eq] at hx
  try simp only [decide_eq_true_eq] at hx
  simp only [am_stp, am_step, hi] at ho
  rw [hx.1.1] at hd
  split at ho
  · next a st0 =>
    split at ho
    · next hc =>
      cases ho
      obtain ⟨h1, h2, h3⟩ := am_obj hH hc.1
      exact va_get hexec hb hts (am_lays h3) hown hW.1 (am_P1 h1) 0 rfl (vwCl_of h3) z.2.2.2.1 hc.2 (hts _ (am_good (am_wd_mem hx.2) rfl)) (fun _ h => h) (am_fl_at hc.2) hd (kk H locs lsA hH hloc hl)
    · cases ho
  · cases ho
theorem as_putfield {i : Nat} (C : am_Cx p R s mid args meth c g j) (hd : decode (am_mi j).2.1 pc = .ok (z.1, z.2.1)) (hx : am_okx (am_mi j).1 (am_mi j).2.2.2 pc z = true) (hi : z.1 = .putfield i) : am_SS p l e R s mid args below meth c Q g j sz0 sl0 z pc := by
  intro ls st m pc' ls' st' m' H locs lsA ho hl hn hH hloc hs0 hs1 hR1 hR2 kk
  obtain ⟨hexec, hb, hml, hown, hts, hnm, hW, hfr, hlo⟩ := C
  rw [hi] at hd
  simp only [am_okx, hi, am_len, Bool.and_eq_true, decide_eq_true_eq] at hx
  try simp only [decide_eq_true_eq] at hx
  simp only [am_stp, am_step, hi] at ho
  rw [hx.1.1.1] at hd
  split at ho
  · next v a st0 =>
    split at ho
    · next hc =>
      split at ho
      · next m1 hm1 =>
        cases ho
        obtain ⟨h1, h2, h3⟩ := am_obj hH hc.1
        obtain ⟨f1, f2, f3, f4, f5, f6, f7⟩ := am_fs_spec h3 hc.2 hm1
        have hk := hc.2
        obtain ⟨r, hr, cell, q1, q2, q3, q4⟩ := h1
        obtain ⟨-, hr'⟩ := vwCl_at hr
        subst hr'
        have hap := va_apart (own := (am_mi j).1.cls) hts (am_lays h3) _ (am_tyok h3) (am_nmok h3) hW.1 (vwCl_of h3)
        obtain ⟨hS, hfc, kC, hkC, hkind⟩ := hW.1.1 _ _ (vwCl_of h3)
        obtain ⟨cf, kf, fi, f, hfi, hsl⟩ := hS z.2.2.2.1 hk
        have hlay := hts _ (am_lays h3 _ (u_in_lay hk))
        have hst := (u_facts hfc hkC (u_lays hts (am_lays h3) hk) hfi).1
        have hlink := hts _ (am_good (am_wd_mem hx.1.2) rfl)
        have last : ∀ H' : Heap, H'[a]? = some (cell.setSlot f.slot v) → H'.size = H.size → (∀ q, q ≠ a → H'[q]? = H[q]?) → W p l e R s mid args below meth c H' (locs ++ [⟨a, f.slot⟩]) (mS m - sz0) (mN m - sl0) Q (F0 mid (pc + 3) lsA st') := by
          intro H' e1 e2 e3
          rw [← f1, ← f2]
          refine kk H' _ lsA (hH.store e2 e3 f1 f3 f4 h2 (by rw [hc.1]; exact (show (1 : Nat) ≠ 6 by decide)) ?_) (t_lc hloc h2) hl
          intro e he
          have hcell := (am_kind (g := g) (m := m') (a := a)).1 (by rw [f3, hc.1])
          rw [f3, hc.1] at hcell
          cases hcell.symm.trans he
          refine ⟨_, hr, ?_⟩
          rw [hsl] at e1
          exact t_OB.to (V := updV (vp_V (am_fl m a z.2.2.1)) z.2.2.2.1 v) ⟨_, e1, q2, q3, t_set q4 hap hk v⟩ (fun i hi => by
            show updV (vp_V (am_fl m a z.2.2.1)) z.2.2.2.1 v i = vp_V (am_fl m' a z.2.2.1) i
            rw [am_fl_V hi, f5 i hi]
            unfold updV
            split
            · rfl
            · exact am_fl_V hi)
        by_cases hfin : (am_ct z.2.2.1 z.2.2.2.1).2.2.2 = false
        · unfold u_lay at hlay
          rw [if_neg (by rw [hfin]; decide)] at hlay
          have h6 := u_store hfc hkC hkind hlay hfi (am_tyok h3 _ hk) f6 f7
          refine W.putK hexec hb (f := f) ⟨hown, hlink, ⟨_, _, _, hfi⟩, hst⟩ (by rw [q2]; exact h6) q1 q3 (by rw [hsl]; exact k2_hasslot (q4 _ hk)) rfl rfl hd fun H' e1 e2 e3 => last H' e1 e2 e3
        · have hfin' : (am_ct z.2.2.1 z.2.2.2.1).2.2.2 = true := by
            cases hq : (am_ct z.2.2.1 z.2.2.2.1).2.2.2 with
            | true => rfl
            | false => exact absurd hq hfin
          have hx2 := hx.2
          rw [hfin'] at hx2
          simp only [Bool.not_true, Bool.false_or, Bool.and_eq_true, decide_eq_true_eq] at hx2
          unfold u_lay at hlay
          rw [if_pos hfin'] at hlay
          have hcf : mid.cls = cf := by
            obtain ⟨_, _, c', _, _, _, -, -, hf', -, -, -, hown2, -⟩ := Cond.laysFinal_spec hlay
            have e1 : c' = cf := by have := hfi.symm.trans hf'; simp at this; exact this.1.symm
            rw [hx2.2] at hown2
            rw [← e1]; exact Option.some.inj (hown.symm.trans hown2)
          have h6 := u_fits hfc hkC hkind (Or.inr hlay) hfi (am_tyok h3 _ hk) f6 f7
          refine W.putFinK hexec hb hown hlink hfi hst hcf (hnm hx2.1) (by rw [q2]; exact h6) q1 q3 (by rw [hsl]; exact k2_hasslot (q4 _ hk)) rfl rfl hd fun H' e1 e2 e3 => last H' e1 e2 e3
      · cases ho
    · cases ho
  · cases ho
theorem as_iaload (C : am_Cx p R s mid args meth c g j) (hd : decode (am_mi j).2.1 pc = .ok (z.1, z.2.1)) (hx : am_okx (am_mi j).1 (am_mi j).2.2.2 pc z = true) (hi : z.1 = .iaload) : am_SS p l e R s mid args below meth c Q g j sz0 sl0 z pc := by
  intro ls st m pc' ls' st' m' H locs lsA ho hl hn hH hloc hs0 hs1 hR1 hR2 kk
  obtain ⟨hexec, hb, hml, hown, hts, hnm, hW, hfr, hlo⟩ := C
  rw [hi] at hd
  simp only [am_okx, hi, am_len, Bool.and_eq_true, decide_eq_true_eq] at hx
  try simp only [decide_eq_true_eq] at hx
  simp only [am_stp, am_step, hi] at ho
  rw [of_decide_eq_true hx] at hd
  split at ho
  · next i a st0 =>
    split at ho
    · next hc =>
      cases ho
      rcases hc.1 with h2 | h6
      · exact va_iald hexec hb hW.1 (am_P1 (hH.2.2.1 a _ (am_kind.2.1 h2)).1) 0 0 rfl rfl (am_ix_in hc.2) hd (kk H locs lsA hH hloc hl)
      · obtain ⟨scr, x1, x2, x3, x4, x5⟩ := (hH.2.2.2.1 a h6).1
        have hin := am_ix_in hc.2
        exact W.iald hexec hb x1 x2 x3 (by rw [x4]; exact hin) (x5 _ (Nat.not_le.mp fun q => hin (Or.inr q))) rfl rfl hd (kk H locs lsA hH hloc hl)
    · cases ho
  · cases ho
theorem as_baload (C : am_Cx p R s mid args meth c g j) (hd : decode (am_mi j).2.1 pc = .ok (z.1, z.2.1)) (hx : am_okx (am_mi j).1 (am_mi j).2.2.2 pc z = true) (hi : z.1 = .baload) : am_SS p l e R s mid args below meth c Q g j sz0 sl0 z pc := by
  intro ls st m pc' ls' st' m' H locs lsA ho hl hn hH hloc hs0 hs1 hR1 hR2 kk
  obtain ⟨hexec, hb, hml, hown, hts, hnm, hW, hfr, hlo⟩ := C
  rw [hi] at hd
  simp only [am_okx, hi, am_len, Bool.and_eq_true, decide_eq_true_eq] at hx
  try simp only [decide_eq_true_eq] at hx
  simp only [am_stp, am_step, hi] at ho
  rw [of_decide_eq_true hx] at hd
  split at ho
  · next i a st0 =>
    split at ho
    · next hc =>
      cases ho
      exact va_zald hexec hb hW.1 (am_P1 (hH.2.2.1 a _ (am_kind.2.2.1 hc.1)).1) 0 1 rfl rfl (am_ix_in hc.2) hd (kk H locs lsA hH hloc hl)
    · cases ho
  · cases ho
theorem as_laload (C : am_Cx p R s mid args meth c g j) (hd : decode (am_mi j).2.1 pc = .ok (z.1, z.2.1)) (hx : am_okx (am_mi j).1 (am_mi j).2.2.2 pc z = true) (hi : z.1 = .laload) : am_SS p l e R s mid args below meth c Q g j sz0 sl0 z pc := by
  intro ls st m pc' ls' st' m' H locs lsA ho hl hn hH hloc hs0 hs1 hR1 hR2 kk
  obtain ⟨hexec, hb, hml, hown, hts, hnm, hW, hfr, hlo⟩ := C
  rw [hi] at hd
  simp only [am_okx, hi, am_len, Bool.and_eq_true, decide_eq_true_eq] at hx
  try simp only [decide_eq_true_eq] at hx
  simp only [am_stp, am_step, hi] at ho
  rw [of_decide_eq_true hx] at hd
  split at ho
  · next i a st0 =>
    split at ho
    · next hc =>
      cases ho
      exact va_lald hexec hb hW.1 (am_P1 (hH.2.2.1 a _ (am_kind.2.2.2.1 hc.1)).1) 0 2 rfl rfl (am_ix_in hc.2) hd (kk H locs lsA hH hloc hl)
    · cases ho
  · cases ho
theorem as_aaload (C : am_Cx p R s mid args meth c g j) (hd : decode (am_mi j).2.1 pc = .ok (z.1, z.2.1)) (hx : am_okx (am_mi j).1 (am_mi j).2.2.2 pc z = true) (hi : z.1 = .aaload) : am_SS p l e R s mid args below meth c Q g j sz0 sl0 z pc := by
  intro ls st m pc' ls' st' m' H locs lsA ho hl hn hH hloc hs0 hs1 hR1 hR2 kk
  obtain ⟨hexec, hb, hml, hown, hts, hnm, hW, hfr, hlo⟩ := C
  rw [hi] at hd
  simp only [am_okx, hi, am_len, Bool.and_eq_true, decide_eq_true_eq] at hx
  try simp only [decide_eq_true_eq] at hx
  simp only [am_stp, am_step, hi] at ho
  rw [of_decide_eq_true hx] at hd
  split at ho
  · next i a st0 =>
    split at ho
    · next hc =>
      cases ho
      have hP := am_P1 (hH.2.2.1 a _ (am_kind.2.2.2.2 hc.1)).1
      rcases hH.2.2.2.2 a hc.1 with h2 | h8
      · rw [h2] at hP
        exact va_aldq hexec hb hW.1 hP 0 3 rfl rfl (am_ix_in hc.2) hd (kk H locs lsA hH hloc hl)
      · rw [h8] at hP
        exact va_aldq hexec hb hW.1 hP 0 4 rfl rfl (am_ix_in hc.2) hd (kk H locs lsA hH hloc hl)
    · cases ho
  · cases ho
theorem as_arraylength (C : am_Cx p R s mid args meth c g j) (hd : decode (am_mi j).2.1 pc = .ok (z.1, z.2.1)) (hx : am_okx (am_mi j).1 (am_mi j).2.2.2 pc z = true) (hi : z.1 = .arraylength) : am_SS p l e R s mid args below meth c Q g j sz0 sl0 z pc := by
  intro ls st m pc' ls' st' m' H locs lsA ho hl hn hH hloc hs0 hs1 hR1 hR2 kk
  obtain ⟨hexec, hb, hml, hown, hts, hnm, hW, hfr, hlo⟩ := C
  rw [hi] at hd
  simp only [am_okx, hi, am_len, Bool.and_eq_true, decide_eq_true_eq] at hx
  try simp only [decide_eq_true_eq] at hx
  simp only [am_stp, am_step, hi] at ho
  rw [of_decide_eq_true hx] at hd
  split at ho
  · next a st0 =>
    split at ho
    · next hc =>
      cases ho
      obtain ⟨scr, x1, x2, x3, x4, x5⟩ := (hH.2.2.2.1 a hc).1
      exact W.alen hexec hb x1 x2 (by rw [x4]) rfl rfl hd (kk H locs lsA hH hloc hl)
    · cases ho
  · cases ho
theorem am_pick {f : Nat → Int32} {k : Nat} {x : Int32} {n : Nat} {cA : ClassId} : (arrV cA n (fun j => Value.int (f j))).setSlot k (.int x) = arrV cA n (fun j => Value.int (if j = k then x else f j)) := by
  rw [arrV_store]
  congr 1
  funext q
  unfold updV
  split <;> rfl
theorem am_pickL {f : Nat → Int64} {k : Nat} {x : Int64} {n : Nat} {cA : ClassId} : (arrV cA n (fun j => Value.long (f j))).setSlot k (.long x) = arrV cA n (fun j => Value.long (if j = k then x else f j)) := by
  rw [arrV_store]
  congr 1
  funext q
  unfold updV
  split <;> rfl
theorem am_pickR {f : Nat → Option Nat} {k : Nat} {x : Nat} {n : Nat} {cA : ClassId} : (arrV cA n (fun j => va_rf (f j))).setSlot k (.ref x) = arrV cA n (fun j => va_rf (if j = k then some x else f j)) := by
  rw [arrV_store]
  congr 1
  funext q
  unfold updV
  split <;> rfl
theorem am_bb_nar {x : Int32} (h : am_bb x = true) : narrow .boolean (.int x) = .int x := by
  unfold am_bb at h
  simp only [Bool.or_eq_true, decide_eq_true_eq] at h
  rcases h with rfl | rfl <;> rfl
theorem as_iastore (C : am_Cx p R s mid args meth c g j) (hd : decode (am_mi j).2.1 pc = .ok (z.1, z.2.1)) (hx : am_okx (am_mi j).1 (am_mi j).2.2.2 pc z = true) (hi : z.1 = .iastore) : am_SS p l e R s mid args below meth c Q g j sz0 sl0 z pc := by
  intro ls st m pc' ls' st' m' H locs lsA ho hl hn hH hloc hs0 hs1 hR1 hR2 kk
  obtain ⟨hexec, hb, hml, hown, hts, hnm, hW, hfr, hlo⟩ := C
  rw [hi] at hd
  simp only [am_okx, hi, am_len, Bool.and_eq_true, decide_eq_true_eq] at hx
  try simp only [decide_eq_true_eq] at hx
  simp only [am_stp, am_step, hi] at ho
  rw [of_decide_eq_true hx] at hd
  split at ho
  · next x i a st0 =>
    split at ho
    · next hc =>
      cases ho
      have hcell := (am_kind (g := g) (m := m) (a := a)).2.1 hc.1
      obtain ⟨h1, h2⟩ := hH.2.2.1 a _ hcell
      have hin := am_ix_in hc.2
      refine W.iast hexec hb h1 ((hW.1.2 0 _ rfl).1 _ (fun j => .int (mI m a j))) (fun q => by cases q) (by show ¬ (i < 0 ∨ (arrV _ _ _).slots.size ≤ _); rw [arrV_size]; exact hin) rfl rfl hd fun H1 e1 z1 oq => ?_
      refine kk H1 _ lsA (hH.store z1 oq rfl rfl (fun b hb => ⟨by rw [mI_sI, up2_ne hb], rfl, rfl⟩) h2 (by rw [hc.1]; exact (show (2 : Nat) ≠ 6 by decide)) ?_) (t_lc hloc h2) hl
      intro e he
      have hcell2 := (am_kind (g := g) (m := sI m a i.toNatClampNeg x) (a := a)).2.1 (by rw [mK_sI]; exact hc.1)
      cases hcell2.symm.trans he
      show H1[a]? = some (vp_cell _ _)
      rw [e1, vp_cell_i, vp_cell_i, am_pick, mI_sI, up2_at, mK_sI]
    · cases ho
  · cases ho
theorem as_bastore (C : am_Cx p R s mid args meth c g j) (hd : decode (am_mi j).2.1 pc = .ok (z.1, z.2.1)) (hx : am_okx (am_mi j).1 (am_mi j).2.2.2 pc z = true) (hi : z.1 = .bastore) : am_SS p l e R s mid args below meth c Q g j sz0 sl0 z pc := by
  intro ls st m pc' ls' st' m' H locs lsA ho hl hn hH hloc hs0 hs1 hR1 hR2 kk
  obtain ⟨hexec, hb, hml, hown, hts, hnm, hW, hfr, hlo⟩ := C
  rw [hi] at hd
  simp only [am_okx, hi, am_len, Bool.and_eq_true, decide_eq_true_eq] at hx
  try simp only [decide_eq_true_eq] at hx
  simp only [am_stp, am_step, hi] at ho
  rw [of_decide_eq_true hx] at hd
  split at ho
  · next x i a st0 =>
    split at ho
    · next hc =>
      cases ho
      have hcell := (am_kind (g := g) (m := m) (a := a)).2.2.1 hc.1
      obtain ⟨h1, h2⟩ := hH.2.2.1 a _ hcell
      have hin := am_ix_in hc.2.1
      refine W.zast hexec hb h1 ((hW.1.2 1 _ rfl).1 _ (fun j => .int (mI m a j))) (fun q => by cases q) (by show ¬ (i < 0 ∨ (arrV _ _ _).slots.size ≤ _); rw [arrV_size]; exact hin) rfl rfl hd fun H1 e1 z1 oq => ?_
      rw [am_bb_nar hc.2.2] at e1
      refine kk H1 _ lsA (hH.store z1 oq rfl rfl (fun b hb => ⟨by rw [mI_sI, up2_ne hb], rfl, rfl⟩) h2 (by rw [hc.1]; exact (show (3 : Nat) ≠ 6 by decide)) ?_) (t_lc hloc h2) hl
      intro e he
      have hcell2 := (am_kind (g := g) (m := sI m a i.toNatClampNeg x) (a := a)).2.2.1 (by rw [mK_sI]; exact hc.1)
      cases hcell2.symm.trans he
      show H1[a]? = some (vp_cell _ _)
      rw [e1, vp_cell_i, vp_cell_i, am_pick, mI_sI, up2_at, mK_sI]
    · cases ho
  · cases ho
theorem as_lastore (C : am_Cx p R s mid args meth c g j) (hd : decode (am_mi j).2.1 pc = .ok (z.1, z.2.1)) (hx : am_okx (am_mi j).1 (am_mi j).2.2.2 pc z = true) (hi : z.1 = .lastore) : am_SS p l e R s mid args below meth c Q g j sz0 sl0 z pc := by
  intro ls st m pc' ls' st' m' H locs lsA ho hl hn hH hloc hs0 hs1 hR1 hR2 kk
  obtain ⟨hexec, hb, hml, hown, hts, hnm, hW, hfr, hlo⟩ := C
  rw [hi] at hd
  simp only [am_okx, hi, am_len, Bool.and_eq_true, decide_eq_true_eq] at hx
  try simp only [decide_eq_true_eq] at hx
  simp only [am_stp, am_step, hi] at ho
  rw [of_decide_eq_true hx] at hd
  split at ho
  · next x i a st0 =>
    split at ho
    · next hc =>
      cases ho
      have hcell := (am_kind (g := g) (m := m) (a := a)).2.2.2.1 hc.1
      obtain ⟨h1, h2⟩ := hH.2.2.1 a _ hcell
      have hin := am_ix_in hc.2
      refine W.last hexec hb h1 ((hW.1.2 2 _ rfl).1 _ (fun j => .long (mL m a j))) (fun q => by cases q) (by show ¬ (i < 0 ∨ (arrV _ _ _).slots.size ≤ _); rw [arrV_size]; exact hin) rfl rfl hd fun H1 e1 z1 oq => ?_
      refine kk H1 _ lsA (hH.store z1 oq rfl rfl (fun b hb => ⟨rfl, by rw [mL_sL, up2_ne hb], rfl⟩) h2 (by rw [hc.1]; exact (show (4 : Nat) ≠ 6 by decide)) ?_) (t_lc hloc h2) hl
      intro e he
      have hcell2 := (am_kind (g := g) (m := sL m a i.toNatClampNeg x) (a := a)).2.2.2.1 (by rw [mK_sL]; exact hc.1)
      cases hcell2.symm.trans he
      show H1[a]? = some (vp_cell _ _)
      rw [e1, vp_cell_l, vp_cell_l, am_pickL, mL_sL, up2_at, mK_sL]
    · cases ho
  · cases ho
theorem as_aastore (C : am_Cx p R s mid args meth c g j) (hd : decode (am_mi j).2.1 pc = .ok (z.1, z.2.1)) (hx : am_okx (am_mi j).1 (am_mi j).2.2.2 pc z = true) (hi : z.1 = .aastore) : am_SS p l e R s mid args below meth c Q g j sz0 sl0 z pc := by
  intro ls st m pc' ls' st' m' H locs lsA ho hl hn hH hloc hs0 hs1 hR1 hR2 kk
  obtain ⟨hexec, hb, hml, hown, hts, hnm, hW, hfr, hlo⟩ := C
  rw [hi] at hd
  simp only [am_okx, hi, am_len, Bool.and_eq_true, decide_eq_true_eq] at hx
  try simp only [decide_eq_true_eq] at hx
  simp only [am_stp, am_step, hi] at ho
  rw [of_decide_eq_true hx] at hd
  split at ho
  · next x i a st0 =>
    split at ho
    · next hc =>
      cases ho
      have hcell := (am_kind (g := g) (m := m) (a := a)).2.2.2.2 hc.1
      obtain ⟨h1, h2⟩ := hH.2.2.1 a _ hcell
      have hin := am_ix_in hc.2.1
      have hlt : i.toNatClampNeg < (mK m a).2.2 := Nat.not_le.mp fun q => hin (Or.inr q)
      have h0 : ¬ i < 0 := fun q => hin (Or.inl q)
      obtain ⟨o1, o2, o3⟩ := am_obj hH hc.2.2
      obtain ⟨r', hr', cellV, g1, g2, g3, -⟩ := o1
      have hcls := (hW.1.1 _ _ (vwCl_of o3)).2
      have hty : va_RA s (g.2.1 (5 + (mK m a).2.1)) (.object (am_cs (mK m a).2.1)) := by
        rcases hH.2.2.2.2 a hc.1 with q | q
        · rw [q]; exact (hW.1.2 3 _ rfl).2
        · rw [q]; exact (hW.1.2 4 _ rfl).2
      obtain ⟨kA, comp, k1, k2, k3, -⟩ := hty
      have hcomp : comp = g.1.1 (mK m a).2.1 := Option.some.inj (k3.symm.trans hcls.1)
      subst hcomp
      obtain ⟨kC, hkC, -⟩ := hcls.2
      refine W.aast hexec hb h1 (fun q h => by cases h) (fun h => by cases h) k1 k2 rfl hkC ⟨h0, by show _ < (arrV _ _ _).slots.size; rw [arrV_size]; exact hlt⟩ g1 (fun q h => by rw [g3] at h; cases h) (by rw [g2]; exact hkC) (by rw [g2]; exact va_assign hcls) rfl rfl hd fun H1 e1 z1 oq => ?_
      refine kk H1 _ lsA (hH.store z1 oq rfl rfl (fun b hb => ⟨rfl, rfl, by rw [mR_sR, up2_ne hb]⟩) h2 (by rw [hc.1]; exact (show (5 : Nat) ≠ 6 by decide)) ?_) (t_lc hloc h2) hl
      intro e he
      have hcell2 := (am_kind (g := g) (m := sR m a i.toNatClampNeg (some x)) (a := a)).2.2.2.2 (by rw [mK_sR]; exact hc.1)
      cases hcell2.symm.trans he
      show H1[a]? = some (vp_cell _ _)
      rw [e1, vp_cell_q, vp_cell_q, am_pickR, mR_sR, up2_at, mK_sR]
    · cases ho
  · cases ho
theorem am_ixn {n : Int32} {N : Nat} (h : am_ix n N = true) : ¬ n < 0 ∧ n.toNatClampNeg < N := by
  unfold am_ix at h
  simp only [Bool.and_eq_true, Bool.not_eq_true', decide_eq_false_iff_not, decide_eq_true_eq] at h
  exact h
theorem am_arrcls {U : State} {D : va_G} {cl : List vw_C} {tys : List (ClassId × FieldType)} {k : Nat} {cI cA : ClassId} {ty : FieldType} (hK : va_K D cl tys U) (hk : tys[k]? = some (cI, ty)) (hf : U.vm.findClass ("[" ++ ty.toString) = some cA) : cA = cI := by
  have h := (hK.2 k _ hk).2
  have h2 : U.vm.findClass ("[" ++ ty.toString) = some cI := by
    cases ty with
    | object C => obtain ⟨_, _, _, _, _, h4⟩ := h; exact h4
    | _ => exact h
  exact Option.some.inj (hf.symm.trans h2)
theorem as_newarray_int (C : am_Cx p R s mid args meth c g j) (hd : decode (am_mi j).2.1 pc = .ok (z.1, z.2.1)) (hx : am_okx (am_mi j).1 (am_mi j).2.2.2 pc z = true) (hi : z.1 = .newarray .int) : am_SS p l e R s mid args below meth c Q g j sz0 sl0 z pc := by
  intro ls st m pc' ls' st' m' H locs lsA ho hl hn hH hloc hs0 hs1 hR1 hR2 kk
  obtain ⟨hexec, hb, hml, hown, hts, hnm, hW, hfr, hlo⟩ := C
  rw [hi] at hd
  simp only [am_okx, hi, am_len, Bool.and_eq_true, decide_eq_true_eq] at hx
  try simp only [decide_eq_true_eq] at hx
  simp only [am_stp, am_step, hi] at ho
  rw [hx.1] at hd
  split at ho
  · next n st0 =>
    split at ho
    · next hc =>
      cases ho
      obtain ⟨hc1, hc2⟩ := am_ixn hc
      rw [mS_nw] at hR1
      rw [mN_nw] at hR2
      have e1 : mS m - sz0 + 1 = mS (nw m (2, 0, n.toNatClampNeg) n.toNatClampNeg) - sz0 := by rw [mS_nw]; omega
      have e2 : mN m - sl0 + n.toNatClampNeg = mN (nw m (2, 0, n.toNatClampNeg) n.toNatClampNeg) - sl0 := by rw [mN_nw]; omega
      refine va_newaK (atype := .int) hexec hb (hts _ (am_good (w := .arrayClass .int) (by decide +kernel) rfl)) rfl hd rfl hc1 rfl (by show n.toNatClampNeg * componentBytes .int ≤ _; simp only [componentBytes]; omega) (by omega) (by omega) hH.1 fun H1 cA q1 q2 q3 q4 q5 => ?_
      have hcA := am_arrcls hW.1 (k := 0) (ty := .int) rfl q5
      subst hcA
      rw [e1, e2]
      refine kk H1 locs lsA (hH.alloc (by rw [q2, hH.1]) (fun q hq => q3 q (by rw [← hH.1]; exact hq)) (show (2 : Nat) ≠ 6 by decide) (fun h => absurd h (show ¬ (2 : Nat) = 5 by decide)) ?_) hloc hl
      intro e he
      have hcell := (am_kind (g := g) (m := nw m (2, 0, n.toNatClampNeg) n.toNatClampNeg) (a := mS m)).2.1 (by rw [mK_nw, upA_at])
      rw [mK_nw, upA_at, mI_nw, upA_at] at hcell
      cases hcell.symm.trans he
      exact q1
    · cases ho
  · cases ho
theorem as_newarray_boolean (C : am_Cx p R s mid args meth c g j) (hd : decode (am_mi j).2.1 pc = .ok (z.1, z.2.1)) (hx : am_okx (am_mi j).1 (am_mi j).2.2.2 pc z = true) (hi : z.1 = .newarray .boolean) : am_SS p l e R s mid args below meth c Q g j sz0 sl0 z pc := by
  intro ls st m pc' ls' st' m' H locs lsA ho hl hn hH hloc hs0 hs1 hR1 hR2 kk
  obtain ⟨hexec, hb, hml, hown, hts, hnm, hW, hfr, hlo⟩ := C
  rw [hi] at hd
  simp only [am_okx, hi, am_len, Bool.and_eq_true, decide_eq_true_eq] at hx
  try simp only [decide_eq_true_eq] at hx
  simp only [am_stp, am_step, hi] at ho
  rw [hx.1] at hd
  split at ho
  · next n st0 =>
    split at ho
    · next hc =>
      cases ho
      obtain ⟨hc1, hc2⟩ := am_ixn hc
      rw [mS_nw] at hR1
      rw [mN_nw] at hR2
      have e1 : mS m - sz0 + 1 = mS (nw m (3, 0, n.toNatClampNeg) n.toNatClampNeg) - sz0 := by rw [mS_nw]; omega
      have e2 : mN m - sl0 + n.toNatClampNeg = mN (nw m (3, 0, n.toNatClampNeg) n.toNatClampNeg) - sl0 := by rw [mN_nw]; omega
      refine va_newaK (atype := .boolean) hexec hb (hts _ (am_good (w := .arrayClass .boolean) (by decide +kernel) rfl)) rfl hd rfl hc1 rfl (by show n.toNatClampNeg * componentBytes .boolean ≤ _; simp only [componentBytes]; omega) (by omega) (by omega) hH.1 fun H1 cA q1 q2 q3 q4 q5 => ?_
      have hcA := am_arrcls hW.1 (k := 1) (ty := .boolean) rfl q5
      subst hcA
      rw [e1, e2]
      refine kk H1 locs lsA (hH.alloc (by rw [q2, hH.1]) (fun q hq => q3 q (by rw [← hH.1]; exact hq)) (show (3 : Nat) ≠ 6 by decide) (fun h => absurd h (show ¬ (3 : Nat) = 5 by decide)) ?_) hloc hl
      intro e he
      have hcell := (am_kind (g := g) (m := nw m (3, 0, n.toNatClampNeg) n.toNatClampNeg) (a := mS m)).2.2.1 (by rw [mK_nw, upA_at])
      rw [mK_nw, upA_at, mI_nw, upA_at] at hcell
      cases hcell.symm.trans he
      exact q1
    · cases ho
  · cases ho
theorem as_newarray_long (C : am_Cx p R s mid args meth c g j) (hd : decode (am_mi j).2.1 pc = .ok (z.1, z.2.1)) (hx : am_okx (am_mi j).1 (am_mi j).2.2.2 pc z = true) (hi : z.1 = .newarray .long) : am_SS p l e R s mid args below meth c Q g j sz0 sl0 z pc := by
  intro ls st m pc' ls' st' m' H locs lsA ho hl hn hH hloc hs0 hs1 hR1 hR2 kk
  obtain ⟨hexec, hb, hml, hown, hts, hnm, hW, hfr, hlo⟩ := C
  rw [hi] at hd
  simp only [am_okx, hi, am_len, Bool.and_eq_true, decide_eq_true_eq] at hx
  try simp only [decide_eq_true_eq] at hx
  simp only [am_stp, am_step, hi] at ho
  rw [hx.1] at hd
  split at ho
  · next n st0 =>
    split at ho
    · next hc =>
      cases ho
      obtain ⟨hc1, hc2⟩ := am_ixn hc
      rw [mS_nw] at hR1
      rw [mN_nw] at hR2
      have e1 : mS m - sz0 + 1 = mS (nw m (4, 0, n.toNatClampNeg) n.toNatClampNeg) - sz0 := by rw [mS_nw]; omega
      have e2 : mN m - sl0 + n.toNatClampNeg = mN (nw m (4, 0, n.toNatClampNeg) n.toNatClampNeg) - sl0 := by rw [mN_nw]; omega
      refine va_newaK (atype := .long) hexec hb (hts _ (am_good (w := .arrayClass .long) (by decide +kernel) rfl)) rfl hd rfl hc1 rfl (by show n.toNatClampNeg * componentBytes .long ≤ _; simp only [componentBytes]; omega) (by omega) (by omega) hH.1 fun H1 cA q1 q2 q3 q4 q5 => ?_
      have hcA := am_arrcls hW.1 (k := 2) (ty := .long) rfl q5
      subst hcA
      rw [e1, e2]
      refine kk H1 locs lsA (hH.alloc (by rw [q2, hH.1]) (fun q hq => q3 q (by rw [← hH.1]; exact hq)) (show (4 : Nat) ≠ 6 by decide) (fun h => absurd h (show ¬ (4 : Nat) = 5 by decide)) ?_) hloc hl
      intro e he
      have hcell := (am_kind (g := g) (m := nw m (4, 0, n.toNatClampNeg) n.toNatClampNeg) (a := mS m)).2.2.2.1 (by rw [mK_nw, upA_at])
      rw [mK_nw, upA_at, mL_nw, upA_at] at hcell
      cases hcell.symm.trans he
      exact q1
    · cases ho
  · cases ho
theorem as_anewarray {i : Nat} (C : am_Cx p R s mid args meth c g j) (hd : decode (am_mi j).2.1 pc = .ok (z.1, z.2.1)) (hx : am_okx (am_mi j).1 (am_mi j).2.2.2 pc z = true) (hi : z.1 = .anewarray i) : am_SS p l e R s mid args below meth c Q g j sz0 sl0 z pc := by
  intro ls st m pc' ls' st' m' H locs lsA ho hl hn hH hloc hs0 hs1 hR1 hR2 kk
  obtain ⟨hexec, hb, hml, hown, hts, hnm, hW, hfr, hlo⟩ := C
  rw [hi] at hd
  simp only [am_okx, hi, am_len, Bool.and_eq_true, decide_eq_true_eq] at hx
  try simp only [decide_eq_true_eq] at hx
  simp only [am_stp, am_step, hi] at ho
  rw [hx.1.1] at hd
  split at ho
  · next n st0 =>
    split at ho
    · next hc =>
      cases ho
      obtain ⟨hc1, hc2⟩ := am_ixn hc
      rw [mS_nw] at hR1
      rw [mN_nw] at hR2
      have e1 : mS m - sz0 + 1 = mS (nw m (5, z.2.2.1, n.toNatClampNeg) n.toNatClampNeg) - sz0 := by rw [mS_nw]; omega
      have e2 : mN m - sl0 + n.toNatClampNeg = mN (nw m (5, z.2.2.1, n.toNatClampNeg) n.toNatClampNeg) - sl0 := by rw [mN_nw]; omega
      have hp : z.2.2.1 = 2 ∨ z.2.2.1 = 8 := by
        have := hx.1.2
        simpa using this
      have hov : va_AO (am_cs z.2.2.1) s := by
        rcases hp with q | q
        · rw [q]; exact hW.2.1
        · rw [q]; exact hW.2.2.1
      refine W.anew hexec hb hown (hts _ (am_good (am_wd_mem hx.2) rfl)) (va_AO.use hov) rfl hd rfl hc1 (by omega) (by omega) (by omega) fun cA kA comp f1 f2 f3 f4 => ?_
      have hcA : cA = g.2.1 (5 + z.2.2.1) := by
        rcases hp with q | q
        · rw [q] at f1 ⊢; exact am_arrcls hW.1 (k := 3) (ty := .object RX2) rfl f1
        · rw [q] at f1 ⊢; exact am_arrcls hW.1 (k := 4) (ty := .object RX8) rfl f1
      subst hcA
      rw [e1, e2, hH.1]
      generalize hH1 : H.push ({ cls := g.2.1 (5 + z.2.2.1), slots := Array.replicate n.toNatClampNeg .null, vm := .none } : Cell) = H1
      have z1 : H1.size = H.size + 1 := by rw [← hH1, Array.size_push]
      have c1 : H1[H.size]? = some (arrV (g.2.1 (5 + z.2.2.1)) n.toNatClampNeg (fun _ => .null)) := by rw [← hH1, Array.getElem?_push_size, ← arrV_new]
      have o1 : ∀ q : Nat, q < H.size → H1[q]? = H[q]? := fun q hq => by rw [← hH1, Array.getElem?_push, if_neg (Nat.ne_of_lt hq)]
      refine kk H1 locs lsA (hH.alloc z1 o1 (show (5 : Nat) ≠ 6 by decide) (fun _ => hp) ?_) hloc hl
      intro e he
      have hcell := (am_kind (g := g) (m := nw m (5, z.2.2.1, n.toNatClampNeg) n.toNatClampNeg) (a := mS m)).2.2.2.2 (by rw [mK_nw, upA_at])
      rw [mK_nw, upA_at, mR_nw, upA_at] at hcell
      cases hcell.symm.trans he
      show H1[mS m]? = some (vp_cell _ _)
      rw [← hH.1, c1]
      rfl
    · cases ho
  · cases ho
theorem as_new {i : Nat} (C : am_Cx p R s mid args meth c g j) (hd : decode (am_mi j).2.1 pc = .ok (z.1, z.2.1)) (hx : am_okx (am_mi j).1 (am_mi j).2.2.2 pc z = true) (hi : z.1 = .new i) : am_SS p l e R s mid args below meth c Q g j sz0 sl0 z pc := by
  intro ls st m pc' ls' st' m' H locs lsA ho hl hn hH hloc hs0 hs1 hR1 hR2 kk
  obtain ⟨hexec, hb, hml, hown, hts, hnm, hW, hfr, hlo⟩ := C
  rw [hi] at hd
  simp only [am_okx, hi, am_len, Bool.and_eq_true, decide_eq_true_eq] at hx
  try simp only [decide_eq_true_eq] at hx
  simp only [am_stp, am_step, hi] at ho
  rw [hx.1.1] at hd
  cases ho
  have h3 := hx.1.2
  rw [mS_nw] at hR1
  rw [mN_nw] at hR2
  have e1 : mS m - sz0 + 1 = mS (nw m (1, z.2.2.1, 0) (am_fn z.2.2.1)) - sz0 := by rw [mS_nw]; omega
  have e2 : mN m - sl0 + am_fn z.2.2.1 = mN (nw m (1, z.2.2.1, 0) (am_fn z.2.2.1)) - sl0 := by rw [mN_nw]; omega
  have hKn := hW.1.1 _ _ (vwCl_of h3)
  refine W.newcK hexec hb hown (hts _ (am_good (am_wd_mem hx.2) rfl)) (hts _ (am_inst h3)) (hts _ (am_init h3)) rfl hd (by omega) (by omega) hKn.2.1 hH.1 fun H1 kC hkC q1 q2 q3 => ?_
  rw [e1, e2]
  refine kk H1 locs lsA (hH.alloc (by rw [q2, hH.1]) (fun q hq => q3 q (by rw [← hH.1]; exact hq)) (show (1 : Nat) ≠ 6 by decide) (fun h => absurd h (show ¬ (1 : Nat) = 5 by decide)) ?_) hloc hl
  intro e he
  have hcell := (am_kind (g := g) (m := nw m (1, z.2.2.1, 0) (am_fn z.2.2.1)) (a := mS m)).1 (by rw [mK_nw, upA_at])
  rw [mK_nw, upA_at] at hcell
  cases hcell.symm.trans he
  refine ⟨_, vwCl_of h3, (u_born (am_cy z.2.2.1) hts (am_lays h3) hKn hkC q1 (am_tyok h3)).to (fun k hk => ?_)⟩
  show defaultValue _ = vp_V (am_fl _ (mS m) z.2.2.1) k
  rw [am_fl_V hk]
  unfold am_fv
  rw [mI_nw, mL_nw, mR_nw, upA_at, upA_at, upA_at]
  rcases am_fkty h3 k hk with ⟨f1, f2⟩ | ⟨f1, f2⟩ | ⟨f1, -, f2, -⟩
  · rw [f1, f2]; rfl
  · rw [f1, f2]; rfl
  · rw [f1, f2]; rfl
theorem as_objinit {i : Nat} (h9 : z.2.2.2.1 = 9) (C : am_Cx p R s mid args meth c g j) (hd : decode (am_mi j).2.1 pc = .ok (z.1, z.2.1)) (hx : am_okx (am_mi j).1 (am_mi j).2.2.2 pc z = true) (hi : z.1 = .invokespecial i) : am_SS p l e R s mid args below meth c Q g j sz0 sl0 z pc := by
  intro ls st m pc' ls' st' m' H locs lsA ho hl hn hH hloc hs0 hs1 hR1 hR2 kk
  obtain ⟨hexec, hb, hml, hown, hts, hnm, hW, hfr, hlo⟩ := C
  rw [hi] at hd
  simp only [am_okx, hi, am_len, Bool.and_eq_true, decide_eq_true_eq] at hx
  try simp only [decide_eq_true_eq] at hx
  simp only [am_stp, am_step, hi] at ho
  rw [hx.1] at hd
  have hx2 := hx.2
  rw [if_pos h9] at hx2 ho
  split at ho
  · next a st0 =>
    split at ho
    · next hc =>
      cases ho
      exact W.objInit hexec hb hown (hts _ (am_good (am_wd_mem hx2) rfl)) (hts _ (am_good (w := .instanceMethod objectInit) (by decide +kernel) rfl)) (hts _ (am_good (w := .code objectInit ⟨#[0xb1]⟩ 1 none) (by decide +kernel) rfl)) rfl (by rw [hml]; exact hl.1) rfl hd hfr (by unfold am_w at hc; show 2 * 0 + _ + 12 ≤ _; omega) (kk H locs lsA hH hloc hl)
    · cases ho
  · cases ho
theorem as_mmax {i : Nat} (h9 : z.2.2.2.1 = 7) (C : am_Cx p R s mid args meth c g j) (hd : decode (am_mi j).2.1 pc = .ok (z.1, z.2.1)) (hx : am_okx (am_mi j).1 (am_mi j).2.2.2 pc z = true) (hi : z.1 = .invokestatic i) : am_SS p l e R s mid args below meth c Q g j sz0 sl0 z pc := by
  intro ls st m pc' ls' st' m' H locs lsA ho hl hn hH hloc hs0 hs1 hR1 hR2 kk
  obtain ⟨hexec, hb, hml, hown, hts, hnm, hW, hfr, hlo⟩ := C
  rw [hi] at hd
  simp only [am_okx, hi, am_len, Bool.and_eq_true, decide_eq_true_eq] at hx
  try simp only [decide_eq_true_eq] at hx
  simp only [am_stp, am_step, hi] at ho
  rw [hx.1] at hd
  have hx2 := hx.2
  rw [if_pos h9] at hx2 ho
  split at ho
  · next y x st0 =>
    split at ho
    · next hc =>
      cases ho
      exact va_mmax hexec hb (by rw [hml]; exact hl.1.symm) hown (hts _ (am_good (am_wd_mem hx2) rfl)) (hts _ (am_good (w := .static Lib.Math.max.name) (by decide +kernel) rfl)) (hts _ (am_good (w := .initialized "java/lang/Math") (by decide +kernel) rfl)) (hts _ (am_good (w := .code Lib.Math.max.name Lib.Math.max.code 2 (some .int)) (by decide +kernel) rfl)) hfr (am_wle hc (by decide) hlo) (by omega) (by omega) hd (kk H locs lsA hH hloc hl)
    · cases ho
  · cases ho
theorem as_mmin {i : Nat} (h9 : z.2.2.2.1 = 8) (C : am_Cx p R s mid args meth c g j) (hd : decode (am_mi j).2.1 pc = .ok (z.1, z.2.1)) (hx : am_okx (am_mi j).1 (am_mi j).2.2.2 pc z = true) (hi : z.1 = .invokestatic i) : am_SS p l e R s mid args below meth c Q g j sz0 sl0 z pc := by
  intro ls st m pc' ls' st' m' H locs lsA ho hl hn hH hloc hs0 hs1 hR1 hR2 kk
  obtain ⟨hexec, hb, hml, hown, hts, hnm, hW, hfr, hlo⟩ := C
  rw [hi] at hd
  simp only [am_okx, hi, am_len, Bool.and_eq_true, decide_eq_true_eq] at hx
  try simp only [decide_eq_true_eq] at hx
  simp only [am_stp, am_step, hi] at ho
  rw [hx.1] at hd
  have hx2 := hx.2
  rw [if_neg (by rw [h9]; decide)] at hx2 ho
  rw [if_pos h9] at hx2 ho
  split at ho
  · next y x st0 =>
    split at ho
    · next hc =>
      cases ho
      exact va_mmin hexec hb (by rw [hml]; exact hl.1.symm) hown (hts _ (am_good (am_wd_mem hx2) rfl)) (hts _ (am_good (w := .static Lib.Math.min.name) (by decide +kernel) rfl)) (hts _ (am_good (w := .initialized "java/lang/Math") (by decide +kernel) rfl)) (hts _ (am_good (w := .code Lib.Math.min.name Lib.Math.min.code 2 (some .int)) (by decide +kernel) rfl)) hfr (am_wle hc (by decide) hlo) (by omega) (by omega) hd (kk H locs lsA hH hloc hl)
    · cases ho
  · cases ho
end AMT
