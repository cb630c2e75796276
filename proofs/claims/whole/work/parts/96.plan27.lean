/-! THE CALLS: least; stow's pieces -/
def plnV (n : Nat) (th : Nat → Nat) (f : Nat → Nat) (l : Nat) : Int32 := match fstR (fun k => decide (th k = l)) n 0 with
  | some k => nI (f k)
  | none => -1
def plnS (S : Nat → Int32) (n : Nat) (th : Nat → Nat) : Bst → Nat → Int32
  | none, y => if 5300 ≤ y ∧ y < 6100 then -1 else S y
  | some (_, bl, bp), y => if 5300 ≤ y ∧ y < 5700 then plnV n th bl (y - 5300) else if 5700 ≤ y ∧ y < 6100 then plnV n th bp (y - 5700) else S y
theorem plnV_at {n : Nat} {th f : Nat → Nat} (ti : ∀ k k', k < n → k' < n → th k = th k' → k = k') {k : Nat} (hk : k < n) : plnV n th f (th k) = nI (f k) := by
  unfold plnV
  cases e : fstR (fun k' => decide (th k' = th k)) n 0 with
  | none =>
    rw [fstR_none] at e
    have := e k (by omega) (by omega)
    rw [decide_eq_true rfl] at this
    cases this
  | some j =>
    obtain ⟨-, e2, e3, -⟩ := fstR_some _ _ _ e
    have : j = k := ti j k (by omega) hk (of_decide_eq_true e3)
    rw [this]
theorem plnV_no {n : Nat} {th f : Nat → Nat} {l : Nat} (h : ∀ k, k < n → l ≠ th k) : plnV n th f l = -1 := by
  unfold plnV
  have : fstR (fun k => decide (th k = l)) n 0 = none := by
    rw [fstR_none]
    intro p _ p2
    exact decide_eq_false (fun z => h p (by omega) z.symm)
  rw [this]
theorem pln_s {S : Nat → Int32} {n : Nat} {th : Nat → Nat} {b : Bst} (t4 : ∀ k, k < n → th k < 400) (ti : ∀ k k', k < n → k' < n → th k = th k' → k = k') : PlS S (plnS S n th b) n th b := by
  rcases b with _ | ⟨c, bl, bp⟩
  · refine ⟨fun y hy => ?_, fun l hl _ => ?_, fun l hl => ?_⟩
    · show (if 5300 ≤ y ∧ y < 6100 then (-1 : Int32) else S y) = S y
      rw [if_neg (by omega)]
    · show (if 5300 ≤ 5300 + l ∧ 5300 + l < 6100 then (-1 : Int32) else S _) = -1 ∧ (if 5300 ≤ 5700 + l ∧ 5700 + l < 6100 then (-1 : Int32) else S _) = -1
      rw [if_pos (by omega), if_pos (by omega)]; exact ⟨rfl, rfl⟩
    · show (if 5300 ≤ 5300 + l ∧ 5300 + l < 6100 then (-1 : Int32) else S _) = -1 ∧ (if 5300 ≤ 5700 + l ∧ 5700 + l < 6100 then (-1 : Int32) else S _) = -1
      rw [if_pos (by omega), if_pos (by omega)]; exact ⟨rfl, rfl⟩
  · have A : ∀ y, plnS S n th (some (c, bl, bp)) y = if 5300 ≤ y ∧ y < 5700 then plnV n th bl (y - 5300) else if 5700 ≤ y ∧ y < 6100 then plnV n th bp (y - 5700) else S y := fun _ => rfl
    refine ⟨fun y hy => ?_, fun l hl hn => ?_, fun k hk => ?_⟩
    · rw [A, if_neg (by omega), if_neg (by omega)]
    · rw [A, A, if_pos (by omega), if_neg (by omega), if_pos (by omega), show 5300 + l - 5300 = l by omega, show 5700 + l - 5700 = l by omega, plnV_no hn, plnV_no hn]
      exact ⟨rfl, rfl⟩
    · have := t4 k hk
      rw [A, A, if_pos (by omega), if_neg (by omega), if_pos (by omega), show 5300 + th k - 5300 = th k by omega, show 5700 + th k - 5700 = th k by omega, plnV_at ti hk, plnV_at ti hk]
      exact ⟨rfl, rfl⟩
theorem pls_u {S S1 S2 : Nat → Int32} {n : Nat} {th : Nat → Nat} {b : Bst} (h1 : PlS S S1 n th b) (h2 : PlS S S2 n th b) : S1 = S2 := by
  obtain ⟨a1, a2, a3⟩ := h1
  obtain ⟨b1, b2, b3⟩ := h2
  funext y
  by_cases o : y < 5300 ∨ 6100 ≤ y
  · rw [a1 y o, b1 y o]
  · have pr : ∀ l, l < 400 → S1 (5300 + l) = S2 (5300 + l) ∧ S1 (5700 + l) = S2 (5700 + l) := by
      intro l hl
      by_cases e : ∃ k, k < n ∧ l = th k
      · obtain ⟨k, hk, rfl⟩ := e
        rcases b with _ | ⟨c, bl, bp⟩
        · rw [(a3 _ hl).1, (a3 _ hl).2, (b3 _ hl).1, (b3 _ hl).2]; exact ⟨rfl, rfl⟩
        · rw [(a3 k hk).1, (a3 k hk).2, (b3 k hk).1, (b3 k hk).2]; exact ⟨rfl, rfl⟩
      · have ne : ∀ k, k < n → l ≠ th k := fun k hk z => e ⟨k, hk, z⟩
        rw [(a2 l hl ne).1, (a2 l hl ne).2, (b2 l hl ne).1, (b2 l hl ne).2]; exact ⟨rfl, rfl⟩
    by_cases o2 : y < 5700
    · have := (pr (y - 5300) (by omega)).1
      rw [show 5300 + (y - 5300) = y by omega] at this
      exact this
    · have := (pr (y - 5700) (by omega)).2
      rw [show 5700 + (y - 5700) = y by omega] at this
      exact this
section LS
variable {B : Nat} {m : am_M} {s : St}
theorem pb_fd (f : FdK m B) (v : ShV m (B + 1) (stS s) (stL s)) : PB m (B + 67) (B + 1) (stS s) (stL s) := ⟨f.pn, f.ps, f.sh, v.1, v.lo, v.sc⟩
theorem ls_n {d : Nat} (f : FdK m B) (v : ShV m (B + 1) (stS s) (stL s)) (W : Wst s) (hp : plA (stS s) < nI 0) : cal (d + 21) 119 [.ref B] m = some (some (.int (plA (stS s))), m) := by
  have k := f.sh
  have e := sp_86 (d := d + 18) k v W.1
  simp (disch := first | (simp (disch := omega) only [am_k_some, va_rf_some, va_rf_none, tl_some, tl_none, am_clr_int, am_clr_ref, am_clr_none, am_clr_long, am_w_nil, am_w_int, am_w_ref, am_w_long, am_w_null, am_bb_0, am_bb_1, am_bb_bI, xK_sI, xR_sI, xS_sI, xN_sI, xK_sL, xR_sL, xS_sL, xN_sL, xK_sR, xR_sR, xS_sR, xN_sR, xK_sA, xR_sA, xS_sA, xN_sA, Nat.reduceAdd, Nat.reduceLeDiff, sI_sA, I_sA', sA_sA, I_sA, I_sA', nI_add, mul_nI, bI_0, bI_1, f.k, f.r0, f.r1, f.r2, f.k2, f.r4, f.k4, f.r5, f.k5, f.r6, f.k6, f.r7, f.k7, f.r9, f.k9, k.k, k.r0, k.k0, k.rl, k.r1, k.r2, k.ac.k, k.lo.k, ix_nI, cl_nI]; done) | omega | assumption) only [c119, e119_0, e119_1, e119_4, e119_7, e119_8, e119_9, e119_12, e119_13, e119_16, e119_17, e119_20, e119_23, am_k_some, va_rf_some, va_rf_none, tl_some, tl_none, am_clr_int, am_clr_ref, am_clr_none, am_clr_long, am_w_nil, am_w_int, am_w_ref, am_w_long, am_w_null, am_bb_0, am_bb_1, am_bb_bI, xK_sI, xR_sI, xS_sI, xN_sI, xK_sL, xR_sL, xS_sL, xN_sL, xK_sR, xR_sR, xS_sR, xN_sR, xK_sA, xR_sA, xS_sA, xN_sA, Nat.reduceAdd, Nat.reduceLeDiff, sI_sA, I_sA', sA_sA, I_sA, I_sA', nI_add, mul_nI, bI_0, bI_1, f.k, f.r0, f.r1, f.r2, f.k2, f.r4, f.k4, f.r5, f.k5, f.r6, f.k6, f.r7, f.k7, f.r9, f.k9, k.k, k.r0, k.k0, k.rl, k.r1, k.r2, k.ac.k, k.lo.k, ix_nI, cl_nI, lt_nI, eq_nI, sub_nI, Nat.reduceEqDiff, Nat.one_ne_zero, Nat.not_lt_zero, ↓reduceIte, e, hp]
theorem ls_c {d : Nat} {b : Bst} (f : FdK m B) (v : ShV m (B + 1) (stS s) (stL s)) (W : Wst s) (hp : plA (stS s) = nI 0) (hb : exA (stS s) (stL s) (qN (stS s)) (dN (stS s)) (qT (stS s)) (dT (stS s)) (qN (stS s)) [] 0 none = b) : ∃ m', cal (d + 21) 119 [.ref B] m = some (some (.int (lsV b)), m') ∧ FrP (fun x => (B + 67 ≤ x ∧ x ≤ B + 75) ∨ (B + 18 ≤ x ∧ x ≤ B + 21)) m m' ∧ BsC m' (B + 67) (B + 1) (qN (stS s)) (qT (stS s)) b := by
  have k := f.sh
  have e := sp_86 (d := d + 18) k v W.1
  rw [hp] at e
  obtain ⟨m', e1, F1, b1⟩ := sp_38 (d := d) (pl_H W.1 hp) (show B + 1 + 66 ≤ B + 67 by omega) W.2.1 (pb_fd f v) hb
  refine ⟨m', ?_, F1.mono (fun x hx => by omega), b1⟩
  have pk := f.pn.k
  have z : ¬ 0 < 0 := by omega
  simp (disch := first | (simp (disch := omega) only [am_k_some, va_rf_some, va_rf_none, tl_some, tl_none, am_clr_int, am_clr_ref, am_clr_none, am_clr_long, am_w_nil, am_w_int, am_w_ref, am_w_long, am_w_null, am_bb_0, am_bb_1, am_bb_bI, xK_sI, xR_sI, xS_sI, xN_sI, xK_sL, xR_sL, xS_sL, xN_sL, xK_sR, xR_sR, xS_sR, xN_sR, xK_sA, xR_sA, xS_sA, xN_sA, Nat.reduceAdd, Nat.reduceLeDiff, sI_sA, I_sA', sA_sA, I_sA, I_sA', nI_add, mul_nI, bI_0, bI_1, f.k, f.r0, f.r1, f.r2, f.k2, f.r4, f.k4, f.r5, f.k5, f.r6, f.k6, f.r7, f.k7, f.r9, f.k9, k.k, k.r0, k.k0, k.rl, k.r1, k.r2, k.ac.k, k.lo.k, pk, ix_nI, cl_nI]; done) | omega | assumption) only [c119, e119_0, e119_1, e119_4, e119_7, e119_8, e119_9, e119_12, e119_13, e119_16, e119_17, e119_20, e119_23, am_k_some, va_rf_some, va_rf_none, tl_some, tl_none, am_clr_int, am_clr_ref, am_clr_none, am_clr_long, am_w_nil, am_w_int, am_w_ref, am_w_long, am_w_null, am_bb_0, am_bb_1, am_bb_bI, xK_sI, xR_sI, xS_sI, xN_sI, xK_sL, xR_sL, xS_sL, xN_sL, xK_sR, xR_sR, xS_sR, xN_sR, xK_sA, xR_sA, xS_sA, xN_sA, Nat.reduceAdd, Nat.reduceLeDiff, sI_sA, I_sA', sA_sA, I_sA, I_sA', nI_add, mul_nI, bI_0, bI_1, f.k, f.r0, f.r1, f.r2, f.k2, f.r4, f.k4, f.r5, f.k5, f.r6, f.k6, f.r7, f.k7, f.r9, f.k9, k.k, k.r0, k.k0, k.rl, k.r1, k.r2, k.ac.k, k.lo.k, pk, ix_nI, cl_nI, lt_nI, eq_nI, sub_nI, Nat.reduceEqDiff, Nat.one_ne_zero, Nat.not_lt_zero, ↓reduceIte, e, z, e1]
theorem op_29 (G : Good B m) : Op1 B 119 214 [] m := by
  obtain ⟨s, c, w, W⟩ := G
  have f := c.1
  have v := c.2.1
  have Q := W.1
  rcases pl_neg (stS s) with hp | hp
  · have H := pl_H Q hp
    generalize hb : exA (stS s) (stL s) (qN (stS s)) (dN (stS s)) (qT (stS s)) (dT (stS s)) (qN (stS s)) [] 0 none = b
    obtain ⟨m1, e1, F1, b1⟩ := ls_c (d := 18) f v W hp hb
    have w1 : MI m1 (B + 82) s := w.fr F1 (fun x h1 h2 => by omega)
    obtain ⟨m2, e2, F2, O2, P2, -⟩ := sp_214 (d := 30) w1.1 w1.2.1 Q hp w1.2.2.1 hb
    have w2 := mi_pl w1 F2 O2 rfl
    have FF : FrP (fun x => (B + 67 ≤ x ∧ x ≤ B + 75) ∨ (B + 18 ≤ x ∧ x ≤ B + 21) ∨ (B + 82 ≤ x ∧ x ≤ B + 97)) m m2 := (F1.mono (fun x hx => by omega)).trans (F2.1.mono (fun x hx => by omega))
    have b2 : BsC m2 (B + 67) (B + 1) (qN (stS s)) (qT (stS s)) b := by
      rcases b with _ | ⟨cc, bl, bp⟩
      · exact ⟨by rw [F2.i (by omega)]; exact b1.1, by rw [F2.i (by omega)]; exact b1.2⟩
      · exact ⟨by rw [F2.i (by omega)]; exact b1.1, by rw [F2.i (by omega)]; exact b1.2.1, fun x hx => by rw [F2.i (by omega), F2.i (by omega), F2.i (by omega)]; exact b1.2.2 x hx⟩
    have pv := plv_bs H.n6 (fun k hk => H.t4 hk) b2 P2
    have V2 : ShV m2 (B + 1) (mI m2 (B + 82 + 1)) (stL s) := sh_pl P2.1 Q v (fun x h1 h2 h3 => FF.i (by omega)) (FF.l (by omega)) pv
    obtain ⟨c0, c1, c2, c3, c4, c5, c6, c7, ix, c8⟩ := c
    refine ⟨lsV b, m1, m2, e1, e2, ⟨(mI m2 (B + 82 + 1), stL s, stP s, stN s, stF s, stD s, stZ s, stW s, stK s), ⟨c0.fr FF, V2, ?_, ?_, ?_, ?_, ?_, ?_, ix, c8.fr FF (fun x hx => by omega)⟩, w2, wf_pl P2.1 Q, W.2⟩, FF.bel (fun x hx => by omega)⟩
    · intro j hj; rw [FF.i (by omega)]; exact c2 j hj
    · rw [FF.i (by omega)]; exact c3
    · intro j hj; rw [FF.i (by omega)]; exact c4 j hj
    · intro j hj; rw [FF.i (by omega)]; exact c5 j hj
    · rw [FF.i (by omega)]; exact c6
    · unfold ReV; rw [FF.l (by omega)]; exact c7
  · have e1 := ls_n (d := 18) f v W hp
    obtain ⟨m2, e2, F2, O2⟩ := sp_214n (d := 30) w.1 w.2.1 Q hp
    have w2 := mi_pl w (F2.mono (fun x hx => by omega)) (fun j a b _ => O2 j a b) (S' := stS s) (by rw [F2.i (by omega)]; exact w.2.1)
    exact ⟨_, m, m2, e1, e2, ⟨s, c.fr F2.1 (fun x h1 h2 => by omega), w2, W⟩, F2.1.bel (fun x hx => by omega)⟩
end LS
