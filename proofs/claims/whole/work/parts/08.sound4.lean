section AMU
variable {p : Program} {l : Launch} {e : Env} {R : Room} {s : State} {mid : MethodId} {args : Array Value} {below : List Frame} {meth : Method} {c : Code} {Q : State → Prop} {g : am_G} {j sz0 sl0 pc : Nat} {z : am_R}
theorem am_nn {x : Int32} (hz : ¬ x < 0) : x.toInt = (x.toNatClampNeg : Int) := by
  have hz0 : (0 : Int) ≤ x.toInt := by
    have := Int32.not_lt.mp hz
    simpa using Int32.le_iff_toInt_le.mp this
  show x.toInt = ((x.toInt.toNat : Nat) : Int)
  omega
theorem as_copy {i : Nat} (h9 : z.2.2.2.1 = 9) (C : am_Cx p R s mid args meth c g j) (hd : decode (am_mi j).2.1 pc = .ok (z.1, z.2.1)) (hx : am_okx (am_mi j).1 (am_mi j).2.2.2 pc z = true) (hi : z.1 = .invokestatic i) : am_SS p l e R s mid args below meth c Q g j sz0 sl0 z pc := by
  intro ls st m pc' ls' st' m' H locs lsA ho hl hn hH hloc hs0 hs1 hR1 hR2 kk
  obtain ⟨hexec, hb, hml, hown, hts, hnm, hW, hfr, hlo⟩ := C
  rw [hi] at hd
  simp only [am_okx, hi, am_len, Bool.and_eq_true, decide_eq_true_eq] at hx
  simp only [am_stp, am_step, hi] at ho
  rw [hx.1] at hd
  have hx2 := hx.2
  rw [if_neg (by rw [h9]; decide), if_neg (by rw [h9]; decide), if_pos h9] at hx2 ho
  split at ho
  · next n dp b sp a st0 =>
    split at ho
    · next hc =>
      obtain ⟨k1, k2, hab, h1, h2, h3, h4, h5, hw⟩ := hc
      cases ho
      obtain ⟨ca1, ca2⟩ := hH.2.2.1 a _ ((am_kind (g := g) (m := m) (a := a)).2.1 k1)
      obtain ⟨cb1, cb2⟩ := hH.2.2.1 b _ ((am_kind (g := g) (m := m) (a := b)).2.1 k2)
      have hc0 : H[a]? = some (vp_cell (g.2.1 2) ((mK m a).2.2, .inl (mI m a))) := ca1
      have hc1 : H[b]? = some (vp_cell (g.2.1 2) ((mK m b).2.2, .inl (mI m b))) := cb1
      obtain ⟨-, k0, hk0, cm0, hkk0⟩ := (hW.1.2 0 _ rfl).1 (mK m a).2.2 (fun j => .int (mI m a j))
      intro T hT X
      obtain ⟨vm', X', step⟩ := X.arraycopy hexec hown (hts _ (am_good (am_wd_mem hx2) rfl)) (hts _ (am_good (w := .native arraycopyName) (by decide +kernel) rfl)) (hts _ (am_good (w := .static arraycopyName) (by decide +kernel) rfl)) (hts _ (am_good (w := .initialized "java/lang/System") (by decide +kernel) rfl)) (src := a) (dst := b) (cs := vp_cell (g.2.1 2) ((mK m a).2.2, .inl (mI m a))) (cd := vp_cell (g.2.1 2) ((mK m b).2.2, .inl (mI m b))) (srcPos := sp) (destPos := dp) (n := n) (by rw [hT]; exact hc0) (by rw [hT]; exact hc1)
        (fun _ h => by cases h) (fun _ h => by cases h) (fun h => by cases h) (fun h => by cases h) hk0 hk0 hkk0 hkk0 rfl h1 h2 h3
        (by rw [am_nn h1, am_nn h3]; show ¬ _ > ((arrV (g.2.1 2) (mK m a).2.2 (fun j => .int (mI m a j))).slots.size : Int); rw [arrV_size]; omega)
        (by rw [am_nn h2, am_nn h3]; show ¬ _ > ((arrV (g.2.1 2) (mK m b).2.2 (fun j => .int (mI m b j))).slots.size : Int); rw [arrV_size]; omega)
        (fun vm₁ _ i hi => by
          have e : (vp_cell (g.2.1 2) ((mK m a).2.2, .inl (mI m a))).slots.getD (sp.toNatClampNeg + i) .null = .int (mI m a (sp.toNatClampNeg + i)) := by
            show (arrV (g.2.1 2) (mK m a).2.2 (fun j => .int (mI m a j))).slots.getD _ _ = _
            rw [Array.getD_eq_getD_getElem?, arrV_read _ _ (by omega)]
            rfl
          rw [e]
          exact ⟨rfl, trivial⟩)
        (g := F0 mid pc lsA (.int n :: .int dp :: .ref b :: .int sp :: .ref a :: st')) rfl (by rw [hml]; exact hl.1) (rest := st') rfl (by rw [hb]; exact hd) hfr (by
          unfold am_w at hw
          have : nativeFrameWords "java/lang/System" "arraycopy" 5 = 7 := by decide
          rw [this]
          show 2 * 0 + _ + _ ≤ _
          omega)
      have e1 : copied (vp_cell (g.2.1 2) ((mK m a).2.2, .inl (mI m a))) (vp_cell (g.2.1 2) ((mK m b).2.2, .inl (mI m b))) sp dp n = vp_cell (g.2.1 2) ((mK m b).2.2, .inl (va_cpy (mI m a) (mI m b) sp.toNatClampNeg dp.toNatClampNeg n.toNatClampNeg)) := va_copied (fun z => .int z) _ _ (mI m a) (mI m b) h4
      rw [e1] at X' step
      have hlt : b < H.size := (Array.getElem?_eq_some_iff.mp hc1).1
      have hheap : ((T.setVm vm').setCell b (vp_cell (g.2.1 2) ((mK m b).2.2, .inl (va_cpy (mI m a) (mI m b) sp.toNatClampNeg dp.toNatClampNeg n.toNatClampNeg)))).heap = H.setIfInBounds b (vp_cell (g.2.1 2) ((mK m b).2.2, .inl (va_cpy (mI m a) (mI m b) sp.toNatClampNeg dp.toNatClampNeg n.toNatClampNeg))) := by rw [← hT]; rfl
      obtain ⟨t, a1, b1⟩ := kk _ _ lsA (hH.store (a := b) (H1 := H.setIfInBounds b (vp_cell (g.2.1 2) ((mK m b).2.2, .inl (va_cpy (mI m a) (mI m b) sp.toNatClampNeg dp.toNatClampNeg n.toNatClampNeg)))) (by simp) (fun q hq => by simp [Array.getElem?_setIfInBounds, Ne.symm hq]) rfl rfl (fun q hq => ⟨by rw [mI_sA, upA_ne hq], rfl, rfl⟩) cb2 (by rw [k2]; exact (show (2 : Nat) ≠ 6 by decide)) (fun e he => by
          have hcell := (am_kind (g := g) (m := sA m b (va_cpy (mI m a) (mI m b) sp.toNatClampNeg dp.toNatClampNeg n.toNatClampNeg)) (a := b)).2.1 (by rw [mK_sA]; exact k2)
          rw [mK_sA, mI_sA, upA_at] at hcell
          cases hcell.symm.trans he
          show (H.setIfInBounds b _)[b]? = some _
          simp [Array.getElem?_setIfInBounds, hlt])) (t_lL hloc (fun q hq => by
            obtain ⟨z, -, hz⟩ := List.mem_map.mp hq
            rw [← hz]
            exact cb2)) hl _ hheap X'
      exact ⟨t, step t a1, b1⟩
    · cases ho
  · cases ho
/-- the sizes only grow; the locals stay as many -/
theorem am_grow {P : am_Pr} {z : am_R} {pc pc' : Nat} {ls ls' : am_L} {st st' : List Value} {m m' : am_M} (h : am_stp P z pc ls st m = some (.inl (pc', ls', st', m'))) : mS m ≤ mS m' ∧ mN m ≤ mN m' ∧ ls'.length = ls.length := by
  unfold am_stp am_step at h
  split at h
  all_goals (repeat' (split at h))
  all_goals first
    | (cases h; exact ⟨Nat.le_refl _, Nat.le_refl _, rfl⟩)
    | (cases h; exact ⟨Nat.le_refl _, Nat.le_refl _, am_put1_len _ _ _⟩)
    | (cases h; exact ⟨Nat.le_refl _, Nat.le_refl _, am_put2_len _ _ _⟩)
    | (cases h; exact ⟨by rw [mS_nw]; omega, by rw [mN_nw]; omega, rfl⟩)
    | (cases h; done)
    | (next hm _ => 
        cases h
        unfold am_fs at hm
        split at hm
        all_goals first | (cases hm; exact ⟨Nat.le_refl _, Nat.le_refl _, rfl⟩) | cases hm)
    | (next hm => 
        cases h
        unfold am_fs at hm
        split at hm
        all_goals first | (cases hm; exact ⟨Nat.le_refl _, Nat.le_refl _, rfl⟩) | cases hm)
theorem am_ret_m {P : am_Pr} {z : am_R} {pc : Nat} {ls : am_L} {st : List Value} {m m' : am_M} {r : Option Value} (h : am_stp P z pc ls st m = some (.inr (.inl (r, m')))) : m' = m := by
  unfold am_stp am_step at h
  split at h
  all_goals (repeat' (split at h))
  all_goals first | (cases h; rfl) | (cases h; done)
theorem am_call_m {P : am_Pr} {z : am_R} {pc pc' j' : Nat} {ls ls' : am_L} {st st' as : List Value} {m m' : am_M} (h : am_stp P z pc ls st m = some (.inr (.inr (j', as, pc', ls', st', m')))) : m' = m ∧ ls' = ls ∧ pc' = pc + 3 := by
  unfold am_stp am_step at h
  split at h
  all_goals (repeat' (split at h))
  all_goals first | (cases h; exact ⟨rfl, rfl, rfl⟩) | (cases h; done)
theorem am_ex_grow {P : am_Pr} {n d j pc : Nat} {ls : am_L} {st : List Value} {m m' : am_M} {r : Option Value} (h : am_ex P n d j pc ls st m = some (r, m')) : mS m ≤ mS m' ∧ mN m ≤ mN m' := by
  induction n generalizing d j pc ls st m m' r with
  | zero => cases h
  | succ n ih =>
    unfold am_ex at h
    split at h
    · cases h
    · next z hz =>
      split at h
      · cases h
      · next pc' ls' st' m1 ho =>
        have h1 := am_grow ho
        have h2 := ih h
        omega
      · next q ho =>
        cases h
        rw [am_ret_m ho]
        exact ⟨Nat.le_refl _, Nat.le_refl _⟩
      · next j' as pc' ls' st' m1 ho =>
        obtain ⟨rfl, -, -⟩ := am_call_m ho
        split at h
        · cases h
        · split at h
          · split at h
            · cases h
            · next v m2 hc =>
              have h1 := ih hc
              have h2 := ih h
              omega
          · cases h
end AMU
