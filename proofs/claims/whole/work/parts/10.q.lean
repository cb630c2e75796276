/-! EQUATIONS OF THE ABSTRACT MACHINE, an instruction a lemma; hz says what stands at pc -/
noncomputable def ev (d j pc : Nat) (ls : am_L) (st : List Value) (m : am_M) : am_O := am_ev am_P d j pc ls st m
noncomputable def cal (d j : Nat) (as : List Value) (m : am_M) : am_O := am_call am_P d j as m
section QQ
variable {d j pc pc' : Nat} {ls ls' : am_L} {st st' : List Value} {m m' : am_M}
theorem q_nx {z : am_R} (hz : am_row j pc = some z) (ho : am_stp am_P z pc ls st m = some (.inl (pc', ls', st', m'))) : ev d j pc ls st m = ev d j pc' ls' st' m' := am_nx hz ho
theorem q_rt {z : am_R} {r : Option Value × am_M} (hz : am_row j pc = some z) (ho : am_stp am_P z pc ls st m = some (.inr (.inl r))) : ev d j pc ls st m = some r := am_rt hz ho
theorem q_idiv {x y : Int32} (hz : am_row j pc = some (.idiv, 1, 0, 0, 0, 0)) (hy : ¬ y = 0) : ev d j pc ls (.int y :: .int x :: st) m = ev d j (pc + 1) ls (.int (x / y) :: st) m := q_nx hz (if_neg hy)
theorem q_irem {x y : Int32} (hz : am_row j pc = some (.irem, 1, 0, 0, 0, 0)) (hy : ¬ y = 0) : ev d j pc ls (.int y :: .int x :: st) m = ev d j (pc + 1) ls (.int (x - x / y * y) :: st) m := q_nx hz (if_neg hy)
theorem q_ite {c : Prop} [inst : Decidable c] {z : am_R} {a b : Nat × am_L × List Value × am_M} (hz : am_row j pc = some z) (ho : am_stp am_P z pc ls st m = if c then some (.inl a) else some (.inl b)) : ev d j pc ls st m = if c then ev d j a.1 a.2.1 a.2.2.1 a.2.2.2 else ev d j b.1 b.2.1 b.2.2.1 b.2.2.2 := by
  by_cases h : c
  · rw [if_pos h] at ho ⊢
    exact q_nx hz ho
  · rw [if_neg h] at ho ⊢
    exact q_nx hz ho
theorem q_get {i ci k h a : Nat} (hz : am_row j pc = some (.getfield i, 3, ci, k, 0, h)) (hk : k < am_fn ci) (hK : mK m a = (1, ci, 0)) : ev d j pc ls (.ref a :: st) m = ev d j (pc + 3) ls (am_fv m a ci k :: st) m := q_nx hz (if_pos ⟨hK, hk⟩)
theorem q_put {i ci k h a : Nat} {v : Value} (hz : am_row j pc = some (.putfield i, 3, ci, k, 0, h)) (hk : k < am_fn ci) (hs : am_fs m a ci k v = some m') (hK : mK m a = (1, ci, 0)) : ev d j pc ls (v :: .ref a :: st) m = ev d j (pc + 3) ls st m' := by
  refine q_nx hz ?_
  show (if _ then _ else _) = _
  rw [if_pos ⟨hK, hk⟩]
  show (match am_fs m a ci k v with | some m' => _ | none => _) = _
  rw [hs]
theorem q_iald {a : Nat} {i : Int32} (hz : am_row j pc = some (.iaload, 1, 0, 0, 0, 0)) (hK : (mK m a).1 = 2) (hi : am_ix i (mK m a).2.2 = true) : ev d j pc ls (.int i :: .ref a :: st) m = ev d j (pc + 1) ls (.int (mI m a i.toNatClampNeg) :: st) m := q_nx hz (if_pos ⟨Or.inl hK, hi⟩)
theorem q_sald {a : Nat} {i : Int32} (hz : am_row j pc = some (.iaload, 1, 0, 0, 0, 0)) (hK : (mK m a).1 = 6) (hi : am_ix i (mK m a).2.2 = true) : ev d j pc ls (.int i :: .ref a :: st) m = ev d j (pc + 1) ls (.int (mI m a i.toNatClampNeg) :: st) m := q_nx hz (if_pos ⟨Or.inr hK, hi⟩)
theorem q_bald {a : Nat} {i : Int32} (hz : am_row j pc = some (.baload, 1, 0, 0, 0, 0)) (hK : (mK m a).1 = 3) (hi : am_ix i (mK m a).2.2 = true) : ev d j pc ls (.int i :: .ref a :: st) m = ev d j (pc + 1) ls (.int (mI m a i.toNatClampNeg) :: st) m := q_nx hz (if_pos ⟨hK, hi⟩)
theorem q_lald {a : Nat} {i : Int32} (hz : am_row j pc = some (.laload, 1, 0, 0, 0, 0)) (hK : (mK m a).1 = 4) (hi : am_ix i (mK m a).2.2 = true) : ev d j pc ls (.int i :: .ref a :: st) m = ev d j (pc + 1) ls (.long (mL m a i.toNatClampNeg) :: st) m := q_nx hz (if_pos ⟨hK, hi⟩)
theorem q_aald {a : Nat} {i : Int32} (hz : am_row j pc = some (.aaload, 1, 0, 0, 0, 0)) (hK : (mK m a).1 = 5) (hi : am_ix i (mK m a).2.2 = true) : ev d j pc ls (.int i :: .ref a :: st) m = ev d j (pc + 1) ls (va_rf (mR m a i.toNatClampNeg) :: st) m := q_nx hz (if_pos ⟨hK, hi⟩)
theorem q_iast {a : Nat} {i x : Int32} (hz : am_row j pc = some (.iastore, 1, 0, 0, 0, 0)) (hK : (mK m a).1 = 2) (hi : am_ix i (mK m a).2.2 = true) : ev d j pc ls (.int x :: .int i :: .ref a :: st) m = ev d j (pc + 1) ls st (sI m a i.toNatClampNeg x) := q_nx hz (if_pos ⟨hK, hi⟩)
theorem q_bast {a : Nat} {i x : Int32} (hz : am_row j pc = some (.bastore, 1, 0, 0, 0, 0)) (hK : (mK m a).1 = 3) (hi : am_ix i (mK m a).2.2 = true) (hb : am_bb x = true) : ev d j pc ls (.int x :: .int i :: .ref a :: st) m = ev d j (pc + 1) ls st (sI m a i.toNatClampNeg x) := q_nx hz (if_pos ⟨hK, hi, hb⟩)
theorem q_last {a : Nat} {i : Int32} {x : Int64} (hz : am_row j pc = some (.lastore, 1, 0, 0, 0, 0)) (hK : (mK m a).1 = 4) (hi : am_ix i (mK m a).2.2 = true) : ev d j pc ls (.long x :: .int i :: .ref a :: st) m = ev d j (pc + 1) ls st (sL m a i.toNatClampNeg x) := q_nx hz (if_pos ⟨hK, hi⟩)
theorem q_aast {a x : Nat} {i : Int32} (hz : am_row j pc = some (.aastore, 1, 0, 0, 0, 0)) (hK : (mK m a).1 = 5) (hi : am_ix i (mK m a).2.2 = true) (hx : mK m x = (1, (mK m a).2.1, 0)) : ev d j pc ls (.ref x :: .int i :: .ref a :: st) m = ev d j (pc + 1) ls st (sR m a i.toNatClampNeg (some x)) := q_nx hz (if_pos ⟨hK, hi, hx⟩)
theorem q_alen {a : Nat} (hz : am_row j pc = some (.arraylength, 1, 0, 0, 0, 0)) (hK : (mK m a).1 = 6) : ev d j pc ls (.ref a :: st) m = ev d j (pc + 1) ls (.int (Int32.ofNat (mK m a).2.2) :: st) m := q_nx hz (if_pos hK)
theorem q_newi {n : Int32} (hz : am_row j pc = some (.newarray .int, 2, 0, 0, 0, 0)) (hn : am_ix n 100000 = true) : ev d j pc ls (.int n :: st) m = ev d j (pc + 2) ls (.ref (mS m) :: st) (nw m (2, 0, n.toNatClampNeg) n.toNatClampNeg) := q_nx hz (if_pos hn)
theorem q_newz {n : Int32} (hz : am_row j pc = some (.newarray .boolean, 2, 0, 0, 0, 0)) (hn : am_ix n 100000 = true) : ev d j pc ls (.int n :: st) m = ev d j (pc + 2) ls (.ref (mS m) :: st) (nw m (3, 0, n.toNatClampNeg) n.toNatClampNeg) := q_nx hz (if_pos hn)
theorem q_newl {n : Int32} (hz : am_row j pc = some (.newarray .long, 2, 0, 0, 0, 0)) (hn : am_ix n 100000 = true) : ev d j pc ls (.int n :: st) m = ev d j (pc + 2) ls (.ref (mS m) :: st) (nw m (4, 0, n.toNatClampNeg) n.toNatClampNeg) := q_nx hz (if_pos hn)
theorem q_newa {i p h : Nat} {n : Int32} (hz : am_row j pc = some (.anewarray i, 3, p, 0, 0, h)) (hn : am_ix n 100000 = true) : ev d j pc ls (.int n :: st) m = ev d j (pc + 3) ls (.ref (mS m) :: st) (nw m (5, p, n.toNatClampNeg) n.toNatClampNeg) := q_nx hz (if_pos hn)
theorem q_zret {x : Int32} (hz : am_row j pc = some (.ireturn, 1, 1, 0, 0, 0)) (hb : am_bb x = true) : ev d j pc ls [.int x] m = some (some (.int x), m) := q_rt hz (if_pos (Or.inr hb))
theorem q_iret {x : Int32} (hz : am_row j pc = some (.ireturn, 1, 0, 0, 0, 0)) : ev d j pc ls [.int x] m = some (some (.int x), m) := q_rt hz rfl
theorem q_max {i h : Nat} {x y : Int32} (hz : am_row j pc = some (.invokestatic i, 3, 0, 7, 0, h)) (hw : am_w st ≤ 8) : ev d j pc ls (.int y :: .int x :: st) m = ev d j (pc + 3) ls (.int (if x < y then y else x) :: st) m := q_nx hz (by
  show (if am_w st ≤ 8 then _ else _) = _
  exact if_pos hw)
theorem q_min {i h : Nat} {x y : Int32} (hz : am_row j pc = some (.invokestatic i, 3, 0, 8, 0, h)) (hw : am_w st ≤ 8) : ev d j pc ls (.int y :: .int x :: st) m = ev d j (pc + 3) ls (.int (if y < x then y else x) :: st) m := q_nx hz (by
  show (if am_w st ≤ 8 then _ else _) = _
  exact if_pos hw)
theorem q_cpy {i h a b : Nat} {n dp sp : Int32} (hz : am_row j pc = some (.invokestatic i, 3, 0, 9, 0, h)) (hw : am_w st ≤ 8) (h1 : (mK m a).1 = 2) (h2 : (mK m b).1 = 2) (h3 : a ≠ b) (h4 : ¬ sp < 0) (h5 : ¬ dp < 0) (h6 : ¬ n < 0) (h7 : sp.toNatClampNeg + n.toNatClampNeg ≤ (mK m a).2.2) (h8 : dp.toNatClampNeg + n.toNatClampNeg ≤ (mK m b).2.2) :
    ev d j pc ls (.int n :: .int dp :: .ref b :: .int sp :: .ref a :: st) m = ev d j (pc + 3) ls st (sA m b (va_cpy (mI m a) (mI m b) sp.toNatClampNeg dp.toNatClampNeg n.toNatClampNeg)) := q_nx hz (by
  show (if (mK m a).1 = 2 ∧ _ then _ else _) = _
  exact if_pos ⟨h1, h2, h3, h4, h5, h6, h7, h8, hw⟩)
theorem q_obj {i h a : Nat} (hz : am_row j pc = some (.invokespecial i, 3, 0, 9, 0, h)) (hw : am_w st ≤ 8) : ev d j pc ls (.ref a :: st) m = ev d j (pc + 3) ls st m := q_nx hz (by
  show (if am_w st ≤ 8 then _ else _) = _
  exact if_pos hw)
theorem q_cl {z : am_R} {j' : Nat} {as : List Value} (hz : am_row j pc = some z) (hlen : (am_en (am_mx j') as).length = am_mx j') (ho : am_stp am_P z pc ls st m = some (.inr (.inr (j', as, pc', ls', st', m')))) : ev (d + 1) j pc ls st m = am_k (cal d j' as m') (fun v m'' => ev (d + 1) j pc' ls' (v.toList ++ st') m'') := am_cl hz ho hlen
theorem am_k_some (v : Option Value) (f : Option Value → am_M → am_O) : am_k (some (v, m)) f = f v m := rfl
theorem va_rf_some (a : Nat) : va_rf (some a) = .ref a := rfl
theorem va_rf_none : va_rf none = .null := rfl
theorem tl_some (v : Value) (st : List Value) : (some v).toList ++ st = v :: st := rfl
theorem tl_none (st : List Value) : (none : Option Value).toList ++ st = st := rfl
theorem am_clr_int (x : Int32) : am_clr (some (.int x)) = some (.int x) := rfl
theorem am_clr_ref (x : Nat) : am_clr (some (.ref x)) = some (.ref x) := rfl
theorem am_clr_none : am_clr none = none := rfl
theorem am_clr_long (x : Int64) : am_clr (some (.long x)) = none := rfl
end QQ
