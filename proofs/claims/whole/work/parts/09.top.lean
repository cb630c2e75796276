/-! THE CLAIM OUT OF ONE WALK OF THE LAW'S BODY. Your part is whole_start (and what it stands on); all else here is the same for every law, but numbers. -/
def R_law : String := "FerryDeckLaw"
def lw_P (b : Addr) (xs : List Int32) (args : Array Value) (s : State) : Prop := args = #[.ref b] ∧ s.IntsAt b xs ∧ xs.length ≤ 3072 ∧ (Jvm.Cond.and given_1 narrow_1).before args s = true
def lw_Q (_ : Array Value) (s : State) (o : Outcome) (t : State) : Prop := o = .returned (some (.int 1)) ∧ Framed s o t [] 600000 7302250
def lw_Z (below : List Frame) (a : Array Value) (s : State) : State → Prop := fun t => ∃ o, t.status = .running ∧ Ended t below o ∧ lw_Q a s o t
/-- the law's own end, with 1 on the stack, nothing written that was there before, its room as the claim has it -/
theorem lw_ret {p : Program} {l : Launch} {e : Env} {s : State} {m : MethodId} {below : List Frame} {meth : Method} {c : Code} {b : Nat} (hx : p.tables.exec = Jvm.exec) (hb : c.code = code) (hr : meth.sig.returnType = ret) (hlocks : meth.locks = false) {pc : Nat} {H : Heap} {ls : Array Slot} (hdg : decode code pc = .ok (.ireturn, 1)) : W p l e room_1 s m #[Value.ref b] below meth c H [] 600000 7302250 (lw_Z below #[Value.ref b] s) (F0 m pc ls [.int 1]) := by
  intro T hT X
  obtain ⟨fs, hret, hrun, hended, hW, hframe⟩ := X.leave (v := some (.int 1)) (hlocks := hlocks) (fun h => by rw [hr] at h; cases h)
  have hmeth' : T.vm.method? m = some meth := X.method'
  refine ⟨T.setFrames fs, ?_, .returned (some (.int 1)), hrun, hended, rfl, ⟨_, rfl⟩, hW, hframe⟩
  jvm_step X.here [X.here.top, hx, hb, hdg, hmeth', hr, ret, narrow_b1]
  (try refine ⟨rfl, ?_⟩); (try refine ⟨rfl, ?_⟩)
  first | (intro acts; rw [hret _ acts rfl rfl rfl]) | rw [hret _ _ rfl rfl rfl]
  exact Steps.refl _
/-- what holds at the law's entry: the machine, the code, the tables' words (any of lw_tbl by 'hts w (by decide +kernel)'), the script of L ints xs at the cell b, what the Statement gives of the start (any of its parts by flat_of_before) -/
def lw_At (p : Program) (s : State) (m : MethodId) (meth : Method) (c : Code) (b L : Nat) (xs : Nat → Int32) : Prop :=
  p.tables.exec = Jvm.exec ∧ c.code = code ∧ meth.sig.returnType = ret ∧ c.maxLocals = 4 ∧ s.vm.findClass R_law = some m.cls ∧ (∀ w ∈ lw_tbl, w.before #[Value.ref b] s = true) ∧ va_X b L xs s s.heap ∧ b < s.heap.size ∧ meth.locks = false ∧ (Jvm.Cond.and given_1 narrow_1).before #[Value.ref b] s = true
/-- the memory at the law's entry: the script alone -/
def am_m0 (b L B : Nat) (xs : Nat → Int32) : am_M := ((B, 0), (fun a => if a = b then (6, 0, L) else (0, 0, 0)), (fun a k => if a = b then xs k else 0), (fun _ _ => 0), (fun _ _ => none))
theorem am_arr {U : State} {args : Array Value} {ty : FieldType} (hp : ty = .int ∨ ty = .boolean ∨ ty = .long) (h : (Cond.arrayClass ty).before args U = true) : ∃ cA : ClassId, ArrOfT U cA ty ∧ va_RA U cA ty := by
  obtain ⟨cA, kA, comp, h1, h2, h3⟩ := Cond.arrayClass_spec h
  refine ⟨cA, fun n z => ⟨fun k h => (by cases h), kA, h2, comp, h3⟩, ?_⟩
  rcases hp with rfl | rfl | rfl <;> exact h1
theorem am_arrO {U : State} {args : Array Value} {C : String} (h : (Cond.arrayOver (.object C)).before args U = true) : ∃ cA : ClassId, ArrOfT U cA (.object C) ∧ va_RA U cA (.object C) := by
  obtain ⟨comp, cA, kA, h1, -, h2, h3, h4⟩ := Cond.arrayOver_spec h
  exact ⟨cA, fun n z => ⟨fun k h => (by cases h), kA, h2, comp, h3⟩, kA, comp, h2, h3, h1, h4⟩
set_option maxRecDepth 100000 in
set_option maxHeartbeats 4000000 in
theorem whole_of {p : Program} {e : Env} {s : State} {m : MethodId} {below : List Frame} {meth : Method} {c : Code} (l : Launch) {b L : Nat} {xs : Nat → Int32} (hA : am_AllOk)
    (hrun : ∀ B, b < B → ∃ n m', am_ex am_P n 40 am_LAW 0 [some (.ref b), none, none, none] [] (am_m0 b L B xs) = some (some (.int 1), m') ∧ mS m' ≤ B + 600000 ∧ mN m' ≤ 7302250) (C0 : lw_At p s m meth c b L xs) : W p l e room_1 s m #[Value.ref b] below meth c s.heap [] 0 0 (lw_Z below #[Value.ref b] s) (entryFrame m ([Value.ref b] : List Value).toArray 4) := by
  obtain ⟨hx, hb, hr, hml, hown, hts, hX, hbl, hlocks, hgv⟩ := id C0
  obtain ⟨n, m', hex, hc1, hc2⟩ := hrun s.heap.size hbl
  have htg : ∀ w ∈ lw_good, w.before #[Value.ref b] s = true := fun w hw => hts w (List.mem_filter.mp hw).1
  have hkn : ∀ ci, ∃ (cC : ClassId) (iS : Nat → Nat), ci < 11 → u_Kn s (am_cs ci) (am_ct ci) (am_fn ci) cC iS := by
    intro ci
    by_cases hci : ci < 11
    · obtain ⟨cC, iS, h⟩ := u_known (C := am_cs ci) (T := am_ct ci) (N := am_fn ci) (n := am_fn ci) htg (am_lays hci) (htg _ (am_inst hci))
      exact ⟨cC, iS, fun _ => h⟩
    · exact ⟨0, fun _ => 0, fun h => absurd h hci⟩
  obtain ⟨aI, hI1, hI2⟩ := am_arr (Or.inl rfl) (hts (.arrayClass .int) (by decide +kernel))
  obtain ⟨aZ, hZ1, hZ2⟩ := am_arr (Or.inr (Or.inl rfl)) (hts (.arrayClass .boolean) (by decide +kernel))
  obtain ⟨aJ, hJ1, hJ2⟩ := am_arr (Or.inr (Or.inr rfl)) (hts (.arrayClass .long) (by decide +kernel))
  have hoL : (Cond.arrayOver (.object RX2)).before #[Value.ref b] s = true := hts _ (by decide +kernel)
  have hoS : (Cond.arrayOver (.object RX8)).before #[Value.ref b] s = true := hts _ (by decide +kernel)
  obtain ⟨aL, hL1, hL2⟩ := am_arrO hoL
  obtain ⟨aS, hS1, hS2⟩ := am_arrO hoS
  let g : am_G := ((fun ci => (hkn ci).choose, fun ci => (hkn ci).choose_spec.choose), (fun k => if k = 2 then aI else if k = 3 then aZ else if k = 4 then aJ else if k = 7 then aL else aS), s.heap.size)
  have hWd : am_Wd g s := by
    refine ⟨⟨fun ci q hq => ?_, fun k q hk => ?_⟩, va_AO.of hoL, va_AO.of hoS, fun a i x h hm => va_Nw.of rfl (hts _ hm)⟩
    · obtain ⟨hci, rfl⟩ := vwCl_at hq
      exact (hkn ci).choose_spec.choose_spec hci
    · match k, hk with
      | 0, hk => cases hk; exact ⟨hI1, hI2⟩
      | 1, hk => cases hk; exact ⟨hZ1, hZ2⟩
      | 2, hk => cases hk; exact ⟨hJ1, hJ2⟩
      | 3, hk => cases hk; exact ⟨hL1, hL2⟩
      | 4, hk => cases hk; exact ⟨hS1, hS2⟩
      | k + 5, hk => simp [am_tys] at hk
  have hHp : am_Hp g s (am_m0 b L s.heap.size xs) s.heap := by
    have hK : ∀ a, (mK (am_m0 b L s.heap.size xs) a).1 ≠ 0 → a = b := by
      intro a h
      by_cases hab : a = b
      · exact hab
      · exact absurd (show (if a = b then ((6, 0, L) : Nat × Nat × Nat) else (0, 0, 0)).1 = 0 by rw [if_neg hab]) h
    have hKb : mK (am_m0 b L s.heap.size xs) b = (6, 0, L) := if_pos rfl
    refine ⟨rfl, Nat.le_refl _, fun a e he => ?_, fun a ha => ?_, fun a ha => ?_⟩
    · exfalso
      by_cases hab : a = b
      · subst hab
        unfold am_cell at he
        rw [hKb] at he
        cases he
      · have : mK (am_m0 b L s.heap.size xs) a = (0, 0, 0) := if_neg hab
        unfold am_cell at he
        rw [this] at he
        cases he
    · have hab := hK a (by rw [ha]; decide)
      subst hab
      rw [hKb]
      refine ⟨?_, hbl⟩
      have : mI (am_m0 a L s.heap.size xs) a = xs := by
        funext k
        exact if_pos rfl
      rw [this]
      exact hX
    · have hab := hK a (by rw [ha]; decide)
      subst hab
      rw [hKb] at ha
      cases ha
  have hl := lv_entry ([.ref b]) (n := 4) (Nat.le_of_ble_eq_true rfl)
  rw [lg_entry_eq]
  have key := am_sound hA n 40 am_LAW 0 [some (.ref b), none, none, none] [] (am_m0 b L s.heap.size xs) (some (.int 1)) m' hex p l e room_1 s m #[Value.ref b] below meth c (lw_Z below #[Value.ref b] s) g s.heap.size 0 s.heap [] _
    ⟨hx, hb, hml, hown, htg, fun h => absurd h (by decide +kernel), hWd, by decide, by decide⟩ (by decide) (by decide) (am_lv_sub hl (fun k v h => by
      rw [am_al_mem] at h
      match k, h with
      | 0, h => simp at h; subst h; exact List.mem_cons_self
      | 1, h => simp at h
      | 2, h => simp at h
      | 3, h => simp at h
      | k + 4, h => simp at h)) rfl hHp (fun q h => by cases h) (Nat.le_refl _) (Nat.zero_le _) (by show _ ≤ 600000; omega) (by show _ ≤ 7302250; omega) ?_
  · have h0 : mS (am_m0 b L s.heap.size xs) - s.heap.size = 0 := Nat.sub_self _
    have h1 : mN (am_m0 b L s.heap.size xs) - 0 = 0 := rfl
    rw [h0, h1] at key
    exact key
  · intro H locs lsA pc hH hloc
    refine ⟨fun v hv hd _ => ?_, (fun v hv => by cases hv), (fun hv => by cases hv)⟩
    cases hv
    refine va_forget hloc ?_
    refine W.widen (k := 600000) (n := 7302250) (by omega) (by omega) ?_
    exact lw_ret hx hb hr hlocks hd
