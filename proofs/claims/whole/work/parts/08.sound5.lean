/-! CALLS, AND THE WHOLE: a run of am_ex is a run of the machine -/
def am_rm (d mc ms : Nat) : Room := { frames := d + 1, cells := mc, slots := ms, locals := 100 + 40 * d }
def am_Pc (g : am_G) (as : List Value) (m : am_M) : Array Value → State → Prop := fun v U => v = as.toArray ∧ am_Wd g U ∧ am_Hp g U m U.heap
def am_Qc (g : am_G) (r : Option Value) (m' : am_M) : Array Value → State → Outcome → State → Prop := fun _ _ o t => o = .returned r ∧ am_Hp g t m' t.heap
def am_wsj (j : Nat) : List Cond := Cond.code (am_mi j).1 (am_mi j).2.1 (am_mi j).2.2.1 (am_mi j).2.2.2 :: lw_good
def am_AllOk : Prop := (∀ j q, q ∈ am_cd.getD j [] → am_ok (am_mi j) q = true) ∧ ∀ j, j < am_LAW → am_okm j = true ∧ Cond.code (am_mi j).1 (am_mi j).2.1 (am_mi j).2.2.1 (am_mi j).2.2.2 ∈ lw_tbl
theorem am_lk_mem {l : List (Nat × am_R)} {pc : Nat} {z : am_R} (h : am_lk l pc = some z) : (pc, z) ∈ l := by
  induction l with
  | nil => cases h
  | cons q t ih =>
    unfold am_lk at h
    cases hb : Nat.beq q.1 pc with
    | true =>
      rw [hb] at h
      simp only [cond_true] at h
      have h1 : q.1 = pc := Nat.eq_of_beq_eq_true hb
      cases h
      rw [← h1]
      exact List.mem_cons_self
    | false =>
      rw [hb] at h
      simp only [cond_false] at h
      exact List.mem_cons_of_mem _ (ih h)
theorem am_blind {g : am_G} {as : List Value} {m : am_M} : FrameBlind (am_Pc g as m) := by
  intro a U f mk h
  obtain ⟨h1, h2, h3⟩ := h
  refine ⟨h1, ⟨va_K.moved (u := U) (U := U.calling f mk a) (Vm.Alike.refl U.vm) h2.1, va_AO.moved (u := U) (U := U.calling f mk a) (Vm.Alike.refl U.vm) h2.2.1, va_AO.moved (u := U) (U := U.calling f mk a) (Vm.Alike.refl U.vm) h2.2.2.1, fun b i x q hm => va_Nw.same (u := U) (U := U.calling f mk a) rfl rfl (h2.2.2.2 b i x q hm)⟩, ?_⟩
  exact am_Hp.moved (s := U) (U := U.calling f mk a) (Vm.Alike.refl U.vm) h3
theorem am_csok {ci : Nat} (h : ci < 11) : plainName (am_cs ci) = true ∧ am_cs ci ≠ "java/lang/invoke/MethodHandle" ∧ am_cs ci ≠ "java/lang/invoke/VarHandle" := by
  have : ci = 0 ∨ ci = 1 ∨ ci = 2 ∨ ci = 3 ∨ ci = 4 ∨ ci = 5 ∨ ci = 6 ∨ ci = 7 ∨ ci = 8 ∨ ci = 9 ∨ ci = 10 := by omega
  rcases this with rfl | rfl | rfl | rfl | rfl | rfl | rfl | rfl | rfl | rfl | rfl <;> exact ⟨by decide, by decide, by decide⟩
theorem am_wsj_good {j : Nat} (h : Cond.code (am_mi j).1 (am_mi j).2.1 (am_mi j).2.2.1 (am_mi j).2.2.2 ∈ lw_tbl) : ∀ w ∈ am_wsj j, w ∈ lw_good := by
  intro w hw
  rcases List.mem_cons.mp hw with rfl | hw
  · exact am_good h rfl
  · exact hw
section AMV
variable {p : Program} {l : Launch} {e : Env} {R : Room} {s : State} {mid : MethodId} {args : Array Value} {below : List Frame} {meth : Method} {c : Code} {Q : State → Prop} {g : am_G} {j sz0 sl0 pc : Nat} {z : am_R}
theorem am_pay {j' : Nat} (hts : ∀ w ∈ lw_good, w.before args s = true) (h : Cond.code (am_mi j').1 (am_mi j').2.1 (am_mi j').2.2.1 (am_mi j').2.2.2 ∈ lw_tbl) : ∀ w ∈ am_wsj j', ∀ (a' : Array Value) (U : State), s.WarmedH U.vm → w.before a' U = true := by
  intro w hw a' U hU
  have h1 := am_wsj_good h w hw
  exact word_at hU (good_of_word (List.mem_filter.mp h1).2) (hts w h1)
theorem am_after {H : Heap} {locs : List Loc} {cells slots mc ms : Nat} {lsA : Array Slot} {st rest : List Value} {r : Option Value} {m' : am_M} {A : Array Value} (hr : va_Run p l e R s mid args below meth c H locs cells slots mc ms (F0 mid pc lsA st) rest (am_Qc g r m' A) (fun q => g.2.2 ≤ q)) (hloc : ∀ q ∈ locs, g.2.2 ≤ q.base)
    (kk : ∀ (H1 : Heap) (locs1 : List Loc), am_Hp g s m' H1 → (∀ q ∈ locs1, g.2.2 ≤ q.base) → W p l e R s mid args below meth c H1 locs1 (cells + mc) (slots + ms) Q (F0 mid (pc + 3) lsA (r.toList ++ rest))) : W p l e R s mid args below meth c H locs cells slots Q (F0 mid pc lsA st) := by
  intro T hT X
  obtain ⟨v, st₀, t, T', L, h0, X', hL, e1, e2, ⟨hv, hHp⟩, hst⟩ := hr T hT X
  cases hv
  have hal : t.vm.Alike s.vm := by rw [← e2]; exact X'.warmed.alike.symm
  obtain ⟨t2, a1, b1⟩ := kk T'.heap (locs ++ L) (by rw [e1]; exact hHp.moved hal) (t_lL hloc hL) T' rfl X'
  exact ⟨t2, hst t2 a1, b1⟩
/-- what a return must lead to -/
def am_RQ (p : Program) (l : Launch) (e : Env) (R : Room) (s : State) (mid : MethodId) (args : Array Value) (below : List Frame) (meth : Method) (c : Code) (Q : State → Prop) (g : am_G) (j sz0 sl0 : Nat) (r : Option Value) (m' : am_M) : Prop :=
  ∀ (H : Heap) (locs : List Loc) (lsA : Array Slot) (pc : Nat), am_Hp g s m' H → (∀ q ∈ locs, g.2.2 ≤ q.base) →
    (∀ v, r = some (.int v) → decode (am_mi j).2.1 pc = .ok (.ireturn, 1) → ((am_mi j).2.2.2 = some .int ∨ ((am_mi j).2.2.2 = some .boolean ∧ am_bb v = true)) → W p l e R s mid args below meth c H locs (mS m' - sz0) (mN m' - sl0) Q (F0 mid pc lsA [.int v])) ∧
    (∀ v, r = some (.long v) → decode (am_mi j).2.1 pc = .ok (.lreturn, 1) → (am_mi j).2.2.2 = some .long → W p l e R s mid args below meth c H locs (mS m' - sz0) (mN m' - sl0) Q (F0 mid pc lsA [.long v])) ∧
    (r = none → decode (am_mi j).2.1 pc = .ok (.return_, 1) → (am_mi j).2.2.2 = none → W p l e R s mid args below meth c H locs (mS m' - sz0) (mN m' - sl0) Q (F0 mid pc lsA []))
end AMV
def am_Snd (n : Nat) : Prop := ∀ (d j pc : Nat) (ls : am_L) (st : List Value) (m : am_M) (r : Option Value) (m' : am_M), am_ex am_P n d j pc ls st m = some (r, m') →
  ∀ (p : Program) (l : Launch) (e : Env) (R : Room) (s : State) (mid : MethodId) (args : Array Value) (below : List Frame) (meth : Method) (c : Code) (Q : State → Prop) (g : am_G) (sz0 sl0 : Nat) (H : Heap) (locs : List Loc) (lsA : Array Slot),
    am_Cx p R s mid args meth c g j → d + 1 ≤ R.frames → 100 + 40 * d ≤ R.locals → lv_has lsA (am_mx j) (am_al ls) → ls.length = am_mx j → am_Hp g s m H → (∀ q ∈ locs, g.2.2 ≤ q.base) → sz0 ≤ mS m → sl0 ≤ mN m → mS m' - sz0 ≤ R.cells → mN m' - sl0 ≤ R.slots →
    am_RQ p l e R s mid args below meth c Q g j sz0 sl0 r m' → W p l e R s mid args below meth c H locs (mS m - sz0) (mN m - sl0) Q (F0 mid pc lsA st)
/-- a method's contract out of its run -/
theorem am_met {n : Nat} (hS : am_Snd n) (hA : am_AllOk) (l : Launch) (g : am_G) {d j : Nat} {as : List Value} {m : am_M} {r : Option Value} {m' : am_M} (hj : j < am_LAW) (hr : am_ex am_P n d j 0 (am_en (am_mx j) as) [] m = some (r, m')) (hlen : (am_en (am_mx j) as).length = am_mx j) :
    Met l (am_mi j).1 (am_wsj j) (am_rm d (mS m' - mS m) (mN m' - mN m)) (am_Pc g as m) (am_Qc g r m') (mS m' - mS m) (mN m' - mN m) (fun q => g.2.2 ≤ q) := by
  obtain ⟨hok, hcode⟩ := hA.2 j hj
  unfold am_okm at hok
  simp only [Bool.and_eq_true, decide_eq_true_eq] at hok
  obtain ⟨⟨⟨⟨⟨hcl, hci⟩, hpar⟩, hmx⟩, hmx9⟩, hkd⟩ := hok
  have hplain : plainName (am_mi j).1.cls = true := by rw [hcl]; exact (am_csok hci).1
  refine Met.ofW (cc := (am_mi j).2.1) (maxL := (am_mi j).2.2.1) (ret := (am_mi j).2.2.2) hplain rfl ?_
  intro p e s mid args below meth c s₁ B hml hv
  obtain ⟨rfl, hWd, hHp⟩ := hv
  have hts0 := atoms_spec (ws := am_wsj j) B.pre
  have hts : ∀ w ∈ lw_good, w.before as.toArray s = true := fun w hw => hts0 w (List.mem_cons_of_mem _ hw)
  have hsl : (lg_sl as).length ≤ am_mx j := by
    have e1 : (as.flatMap (fun v => if v.category = 2 then [some v, none] else [some v])).length = (lg_sl as).length := by
      unfold lg_sl
      clear hr hlen hts hts0 B
      induction as with
      | nil => rfl
      | cons v t ih =>
        rw [List.flatMap_cons, List.flatMap_cons, List.length_append, List.length_append, ih]
        split <;> rfl
    unfold am_en at hlen
    dsimp only at hlen
    rw [List.length_append, List.length_replicate, e1] at hlen
    omega
  rw [lg_entry_eq, hmx]
  have hl := lv_entry as (n := am_mx j) hsl
  have hroom : (headSpec (am_wsj j) (am_rm d (mS m' - mS m) (mN m' - mN m))).room = am_rm d (mS m' - mS m) (mN m' - mN m) := rfl
  rw [hroom]
  have h0 : mS m - mS m = 0 := Nat.sub_self _
  have h1 : mN m - mN m = 0 := Nat.sub_self _
  have key := hS d j 0 (am_en (am_mx j) as) [] m r m' hr p l e (am_rm d (mS m' - mS m) (mN m' - mN m)) s mid as.toArray below meth c (MQ below (am_Qc g r m') as.toArray s (mS m' - mS m) (mN m' - mN m) (fun q => g.2.2 ≤ q)) g (mS m) (mN m) s.heap [] _
    ⟨B.exec, B.bytes, by rw [hml, hmx], findClass_of_methodNamed B.named, hts, fun h => by rw [(name_of_methodNamed B.named B.method).1, h], hWd, by show 1 ≤ d + 1; omega, by show 100 ≤ 100 + 40 * d; omega⟩
    (Nat.le_refl _) (Nat.le_refl _) (am_lv_sub hl am_en_sub) hlen hHp (fun q h => by cases h) (Nat.le_refl _) (Nat.le_refl _) (Nat.le_refl _) (Nat.le_refl _) ?_
  · rw [h0, h1] at key
    exact key
  · intro H locs lsA pc hH hloc
    have hfin : ∀ (t : State), t.heap = H → s.WarmedH t.vm → am_Qc g r m' as.toArray s (.returned r) t := fun t ht hw => ⟨rfl, by rw [ht]; exact hH.moved hw.alike⟩
    have hlocks := B.notSynchronized
    refine ⟨fun v hv hd hk => ?_, fun v hv hd hk => ?_, fun hv hd hk => ?_⟩
    · subst hv
      rcases hk with hk | ⟨hk, hb⟩
      · exact W.iret B.exec B.bytes (by rw [B.returns, hk]) hfin hloc hd
      · exact W.zret B.exec B.bytes (ty := .boolean) (by rw [B.returns, hk]) (am_bb_nar hb) hfin hloc hd
    · subst hv
      exact W.lret B.exec B.bytes (by rw [B.returns, hk]) hfin hloc hd
    · subst hv
      exact W.vret B.exec B.bytes (by rw [B.returns, hk]) hfin hloc hd
