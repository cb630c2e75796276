/-- what a method's frame knows -/
def am_Cx (p : Program) (R : Room) (s : State) (mid : MethodId) (args : Array Value) (meth : Method) (c : Code) (g : am_G) (j : Nat) : Prop :=
  p.tables.exec = Jvm.exec ∧ c.code = (am_mi j).2.1 ∧ c.maxLocals = am_mx j ∧ s.vm.findClass (am_mi j).1.cls = some mid.cls ∧ (∀ w ∈ lw_good, w.before args s = true) ∧ ((am_mi j).1.name = "<init>" → meth.name = "<init>") ∧ am_Wd g s ∧ 1 ≤ R.frames ∧ 100 ≤ R.locals
def am_SS (p : Program) (l : Launch) (e : Env) (R : Room) (s : State) (mid : MethodId) (args : Array Value) (below : List Frame) (meth : Method) (c : Code) (Q : State → Prop) (g : am_G) (j sz0 sl0 : Nat) (z : am_R) (pc : Nat) : Prop :=
  ∀ (ls : am_L) (st : List Value) (m : am_M) (pc' : Nat) (ls' : am_L) (st' : List Value) (m' : am_M) (H : Heap) (locs : List Loc) (lsA : Array Slot), am_stp am_P z pc ls st m = some (.inl (pc', ls', st', m')) → lv_has lsA (am_mx j) (am_al ls) → ls.length = am_mx j → am_Hp g s m H → (∀ q ∈ locs, g.2.2 ≤ q.base) → sz0 ≤ mS m → sl0 ≤ mN m → mS m' - sz0 ≤ R.cells → mN m' - sl0 ≤ R.slots →
    (∀ (H' : Heap) (locs' : List Loc) (lsA' : Array Slot), am_Hp g s m' H' → (∀ q ∈ locs', g.2.2 ≤ q.base) → lv_has lsA' (am_mx j) (am_al ls') → W p l e R s mid args below meth c H' locs' (mS m' - sz0) (mN m' - sl0) Q (F0 mid pc' lsA' st')) →
    W p l e R s mid args below meth c H locs (mS m - sz0) (mN m - sl0) Q (F0 mid pc lsA st)
section AMS
variable {p : Program} {l : Launch} {e : Env} {R : Room} {s : State} {mid : MethodId} {args : Array Value} {below : List Frame} {meth : Method} {c : Code} {Q : State → Prop} {g : am_G} {j sz0 sl0 pc : Nat} {z : am_R}
theorem am_tgt {pc : Nat} {off : Int} (h : 0 ≤ (pc : Int) + off) : (pc : Int) + off = (am_tg pc off : Int) := by
  unfold am_tg
  omega
theorem am_wle {st : List Value} {n : Nat} (h : am_w st ≤ 8) (hn : 8 + n ≤ 100) {R : Room} (hR : 100 ≤ R.locals) : (st.map fun v => v.category).sum + n ≤ R.locals := by
  unfold am_w at h
  omega
theorem as_iconst {n : Int} (C : am_Cx p R s mid args meth c g j) (hd : decode (am_mi j).2.1 pc = .ok (z.1, z.2.1)) (hx : am_okx (am_mi j).1 (am_mi j).2.2.2 pc z = true) (hi : z.1 = .iconst n) : am_SS p l e R s mid args below meth c Q g j sz0 sl0 z pc := by
  intro ls st m pc' ls' st' m' H locs lsA ho hl hn hH hloc hs0 hs1 hR1 hR2 kk
  obtain ⟨hexec, hb, hml, hown, hts, hnm, hW, hfr, hlo⟩ := C
  rw [hi] at hd
  simp only [am_okx, hi, am_len, Bool.and_eq_true, decide_eq_true_eq] at hx
  try simp only [decide_eq_true_eq] at hx
  simp only [am_stp, am_step, hi] at ho
  rw [of_decide_eq_true hx] at hd
  cases ho
  exact lv_iconst hexec hb hd rfl (kk H locs lsA hH hloc hl)
theorem as_bipush {n : Int} (C : am_Cx p R s mid args meth c g j) (hd : decode (am_mi j).2.1 pc = .ok (z.1, z.2.1)) (hx : am_okx (am_mi j).1 (am_mi j).2.2.2 pc z = true) (hi : z.1 = .bipush n) : am_SS p l e R s mid args below meth c Q g j sz0 sl0 z pc := by
  intro ls st m pc' ls' st' m' H locs lsA ho hl hn hH hloc hs0 hs1 hR1 hR2 kk
  obtain ⟨hexec, hb, hml, hown, hts, hnm, hW, hfr, hlo⟩ := C
  rw [hi] at hd
  simp only [am_okx, hi, am_len, Bool.and_eq_true, decide_eq_true_eq] at hx
  try simp only [decide_eq_true_eq] at hx
  simp only [am_stp, am_step, hi] at ho
  rw [of_decide_eq_true hx] at hd
  cases ho
  exact lv_bipush hexec hb hd rfl (kk H locs lsA hH hloc hl)
theorem as_sipush {n : Int} (C : am_Cx p R s mid args meth c g j) (hd : decode (am_mi j).2.1 pc = .ok (z.1, z.2.1)) (hx : am_okx (am_mi j).1 (am_mi j).2.2.2 pc z = true) (hi : z.1 = .sipush n) : am_SS p l e R s mid args below meth c Q g j sz0 sl0 z pc := by
  intro ls st m pc' ls' st' m' H locs lsA ho hl hn hH hloc hs0 hs1 hR1 hR2 kk
  obtain ⟨hexec, hb, hml, hown, hts, hnm, hW, hfr, hlo⟩ := C
  rw [hi] at hd
  simp only [am_okx, hi, am_len, Bool.and_eq_true, decide_eq_true_eq] at hx
  try simp only [decide_eq_true_eq] at hx
  simp only [am_stp, am_step, hi] at ho
  rw [of_decide_eq_true hx] at hd
  cases ho
  exact lv_sipush hexec hb hd rfl (kk H locs lsA hH hloc hl)
theorem as_lconst {n : Fin 2} (C : am_Cx p R s mid args meth c g j) (hd : decode (am_mi j).2.1 pc = .ok (z.1, z.2.1)) (hx : am_okx (am_mi j).1 (am_mi j).2.2.2 pc z = true) (hi : z.1 = .lconst n) : am_SS p l e R s mid args below meth c Q g j sz0 sl0 z pc := by
  intro ls st m pc' ls' st' m' H locs lsA ho hl hn hH hloc hs0 hs1 hR1 hR2 kk
  obtain ⟨hexec, hb, hml, hown, hts, hnm, hW, hfr, hlo⟩ := C
  rw [hi] at hd
  simp only [am_okx, hi, am_len, Bool.and_eq_true, decide_eq_true_eq] at hx
  try simp only [decide_eq_true_eq] at hx
  simp only [am_stp, am_step, hi] at ho
  rw [of_decide_eq_true hx] at hd
  cases ho
  exact lv_lconst hexec hb hd rfl (kk H locs lsA hH hloc hl)
theorem as_ldc {i : Nat} (C : am_Cx p R s mid args meth c g j) (hd : decode (am_mi j).2.1 pc = .ok (z.1, z.2.1)) (hx : am_okx (am_mi j).1 (am_mi j).2.2.2 pc z = true) (hi : z.1 = .ldc i) : am_SS p l e R s mid args below meth c Q g j sz0 sl0 z pc := by
  intro ls st m pc' ls' st' m' H locs lsA ho hl hn hH hloc hs0 hs1 hR1 hR2 kk
  obtain ⟨hexec, hb, hml, hown, hts, hnm, hW, hfr, hlo⟩ := C
  rw [hi] at hd
  simp only [am_okx, hi, am_len, Bool.and_eq_true, decide_eq_true_eq] at hx
  try simp only [decide_eq_true_eq] at hx
  simp only [am_stp, am_step, hi] at ho
  rw [hx.1] at hd
  cases ho
  exact lv_ldc hexec hb hown (hts _ (am_good (am_wd_mem hx.2) rfl)) hd (kk H locs lsA hH hloc hl)
theorem as_ldc2 {i : Nat} (C : am_Cx p R s mid args meth c g j) (hd : decode (am_mi j).2.1 pc = .ok (z.1, z.2.1)) (hx : am_okx (am_mi j).1 (am_mi j).2.2.2 pc z = true) (hi : z.1 = .ldc2_w i) : am_SS p l e R s mid args below meth c Q g j sz0 sl0 z pc := by
  intro ls st m pc' ls' st' m' H locs lsA ho hl hn hH hloc hs0 hs1 hR1 hR2 kk
  obtain ⟨hexec, hb, hml, hown, hts, hnm, hW, hfr, hlo⟩ := C
  rw [hi] at hd
  simp only [am_okx, hi, am_len, Bool.and_eq_true, decide_eq_true_eq] at hx
  try simp only [decide_eq_true_eq] at hx
  simp only [am_stp, am_step, hi] at ho
  rw [hx.1] at hd
  cases ho
  exact lv_ldc2 hexec hb hown (hts _ (am_good (am_wd_mem hx.2) rfl)) hd (kk H locs lsA hH hloc hl)
theorem as_iload_n {k : Fin 4} (C : am_Cx p R s mid args meth c g j) (hd : decode (am_mi j).2.1 pc = .ok (z.1, z.2.1)) (hx : am_okx (am_mi j).1 (am_mi j).2.2.2 pc z = true) (hi : z.1 = .iload_n k) : am_SS p l e R s mid args below meth c Q g j sz0 sl0 z pc := by
  intro ls st m pc' ls' st' m' H locs lsA ho hl hn hH hloc hs0 hs1 hR1 hR2 kk
  obtain ⟨hexec, hb, hml, hown, hts, hnm, hW, hfr, hlo⟩ := C
  rw [hi] at hd
  simp only [am_okx, hi, am_len, Bool.and_eq_true, decide_eq_true_eq] at hx
  try simp only [decide_eq_true_eq] at hx
  simp only [am_stp, am_step, hi] at ho
  rw [of_decide_eq_true hx] at hd
  split at ho
  · next x hk =>
    cases ho
    exact lv_iload_n hexec hb hd rfl (am_lv hl hk) (kk H locs lsA hH hloc hl)
  · cases ho
theorem as_iload {k : Nat} (C : am_Cx p R s mid args meth c g j) (hd : decode (am_mi j).2.1 pc = .ok (z.1, z.2.1)) (hx : am_okx (am_mi j).1 (am_mi j).2.2.2 pc z = true) (hi : z.1 = .iload k) : am_SS p l e R s mid args below meth c Q g j sz0 sl0 z pc := by
  intro ls st m pc' ls' st' m' H locs lsA ho hl hn hH hloc hs0 hs1 hR1 hR2 kk
  obtain ⟨hexec, hb, hml, hown, hts, hnm, hW, hfr, hlo⟩ := C
  rw [hi] at hd
  simp only [am_okx, hi, am_len, Bool.and_eq_true, decide_eq_true_eq] at hx
  try simp only [decide_eq_true_eq] at hx
  simp only [am_stp, am_step, hi] at ho
  rw [of_decide_eq_true hx] at hd
  split at ho
  · next x hk =>
    cases ho
    exact lv_iload hexec hb hd (am_lv hl hk) (kk H locs lsA hH hloc hl)
  · cases ho
theorem as_lload_n {k : Fin 4} (C : am_Cx p R s mid args meth c g j) (hd : decode (am_mi j).2.1 pc = .ok (z.1, z.2.1)) (hx : am_okx (am_mi j).1 (am_mi j).2.2.2 pc z = true) (hi : z.1 = .lload_n k) : am_SS p l e R s mid args below meth c Q g j sz0 sl0 z pc := by
  intro ls st m pc' ls' st' m' H locs lsA ho hl hn hH hloc hs0 hs1 hR1 hR2 kk
  obtain ⟨hexec, hb, hml, hown, hts, hnm, hW, hfr, hlo⟩ := C
  rw [hi] at hd
  simp only [am_okx, hi, am_len, Bool.and_eq_true, decide_eq_true_eq] at hx
  try simp only [decide_eq_true_eq] at hx
  simp only [am_stp, am_step, hi] at ho
  rw [of_decide_eq_true hx] at hd
  split at ho
  · next x hk =>
    cases ho
    exact lv_lload_n hexec hb hd rfl (am_lv hl hk) (kk H locs lsA hH hloc hl)
  · cases ho
theorem as_lload {k : Nat} (C : am_Cx p R s mid args meth c g j) (hd : decode (am_mi j).2.1 pc = .ok (z.1, z.2.1)) (hx : am_okx (am_mi j).1 (am_mi j).2.2.2 pc z = true) (hi : z.1 = .lload k) : am_SS p l e R s mid args below meth c Q g j sz0 sl0 z pc := by
  intro ls st m pc' ls' st' m' H locs lsA ho hl hn hH hloc hs0 hs1 hR1 hR2 kk
  obtain ⟨hexec, hb, hml, hown, hts, hnm, hW, hfr, hlo⟩ := C
  rw [hi] at hd
  simp only [am_okx, hi, am_len, Bool.and_eq_true, decide_eq_true_eq] at hx
  try simp only [decide_eq_true_eq] at hx
  simp only [am_stp, am_step, hi] at ho
  rw [of_decide_eq_true hx] at hd
  split at ho
  · next x hk =>
    cases ho
    exact lv_lload hexec hb hd (am_lv hl hk) (kk H locs lsA hH hloc hl)
  · cases ho
theorem as_aload_n {k : Fin 4} (C : am_Cx p R s mid args meth c g j) (hd : decode (am_mi j).2.1 pc = .ok (z.1, z.2.1)) (hx : am_okx (am_mi j).1 (am_mi j).2.2.2 pc z = true) (hi : z.1 = .aload_n k) : am_SS p l e R s mid args below meth c Q g j sz0 sl0 z pc := by
  intro ls st m pc' ls' st' m' H locs lsA ho hl hn hH hloc hs0 hs1 hR1 hR2 kk
  obtain ⟨hexec, hb, hml, hown, hts, hnm, hW, hfr, hlo⟩ := C
  rw [hi] at hd
  simp only [am_okx, hi, am_len, Bool.and_eq_true, decide_eq_true_eq] at hx
  try simp only [decide_eq_true_eq] at hx
  simp only [am_stp, am_step, hi] at ho
  rw [of_decide_eq_true hx] at hd
  split at ho
  · next x hk =>
    cases ho
    exact lv_aload_n hexec hb hd rfl (am_lv hl hk) (kk H locs lsA hH hloc hl)
  · cases ho
theorem as_aload {k : Nat} (C : am_Cx p R s mid args meth c g j) (hd : decode (am_mi j).2.1 pc = .ok (z.1, z.2.1)) (hx : am_okx (am_mi j).1 (am_mi j).2.2.2 pc z = true) (hi : z.1 = .aload k) : am_SS p l e R s mid args below meth c Q g j sz0 sl0 z pc := by
  intro ls st m pc' ls' st' m' H locs lsA ho hl hn hH hloc hs0 hs1 hR1 hR2 kk
  obtain ⟨hexec, hb, hml, hown, hts, hnm, hW, hfr, hlo⟩ := C
  rw [hi] at hd
  simp only [am_okx, hi, am_len, Bool.and_eq_true, decide_eq_true_eq] at hx
  try simp only [decide_eq_true_eq] at hx
  simp only [am_stp, am_step, hi] at ho
  rw [of_decide_eq_true hx] at hd
  split at ho
  · next x hk =>
    cases ho
    exact lv_aload hexec hb hd (am_lv hl hk) (kk H locs lsA hH hloc hl)
  · cases ho
theorem as_istore_n {k : Fin 4} (C : am_Cx p R s mid args meth c g j) (hd : decode (am_mi j).2.1 pc = .ok (z.1, z.2.1)) (hx : am_okx (am_mi j).1 (am_mi j).2.2.2 pc z = true) (hi : z.1 = .istore_n k) : am_SS p l e R s mid args below meth c Q g j sz0 sl0 z pc := by
  intro ls st m pc' ls' st' m' H locs lsA ho hl hn hH hloc hs0 hs1 hR1 hR2 kk
  obtain ⟨hexec, hb, hml, hown, hts, hnm, hW, hfr, hlo⟩ := C
  rw [hi] at hd
  simp only [am_okx, hi, am_len, Bool.and_eq_true, decide_eq_true_eq] at hx
  try simp only [decide_eq_true_eq] at hx
  simp only [am_stp, am_step, hi] at ho
  rw [of_decide_eq_true hx] at hd
  split at ho
  · split at ho
    · next hk =>
      cases ho
      exact lv_istore_n hexec hb hd rfl hl (by rw [← hn]; exact hk) rfl (fun lsA' hl' => kk H locs lsA' hH hloc (am_lv_sub hl' (am_put1_sub hk)))
    · cases ho
  · cases ho
theorem as_istore {k : Nat} (C : am_Cx p R s mid args meth c g j) (hd : decode (am_mi j).2.1 pc = .ok (z.1, z.2.1)) (hx : am_okx (am_mi j).1 (am_mi j).2.2.2 pc z = true) (hi : z.1 = .istore k) : am_SS p l e R s mid args below meth c Q g j sz0 sl0 z pc := by
  intro ls st m pc' ls' st' m' H locs lsA ho hl hn hH hloc hs0 hs1 hR1 hR2 kk
  obtain ⟨hexec, hb, hml, hown, hts, hnm, hW, hfr, hlo⟩ := C
  rw [hi] at hd
  simp only [am_okx, hi, am_len, Bool.and_eq_true, decide_eq_true_eq] at hx
  try simp only [decide_eq_true_eq] at hx
  simp only [am_stp, am_step, hi] at ho
  rw [of_decide_eq_true hx] at hd
  split at ho
  · split at ho
    · next hk =>
      cases ho
      exact lv_istore hexec hb hd hl (by rw [← hn]; exact hk) rfl (fun lsA' hl' => kk H locs lsA' hH hloc (am_lv_sub hl' (am_put1_sub hk)))
    · cases ho
  · cases ho
theorem as_astore_n {k : Fin 4} (C : am_Cx p R s mid args meth c g j) (hd : decode (am_mi j).2.1 pc = .ok (z.1, z.2.1)) (hx : am_okx (am_mi j).1 (am_mi j).2.2.2 pc z = true) (hi : z.1 = .astore_n k) : am_SS p l e R s mid args below meth c Q g j sz0 sl0 z pc := by
  intro ls st m pc' ls' st' m' H locs lsA ho hl hn hH hloc hs0 hs1 hR1 hR2 kk
  obtain ⟨hexec, hb, hml, hown, hts, hnm, hW, hfr, hlo⟩ := C
  rw [hi] at hd
  simp only [am_okx, hi, am_len, Bool.and_eq_true, decide_eq_true_eq] at hx
  try simp only [decide_eq_true_eq] at hx
  simp only [am_stp, am_step, hi] at ho
  rw [of_decide_eq_true hx] at hd
  split at ho
  · split at ho
    · next hk =>
      cases ho
      exact lv_astore_n hexec hb hd rfl hl (by rw [← hn]; exact hk) rfl (fun lsA' hl' => kk H locs lsA' hH hloc (am_lv_sub hl' (am_put1_sub hk)))
    · cases ho
  · cases ho
theorem as_astore {k : Nat} (C : am_Cx p R s mid args meth c g j) (hd : decode (am_mi j).2.1 pc = .ok (z.1, z.2.1)) (hx : am_okx (am_mi j).1 (am_mi j).2.2.2 pc z = true) (hi : z.1 = .astore k) : am_SS p l e R s mid args below meth c Q g j sz0 sl0 z pc := by
  intro ls st m pc' ls' st' m' H locs lsA ho hl hn hH hloc hs0 hs1 hR1 hR2 kk
  obtain ⟨hexec, hb, hml, hown, hts, hnm, hW, hfr, hlo⟩ := C
  rw [hi] at hd
  simp only [am_okx, hi, am_len, Bool.and_eq_true, decide_eq_true_eq] at hx
  try simp only [decide_eq_true_eq] at hx
  simp only [am_stp, am_step, hi] at ho
  rw [of_decide_eq_true hx] at hd
  split at ho
  · split at ho
    · next hk =>
      cases ho
      exact lv_astore hexec hb hd hl (by rw [← hn]; exact hk) rfl (fun lsA' hl' => kk H locs lsA' hH hloc (am_lv_sub hl' (am_put1_sub hk)))
    · cases ho
  · cases ho
theorem as_lstore_n {k : Fin 4} (C : am_Cx p R s mid args meth c g j) (hd : decode (am_mi j).2.1 pc = .ok (z.1, z.2.1)) (hx : am_okx (am_mi j).1 (am_mi j).2.2.2 pc z = true) (hi : z.1 = .lstore_n k) : am_SS p l e R s mid args below meth c Q g j sz0 sl0 z pc := by
  intro ls st m pc' ls' st' m' H locs lsA ho hl hn hH hloc hs0 hs1 hR1 hR2 kk
  obtain ⟨hexec, hb, hml, hown, hts, hnm, hW, hfr, hlo⟩ := C
  rw [hi] at hd
  simp only [am_okx, hi, am_len, Bool.and_eq_true, decide_eq_true_eq] at hx
  try simp only [decide_eq_true_eq] at hx
  simp only [am_stp, am_step, hi] at ho
  rw [of_decide_eq_true hx] at hd
  split at ho
  · split at ho
    · next hk =>
      cases ho
      exact lv_lstore_n hexec hb hd rfl hl (by rw [← hn]; exact hk) rfl (fun lsA' hl' => kk H locs lsA' hH hloc (am_lv_sub hl' (am_put2_sub (Nat.lt_of_succ_lt hk))))
    · cases ho
  · cases ho
theorem as_lstore {k : Nat} (C : am_Cx p R s mid args meth c g j) (hd : decode (am_mi j).2.1 pc = .ok (z.1, z.2.1)) (hx : am_okx (am_mi j).1 (am_mi j).2.2.2 pc z = true) (hi : z.1 = .lstore k) : am_SS p l e R s mid args below meth c Q g j sz0 sl0 z pc := by
  intro ls st m pc' ls' st' m' H locs lsA ho hl hn hH hloc hs0 hs1 hR1 hR2 kk
  obtain ⟨hexec, hb, hml, hown, hts, hnm, hW, hfr, hlo⟩ := C
  rw [hi] at hd
  simp only [am_okx, hi, am_len, Bool.and_eq_true, decide_eq_true_eq] at hx
  try simp only [decide_eq_true_eq] at hx
  simp only [am_stp, am_step, hi] at ho
  rw [of_decide_eq_true hx] at hd
  split at ho
  · split at ho
    · next hk =>
      cases ho
      exact lv_lstore hexec hb hd hl (by rw [← hn]; exact hk) rfl (fun lsA' hl' => kk H locs lsA' hH hloc (am_lv_sub hl' (am_put2_sub (Nat.lt_of_succ_lt hk))))
    · cases ho
  · cases ho
theorem as_iinc {k : Nat} {n : Int} (C : am_Cx p R s mid args meth c g j) (hd : decode (am_mi j).2.1 pc = .ok (z.1, z.2.1)) (hx : am_okx (am_mi j).1 (am_mi j).2.2.2 pc z = true) (hi : z.1 = .iinc k n) : am_SS p l e R s mid args below meth c Q g j sz0 sl0 z pc := by
  intro ls st m pc' ls' st' m' H locs lsA ho hl hn hH hloc hs0 hs1 hR1 hR2 kk
  obtain ⟨hexec, hb, hml, hown, hts, hnm, hW, hfr, hlo⟩ := C
  rw [hi] at hd
  simp only [am_okx, hi, am_len, Bool.and_eq_true, decide_eq_true_eq] at hx
  try simp only [decide_eq_true_eq] at hx
  simp only [am_stp, am_step, hi] at ho
  rw [of_decide_eq_true hx] at hd
  split at ho
  · next x hk =>
    cases ho
    obtain ⟨q, hq⟩ := List.getElem?_of_mem (am_al_mem.mpr hk)
    have hlt : k < ls.length := (List.getElem?_eq_some_iff.mp hk).1
    exact lv_iinc hexec hb hd hl hq rfl (by rw [← hn]; exact hlt) rfl (fun lsA' hl' => kk H locs lsA' hH hloc (am_lv_sub hl' (am_put1_sub hlt)))
  · cases ho
theorem as_iadd (C : am_Cx p R s mid args meth c g j) (hd : decode (am_mi j).2.1 pc = .ok (z.1, z.2.1)) (hx : am_okx (am_mi j).1 (am_mi j).2.2.2 pc z = true) (hi : z.1 = .iadd) : am_SS p l e R s mid args below meth c Q g j sz0 sl0 z pc := by
  intro ls st m pc' ls' st' m' H locs lsA ho hl hn hH hloc hs0 hs1 hR1 hR2 kk
  obtain ⟨hexec, hb, hml, hown, hts, hnm, hW, hfr, hlo⟩ := C
  rw [hi] at hd
  simp only [am_okx, hi, am_len, Bool.and_eq_true, decide_eq_true_eq] at hx
  try simp only [decide_eq_true_eq] at hx
  simp only [am_stp, am_step, hi] at ho
  rw [of_decide_eq_true hx] at hd
  split at ho
  · cases ho
    exact lv_iadd hexec hb hd (kk H locs lsA hH hloc hl)
  · cases ho
theorem as_isub (C : am_Cx p R s mid args meth c g j) (hd : decode (am_mi j).2.1 pc = .ok (z.1, z.2.1)) (hx : am_okx (am_mi j).1 (am_mi j).2.2.2 pc z = true) (hi : z.1 = .isub) : am_SS p l e R s mid args below meth c Q g j sz0 sl0 z pc := by
  intro ls st m pc' ls' st' m' H locs lsA ho hl hn hH hloc hs0 hs1 hR1 hR2 kk
  obtain ⟨hexec, hb, hml, hown, hts, hnm, hW, hfr, hlo⟩ := C
  rw [hi] at hd
  simp only [am_okx, hi, am_len, Bool.and_eq_true, decide_eq_true_eq] at hx
  try simp only [decide_eq_true_eq] at hx
  simp only [am_stp, am_step, hi] at ho
  rw [of_decide_eq_true hx] at hd
  split at ho
  · cases ho
    exact lv_isub hexec hb hd (kk H locs lsA hH hloc hl)
  · cases ho
theorem as_imul (C : am_Cx p R s mid args meth c g j) (hd : decode (am_mi j).2.1 pc = .ok (z.1, z.2.1)) (hx : am_okx (am_mi j).1 (am_mi j).2.2.2 pc z = true) (hi : z.1 = .imul) : am_SS p l e R s mid args below meth c Q g j sz0 sl0 z pc := by
  intro ls st m pc' ls' st' m' H locs lsA ho hl hn hH hloc hs0 hs1 hR1 hR2 kk
  obtain ⟨hexec, hb, hml, hown, hts, hnm, hW, hfr, hlo⟩ := C
  rw [hi] at hd
  simp only [am_okx, hi, am_len, Bool.and_eq_true, decide_eq_true_eq] at hx
  try simp only [decide_eq_true_eq] at hx
  simp only [am_stp, am_step, hi] at ho
  rw [of_decide_eq_true hx] at hd
  split at ho
  · cases ho
    exact lv_imul hexec hb hd (kk H locs lsA hH hloc hl)
  · cases ho
theorem as_iand (C : am_Cx p R s mid args meth c g j) (hd : decode (am_mi j).2.1 pc = .ok (z.1, z.2.1)) (hx : am_okx (am_mi j).1 (am_mi j).2.2.2 pc z = true) (hi : z.1 = .iand) : am_SS p l e R s mid args below meth c Q g j sz0 sl0 z pc := by
  intro ls st m pc' ls' st' m' H locs lsA ho hl hn hH hloc hs0 hs1 hR1 hR2 kk
  obtain ⟨hexec, hb, hml, hown, hts, hnm, hW, hfr, hlo⟩ := C
  rw [hi] at hd
  simp only [am_okx, hi, am_len, Bool.and_eq_true, decide_eq_true_eq] at hx
  try simp only [decide_eq_true_eq] at hx
  simp only [am_stp, am_step, hi] at ho
  rw [of_decide_eq_true hx] at hd
  split at ho
  · cases ho
    exact lv_iand hexec hb hd (kk H locs lsA hH hloc hl)
  · cases ho
theorem as_ladd (C : am_Cx p R s mid args meth c g j) (hd : decode (am_mi j).2.1 pc = .ok (z.1, z.2.1)) (hx : am_okx (am_mi j).1 (am_mi j).2.2.2 pc z = true) (hi : z.1 = .ladd) : am_SS p l e R s mid args below meth c Q g j sz0 sl0 z pc := by
  intro ls st m pc' ls' st' m' H locs lsA ho hl hn hH hloc hs0 hs1 hR1 hR2 kk
  obtain ⟨hexec, hb, hml, hown, hts, hnm, hW, hfr, hlo⟩ := C
  rw [hi] at hd
  simp only [am_okx, hi, am_len, Bool.and_eq_true, decide_eq_true_eq] at hx
  try simp only [decide_eq_true_eq] at hx
  simp only [am_stp, am_step, hi] at ho
  rw [of_decide_eq_true hx] at hd
  split at ho
  · cases ho
    exact lv_ladd hexec hb hd (kk H locs lsA hH hloc hl)
  · cases ho
theorem as_lsub (C : am_Cx p R s mid args meth c g j) (hd : decode (am_mi j).2.1 pc = .ok (z.1, z.2.1)) (hx : am_okx (am_mi j).1 (am_mi j).2.2.2 pc z = true) (hi : z.1 = .lsub) : am_SS p l e R s mid args below meth c Q g j sz0 sl0 z pc := by
  intro ls st m pc' ls' st' m' H locs lsA ho hl hn hH hloc hs0 hs1 hR1 hR2 kk
  obtain ⟨hexec, hb, hml, hown, hts, hnm, hW, hfr, hlo⟩ := C
  rw [hi] at hd
  simp only [am_okx, hi, am_len, Bool.and_eq_true, decide_eq_true_eq] at hx
  try simp only [decide_eq_true_eq] at hx
  simp only [am_stp, am_step, hi] at ho
  rw [of_decide_eq_true hx] at hd
  split at ho
  · cases ho
    exact lv_lsub hexec hb hd (kk H locs lsA hH hloc hl)
  · cases ho
theorem as_lmul (C : am_Cx p R s mid args meth c g j) (hd : decode (am_mi j).2.1 pc = .ok (z.1, z.2.1)) (hx : am_okx (am_mi j).1 (am_mi j).2.2.2 pc z = true) (hi : z.1 = .lmul) : am_SS p l e R s mid args below meth c Q g j sz0 sl0 z pc := by
  intro ls st m pc' ls' st' m' H locs lsA ho hl hn hH hloc hs0 hs1 hR1 hR2 kk
  obtain ⟨hexec, hb, hml, hown, hts, hnm, hW, hfr, hlo⟩ := C
  rw [hi] at hd
  simp only [am_okx, hi, am_len, Bool.and_eq_true, decide_eq_true_eq] at hx
  try simp only [decide_eq_true_eq] at hx
  simp only [am_stp, am_step, hi] at ho
  rw [of_decide_eq_true hx] at hd
  split at ho
  · cases ho
    exact lv_lmul hexec hb hd (kk H locs lsA hH hloc hl)
  · cases ho
theorem as_land (C : am_Cx p R s mid args meth c g j) (hd : decode (am_mi j).2.1 pc = .ok (z.1, z.2.1)) (hx : am_okx (am_mi j).1 (am_mi j).2.2.2 pc z = true) (hi : z.1 = .land) : am_SS p l e R s mid args below meth c Q g j sz0 sl0 z pc := by
  intro ls st m pc' ls' st' m' H locs lsA ho hl hn hH hloc hs0 hs1 hR1 hR2 kk
  obtain ⟨hexec, hb, hml, hown, hts, hnm, hW, hfr, hlo⟩ := C
  rw [hi] at hd
  simp only [am_okx, hi, am_len, Bool.and_eq_true, decide_eq_true_eq] at hx
  try simp only [decide_eq_true_eq] at hx
  simp only [am_stp, am_step, hi] at ho
  rw [of_decide_eq_true hx] at hd
  split at ho
  · cases ho
    exact lv_land hexec hb hd (kk H locs lsA hH hloc hl)
  · cases ho
theorem as_lor (C : am_Cx p R s mid args meth c g j) (hd : decode (am_mi j).2.1 pc = .ok (z.1, z.2.1)) (hx : am_okx (am_mi j).1 (am_mi j).2.2.2 pc z = true) (hi : z.1 = .lor) : am_SS p l e R s mid args below meth c Q g j sz0 sl0 z pc := by
  intro ls st m pc' ls' st' m' H locs lsA ho hl hn hH hloc hs0 hs1 hR1 hR2 kk
  obtain ⟨hexec, hb, hml, hown, hts, hnm, hW, hfr, hlo⟩ := C
  rw [hi] at hd
  simp only [am_okx, hi, am_len, Bool.and_eq_true, decide_eq_true_eq] at hx
  try simp only [decide_eq_true_eq] at hx
  simp only [am_stp, am_step, hi] at ho
  rw [of_decide_eq_true hx] at hd
  split at ho
  · cases ho
    exact lv_lor hexec hb hd (kk H locs lsA hH hloc hl)
  · cases ho
theorem as_lneg (C : am_Cx p R s mid args meth c g j) (hd : decode (am_mi j).2.1 pc = .ok (z.1, z.2.1)) (hx : am_okx (am_mi j).1 (am_mi j).2.2.2 pc z = true) (hi : z.1 = .lneg) : am_SS p l e R s mid args below meth c Q g j sz0 sl0 z pc := by
  intro ls st m pc' ls' st' m' H locs lsA ho hl hn hH hloc hs0 hs1 hR1 hR2 kk
  obtain ⟨hexec, hb, hml, hown, hts, hnm, hW, hfr, hlo⟩ := C
  rw [hi] at hd
  simp only [am_okx, hi, am_len, Bool.and_eq_true, decide_eq_true_eq] at hx
  try simp only [decide_eq_true_eq] at hx
  simp only [am_stp, am_step, hi] at ho
  rw [of_decide_eq_true hx] at hd
  split at ho
  · cases ho
    exact lv_lneg hexec hb hd (kk H locs lsA hH hloc hl)
  · cases ho
theorem as_idiv (C : am_Cx p R s mid args meth c g j) (hd : decode (am_mi j).2.1 pc = .ok (z.1, z.2.1)) (hx : am_okx (am_mi j).1 (am_mi j).2.2.2 pc z = true) (hi : z.1 = .idiv) : am_SS p l e R s mid args below meth c Q g j sz0 sl0 z pc := by
  intro ls st m pc' ls' st' m' H locs lsA ho hl hn hH hloc hs0 hs1 hR1 hR2 kk
  obtain ⟨hexec, hb, hml, hown, hts, hnm, hW, hfr, hlo⟩ := C
  rw [hi] at hd
  simp only [am_okx, hi, am_len, Bool.and_eq_true, decide_eq_true_eq] at hx
  try simp only [decide_eq_true_eq] at hx
  simp only [am_stp, am_step, hi] at ho
  rw [of_decide_eq_true hx] at hd
  split at ho
  · split at ho
    · cases ho
    · next hne =>
      cases ho
      exact lv_idiv hexec hb hd hne (kk H locs lsA hH hloc hl)
  · cases ho
theorem as_irem (C : am_Cx p R s mid args meth c g j) (hd : decode (am_mi j).2.1 pc = .ok (z.1, z.2.1)) (hx : am_okx (am_mi j).1 (am_mi j).2.2.2 pc z = true) (hi : z.1 = .irem) : am_SS p l e R s mid args below meth c Q g j sz0 sl0 z pc := by
  intro ls st m pc' ls' st' m' H locs lsA ho hl hn hH hloc hs0 hs1 hR1 hR2 kk
  obtain ⟨hexec, hb, hml, hown, hts, hnm, hW, hfr, hlo⟩ := C
  rw [hi] at hd
  simp only [am_okx, hi, am_len, Bool.and_eq_true, decide_eq_true_eq] at hx
  try simp only [decide_eq_true_eq] at hx
  simp only [am_stp, am_step, hi] at ho
  rw [of_decide_eq_true hx] at hd
  split at ho
  · split at ho
    · cases ho
    · next hne =>
      cases ho
      exact lv_irem hexec hb hd hne (kk H locs lsA hH hloc hl)
  · cases ho
theorem as_lshl (C : am_Cx p R s mid args meth c g j) (hd : decode (am_mi j).2.1 pc = .ok (z.1, z.2.1)) (hx : am_okx (am_mi j).1 (am_mi j).2.2.2 pc z = true) (hi : z.1 = .lshl) : am_SS p l e R s mid args below meth c Q g j sz0 sl0 z pc := by
  intro ls st m pc' ls' st' m' H locs lsA ho hl hn hH hloc hs0 hs1 hR1 hR2 kk
  obtain ⟨hexec, hb, hml, hown, hts, hnm, hW, hfr, hlo⟩ := C
  rw [hi] at hd
  simp only [am_okx, hi, am_len, Bool.and_eq_true, decide_eq_true_eq] at hx
  try simp only [decide_eq_true_eq] at hx
  simp only [am_stp, am_step, hi] at ho
  rw [of_decide_eq_true hx] at hd
  split at ho
  · cases ho
    exact lv_lshl hexec hb hd rfl (kk H locs lsA hH hloc hl)
  · cases ho
theorem as_i2l (C : am_Cx p R s mid args meth c g j) (hd : decode (am_mi j).2.1 pc = .ok (z.1, z.2.1)) (hx : am_okx (am_mi j).1 (am_mi j).2.2.2 pc z = true) (hi : z.1 = .i2l) : am_SS p l e R s mid args below meth c Q g j sz0 sl0 z pc := by
  intro ls st m pc' ls' st' m' H locs lsA ho hl hn hH hloc hs0 hs1 hR1 hR2 kk
  obtain ⟨hexec, hb, hml, hown, hts, hnm, hW, hfr, hlo⟩ := C
  rw [hi] at hd
  simp only [am_okx, hi, am_len, Bool.and_eq_true, decide_eq_true_eq] at hx
  try simp only [decide_eq_true_eq] at hx
  simp only [am_stp, am_step, hi] at ho
  rw [of_decide_eq_true hx] at hd
  split at ho
  · cases ho
    exact lv_i2l hexec hb hd rfl (kk H locs lsA hH hloc hl)
  · cases ho
theorem as_lcmp (C : am_Cx p R s mid args meth c g j) (hd : decode (am_mi j).2.1 pc = .ok (z.1, z.2.1)) (hx : am_okx (am_mi j).1 (am_mi j).2.2.2 pc z = true) (hi : z.1 = .lcmp) : am_SS p l e R s mid args below meth c Q g j sz0 sl0 z pc := by
  intro ls st m pc' ls' st' m' H locs lsA ho hl hn hH hloc hs0 hs1 hR1 hR2 kk
  obtain ⟨hexec, hb, hml, hown, hts, hnm, hW, hfr, hlo⟩ := C
  rw [hi] at hd
  simp only [am_okx, hi, am_len, Bool.and_eq_true, decide_eq_true_eq] at hx
  try simp only [decide_eq_true_eq] at hx
  simp only [am_stp, am_step, hi] at ho
  rw [of_decide_eq_true hx] at hd
  split at ho
  · cases ho
    exact W.lcmp hexec hb hd (kk H locs lsA hH hloc hl)
  · cases ho
theorem as_dup (C : am_Cx p R s mid args meth c g j) (hd : decode (am_mi j).2.1 pc = .ok (z.1, z.2.1)) (hx : am_okx (am_mi j).1 (am_mi j).2.2.2 pc z = true) (hi : z.1 = .dup) : am_SS p l e R s mid args below meth c Q g j sz0 sl0 z pc := by
  intro ls st m pc' ls' st' m' H locs lsA ho hl hn hH hloc hs0 hs1 hR1 hR2 kk
  obtain ⟨hexec, hb, hml, hown, hts, hnm, hW, hfr, hlo⟩ := C
  rw [hi] at hd
  simp only [am_okx, hi, am_len, Bool.and_eq_true, decide_eq_true_eq] at hx
  try simp only [decide_eq_true_eq] at hx
  simp only [am_stp, am_step, hi] at ho
  rw [of_decide_eq_true hx] at hd
  split at ho
  · cases ho
    exact lv_dup hexec hb hd rfl (kk H locs lsA hH hloc hl)
  · cases ho
    exact lv_dup hexec hb hd rfl (kk H locs lsA hH hloc hl)
  · cases ho
theorem as_dup2 (C : am_Cx p R s mid args meth c g j) (hd : decode (am_mi j).2.1 pc = .ok (z.1, z.2.1)) (hx : am_okx (am_mi j).1 (am_mi j).2.2.2 pc z = true) (hi : z.1 = .dup2) : am_SS p l e R s mid args below meth c Q g j sz0 sl0 z pc := by
  intro ls st m pc' ls' st' m' H locs lsA ho hl hn hH hloc hs0 hs1 hR1 hR2 kk
  obtain ⟨hexec, hb, hml, hown, hts, hnm, hW, hfr, hlo⟩ := C
  rw [hi] at hd
  simp only [am_okx, hi, am_len, Bool.and_eq_true, decide_eq_true_eq] at hx
  try simp only [decide_eq_true_eq] at hx
  simp only [am_stp, am_step, hi] at ho
  rw [of_decide_eq_true hx] at hd
  split at ho
  · cases ho
    exact lv_dup2_11 hexec hb hd rfl rfl (kk H locs lsA hH hloc hl)
  · cases ho
theorem as_goto {off : Int} (C : am_Cx p R s mid args meth c g j) (hd : decode (am_mi j).2.1 pc = .ok (z.1, z.2.1)) (hx : am_okx (am_mi j).1 (am_mi j).2.2.2 pc z = true) (hi : z.1 = .goto off) : am_SS p l e R s mid args below meth c Q g j sz0 sl0 z pc := by
  intro ls st m pc' ls' st' m' H locs lsA ho hl hn hH hloc hs0 hs1 hR1 hR2 kk
  obtain ⟨hexec, hb, hml, hown, hts, hnm, hW, hfr, hlo⟩ := C
  rw [hi] at hd
  simp only [am_okx, hi, am_len, Bool.and_eq_true, decide_eq_true_eq] at hx
  try simp only [decide_eq_true_eq] at hx
  simp only [am_stp, am_step, hi] at ho
  rw [hx.2] at hd
  cases ho
  exact lv_goto hexec hb hd (am_tgt hx.1) (kk H locs lsA hH hloc hl)
theorem as_ifCond_eq {off : Int} (C : am_Cx p R s mid args meth c g j) (hd : decode (am_mi j).2.1 pc = .ok (z.1, z.2.1)) (hx : am_okx (am_mi j).1 (am_mi j).2.2.2 pc z = true) (hi : z.1 = .ifCond .eq off) : am_SS p l e R s mid args below meth c Q g j sz0 sl0 z pc := by
  intro ls st m pc' ls' st' m' H locs lsA ho hl hn hH hloc hs0 hs1 hR1 hR2 kk
  obtain ⟨hexec, hb, hml, hown, hts, hnm, hW, hfr, hlo⟩ := C
  rw [hi] at hd
  simp only [am_okx, hi, am_len, Bool.and_eq_true, decide_eq_true_eq] at hx
  try simp only [decide_eq_true_eq] at hx
  simp only [am_stp, am_step, hi] at ho
  rw [hx.2] at hd
  split at ho
  · split at ho
    · next hc =>
      cases ho
      exact lv_if_eq hexec hb hd (am_tgt hx.1) (fun _ => kk H locs lsA hH hloc hl) (fun h => absurd hc h)
    · next hc =>
      cases ho
      exact lv_if_eq hexec hb hd (am_tgt hx.1) (fun h => absurd h hc) (fun _ => kk H locs lsA hH hloc hl)
  · cases ho
theorem as_ifCond_ne {off : Int} (C : am_Cx p R s mid args meth c g j) (hd : decode (am_mi j).2.1 pc = .ok (z.1, z.2.1)) (hx : am_okx (am_mi j).1 (am_mi j).2.2.2 pc z = true) (hi : z.1 = .ifCond .ne off) : am_SS p l e R s mid args below meth c Q g j sz0 sl0 z pc := by
  intro ls st m pc' ls' st' m' H locs lsA ho hl hn hH hloc hs0 hs1 hR1 hR2 kk
  obtain ⟨hexec, hb, hml, hown, hts, hnm, hW, hfr, hlo⟩ := C
  rw [hi] at hd
  simp only [am_okx, hi, am_len, Bool.and_eq_true, decide_eq_true_eq] at hx
  try simp only [decide_eq_true_eq] at hx
  simp only [am_stp, am_step, hi] at ho
  rw [hx.2] at hd
  split at ho
  · split at ho
    · next hc =>
      cases ho
      exact lv_if_ne hexec hb hd (am_tgt hx.1) (fun h => absurd hc h) (fun _ => kk H locs lsA hH hloc hl)
    · next hc =>
      cases ho
      exact lv_if_ne hexec hb hd (am_tgt hx.1) (fun _ => kk H locs lsA hH hloc hl) (fun h => absurd h hc)
  · cases ho
theorem as_ifCond_lt {off : Int} (C : am_Cx p R s mid args meth c g j) (hd : decode (am_mi j).2.1 pc = .ok (z.1, z.2.1)) (hx : am_okx (am_mi j).1 (am_mi j).2.2.2 pc z = true) (hi : z.1 = .ifCond .lt off) : am_SS p l e R s mid args below meth c Q g j sz0 sl0 z pc := by
  intro ls st m pc' ls' st' m' H locs lsA ho hl hn hH hloc hs0 hs1 hR1 hR2 kk
  obtain ⟨hexec, hb, hml, hown, hts, hnm, hW, hfr, hlo⟩ := C
  rw [hi] at hd
  simp only [am_okx, hi, am_len, Bool.and_eq_true, decide_eq_true_eq] at hx
  try simp only [decide_eq_true_eq] at hx
  simp only [am_stp, am_step, hi] at ho
  rw [hx.2] at hd
  split at ho
  · split at ho
    · next hc =>
      cases ho
      exact lv_if_lt hexec hb hd (am_tgt hx.1) (fun _ => kk H locs lsA hH hloc hl) (fun h => absurd hc h)
    · next hc =>
      cases ho
      exact lv_if_lt hexec hb hd (am_tgt hx.1) (fun h => absurd h hc) (fun _ => kk H locs lsA hH hloc hl)
  · cases ho
theorem as_ifCond_ge {off : Int} (C : am_Cx p R s mid args meth c g j) (hd : decode (am_mi j).2.1 pc = .ok (z.1, z.2.1)) (hx : am_okx (am_mi j).1 (am_mi j).2.2.2 pc z = true) (hi : z.1 = .ifCond .ge off) : am_SS p l e R s mid args below meth c Q g j sz0 sl0 z pc := by
  intro ls st m pc' ls' st' m' H locs lsA ho hl hn hH hloc hs0 hs1 hR1 hR2 kk
  obtain ⟨hexec, hb, hml, hown, hts, hnm, hW, hfr, hlo⟩ := C
  rw [hi] at hd
  simp only [am_okx, hi, am_len, Bool.and_eq_true, decide_eq_true_eq] at hx
  try simp only [decide_eq_true_eq] at hx
  simp only [am_stp, am_step, hi] at ho
  rw [hx.2] at hd
  split at ho
  · split at ho
    · next hc =>
      cases ho
      exact lv_if_ge hexec hb hd (am_tgt hx.1) (fun h => absurd hc (Int32.not_lt.mpr h)) (fun _ => kk H locs lsA hH hloc hl)
    · next hc =>
      cases ho
      exact lv_if_ge hexec hb hd (am_tgt hx.1) (fun _ => kk H locs lsA hH hloc hl) (fun h => absurd (Int32.not_lt.mp hc) h)
  · cases ho
theorem as_ifCond_gt {off : Int} (C : am_Cx p R s mid args meth c g j) (hd : decode (am_mi j).2.1 pc = .ok (z.1, z.2.1)) (hx : am_okx (am_mi j).1 (am_mi j).2.2.2 pc z = true) (hi : z.1 = .ifCond .gt off) : am_SS p l e R s mid args below meth c Q g j sz0 sl0 z pc := by
  intro ls st m pc' ls' st' m' H locs lsA ho hl hn hH hloc hs0 hs1 hR1 hR2 kk
  obtain ⟨hexec, hb, hml, hown, hts, hnm, hW, hfr, hlo⟩ := C
  rw [hi] at hd
  simp only [am_okx, hi, am_len, Bool.and_eq_true, decide_eq_true_eq] at hx
  try simp only [decide_eq_true_eq] at hx
  simp only [am_stp, am_step, hi] at ho
  rw [hx.2] at hd
  split at ho
  · split at ho
    · next hc =>
      cases ho
      exact lv_if_gt hexec hb hd (am_tgt hx.1) (fun _ => kk H locs lsA hH hloc hl) (fun h => absurd hc h)
    · next hc =>
      cases ho
      exact lv_if_gt hexec hb hd (am_tgt hx.1) (fun h => absurd h hc) (fun _ => kk H locs lsA hH hloc hl)
  · cases ho
theorem as_ifCond_le {off : Int} (C : am_Cx p R s mid args meth c g j) (hd : decode (am_mi j).2.1 pc = .ok (z.1, z.2.1)) (hx : am_okx (am_mi j).1 (am_mi j).2.2.2 pc z = true) (hi : z.1 = .ifCond .le off) : am_SS p l e R s mid args below meth c Q g j sz0 sl0 z pc := by
  intro ls st m pc' ls' st' m' H locs lsA ho hl hn hH hloc hs0 hs1 hR1 hR2 kk
  obtain ⟨hexec, hb, hml, hown, hts, hnm, hW, hfr, hlo⟩ := C
  rw [hi] at hd
  simp only [am_okx, hi, am_len, Bool.and_eq_true, decide_eq_true_eq] at hx
  try simp only [decide_eq_true_eq] at hx
  simp only [am_stp, am_step, hi] at ho
  rw [hx.2] at hd
  split at ho
  · split at ho
    · next hc =>
      cases ho
      exact lv_if_le hexec hb hd (am_tgt hx.1) (fun h => absurd hc (Int32.not_lt.mpr h)) (fun _ => kk H locs lsA hH hloc hl)
    · next hc =>
      cases ho
      exact lv_if_le hexec hb hd (am_tgt hx.1) (fun _ => kk H locs lsA hH hloc hl) (fun h => absurd (Int32.not_lt.mp hc) h)
  · cases ho
theorem as_if_icmp_eq {off : Int} (C : am_Cx p R s mid args meth c g j) (hd : decode (am_mi j).2.1 pc = .ok (z.1, z.2.1)) (hx : am_okx (am_mi j).1 (am_mi j).2.2.2 pc z = true) (hi : z.1 = .if_icmp .eq off) : am_SS p l e R s mid args below meth c Q g j sz0 sl0 z pc := by
  intro ls st m pc' ls' st' m' H locs lsA ho hl hn hH hloc hs0 hs1 hR1 hR2 kk
  obtain ⟨hexec, hb, hml, hown, hts, hnm, hW, hfr, hlo⟩ := C
  rw [hi] at hd
  simp only [am_okx, hi, am_len, Bool.and_eq_true, decide_eq_true_eq] at hx
  try simp only [decide_eq_true_eq] at hx
  simp only [am_stp, am_step, hi] at ho
  rw [hx.2] at hd
  split at ho
  · split at ho
    · next hc =>
      cases ho
      exact lv_icmp_eq hexec hb hd (am_tgt hx.1) (fun _ => kk H locs lsA hH hloc hl) (fun h => absurd hc h)
    · next hc =>
      cases ho
      exact lv_icmp_eq hexec hb hd (am_tgt hx.1) (fun h => absurd h hc) (fun _ => kk H locs lsA hH hloc hl)
  · cases ho
theorem as_if_icmp_ne {off : Int} (C : am_Cx p R s mid args meth c g j) (hd : decode (am_mi j).2.1 pc = .ok (z.1, z.2.1)) (hx : am_okx (am_mi j).1 (am_mi j).2.2.2 pc z = true) (hi : z.1 = .if_icmp .ne off) : am_SS p l e R s mid args below meth c Q g j sz0 sl0 z pc := by
  intro ls st m pc' ls' st' m' H locs lsA ho hl hn hH hloc hs0 hs1 hR1 hR2 kk
  obtain ⟨hexec, hb, hml, hown, hts, hnm, hW, hfr, hlo⟩ := C
  rw [hi] at hd
  simp only [am_okx, hi, am_len, Bool.and_eq_true, decide_eq_true_eq] at hx
  try simp only [decide_eq_true_eq] at hx
  simp only [am_stp, am_step, hi] at ho
  rw [hx.2] at hd
  split at ho
  · split at ho
    · next hc =>
      cases ho
      exact lv_icmp_ne hexec hb hd (am_tgt hx.1) (fun h => absurd hc h) (fun _ => kk H locs lsA hH hloc hl)
    · next hc =>
      cases ho
      exact lv_icmp_ne hexec hb hd (am_tgt hx.1) (fun _ => kk H locs lsA hH hloc hl) (fun h => absurd h hc)
  · cases ho
theorem as_if_icmp_lt {off : Int} (C : am_Cx p R s mid args meth c g j) (hd : decode (am_mi j).2.1 pc = .ok (z.1, z.2.1)) (hx : am_okx (am_mi j).1 (am_mi j).2.2.2 pc z = true) (hi : z.1 = .if_icmp .lt off) : am_SS p l e R s mid args below meth c Q g j sz0 sl0 z pc := by
  intro ls st m pc' ls' st' m' H locs lsA ho hl hn hH hloc hs0 hs1 hR1 hR2 kk
  obtain ⟨hexec, hb, hml, hown, hts, hnm, hW, hfr, hlo⟩ := C
  rw [hi] at hd
  simp only [am_okx, hi, am_len, Bool.and_eq_true, decide_eq_true_eq] at hx
  try simp only [decide_eq_true_eq] at hx
  simp only [am_stp, am_step, hi] at ho
  rw [hx.2] at hd
  split at ho
  · split at ho
    · next hc =>
      cases ho
      exact lv_icmp_lt hexec hb hd (am_tgt hx.1) (fun _ => kk H locs lsA hH hloc hl) (fun h => absurd hc h)
    · next hc =>
      cases ho
      exact lv_icmp_lt hexec hb hd (am_tgt hx.1) (fun h => absurd h hc) (fun _ => kk H locs lsA hH hloc hl)
  · cases ho
theorem as_if_icmp_ge {off : Int} (C : am_Cx p R s mid args meth c g j) (hd : decode (am_mi j).2.1 pc = .ok (z.1, z.2.1)) (hx : am_okx (am_mi j).1 (am_mi j).2.2.2 pc z = true) (hi : z.1 = .if_icmp .ge off) : am_SS p l e R s mid args below meth c Q g j sz0 sl0 z pc := by
  intro ls st m pc' ls' st' m' H locs lsA ho hl hn hH hloc hs0 hs1 hR1 hR2 kk
  obtain ⟨hexec, hb, hml, hown, hts, hnm, hW, hfr, hlo⟩ := C
  rw [hi] at hd
  simp only [am_okx, hi, am_len, Bool.and_eq_true, decide_eq_true_eq] at hx
  try simp only [decide_eq_true_eq] at hx
  simp only [am_stp, am_step, hi] at ho
  rw [hx.2] at hd
  split at ho
  · split at ho
    · next hc =>
      cases ho
      exact lv_icmp_ge hexec hb hd (am_tgt hx.1) (fun h => absurd hc (Int32.not_lt.mpr h)) (fun _ => kk H locs lsA hH hloc hl)
    · next hc =>
      cases ho
      exact lv_icmp_ge hexec hb hd (am_tgt hx.1) (fun _ => kk H locs lsA hH hloc hl) (fun h => absurd (Int32.not_lt.mp hc) h)
  · cases ho
theorem as_if_icmp_gt {off : Int} (C : am_Cx p R s mid args meth c g j) (hd : decode (am_mi j).2.1 pc = .ok (z.1, z.2.1)) (hx : am_okx (am_mi j).1 (am_mi j).2.2.2 pc z = true) (hi : z.1 = .if_icmp .gt off) : am_SS p l e R s mid args below meth c Q g j sz0 sl0 z pc := by
  intro ls st m pc' ls' st' m' H locs lsA ho hl hn hH hloc hs0 hs1 hR1 hR2 kk
  obtain ⟨hexec, hb, hml, hown, hts, hnm, hW, hfr, hlo⟩ := C
  rw [hi] at hd
  simp only [am_okx, hi, am_len, Bool.and_eq_true, decide_eq_true_eq] at hx
  try simp only [decide_eq_true_eq] at hx
  simp only [am_stp, am_step, hi] at ho
  rw [hx.2] at hd
  split at ho
  · split at ho
    · next hc =>
      cases ho
      exact lv_icmp_gt hexec hb hd (am_tgt hx.1) (fun _ => kk H locs lsA hH hloc hl) (fun h => absurd hc h)
    · next hc =>
      cases ho
      exact lv_icmp_gt hexec hb hd (am_tgt hx.1) (fun h => absurd h hc) (fun _ => kk H locs lsA hH hloc hl)
  · cases ho
theorem as_if_icmp_le {off : Int} (C : am_Cx p R s mid args meth c g j) (hd : decode (am_mi j).2.1 pc = .ok (z.1, z.2.1)) (hx : am_okx (am_mi j).1 (am_mi j).2.2.2 pc z = true) (hi : z.1 = .if_icmp .le off) : am_SS p l e R s mid args below meth c Q g j sz0 sl0 z pc := by
  intro ls st m pc' ls' st' m' H locs lsA ho hl hn hH hloc hs0 hs1 hR1 hR2 kk
  obtain ⟨hexec, hb, hml, hown, hts, hnm, hW, hfr, hlo⟩ := C
  rw [hi] at hd
  simp only [am_okx, hi, am_len, Bool.and_eq_true, decide_eq_true_eq] at hx
  try simp only [decide_eq_true_eq] at hx
  simp only [am_stp, am_step, hi] at ho
  rw [hx.2] at hd
  split at ho
  · split at ho
    · next hc =>
      cases ho
      exact lv_icmp_le hexec hb hd (am_tgt hx.1) (fun h => absurd hc (Int32.not_lt.mpr h)) (fun _ => kk H locs lsA hH hloc hl)
    · next hc =>
      cases ho
      exact lv_icmp_le hexec hb hd (am_tgt hx.1) (fun _ => kk H locs lsA hH hloc hl) (fun h => absurd (Int32.not_lt.mp hc) h)
  · cases ho
theorem as_ifnonnull {off : Int} (C : am_Cx p R s mid args meth c g j) (hd : decode (am_mi j).2.1 pc = .ok (z.1, z.2.1)) (hx : am_okx (am_mi j).1 (am_mi j).2.2.2 pc z = true) (hi : z.1 = .ifnonnull off) : am_SS p l e R s mid args below meth c Q g j sz0 sl0 z pc := by
  intro ls st m pc' ls' st' m' H locs lsA ho hl hn hH hloc hs0 hs1 hR1 hR2 kk
  obtain ⟨hexec, hb, hml, hown, hts, hnm, hW, hfr, hlo⟩ := C
  rw [hi] at hd
  simp only [am_okx, hi, am_len, Bool.and_eq_true, decide_eq_true_eq] at hx
  try simp only [decide_eq_true_eq] at hx
  simp only [am_stp, am_step, hi] at ho
  rw [hx.2] at hd
  split at ho
  · cases ho
    exact lv_ifnonnull hexec hb hd (am_tgt hx.1) (kk H locs lsA hH hloc hl)
  · cases ho
    exact lv_ifnonnullN hexec hb hd (kk H locs lsA hH hloc hl)
  · cases ho
theorem as_tableswitch {dflt lo hi : Int} {offs : Array Int} (C : am_Cx p R s mid args meth c g j) (hd : decode (am_mi j).2.1 pc = .ok (z.1, z.2.1)) (hx : am_okx (am_mi j).1 (am_mi j).2.2.2 pc z = true) (hi : z.1 = .tableswitch dflt lo hi offs) : am_SS p l e R s mid args below meth c Q g j sz0 sl0 z pc := by
  intro ls st m pc' ls' st' m' H locs lsA ho hl hn hH hloc hs0 hs1 hR1 hR2 kk
  obtain ⟨hexec, hb, hml, hown, hts, hnm, hW, hfr, hlo⟩ := C
  rw [hi] at hd
  simp only [am_okx, hi, am_len, Bool.and_eq_true, decide_eq_true_eq] at hx
  try simp only [decide_eq_true_eq] at hx
  simp only [am_stp, am_step, hi] at ho
  split at ho
  · split at ho
    · next hc =>
      cases ho
      exact lv_tableOut hexec hb hd hc (am_tgt hx.1) (kk H locs lsA hH hloc hl)
    · next hc =>
      split at ho
      · next off hoff =>
        cases ho
        have hm : off ∈ offs.toList := by
          have := Array.mem_of_getElem? hoff
          exact Array.mem_def.mp this
        have ht := List.all_eq_true.mp hx.2 off hm
        exact lv_tableIn hexec hb hd (fun h => hc (Or.inl h)) (fun h => hc (Or.inr h)) hoff (am_tgt (of_decide_eq_true ht)) (kk H locs lsA hH hloc hl)
      · cases ho
  · cases ho
end AMS
