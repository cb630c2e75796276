/-! THE MACHINE KEEPS STEP WITH am_ex: pictures of heap, words, locals -/
abbrev am_G : Type := va_G × (Nat → ClassId) × Nat
def am_tys (g : am_G) : List (ClassId × FieldType) := [(g.2.1 2, .int), (g.2.1 3, .boolean), (g.2.1 4, .long), (g.2.1 7, .object RX2), (g.2.1 13, .object RX8)]
def am_fl (m : am_M) (a ci : Nat) : List Value := (List.range (am_fn ci)).map (am_fv m a ci)
def am_cell (g : am_G) (m : am_M) (a : Nat) : Option va_E := match (mK m a).1 with
  | 1 => some (.inr ((mK m a).2.1, am_fl m a (mK m a).2.1))
  | 2 => some (.inl (g.2.1 2, (mK m a).2.2, .inl (mI m a)))
  | 3 => some (.inl (g.2.1 3, (mK m a).2.2, .inl (mI m a)))
  | 4 => some (.inl (g.2.1 4, (mK m a).2.2, .inr (.inl (mL m a))))
  | 5 => some (.inl (g.2.1 (5 + (mK m a).2.1), (mK m a).2.2, .inr (.inr (.inr (.inr (mR m a))))))
  | _ => none
def am_Hp (g : am_G) (U : State) (m : am_M) (H : Heap) : Prop :=
  H.size = mS m ∧ g.2.2 ≤ mS m ∧ (∀ a e, am_cell g m a = some e → va_at g.1 vwCl (a, e) H ∧ g.2.2 ≤ a) ∧ (∀ a, (mK m a).1 = 6 → va_X a (mK m a).2.2 (mI m a) U H ∧ a < g.2.2) ∧ ∀ a, (mK m a).1 = 5 → (mK m a).2.1 = 2 ∨ (mK m a).2.1 = 8
def lw_good : List Cond := lw_tbl.filter goodWord
def am_Wd (g : am_G) (U : State) : Prop := va_K g.1 vwCl (am_tys g) U ∧ va_AO RX2 U ∧ va_AO RX8 U ∧ ∀ (a : String) (i : Nat) (x : MethodName) (h : String), Cond.methodLinkNest a i x h ∈ lw_tbl → va_Nw (.methodLinkNest a i x h) U
theorem am_Wd.moved {g : am_G} {s U : State} (hW : s.WarmedH U.vm) (h : am_Wd g s) : am_Wd g U :=
  ⟨va_K.moved hW.alike h.1, va_AO.moved hW.alike h.2.1, va_AO.moved hW.alike h.2.2.1, fun a i x q hm => va_Nw.warmM hW (h.2.2.2 a i x q hm)⟩
theorem am_Hp.moved {g : am_G} {s U : State} {m : am_M} {H : Heap} (hv : s.vm.Alike U.vm) (h : am_Hp g s m H) : am_Hp g U m H :=
  ⟨h.1, h.2.1, h.2.2.1, fun a ha => ⟨va_X.moved hv (h.2.2.2.1 a ha).1, (h.2.2.2.1 a ha).2⟩, h.2.2.2.2⟩
theorem am_wd_mem {h : Nat} {w : Cond} (hw : am_wd h w = true) : w ∈ lw_tbl := List.mem_of_getElem? (of_decide_eq_true hw)
theorem am_good {w : Cond} (h : w ∈ lw_tbl) (hg : goodWord w = true) : w ∈ lw_good := List.mem_filter.mpr ⟨h, hg⟩
def am_al (ls : am_L) : List (Nat × Value) := (List.range ls.length).filterMap (fun k => match ls[k]? with | some (some v) => some (k, v) | _ => none)
theorem am_al_mem {ls : am_L} {k : Nat} {v : Value} : (k, v) ∈ am_al ls ↔ ls[k]? = some (some v) := by
  unfold am_al
  rw [List.mem_filterMap]
  constructor
  · rintro ⟨a, -, h⟩
    split at h
    · next w hw => cases h; exact hw
    · cases h
  · intro h
    refine ⟨k, List.mem_range.mpr (List.getElem?_eq_some_iff.mp h).1, ?_⟩
    rw [h]
theorem am_lv {arr : Array Slot} {n : Nat} {ls : am_L} {k : Nat} {v : Value} (h : lv_has arr n (am_al ls)) (hk : ls[k]? = some (some v)) : arr[k]? = some (.val v) := h.2.2 (k, v) (am_al_mem.mpr hk)
theorem am_lv_sub {arr : Array Slot} {n : Nat} {l l' : List (Nat × Value)} (h : lv_has arr n l) (hs : ∀ k v, (k, v) ∈ l' → (k, v) ∈ l) : lv_has arr n l' := ⟨h.1, h.2.1, fun q hq => h.2.2 q (hs q.1 q.2 hq)⟩
theorem am_put1_len (ls : am_L) (i : Nat) (v : Value) : (am_put1 ls i v).length = ls.length := by
  cases i <;> simp [am_put1]
theorem am_put2_len (ls : am_L) (i : Nat) (v : Value) : (am_put2 ls i v).length = ls.length := by
  simp [am_put2, am_put1_len]
theorem am_clr_some {x : Option Value} {w : Value} (h : am_clr x = some w) : x = some w ∧ w.category = 1 := by
  cases x with
  | none => cases h
  | some v => cases v <;> first | (cases h; exact ⟨rfl, rfl⟩) | cases h
/-- what stands in the locals behind a store -/
theorem am_put1_at {ls : am_L} {i k : Nat} {v w : Value} (hi : i < ls.length) (h : (am_put1 ls i v)[k]? = some (some w)) : (k = i ∧ w = v) ∨ (k ≠ i ∧ ls[k]? = some (some w) ∧ (k + 1 = i → w.category = 1)) := by
  by_cases hk : k = i
  · subst hk
    left
    refine ⟨rfl, ?_⟩
    cases k with
    | zero =>
      simp only [am_put1] at h
      rw [List.getElem?_set_self hi] at h
      cases h; rfl
    | succ k =>
      simp only [am_put1] at h
      rw [List.getElem?_set_self (by simpa using hi)] at h
      cases h; rfl
  · right
    refine ⟨hk, ?_⟩
    cases i with
    | zero =>
      simp only [am_put1] at h
      rw [List.getElem?_set_ne (fun e => hk e.symm)] at h
      exact ⟨h, fun e => by omega⟩
    | succ i =>
      simp only [am_put1] at h
      rw [List.getElem?_set_ne (fun e => hk e.symm), List.getElem?_modify] at h
      by_cases hki : i = k
      · subst hki
        cases hx : ls[i]? with
        | none => rw [hx] at h; simp at h
        | some x =>
          rw [hx] at h
          simp at h
          obtain ⟨h1, h2⟩ := am_clr_some h
          exact ⟨by rw [h1], fun _ => h2⟩
      · simp only [if_neg hki, Option.map_eq_map, Option.map_id'] at h
        exact ⟨h, fun e => by omega⟩
theorem am_put1_sub {ls : am_L} {i : Nat} {v : Value} (hi : i < ls.length) : ∀ k w, (k, w) ∈ am_al (am_put1 ls i v) → (k, w) ∈ (i, v) :: (am_al ls).filter (fun q => !(q.1 == i) && !(q.1 + 1 == i && q.2.category == 2)) := by
  intro k w h
  rw [am_al_mem] at h
  rcases am_put1_at hi h with ⟨rfl, rfl⟩ | ⟨h1, h2, h3⟩
  · exact List.mem_cons_self
  · refine List.mem_cons_of_mem _ (List.mem_filter.mpr ⟨am_al_mem.mpr h2, ?_⟩)
    by_cases hk : k + 1 = i
    · simp [h1, h3 hk]
    · simp [h1, hk]
theorem am_put2_sub {ls : am_L} {i : Nat} {v : Value} (hi : i < ls.length) : ∀ k w, (k, w) ∈ am_al (am_put2 ls i v) → (k, w) ∈ (i, v) :: (am_al ls).filter (fun q => !(q.1 == i) && (!(q.1 == i + 1) && !(q.1 + 1 == i && q.2.category == 2))) := by
  intro k w h
  rw [am_al_mem] at h
  unfold am_put2 at h
  have hne : k ≠ i + 1 := by
    intro e
    subst e
    by_cases hl : i + 1 < (am_put1 ls i v).length
    · rw [List.getElem?_set_self hl] at h
      cases h
    · rw [List.getElem?_eq_none (by simpa using hl)] at h
      cases h
  rw [List.getElem?_set_ne (fun e => hne e.symm)] at h
  rcases am_put1_at hi h with ⟨rfl, rfl⟩ | ⟨h1, h2, h3⟩
  · exact List.mem_cons_self
  · refine List.mem_cons_of_mem _ (List.mem_filter.mpr ⟨am_al_mem.mpr h2, ?_⟩)
    by_cases hk : k + 1 = i
    · simp [h1, h3 hk, hne]
    · simp [h1, hk, hne]
/-- entry -/
theorem am_en_at : ∀ (as : List Value) (i k : Nat) (w : Value), (as.flatMap (fun v => if v.category = 2 then [some v, none] else [some v]))[k]? = some (some w) → (i + k, w) ∈ lv_args i as
  | [], _, _, _, h => by simp at h
  | v :: as, i, k, w, h => by
    rw [List.flatMap_cons] at h
    unfold lv_args
    by_cases hc : v.category = 2
    · rw [if_pos hc] at h ⊢
      match k, h with
      | 0, h => simp at h; subst h; exact List.mem_cons_self
      | 1, h => simp at h
      | k + 2, h =>
        have := am_en_at as (i + 2) k w (by simpa using h)
        exact List.mem_cons_of_mem _ (by rw [show i + (k + 2) = i + 2 + k by omega]; exact this)
    · rw [if_neg hc] at h ⊢
      match k, h with
      | 0, h => simp at h; subst h; exact List.mem_cons_self
      | k + 1, h =>
        have := am_en_at as (i + 1) k w (by simpa using h)
        exact List.mem_cons_of_mem _ (by rw [show i + (k + 1) = i + 1 + k by omega]; exact this)
theorem am_en_sub {n : Nat} {as : List Value} : ∀ k w, (k, w) ∈ am_al (am_en n as) → (k, w) ∈ lv_args 0 as := by
  intro k w h
  rw [am_al_mem] at h
  unfold am_en at h
  dsimp only at h
  by_cases hk : k < (as.flatMap (fun v => if v.category = 2 then [some v, none] else [some v])).length
  · rw [List.getElem?_append_left hk] at h
    have := am_en_at as 0 k w h
    simpa using this
  · rw [List.getElem?_append_right (by omega)] at h
    rw [List.getElem?_replicate] at h
    split at h <;> cases h
theorem am_en_len {n : Nat} {as : List Value} (h : (lg_sl as).length ≤ n) : (am_en n as).length = n := by
  have e : (as.flatMap (fun v => if v.category = 2 then [some v, none] else [some v])).length = (lg_sl as).length := by
    unfold lg_sl
    clear h
    induction as with
    | nil => rfl
    | cons v t ih =>
      rw [List.flatMap_cons, List.flatMap_cons, List.length_append, List.length_append, ih]
      split <;> rfl
  unfold am_en
  dsimp only
  rw [List.length_append, List.length_replicate, e]
  omega
/-- the memory's parts behind a change -/
theorem mS_sI (m : am_M) (a k : Nat) (v : Int32) : mS (sI m a k v) = mS m := rfl
theorem mN_sI (m : am_M) (a k : Nat) (v : Int32) : mN (sI m a k v) = mN m := rfl
theorem mK_sI (m : am_M) (a k : Nat) (v : Int32) : mK (sI m a k v) = mK m := rfl
theorem mI_sI (m : am_M) (a k : Nat) (v : Int32) : mI (sI m a k v) = up2 (mI m) a k v := rfl
theorem mL_sI (m : am_M) (a k : Nat) (v : Int32) : mL (sI m a k v) = mL m := rfl
theorem mR_sI (m : am_M) (a k : Nat) (v : Int32) : mR (sI m a k v) = mR m := rfl
theorem mS_sL (m : am_M) (a k : Nat) (v : Int64) : mS (sL m a k v) = mS m := rfl
theorem mN_sL (m : am_M) (a k : Nat) (v : Int64) : mN (sL m a k v) = mN m := rfl
theorem mK_sL (m : am_M) (a k : Nat) (v : Int64) : mK (sL m a k v) = mK m := rfl
theorem mI_sL (m : am_M) (a k : Nat) (v : Int64) : mI (sL m a k v) = mI m := rfl
theorem mL_sL (m : am_M) (a k : Nat) (v : Int64) : mL (sL m a k v) = up2 (mL m) a k v := rfl
theorem mR_sL (m : am_M) (a k : Nat) (v : Int64) : mR (sL m a k v) = mR m := rfl
theorem mS_sR (m : am_M) (a k : Nat) (v : Option Nat) : mS (sR m a k v) = mS m := rfl
theorem mN_sR (m : am_M) (a k : Nat) (v : Option Nat) : mN (sR m a k v) = mN m := rfl
theorem mK_sR (m : am_M) (a k : Nat) (v : Option Nat) : mK (sR m a k v) = mK m := rfl
theorem mI_sR (m : am_M) (a k : Nat) (v : Option Nat) : mI (sR m a k v) = mI m := rfl
theorem mL_sR (m : am_M) (a k : Nat) (v : Option Nat) : mL (sR m a k v) = mL m := rfl
theorem mR_sR (m : am_M) (a k : Nat) (v : Option Nat) : mR (sR m a k v) = up2 (mR m) a k v := rfl
theorem mS_sA (m : am_M) (a : Nat) (f : Nat → Int32) : mS (sA m a f) = mS m := rfl
theorem mN_sA (m : am_M) (a : Nat) (f : Nat → Int32) : mN (sA m a f) = mN m := rfl
theorem mK_sA (m : am_M) (a : Nat) (f : Nat → Int32) : mK (sA m a f) = mK m := rfl
theorem mI_sA (m : am_M) (a : Nat) (f : Nat → Int32) : mI (sA m a f) = upA (mI m) a f := rfl
theorem mL_sA (m : am_M) (a : Nat) (f : Nat → Int32) : mL (sA m a f) = mL m := rfl
theorem mR_sA (m : am_M) (a : Nat) (f : Nat → Int32) : mR (sA m a f) = mR m := rfl
theorem mS_nw (m : am_M) (q : Nat × Nat × Nat) (n : Nat) : mS (nw m q n) = mS m + 1 := rfl
theorem mN_nw (m : am_M) (q : Nat × Nat × Nat) (n : Nat) : mN (nw m q n) = mN m + n := rfl
theorem mK_nw (m : am_M) (q : Nat × Nat × Nat) (n : Nat) : mK (nw m q n) = upA (mK m) (mS m) q := rfl
theorem mI_nw (m : am_M) (q : Nat × Nat × Nat) (n : Nat) : mI (nw m q n) = upA (mI m) (mS m) (fun _ => 0) := rfl
theorem mL_nw (m : am_M) (q : Nat × Nat × Nat) (n : Nat) : mL (nw m q n) = upA (mL m) (mS m) (fun _ => 0) := rfl
theorem mR_nw (m : am_M) (q : Nat × Nat × Nat) (n : Nat) : mR (nw m q n) = upA (mR m) (mS m) (fun _ => none) := rfl
theorem am_cell_same {g : am_G} {m m' : am_M} {b : Nat} (hK : mK m' b = mK m b) (hI : mI m' b = mI m b) (hL : mL m' b = mL m b) (hR : mR m' b = mR m b) : am_cell g m' b = am_cell g m b := by
  have hf : ∀ ci, am_fl m' b ci = am_fl m b ci := by
    intro ci
    unfold am_fl am_fv
    rw [hI, hL, hR]
  unfold am_cell
  rw [hK, hI, hL, hR, hf]
theorem up2_ne {α : Type} {f : Nat → Nat → α} {a k b : Nat} {v : α} (h : b ≠ a) : up2 f a k v b = f b := by
  funext y
  unfold up2
  rw [if_neg (fun e => h e.1)]
theorem up2_at {α : Type} {f : Nat → Nat → α} {a k : Nat} {v : α} : up2 f a k v a = fun y => if y = k then v else f a y := by
  funext y
  unfold up2
  simp
theorem upA_ne {α : Type} {f : Nat → α} {a b : Nat} {v : α} (h : b ≠ a) : upA f a v b = f b := if_neg h
theorem upA_at {α : Type} {f : Nat → α} {a : Nat} {v : α} : upA f a v a = v := if_pos rfl
theorem am_Hp.store {g : am_G} {U : State} {m m' : am_M} {H H1 : Heap} {a : Nat} (h : am_Hp g U m H) (hz : H1.size = H.size) (oq : ∀ q, q ≠ a → H1[q]? = H[q]?) (hS : mS m' = mS m) (hK : mK m' = mK m)
    (ho : ∀ b, b ≠ a → mI m' b = mI m b ∧ mL m' b = mL m b ∧ mR m' b = mR m b) (ha : g.2.2 ≤ a) (h6 : (mK m a).1 ≠ 6) (he : ∀ e, am_cell g m' a = some e → va_at g.1 vwCl (a, e) H1) : am_Hp g U m' H1 := by
  obtain ⟨h1, h2, h3, h4, h5⟩ := h
  refine ⟨by rw [hz, h1, hS], by rw [hS]; exact h2, fun b e hb => ?_, fun b hb => ?_, fun b hb => ?_⟩
  · by_cases hba : b = a
    · subst hba
      exact ⟨he e hb, ha⟩
    · obtain ⟨q1, q2, q3⟩ := ho b hba
      rw [am_cell_same (by rw [hK]) q1 q2 q3] at hb
      obtain ⟨r1, r2⟩ := h3 b e hb
      exact ⟨r1.kept (oq b hba), r2⟩
  · rw [hK] at hb ⊢
    have hba : b ≠ a := fun e => h6 (by rw [← e]; exact hb)
    obtain ⟨q1, -, -⟩ := ho b hba
    rw [q1]
    exact ⟨(h4 b hb).1.kept (oq b hba), (h4 b hb).2⟩
  · rw [hK] at hb ⊢
    exact h5 b hb
theorem am_Hp.alloc {g : am_G} {U : State} {m : am_M} {H H1 : Heap} {q : Nat × Nat × Nat} {n : Nat} (h : am_Hp g U m H) (hz : H1.size = H.size + 1) (oq : ∀ q, q < H.size → H1[q]? = H[q]?) (hq6 : q.1 ≠ 6) (hq5 : q.1 = 5 → q.2.1 = 2 ∨ q.2.1 = 8) (he : ∀ e, am_cell g (nw m q n) (mS m) = some e → va_at g.1 vwCl (mS m, e) H1) : am_Hp g U (nw m q n) H1 := by
  obtain ⟨h1, h2, h3, h4, h5⟩ := h
  refine ⟨by rw [hz, h1, mS_nw], by rw [mS_nw]; omega, fun b e hb => ?_, fun b hb => ?_, fun b hb => ?_⟩
  · by_cases hba : b = mS m
    · subst hba
      exact ⟨he e hb, h2⟩
    · rw [am_cell_same (m := m) (by rw [mK_nw, upA_ne hba]) (by rw [mI_nw, upA_ne hba]) (by rw [mL_nw, upA_ne hba]) (by rw [mR_nw, upA_ne hba])] at hb
      obtain ⟨r1, r2⟩ := h3 b e hb
      exact ⟨r1.kept (oq b r1.lt), r2⟩
  · rw [mK_nw] at hb ⊢
    by_cases hba : b = mS m
    · subst hba
      rw [upA_at] at hb
      exact absurd hb hq6
    · rw [upA_ne hba] at hb ⊢
      rw [mI_nw, upA_ne hba]
      obtain ⟨⟨scr, e1, e2⟩, e3⟩ := h4 b hb
      exact ⟨⟨scr, by rw [oq b (Array.getElem?_eq_some_iff.mp e1).1]; exact e1, e2⟩, e3⟩
  · rw [mK_nw] at hb ⊢
    by_cases hba : b = mS m
    · subst hba
      rw [upA_at] at hb ⊢
      exact hq5 hb
    · rw [upA_ne hba] at hb ⊢
      exact h5 b hb
theorem am_ix_in {i : Int32} {n : Nat} (h : am_ix i n = true) : vp_in i n := by
  unfold am_ix at h
  simp only [Bool.and_eq_true, Bool.not_eq_true', decide_eq_false_iff_not, decide_eq_true_eq] at h
  rintro (q | q)
  · exact h.1 q
  · omega
theorem am_kind {g : am_G} {m : am_M} {a : Nat} : ((mK m a).1 = 1 → am_cell g m a = some (.inr ((mK m a).2.1, am_fl m a (mK m a).2.1))) ∧ ((mK m a).1 = 2 → am_cell g m a = some (.inl (g.2.1 2, (mK m a).2.2, .inl (mI m a)))) ∧ ((mK m a).1 = 3 → am_cell g m a = some (.inl (g.2.1 3, (mK m a).2.2, .inl (mI m a)))) ∧ ((mK m a).1 = 4 → am_cell g m a = some (.inl (g.2.1 4, (mK m a).2.2, .inr (.inl (mL m a))))) ∧ ((mK m a).1 = 5 → am_cell g m a = some (.inl (g.2.1 (5 + (mK m a).2.1), (mK m a).2.2, .inr (.inr (.inr (.inr (mR m a))))))) := by
  refine ⟨?_, ?_, ?_, ?_, ?_⟩ <;> (intro h; unfold am_cell; rw [h]; try rfl)
theorem am_P1 {D : va_G} {cl : List vw_C} {q : Nat × va_E} {H : Heap} (h : va_at D cl q H) : va_P D cl [q] H := by
  intro k x hx
  match k, hx with
  | 0, hx => cases hx; exact h
  | k + 1, hx => simp at hx
theorem vwCl_at {ci : Nat} {r : vw_C} (h : vwCl[ci]? = some r) : ci < 11 ∧ r = (am_cs ci, am_ct ci, am_fn ci) := by
  match ci, h with
  | 0, h => cases h; exact ⟨by decide, rfl⟩
  | 1, h => cases h; exact ⟨by decide, rfl⟩
  | 2, h => cases h; exact ⟨by decide, rfl⟩
  | 3, h => cases h; exact ⟨by decide, rfl⟩
  | 4, h => cases h; exact ⟨by decide, rfl⟩
  | 5, h => cases h; exact ⟨by decide, rfl⟩
  | 6, h => cases h; exact ⟨by decide, rfl⟩
  | 7, h => cases h; exact ⟨by decide, rfl⟩
  | 8, h => cases h; exact ⟨by decide, rfl⟩
  | 9, h => cases h; exact ⟨by decide, rfl⟩
  | 10, h => cases h; exact ⟨by decide, rfl⟩
  | k + 11, h => simp [vwCl] at h
theorem vwCl_of {ci : Nat} (h : ci < 11) : vwCl[ci]? = some (am_cs ci, am_ct ci, am_fn ci) := by
  have : ci = 0 ∨ ci = 1 ∨ ci = 2 ∨ ci = 3 ∨ ci = 4 ∨ ci = 5 ∨ ci = 6 ∨ ci = 7 ∨ ci = 8 ∨ ci = 9 ∨ ci = 10 := by omega
  rcases this with rfl | rfl | rfl | rfl | rfl | rfl | rfl | rfl | rfl | rfl | rfl <;> rfl
set_option maxRecDepth 100000 in
theorem am_lays {ci : Nat} (h : ci < 11) : ∀ w ∈ u_ws (am_cs ci) (am_ct ci) (am_fn ci), w ∈ lw_good := by
  have : ci = 0 ∨ ci = 1 ∨ ci = 2 ∨ ci = 3 ∨ ci = 4 ∨ ci = 5 ∨ ci = 6 ∨ ci = 7 ∨ ci = 8 ∨ ci = 9 ∨ ci = 10 := by omega
  rcases this with rfl | rfl | rfl | rfl | rfl | rfl | rfl | rfl | rfl | rfl | rfl <;> decide +kernel
theorem am_tyok {ci : Nat} (h : ci < 11) : ∀ k, k < am_fn ci → parseFieldDescriptor (am_ct ci k).2.2.1 = some (am_cy ci k) := by
  have : ci = 0 ∨ ci = 1 ∨ ci = 2 ∨ ci = 3 ∨ ci = 4 ∨ ci = 5 ∨ ci = 6 ∨ ci = 7 ∨ ci = 8 ∨ ci = 9 ∨ ci = 10 := by omega
  rcases this with rfl | rfl | rfl | rfl | rfl | rfl | rfl | rfl | rfl | rfl | rfl
  · exact tyX0_ok
  · exact tyX1_ok
  · exact tyX2_ok
  · exact tyX3_ok
  · exact tyX4_ok
  · exact tyX5_ok
  · exact tyX6_ok
  · exact tyX7_ok
  · exact tyX8_ok
  · exact tyX9_ok
  · exact tyX10_ok
theorem am_nmok {ci : Nat} (h : ci < 11) : ∀ a, a < am_fn ci → ∀ b, b < am_fn ci → a ≠ b → (am_ct ci a).2.1 ≠ (am_ct ci b).2.1 := by
  have : ci = 0 ∨ ci = 1 ∨ ci = 2 ∨ ci = 3 ∨ ci = 4 ∨ ci = 5 ∨ ci = 6 ∨ ci = 7 ∨ ci = 8 ∨ ci = 9 ∨ ci = 10 := by omega
  rcases this with rfl | rfl | rfl | rfl | rfl | rfl | rfl | rfl | rfl | rfl | rfl
  · exact nmX0
  · exact nmX1
  · exact nmX2
  · exact nmX3
  · exact nmX4
  · exact nmX5
  · exact nmX6
  · exact nmX7
  · exact nmX8
  · exact nmX9
  · exact nmX10
/-- the kind of a field and its type -/
theorem am_fkty {ci : Nat} (h : ci < 11) : ∀ k, k < am_fn ci → (am_fk ci k = 0 ∧ am_cy ci k = .int) ∨ (am_fk ci k = 1 ∧ am_cy ci k = .long) ∨ (am_fk ci k = 2 ∧ (am_cy ci k).isReference = true ∧ defaultValue (am_cy ci k) = .null ∧ (∀ x : Nat, narrow (am_cy ci k) (.ref x) = .ref x ∧ fits (am_cy ci k) (.ref x) = true)) := by
  have : ci = 0 ∨ ci = 1 ∨ ci = 2 ∨ ci = 3 ∨ ci = 4 ∨ ci = 5 ∨ ci = 6 ∨ ci = 7 ∨ ci = 8 ∨ ci = 9 ∨ ci = 10 := by omega
  intro k hk
  rcases this with rfl | rfl | rfl | rfl | rfl | rfl | rfl | rfl | rfl | rfl | rfl <;>
    (simp only [am_fn] at hk
     have hk' : k = 0 ∨ k = 1 ∨ k = 2 ∨ k = 3 ∨ k = 4 ∨ k = 5 ∨ k = 6 ∨ k = 7 ∨ k = 8 ∨ k = 9 ∨ k = 10 ∨ k = 11 ∨ k = 12 ∨ k = 13 ∨ k = 14 ∨ k = 15 ∨ k = 16 ∨ k = 17 ∨ k = 18 ∨ k = 19 ∨ k = 20 ∨ k = 21 ∨ k = 22 ∨ k = 23 := by omega
     rcases hk' with rfl | rfl | rfl | rfl | rfl | rfl | rfl | rfl | rfl | rfl | rfl | rfl | rfl | rfl | rfl | rfl | rfl | rfl | rfl | rfl | rfl | rfl | rfl | rfl <;>
       first
       | exact Or.inl ⟨rfl, rfl⟩
       | exact Or.inr (Or.inl ⟨rfl, rfl⟩)
       | exact Or.inr (Or.inr ⟨rfl, rfl, rfl, fun _ => ⟨rfl, rfl⟩⟩)
       | omega)
set_option maxRecDepth 100000 in
theorem am_inst {ci : Nat} (h : ci < 11) : Cond.instantiable (am_cs ci) (am_fn ci) ∈ lw_good := by
  have : ci = 0 ∨ ci = 1 ∨ ci = 2 ∨ ci = 3 ∨ ci = 4 ∨ ci = 5 ∨ ci = 6 ∨ ci = 7 ∨ ci = 8 ∨ ci = 9 ∨ ci = 10 := by omega
  rcases this with rfl | rfl | rfl | rfl | rfl | rfl | rfl | rfl | rfl | rfl | rfl <;> decide +kernel
set_option maxRecDepth 100000 in
theorem am_init {ci : Nat} (h : ci < 11) : Cond.initialized (am_cs ci) ∈ lw_good := by
  have : ci = 0 ∨ ci = 1 ∨ ci = 2 ∨ ci = 3 ∨ ci = 4 ∨ ci = 5 ∨ ci = 6 ∨ ci = 7 ∨ ci = 8 ∨ ci = 9 ∨ ci = 10 := by omega
  rcases this with rfl | rfl | rfl | rfl | rfl | rfl | rfl | rfl | rfl | rfl | rfl <;> decide +kernel
