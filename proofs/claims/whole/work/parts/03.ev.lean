/-! RUNNING: am_ex with fuel n and depth d; am_ev its limit; a program P: rows, number of arguments, class of a method, its locals -/
abbrev am_Out : Type := (Nat × am_L × List Value × am_M) ⊕ (Option Value × am_M) ⊕ (Nat × List Value × Nat × am_L × List Value × am_M)
abbrev am_Pr : Type := (Nat → Nat → Option am_R) × (Nat → Nat) × (Nat → Nat) × (Nat → Nat)
def am_stp (P : am_Pr) (z : am_R) (pc : Nat) (ls : am_L) (st : List Value) (m : am_M) : Option am_Out :=
  am_step P.2.1 P.2.2.1 z pc ls st m (fun pc ls st m => some (.inl (pc, ls, st, m))) (fun v m => some (.inr (.inl (v, m)))) (fun j as pc ls st m => some (.inr (.inr (j, as, pc, ls, st, m))))
def am_en (n : Nat) (as : List Value) : am_L :=
  let l := as.flatMap (fun v => if v.category = 2 then [some v, none] else [some v])
  l ++ List.replicate (n - l.length) none
def am_ex (P : am_Pr) : Nat → Nat → Nat → Nat → am_L → List Value → am_M → am_O
  | 0, _, _, _, _, _, _ => none
  | n + 1, d, j, pc, ls, st, m => match P.1 j pc with
    | none => none
    | some z => match am_stp P z pc ls st m with
      | none => none
      | some (.inl (pc', ls', st', m')) => am_ex P n d j pc' ls' st' m'
      | some (.inr (.inl r)) => some r
      | some (.inr (.inr (j', as, pc', ls', st', m'))) => match d with
        | 0 => none
        | d' + 1 => if (am_en (P.2.2.2 j') as).length = P.2.2.2 j' then (match am_ex P n d' j' 0 (am_en (P.2.2.2 j') as) [] m' with
          | none => none
          | some (v, m'') => am_ex P n d j pc' ls' (v.toList ++ st') m'') else none
theorem am_ex_succ {P : am_Pr} {n d j pc : Nat} {ls : am_L} {st : List Value} {m : am_M} {r : Option Value × am_M} (h : am_ex P n d j pc ls st m = some r) : am_ex P (n + 1) d j pc ls st m = some r := by
  induction n generalizing d j pc ls st m r with
  | zero => cases h
  | succ n ih =>
    unfold am_ex at h ⊢
    cases hz : P.1 j pc with
    | none => rw [hz] at h; cases h
    | some z =>
      rw [hz] at h
      dsimp only at h ⊢
      cases ho : am_stp P z pc ls st m with
      | none => rw [ho] at h; cases h
      | some o =>
        rw [ho] at h
        match o, h with
        | .inl (pc', ls', st', m'), h => exact ih h
        | .inr (.inl r'), h => exact h
        | .inr (.inr (j', as, pc', ls', st', m')), h =>
          dsimp only at h ⊢
          cases d with
          | zero => cases h
          | succ d' =>
            dsimp only at h ⊢
            by_cases hlen : (am_en (P.2.2.2 j') as).length = P.2.2.2 j'
            · rw [if_pos hlen] at h ⊢
              cases hc : am_ex P n d' j' 0 (am_en (P.2.2.2 j') as) [] m' with
              | none => rw [hc] at h; cases h
              | some q =>
                rw [hc] at h
                rw [ih hc]
                exact ih h
            · rw [if_neg hlen] at h; cases h
theorem am_ex_le {P : am_Pr} {n k d j pc : Nat} {ls : am_L} {st : List Value} {m : am_M} {r : Option Value × am_M} (hk : n ≤ k) (h : am_ex P n d j pc ls st m = some r) : am_ex P k d j pc ls st m = some r := by
  induction hk with
  | refl => exact h
  | step _ ih => exact am_ex_succ ih
noncomputable def am_ev (P : am_Pr) (d j pc : Nat) (ls : am_L) (st : List Value) (m : am_M) : am_O :=
  @dite _ (∃ (r : Option Value × am_M) (n : Nat), am_ex P n d j pc ls st m = some r) (Classical.propDecidable _) (fun h => some h.choose) (fun _ => none)
theorem am_ev_iff {P : am_Pr} {d j pc : Nat} {ls : am_L} {st : List Value} {m : am_M} {r : Option Value × am_M} : am_ev P d j pc ls st m = some r ↔ ∃ n, am_ex P n d j pc ls st m = some r := by
  unfold am_ev
  constructor
  · intro h
    split at h
    · next hx =>
      obtain ⟨n, hn⟩ := hx.choose_spec
      cases h
      exact ⟨n, hn⟩
    · cases h
  · rintro ⟨n, hn⟩
    have hx : ∃ (r : Option Value × am_M) (n : Nat), am_ex P n d j pc ls st m = some r := ⟨r, n, hn⟩
    rw [dif_pos hx]
    obtain ⟨k, hk⟩ := hx.choose_spec
    have h1 := am_ex_le (Nat.le_max_left n k) hn
    have h2 := am_ex_le (Nat.le_max_right n k) hk
    exact h2.symm.trans h1
theorem am_ev_ext {a b : am_O} (h : ∀ r, a = some r ↔ b = some r) : a = b := by
  cases a with
  | none =>
    cases b with
    | none => rfl
    | some q => exact (h q).mpr rfl
  | some q => exact ((h q).mp rfl).symm
/-- one step that goes on -/
theorem am_nx {P : am_Pr} {d j pc pc' : Nat} {ls ls' : am_L} {st st' : List Value} {m m' : am_M} {z : am_R} (hz : P.1 j pc = some z) (ho : am_stp P z pc ls st m = some (.inl (pc', ls', st', m'))) : am_ev P d j pc ls st m = am_ev P d j pc' ls' st' m' := by
  apply am_ev_ext
  intro r
  rw [am_ev_iff, am_ev_iff]
  constructor
  · rintro ⟨n, hn⟩
    cases n with
    | zero => cases hn
    | succ n =>
      unfold am_ex at hn
      rw [hz] at hn
      dsimp only at hn
      rw [ho] at hn
      exact ⟨n, hn⟩
  · rintro ⟨n, hn⟩
    refine ⟨n + 1, ?_⟩
    unfold am_ex
    rw [hz]
    dsimp only
    rw [ho]
    exact hn
theorem am_rt {P : am_Pr} {d j pc : Nat} {ls : am_L} {st : List Value} {m : am_M} {r : Option Value × am_M} {z : am_R} (hz : P.1 j pc = some z) (ho : am_stp P z pc ls st m = some (.inr (.inl r))) : am_ev P d j pc ls st m = some r := by
  rw [am_ev_iff]
  refine ⟨1, ?_⟩
  unfold am_ex
  rw [hz]
  dsimp only
  rw [ho]
noncomputable def am_call (P : am_Pr) (d j : Nat) (as : List Value) (m : am_M) : am_O := am_ev P d j 0 (am_en (P.2.2.2 j) as) [] m
def am_k (o : am_O) (f : Option Value → am_M → am_O) : am_O := match o with
  | none => none
  | some (v, m) => f v m
theorem am_cl {P : am_Pr} {d j j' pc pc' : Nat} {ls ls' : am_L} {st st' as : List Value} {m m' : am_M} {z : am_R} (hz : P.1 j pc = some z) (ho : am_stp P z pc ls st m = some (.inr (.inr (j', as, pc', ls', st', m')))) (hlen : (am_en (P.2.2.2 j') as).length = P.2.2.2 j') :
    am_ev P (d + 1) j pc ls st m = am_k (am_call P d j' as m') (fun v m'' => am_ev P (d + 1) j pc' ls' (v.toList ++ st') m'') := by
  apply am_ev_ext
  intro r
  rw [am_ev_iff]
  constructor
  · rintro ⟨n, hn⟩
    cases n with
    | zero => cases hn
    | succ n =>
      unfold am_ex at hn
      rw [hz] at hn
      dsimp only at hn
      rw [ho] at hn
      dsimp only at hn
      rw [if_pos hlen] at hn
      cases hc : am_ex P n d j' 0 (am_en (P.2.2.2 j') as) [] m' with
      | none => rw [hc] at hn; cases hn
      | some q =>
        rw [hc] at hn
        have h1 : am_call P d j' as m' = some q := am_ev_iff.mpr ⟨n, hc⟩
        rw [h1]
        exact am_ev_iff.mpr ⟨n, hn⟩
  · intro h
    cases hc : am_call P d j' as m' with
    | none => rw [hc] at h; cases h
    | some q =>
      rw [hc] at h
      obtain ⟨n1, h1⟩ := am_ev_iff.mp hc
      obtain ⟨n2, h2⟩ := am_ev_iff.mp (show am_ev P (d + 1) j pc' ls' (q.1.toList ++ st') q.2 = some r from h)
      refine ⟨n1 + n2 + 1, ?_⟩
      unfold am_ex
      rw [hz]
      dsimp only
      rw [ho]
      dsimp only
      rw [if_pos hlen, am_ex_le (Nat.le_add_right n1 n2) h1]
      exact am_ex_le (Nat.le_add_left n2 n1) h2
