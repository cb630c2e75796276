/-! THE LAW, 1: what no run changes: kinds, and the script -/
def Kq (m m' : am_M) : Prop := mS m ≤ mS m' ∧ ∀ a, a < mS m → mK m' a = mK m a ∧ ((mK m a).1 = 6 → mI m' a = mI m a)
theorem Kq.refl (m : am_M) : Kq m m := ⟨Nat.le_refl _, fun _ _ => ⟨rfl, fun _ => rfl⟩⟩
theorem Kq.trans {m1 m2 m3 : am_M} (h : Kq m1 m2) (g : Kq m2 m3) : Kq m1 m3 := by
  refine ⟨Nat.le_trans h.1 g.1, fun a ha => ?_⟩
  obtain ⟨h1, h2⟩ := h.2 a ha
  obtain ⟨g1, g2⟩ := g.2 a (Nat.lt_of_lt_of_le ha h.1)
  exact ⟨g1.trans h1, fun q => (g2 (by rw [h1]; exact q)).trans (h2 q)⟩
theorem kq_sI {m : am_M} {a k : Nat} {v : Int32} (h : (mK m a).1 ≠ 6) : Kq m (sI m a k v) := by
  refine ⟨by rw [xS_sI]; exact Nat.le_refl _, fun x _ => ⟨by rw [xK_sI], fun q => ?_⟩⟩
  have : x ≠ a := fun e => h (by rw [← e]; exact q)
  rw [sI_sA, I_sA' _ _ this]
theorem kq_sA {m : am_M} {a : Nat} {f : Nat → Int32} (h : (mK m a).1 ≠ 6) : Kq m (sA m a f) := by
  refine ⟨by rw [xS_sA]; exact Nat.le_refl _, fun x _ => ⟨by rw [xK_sA], fun q => ?_⟩⟩
  have : x ≠ a := fun e => h (by rw [← e]; exact q)
  rw [I_sA' _ _ this]
theorem kq_sL {m : am_M} {a k : Nat} {v : Int64} : Kq m (sL m a k v) := ⟨by rw [xS_sL]; exact Nat.le_refl _, fun x _ => ⟨by rw [xK_sL], fun _ => by rw [mI_sL]⟩⟩
theorem kq_sR {m : am_M} {a k : Nat} {v : Option Nat} : Kq m (sR m a k v) := ⟨by rw [xS_sR]; exact Nat.le_refl _, fun x _ => ⟨by rw [xK_sR], fun _ => by rw [yI_sR]⟩⟩
theorem kq_nw {m : am_M} {q : Nat × Nat × Nat} {n : Nat} : Kq m (nw m q n) := by
  refine ⟨by rw [xS_nw]; omega, fun x hx => ⟨by rw [xK_nw, if_neg (by omega)], fun _ => by rw [xI_nw, if_neg (by omega)]⟩⟩
theorem kq_fs {m m' : am_M} {a ci k c : Nat} {v : Value} (hK : mK m a = (1, c, 0)) (h : am_fs m a ci k v = some m') : Kq m m' := by
  have h6 : (mK m a).1 ≠ 6 := by rw [hK]; show (1 : Nat) ≠ 6; decide
  unfold am_fs at h
  split at h
  · cases h; exact kq_sI h6
  · cases h; exact kq_sL
  · cases h; exact kq_sR
  · cases h
def memO : am_Out → am_M
  | .inl (_, _, _, m) => m
  | .inr (.inl (_, m)) => m
  | .inr (.inr (_, _, _, _, _, m)) => m
theorem kq_stp {P : am_Pr} {z : am_R} {pc : Nat} {ls : am_L} {st : List Value} {m : am_M} {o : am_Out} (h : am_stp P z pc ls st m = some o) : Kq m (memO o) := by
  unfold am_stp am_step at h
  split at h
  all_goals try (repeat' (split at h))
  all_goals first
    | (cases h; exact Kq.refl _)
    | (cases h; exact kq_nw)
    | (cases h; exact kq_sL)
    | (cases h; exact kq_sR)
    | (cases h; exact kq_sI (fun q => by have h2 := (‹(mK m _).1 = 2 ∧ _›).1; omega))
    | (cases h; exact kq_sI (fun q => by have h2 := (‹(mK m _).1 = 3 ∧ _›).1; omega))
    | (cases h; exact kq_sA (fun q => by have h2 := (‹(mK m _).1 = 2 ∧ (mK m _).1 = 2 ∧ _›).2.1; omega))
    | (cases h; exact kq_fs (‹mK m _ = (1, _, 0) ∧ _›).1 ‹am_fs m _ _ _ _ = some _›)
    | (cases h; done)
theorem kq_ex {P : am_Pr} : ∀ n d j pc ls st m {r : Option Value × am_M}, am_ex P n d j pc ls st m = some r → Kq m r.2 := by
  intro n
  induction n with
  | zero => intro d j pc ls st m r h; cases h
  | succ n ih =>
    intro d j pc ls st m r h
    unfold am_ex at h
    cases hz : P.1 j pc with
    | none => rw [hz] at h; cases h
    | some z =>
      rw [hz] at h
      cases hs : am_stp P z pc ls st m with
      | none => simp only [hs] at h; cases h
      | some o =>
        have kq := kq_stp hs
        simp only [hs] at h
        rcases o with ⟨pc', ls', st', m'⟩ | r' | ⟨j', as, pc', ls', st', m'⟩
        · exact kq.trans (ih _ _ _ _ _ _ h)
        · cases h; exact kq
        · cases d with
          | zero => cases h
          | succ d' =>
            simp only at h
            split at h
            · cases hc : am_ex P n d' j' 0 (am_en (P.2.2.2 j') as) [] m' with
              | none => rw [hc] at h; cases h
              | some q =>
                rw [hc] at h
                exact (kq.trans (ih _ _ _ _ _ _ hc)).trans (ih _ _ _ _ _ _ h)
            · cases h
theorem kq_cal {d j : Nat} {as : List Value} {m : am_M} {r : Option Value × am_M} (h : cal d j as m = some r) : Kq m r.2 := by
  obtain ⟨n, hn⟩ := am_ev_iff.mp (show am_ev am_P d j 0 (am_en (am_P.2.2.2 j) as) [] m = some r from h)
  exact kq_ex _ _ _ _ _ _ _ hn
