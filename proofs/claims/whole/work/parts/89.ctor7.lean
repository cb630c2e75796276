/-! CONSTRUCTORS, 7: the model: its arrays together -/
/-- what the stages so far have given: L = (field, address, kind) -/
def Cu (o t w : Nat) (L : List (Nat × Nat × (Nat × Nat × Nat))) (m0 m : am_M) : Prop := mS m = t ∧ mN m = mN m0 + w ∧ Ke o m0 m ∧ mK m o = mK m0 o ∧ mL m o = mL m0 o ∧ o < t ∧ ∀ p, p ∈ L → mR m o p.1 = some p.2.1 ∧ Az p.2.2 m p.2.1 ∧ o < p.2.1 ∧ p.2.1 < t
theorem Cu.sg {o t w j n : Nat} {q : Nat × Nat × Nat} {L : List (Nat × Nat × (Nat × Nat × Nat))} {m0 m m' : am_M} (h : Cu o t w L m0 m) (g : Sg o t j n q m m') (hj : ∀ p, p ∈ L → p.1 ≠ j) : Cu o (t + 1) (w + n) ((j, t, q) :: L) m0 m' ∧ mI m' o = mI m o := by
  obtain ⟨h1, h2, h3, h4, hl, h5, h6⟩ := h
  obtain ⟨g1, g2, g3, g4, g5, g6, g7, g8, g9⟩ := g
  refine ⟨⟨g1, by rw [g2, h2]; omega, h3.trans (fun x hx => g9 x (by omega) (by omega)), g3.trans h4, g5.trans hl, by omega, fun p hp => ?_⟩, g4⟩
  rcases List.mem_cons.1 hp with e | e
  · rw [e]
    exact ⟨g7, g6, h5, Nat.lt_succ_self t⟩
  · obtain ⟨a1, a2, a3, a4⟩ := h6 p e
    exact ⟨by rw [g8 _ (hj p e)]; exact a1, a2.go (g9 _ a4 (by omega)), a3, by omega⟩
theorem Cu.w {o t w : Nat} {L : List (Nat × Nat × (Nat × Nat × Nat))} {m0 m : am_M} (v : Int32) (h : Cu o t w L m0 m) : Cu o t w L m0 (sI m o 14 v) := by
  obtain ⟨h1, h2, h3, h4, hl, h5, h6⟩ := h
  have f : ∀ x, x ≠ o → Sa x m (sI m o 14 v) := fun x hx => ⟨by rw [xK_sI], by rw [sI_sA, I_sA' _ _ hx], by rw [mL_sI], by funext y; rw [xR_sI]⟩
  refine ⟨by rw [xS_sI]; exact h1, by rw [xN_sI]; exact h2, h3.trans (fun x hx => f x (by omega)), by rw [xK_sI]; exact h4, by rw [mL_sI]; exact hl, h5, fun p hp => ?_⟩
  obtain ⟨a1, a2, a3, a4⟩ := h6 p hp
  exact ⟨by rw [xR_sI]; exact a1, a2.go (f _ (by omega)), a3, a4⟩
def MoL (o : Nat) : List (Nat × Nat × (Nat × Nat × Nat)) := [(22, o + 15, (2, 0, 6)), (21, o + 14, (2, 0, 6)), (20, o + 13, (3, 0, 6)), (19, o + 12, (2, 0, 6)), (17, o + 11, (2, 0, 3)), (15, o + 10, (2, 0, 6)), (9, o + 9, (2, 0, 7)), (8, o + 8, (2, 0, 40)), (6, o + 7, (2, 0, 800)), (5, o + 6, (4, 0, 4)), (4, o + 5, (3, 0, 2)), (3, o + 4, (2, 0, 6508)), (2, o + 3, (2, 0, 6508)), (1, o + 2, (2, 0, 6508)), (0, o + 1, (2, 0, 6508))]
theorem sp_138a {d o : Nat} {m : am_M} (hK : mK m o = (1, 10, 0)) (hS : mS m = o + 1) : ∃ m', cal d 138 [.ref o] m = ev d 138 131 [some (.ref o), none] [] m' ∧ Cu o (o + 16) 26918 (MoL o) m m' ∧ mI m' o = up1 (mI m o) 14 (-1) := by
  have C : Cu o (o + 1) 0 [] m m := ⟨hS, rfl, Ke.refl _ _, rfl, rfl, by omega, fun p hp => absurd hp (List.not_mem_nil)⟩
  obtain ⟨m0, X0, G0⟩ := g138_0 (d := d) (o := o) (m := m) (C.2.2.2.1.trans hK) C.1
  obtain ⟨C0, i0⟩ := C.sg G0 (by simp)
  clear G0
  obtain ⟨m1, X1, G1⟩ := g138_1 (d := d) (o := o) (m := m0) (C0.2.2.2.1.trans hK) C0.1
  obtain ⟨C1, i1⟩ := C0.sg G1 (by simp)
  clear G1
  obtain ⟨m2, X2, G2⟩ := g138_2 (d := d) (o := o) (m := m1) (C1.2.2.2.1.trans hK) C1.1
  obtain ⟨C2, i2⟩ := C1.sg G2 (by simp)
  clear G2
  obtain ⟨m3, X3, G3⟩ := g138_3 (d := d) (o := o) (m := m2) (C2.2.2.2.1.trans hK) C2.1
  obtain ⟨C3, i3⟩ := C2.sg G3 (by simp)
  clear G3
  obtain ⟨m4, X4, G4⟩ := g138_4 (d := d) (o := o) (m := m3) (C3.2.2.2.1.trans hK) C3.1
  obtain ⟨C4, i4⟩ := C3.sg G4 (by simp)
  clear G4
  obtain ⟨m5, X5, G5⟩ := g138_5 (d := d) (o := o) (m := m4) (C4.2.2.2.1.trans hK) C4.1
  obtain ⟨C5, i5⟩ := C4.sg G5 (by simp)
  clear G5
  obtain ⟨m6, X6, G6⟩ := g138_6 (d := d) (o := o) (m := m5) (C5.2.2.2.1.trans hK) C5.1
  obtain ⟨C6, i6⟩ := C5.sg G6 (by simp)
  clear G6
  obtain ⟨m7, X7, G7⟩ := g138_7 (d := d) (o := o) (m := m6) (C6.2.2.2.1.trans hK) C6.1
  obtain ⟨C7, i7⟩ := C6.sg G7 (by simp)
  clear G7
  obtain ⟨m8, X8, G8⟩ := g138_8 (d := d) (o := o) (m := m7) (C7.2.2.2.1.trans hK) C7.1
  obtain ⟨C8, i8⟩ := C7.sg G8 (by simp)
  clear G8
  have X9 : ev d 138 79 [some (.ref o), none] [] m8 = ev d 138 84 [some (.ref o), none] [] (sI m8 o 14 (-1)) := by
    have hK8 : mK m8 o = (1, 10, 0) := C8.2.2.2.1.trans hK
    simp (disch := assumption) only [e138_79, e138_80, e138_81]
  have C9 := C8.w (-1)
  have i9 : mI (sI m8 o 14 (-1)) o = up1 (mI m8 o) 14 (-1) := by rw [sI_sA, I_sA]
  generalize sI m8 o 14 (-1) = m9 at *
  obtain ⟨m10, X10, G10⟩ := g138_10 (d := d) (o := o) (m := m9) (C9.2.2.2.1.trans hK) C9.1
  obtain ⟨C10, i10⟩ := C9.sg G10 (by simp)
  clear G10
  obtain ⟨m11, X11, G11⟩ := g138_11 (d := d) (o := o) (m := m10) (C10.2.2.2.1.trans hK) C10.1
  obtain ⟨C11, i11⟩ := C10.sg G11 (by simp)
  clear G11
  obtain ⟨m12, X12, G12⟩ := g138_12 (d := d) (o := o) (m := m11) (C11.2.2.2.1.trans hK) C11.1
  obtain ⟨C12, i12⟩ := C11.sg G12 (by simp)
  clear G12
  obtain ⟨m13, X13, G13⟩ := g138_13 (d := d) (o := o) (m := m12) (C12.2.2.2.1.trans hK) C12.1
  obtain ⟨C13, i13⟩ := C12.sg G13 (by simp)
  clear G13
  obtain ⟨m14, X14, G14⟩ := g138_14 (d := d) (o := o) (m := m13) (C13.2.2.2.1.trans hK) C13.1
  obtain ⟨C14, i14⟩ := C13.sg G14 (by simp)
  clear G14
  obtain ⟨m15, X15, G15⟩ := g138_15 (d := d) (o := o) (m := m14) (C14.2.2.2.1.trans hK) C14.1
  obtain ⟨C15, i15⟩ := C14.sg G15 (by simp)
  clear G15
  refine ⟨m15, ?_, C15, ?_⟩
  · rw [X0, X1, X2, X3, X4, X5, X6, X7, X8, X9, X10, X11, X12, X13, X14, X15]
  · rw [i15, i14, i13, i12, i11, i10, i9, i8, i7, i6, i5, i4, i3, i2, i1, i0]
theorem cu_mo {o w : Nat} {m0 m : am_M} (h : Cu o (o + 16) w (MoL o) m0 m) (hK : mK m0 o = (1, 10, 0)) : Mo m o := by
  obtain ⟨-, -, -, h4, -, -, h6⟩ := h
  unfold MoL at h6
  have p1 := h6 (0, o + 1, (2, 0, 6508)) (by simp)
  have p2 := h6 (1, o + 2, (2, 0, 6508)) (by simp)
  have p3 := h6 (2, o + 3, (2, 0, 6508)) (by simp)
  have p4 := h6 (3, o + 4, (2, 0, 6508)) (by simp)
  have p5 := h6 (4, o + 5, (3, 0, 2)) (by simp)
  have p6 := h6 (5, o + 6, (4, 0, 4)) (by simp)
  have p7 := h6 (6, o + 7, (2, 0, 800)) (by simp)
  have p8 := h6 (8, o + 8, (2, 0, 40)) (by simp)
  have p9 := h6 (9, o + 9, (2, 0, 7)) (by simp)
  have p10 := h6 (15, o + 10, (2, 0, 6)) (by simp)
  have p11 := h6 (17, o + 11, (2, 0, 3)) (by simp)
  have p12 := h6 (19, o + 12, (2, 0, 6)) (by simp)
  have p13 := h6 (20, o + 13, (3, 0, 6)) (by simp)
  have p14 := h6 (21, o + 14, (2, 0, 6)) (by simp)
  have p15 := h6 (22, o + 15, (2, 0, 6)) (by simp)
  exact ⟨h4.trans hK, p1.1, p1.2.1.1, p2.1, p2.2.1.1, p3.1, p3.2.1.1, p4.1, p4.2.1.1, p5.1, p5.2.1.1, p6.1, p6.2.1.1, p7.1, p7.2.1.1, p8.1, p8.2.1.1, p9.1, p9.2.1.1, p10.1, p10.2.1.1, p11.1, p11.2.1.1, p12.1, p12.2.1.1, p13.1, p13.2.1.1, p14.1, p14.2.1.1, p15.1, p15.2.1.1⟩
