/-! WHO IS MOVED, WHO LEAVES: by depth, in one lane -/
def ldK (S : Nat → Int32) (i : Nat) (e : Int32) (k : Nat) : Nat := (dpS S i (ln S i) e k).toNatClampNeg
/-- a load at depth k, seen for the first time -/
def nwB (S : Nat → Int32) (i : Nat) (e : Int32) (k : Nat) : Bool := !decide (dpS S i (ln S i) e k < nI 0) && !decide (dpS S i (ln S i) e k = pvS S i (ln S i) e k)
def lvL (S : Nat → Int32) (i : Nat) (e g : Int32) : Nat → List Nat
  | 0 => []
  | k + 1 => lvL S i e g k ++ (if nwB S i e k = true ∧ S (2100 + ldK S i e k) = g then [ldK S i e k] else [])
def mvL (S : Nat → Int32) (i : Nat) (e g : Int32) : Nat → List Nat
  | 0 => []
  | k + 1 => mvL S i e g k ++ (if nwB S i e k = true ∧ ¬ S (2100 + ldK S i e k) = g then [ldK S i e k] else [])
/-- the place at depth k -/
def plK (S : Nat → Int32) (i : Nat) (e : Int32) (k : Nat) : Nat := if e = nI 0 then k else ln S i - 1 - k
def mcL (S : Nat → Int32) (i : Nat) (e g : Int32) : Nat → List Nat
  | 0 => []
  | k + 1 => mcL S i e g k ++ (if ¬ dpS S i (ln S i) e k < nI 0 ∧ ¬ S (2100 + ldK S i e k) = g ∧ S (4100 + ldK S i e k) = nI (plK S i e k) then [ldK S i e k] else [])
/-- the depth at which a load at place q of span s is seen first -/
def fdq (n : Nat) (e : Int32) (q s : Nat) : Nat := if e = nI 0 then q else n - q - s
theorem dp_pl (S : Nat → Int32) (i : Nat) (e : Int32) (k : Nat) : dpS S i (ln S i) e k = S (40 * i + plK S i e k) := rfl
section SC
variable {S : Nat → Int32} {i k : Nat} {e g : Int32}
/-- what is at depth k -/
theorem at_k (hN : NmOk S) (hL : LnOk S) (hC : WfC S) (hi : i < 20) (hk : k < ln S i) : (dpS S i (ln S i) e k < nI 0) ∨ ∃ l q, l < nm S ∧ dpS S i (ln S i) e k = nI l ∧ ldK S i e k = l ∧ StA S l i q ∧ q ≤ plK S i e k ∧ plK S i e k < q + spanS S l := by
  have l2 := (hL i hi).2
  have n2 := hN.2
  have hp : plK S i e k < 40 := by unfold plK; split <;> omega
  rw [dp_pl]
  rcases hC i (plK S i e k) hi hp with q | ⟨q, -⟩ | ⟨l, q, a1, a2, a3, a4, a5⟩
  · left; rw [q]; exact u1
  · left; rw [q]; exact u2
  · right
    refine ⟨l, q, a1, a2, ?_, a3, a4, a5⟩
    unfold ldK
    rw [dp_pl, a2, cl_nI (by omega)]
theorem pv_iff (hN : NmOk S) (hL : LnOk S) (hC : WfC S) (hi : i < 20) (he : okE e) (hk : k < ln S i) {l q : Nat} (hl : l < nm S) (hs : StA S l i q) (h1 : q ≤ plK S i e k) (h2 : plK S i e k < q + spanS S l) : (nI l = pvS S i (ln S i) e k ↔ fdq (ln S i) e q (spanS S l) < k) ∧ fdq (ln S i) e q (spanS S l) ≤ k := by
  have l2 := (hL i hi).2
  have n2 := hN.2
  have s6 := hs.2.2.2.2.2.1
  have key : ∀ p, p < 40 → (nI l = S (40 * i + p) ↔ q ≤ p ∧ p < q + spanS S l) := by
    intro p hp
    constructor
    · intro h
      obtain ⟨-, q', s', a, b⟩ := cell_ld hN hC hi hp (show l < 1000 by omega) h.symm
      have := (s'.inj hL hs).2
      omega
    · intro h
      exact (hs.at h.1 h.2).symm
  unfold plK at h1 h2
  unfold fdq
  rcases he with rfl | rfl
  · rw [if_pos rfl] at h1 h2 ⊢
    refine ⟨?_, h1⟩
    cases k with
    | zero =>
      have : pvS S i (ln S i) (nI 0) 0 = -1 := rfl
      rw [this]
      exact ⟨fun h => absurd h (ne_m1 (by omega)), fun h => by omega⟩
    | succ k =>
      have : pvS S i (ln S i) (nI 0) (k + 1) = S (40 * i + k) := dp0 ..
      rw [this, key k (by omega)]
      omega
  · rw [if_neg (by decide)] at h1 h2 ⊢
    refine ⟨?_, by omega⟩
    cases k with
    | zero =>
      have : pvS S i (ln S i) (nI 1) 0 = -1 := rfl
      rw [this]
      exact ⟨fun h => absurd h (ne_m1 (by omega)), fun h => by omega⟩
    | succ k =>
      have : pvS S i (ln S i) (nI 1) (k + 1) = S (40 * i + (ln S i - 1 - k)) := dp1 ..
      rw [this, key _ (by omega)]
      omega
theorem nw_iff (hN : NmOk S) (hL : LnOk S) (hC : WfC S) (hi : i < 20) (he : okE e) (hk : k < ln S i) {l q : Nat} (hl : l < nm S) (hx : dpS S i (ln S i) e k = nI l) (hs : StA S l i q) (h1 : q ≤ plK S i e k) (h2 : plK S i e k < q + spanS S l) : nwB S i e k = true ↔ fdq (ln S i) e q (spanS S l) = k := by
  have n2 := hN.2
  obtain ⟨p1, p2⟩ := pv_iff hN hL hC hi he hk hl hs h1 h2
  have z : ¬ nI l < nI 0 := by rw [lt_nI (by omega) (by omega)]; omega
  unfold nwB
  rw [hx, decide_eq_false z, Bool.not_false, Bool.true_and]
  by_cases h : nI l = pvS S i (ln S i) e k
  · rw [decide_eq_true h]
    have := p1.mp h
    constructor
    · intro q; cases q
    · intro q; omega
  · rw [decide_eq_false h]
    have : ¬ fdq (ln S i) e q (spanS S l) < k := fun q => h (p1.mpr q)
    constructor
    · intro _; omega
    · intro _; rfl
/-- the two ways of counting the moved: alike at end 0; at end 1 one behind while one is passed -/
theorem mc_0 (hN : NmOk S) (hL : LnOk S) (hC : WfC S) (hi : i < 20) : ∀ k, k ≤ ln S i → mcL S i (nI 0) g k = mvL S i (nI 0) g k := by
  have l2 := (hL i hi).2
  have n2 := hN.2
  intro k
  induction k with
  | zero => intro _; rfl
  | succ k ih =>
    intro hk
    unfold mcL mvL
    rw [ih (by omega)]
    congr 1
    have hiff : (¬ dpS S i (ln S i) (nI 0) k < nI 0 ∧ ¬ S (2100 + ldK S i (nI 0) k) = g ∧ S (4100 + ldK S i (nI 0) k) = nI (plK S i (nI 0) k)) ↔ (nwB S i (nI 0) k = true ∧ ¬ S (2100 + ldK S i (nI 0) k) = g) := by
      rcases at_k (e := nI 0) hN hL hC hi (show k < ln S i by omega) with h | ⟨l, q, a1, a2, a3, a4, a5, a6⟩
      · have : nwB S i (nI 0) k = false := by unfold nwB; rw [decide_eq_true h]; rfl
        rw [this]
        exact ⟨fun q => absurd h q.1, fun q => by cases q.1⟩
      · have z : ¬ nI l < nI 0 := by rw [lt_nI (by omega) (by omega)]; omega
        have s6 := a4.2.2.2.2.2.1
        have hp : plK S i (nI 0) k = k := by unfold plK; rw [if_pos rfl]
        rw [nw_iff hN hL hC hi (Or.inl rfl) (by omega) a1 a2 a4 a5 a6, a2, a3, a4.2.2.1, eq_nI (by omega) (by omega)]
        unfold fdq
        rw [if_pos rfl, hp]
        exact ⟨fun q => ⟨q.2.2, q.2.1⟩, fun q => ⟨z, q.2, q.1⟩⟩
    by_cases h : nwB S i (nI 0) k = true ∧ ¬ S (2100 + ldK S i (nI 0) k) = g
    · rw [if_pos h, if_pos (hiff.mpr h)]
    · rw [if_neg h, if_neg (fun q => h (hiff.mp q))]
def miL (S : Nat → Int32) (i : Nat) (g : Int32) (p : Nat) : List Nat := if ¬ S (40 * i + p) < nI 0 ∧ ¬ S (2100 + (S (40 * i + p)).toNatClampNeg) = g ∧ S (4100 + (S (40 * i + p)).toNatClampNeg) < nI p then [(S (40 * i + p)).toNatClampNeg] else []
theorem mi_ld (hN : NmOk S) (hL : LnOk S) {l q p : Nat} (hp : p < 40) (hl : l < nm S) (h : S (40 * i + p) = nI l) (hs : StA S l i q) : miL S i g p = if ¬ S (2100 + l) = g ∧ q < p then [l] else [] := by
  have n2 := hN.2
  have s6 := hs.2.2.2.2.2.1
  have l2 := (hL i hs.2.2.2.1).2
  have z : ¬ nI l < nI 0 := by rw [lt_nI (by omega) (by omega)]; omega
  unfold miL
  rw [h, cl_nI (by omega), hs.2.2.1]
  have e1 := lt_nI (a := q) (b := p) (by omega) (by omega)
  by_cases c : ¬ S (2100 + l) = g ∧ q < p
  · rw [if_pos c, if_pos ⟨z, c.1, by rw [e1]; exact c.2⟩]
  · rw [if_neg c, if_neg (fun q => c ⟨q.2.1, by rw [e1] at q; exact q.2.2⟩)]
theorem mi_no {p : Nat} (h : S (40 * i + p) < nI 0) : miL S i g p = [] := by
  unfold miL
  rw [if_neg (fun q => q.1 h)]
theorem mc_1 (hN : NmOk S) (hL : LnOk S) (hC : WfC S) (hi : i < 20) : ∀ k, k ≤ ln S i → mvL S i (nI 1) g k = mcL S i (nI 1) g k ++ (if k = 0 then [] else miL S i g (ln S i - k)) := by
  have l2 := (hL i hi).2
  have n2 := hN.2
  intro k
  induction k with
  | zero => intro _; rfl
  | succ k ih =>
    intro hk
    have ih := ih (by omega)
    unfold mcL mvL
    rw [ih, if_neg (show ¬ k + 1 = 0 by omega), show ln S i - (k + 1) = ln S i - 1 - k by omega]
    have hpl : plK S i (nI 1) k = ln S i - 1 - k := by unfold plK; rw [if_neg (by decide)]
    generalize hP : ln S i - 1 - k = p at *
    generalize hPV : (if k = 0 then ([] : List Nat) else miL S i g (ln S i - k)) = PV
    rcases at_k (e := nI 1) hN hL hC hi (show k < ln S i by omega) with h | ⟨l, q, a1, a2, a3, a4, a5, a6⟩
    · -- no load there
      have hnw : nwB S i (nI 1) k = false := by unfold nwB; rw [decide_eq_true h]; rfl
      have h' := h
      rw [dp_pl, hpl] at h'
      rw [hnw, if_neg (fun q => by cases q.1), if_neg (fun q => q.1 h), mi_no h', List.append_nil, List.append_nil, List.append_nil, ← hPV]
      by_cases hk0 : k = 0
      · rw [if_pos hk0, List.append_nil]
      · rw [if_neg hk0]
        have : miL S i g (ln S i - k) = [] := by
          have hpp : ln S i - k = p + 1 := by omega
          rw [hpp]
          rcases hC i (p + 1) hi (by omega) with z | ⟨z, -⟩ | ⟨l', q', b1, b2, b3, b4, b5⟩
          · exact mi_no (by rw [z]; exact u1)
          · exact mi_no (by rw [z]; exact u2)
          · rw [mi_ld hN hL (by omega) b1 b2 b3, if_neg]
            intro c
            have hc := b3.at (p := p) (by omega) (by omega)
            rw [hc, lt_nI (by omega) (by omega)] at h'
            omega
        rw [this, List.append_nil]
    · rw [hpl] at a5 a6
      have hx : S (40 * i + p) = nI l := by rw [← a2, dp_pl, hpl]
      have z : ¬ nI l < nI 0 := by rw [lt_nI (by omega) (by omega)]; omega
      have s6 := a4.2.2.2.2.2.1
      have hnw := nw_iff hN hL hC hi (Or.inr rfl) (by omega) a1 a2 a4 (by rw [hpl]; exact a5) (by rw [hpl]; exact a6)
      have hfd : fdq (ln S i) (nI 1) q (spanS S l) = k ↔ p + 1 = q + spanS S l := by
        unfold fdq
        rw [if_neg (by decide)]
        omega
      rw [hfd] at hnw
      rw [a2, a3, hpl, a4.2.2.1, mi_ld hN hL (by omega) a1 hx a4]
      have e4 := eq_nI (a := q) (b := p) (by omega) (by omega)
      by_cases hg : S (2100 + l) = g
      · -- a leaver
        rw [if_neg (fun q => q.2 hg), if_neg (fun q => q.2.1 hg), if_neg (fun q => q.1 hg), List.append_nil, List.append_nil, List.append_nil, ← hPV]
        by_cases hk0 : k = 0
        · rw [if_pos hk0, List.append_nil]
        · rw [if_neg hk0]
          have : miL S i g (ln S i - k) = [] := by
            have hpp : ln S i - k = p + 1 := by omega
            rw [hpp]
            rcases hC i (p + 1) hi (by omega) with z | ⟨z, -⟩ | ⟨l', q', b1, b2, b3, b4, b5⟩
            · exact mi_no (by rw [z]; exact u1)
            · exact mi_no (by rw [z]; exact u2)
            · rw [mi_ld hN hL (by omega) b1 b2 b3, if_neg]
              intro c
              have hc := b3.at (p := p) (by omega) (by omega)
              rw [hx, eq_nI (by omega) (by omega)] at hc
              subst hc
              exact c.1 hg
          rw [this, List.append_nil]
      · by_cases hlast : p + 1 = q + spanS S l
        · -- seen for the first time
          rw [if_pos ⟨hnw.mpr hlast, hg⟩]
          have hpv : PV = [] := by
            rw [← hPV]
            by_cases hk0 : k = 0
            · rw [if_pos hk0]
            · rw [if_neg hk0]
              have hpp : ln S i - k = p + 1 := by omega
              rw [hpp]
              rcases hC i (p + 1) hi (by omega) with z | ⟨z, -⟩ | ⟨l', q', b1, b2, b3, b4, b5⟩
              · exact mi_no (by rw [z]; exact u1)
              · exact mi_no (by rw [z]; exact u2)
              · rw [mi_ld hN hL (by omega) b1 b2 b3, if_neg]
                intro c
                have hc := b3.at (p := p) (by omega) (by omega)
                rw [hx, eq_nI (by omega) (by omega)] at hc
                subst hc
                have := (b3.inj hL a4).2
                omega
          rw [hpv, List.append_nil]
          by_cases hqp : q = p
          · rw [if_pos ⟨z, hg, by rw [e4]; exact hqp⟩, if_neg (fun q => by omega), List.append_nil]
          · rw [if_neg (fun q => hqp (by rw [e4] at q; exact q.2.2)), if_pos ⟨hg, by omega⟩, List.append_nil]
        · -- seen before
          rw [if_neg (fun q => hlast (hnw.mp q.1)), List.append_nil]
          have hk0 : ¬ k = 0 := by omega
          rw [if_neg hk0] at hPV
          have hpp : ln S i - k = p + 1 := by omega
          have hx1 : S (40 * i + (p + 1)) = nI l := a4.at (by omega) (by omega)
          have hm : miL S i g (ln S i - k) = [l] := by
            rw [hpp, mi_ld hN hL (by omega) a1 hx1 a4, if_pos ⟨hg, by omega⟩]
          rw [← hPV, hm]
          by_cases hqp : q = p
          · rw [if_pos ⟨z, hg, by rw [e4]; exact hqp⟩, if_neg (fun q => by omega), List.append_nil]
          · rw [if_neg (fun q => hqp (by rw [e4] at q; exact q.2.2)), if_pos ⟨hg, by omega⟩, List.append_nil]
/-- behind the deepest leaver both are alike -/
theorem mc_eq (hN : NmOk S) (hL : LnOk S) (hC : WfC S) (hi : i < 20) (he : okE e) {b : Nat} (hb : b < ln S i) (hd : deS S i e g = nI b) : mcL S i e g (b + 1) = mvL S i e g (b + 1) := by
  have l2 := (hL i hi).2
  have n2 := hN.2
  rcases he with rfl | rfl
  · exact mc_0 hN hL hC hi _ (by omega)
  · rw [mc_1 hN hL hC hi _ (by omega), if_neg (by omega)]
    have hlv : lvB S (dpS S i (ln S i) (nI 1) b) g = true := by
      unfold deS at hd
      rcases lastR_spec (fun q => lvB S (dpS S i (ln S i) (nI 1) q) g) (ln S i) with ⟨q, -⟩ | ⟨a, a1, a2, a3, -⟩
      · rw [q] at hd; exact absurd hd.symm (ne_m1 (by omega))
      · rw [a2, eq_nI (by omega) (by omega)] at hd
        subst hd
        exact a3
    rw [dp1] at hlv
    have : miL S i g (ln S i - (b + 1)) = [] := by
      rw [show ln S i - (b + 1) = ln S i - 1 - b by omega]
      unfold miL
      rw [if_neg]
      intro c
      unfold lvB at hlv
      rw [Bool.and_eq_true] at hlv
      exact c.2.1 (of_decide_eq_true hlv.2)
    rw [this, List.append_nil]
end SC
