/-! THE PLANNER, 2: who hinders, by the order of driving -/
theorem cntR_add (f : Nat → Bool) (a n : Nat) : ∀ m, cntR f a (n + m) = cntR f a n + cntR f (a + n) m := by
  intro m
  induction m with
  | zero => rfl
  | succ m ih =>
    show cntR f a (n + m) + (if f (a + (n + m)) then 1 else 0) = cntR f a n + (cntR f (a + n) m + (if f (a + n + m) then 1 else 0))
    rw [ih, Nat.add_assoc a n m]
    omega
def pvG (G : Nat → Int32) (k : Nat) : Int32 := match k with
  | 0 => -1
  | k + 1 => G k
def hqG (T G : Nat → Int32) (g : Int32) (k : Nat) : Bool := !decide (G k < nI 0) && (!decide (G k = pvG G k) && decide (g < T (G k).toNatClampNeg))
def lvG (T G : Nat → Int32) (g : Int32) (q : Nat) : Bool := !decide (G q < nI 0) && decide (T (G q).toNatClampNeg = g)
def dG (T G : Nat → Int32) (g : Int32) (L : Nat) : Int32 := lastR (lvG T G g) L
def cG (T G : Nat → Int32) (g : Int32) (c : Nat) : Nat := cntR (hqG T G g) 0 c
section GG
variable {T G G' : Nat → Int32} {g : Int32} {L r s l : Nat}
theorem lv_m {q : Nat} (h : G q = -1) : lvG T G g q = false := by unfold lvG; rw [h]; rfl
theorem lv_l {q x : Nat} (hx : x < 400) (h : G q = nI x) : lvG T G g q = decide (T x = g) := by
  have n0 : ¬ nI x < nI 0 := by rw [lt_nI (by omega) (by omega)]; omega
  unfold lvG
  rw [h, cl_nI (by omega), decide_eq_false n0]
  rfl
theorem hq_m {q : Nat} (h : G q = -1) : hqG T G g q = false := by unfold hqG; rw [h]; rfl
theorem hq_l {q x : Nat} (hx : x < 400) (h : G q = nI x) (h2 : ¬ pvG G q = nI x) : hqG T G g q = decide (g < T x) := by
  have n0 : ¬ nI x < nI 0 := by rw [lt_nI (by omega) (by omega)]; omega
  unfold hqG
  rw [h, cl_nI (by omega), decide_eq_false n0, decide_eq_false (fun z => h2 z.symm)]
  rfl
theorem hq_s {q x : Nat} (h : G q = nI x) (h2 : pvG G q = nI x) : hqG T G g q = false := by
  unfold hqG
  rw [h, h2, decide_eq_true rfl]
  simp
theorem pv_s {q : Nat} (h : 0 < q) : pvG G q = G (q - 1) := by
  obtain ⟨p, rfl⟩ : ∃ p, q = p + 1 := ⟨q - 1, by omega⟩
  rfl
/-- the block's own count -/
theorem cnt_bl (hl : l < 400) (hs : 1 ≤ s) {a : Nat} (h1 : ∀ q, a ≤ q → q < a + s → G q = nI l) (h2 : ¬ pvG G a = nI l) : cntR (hqG T G g) a s = if g < T l then 1 else 0 := by
  obtain ⟨u, rfl⟩ : ∃ u, s = u + 1 := ⟨s - 1, by omega⟩
  rw [cntR_front, hq_l hl (h1 a (by omega) (by omega)) h2, cntR_zero (fun p p1 p2 => ?_)]
  · by_cases c : g < T l
    · rw [if_pos c, decide_eq_true c]; rfl
    · rw [if_neg c, decide_eq_false c]; rfl
  · refine hq_s (h1 p (by omega) (by omega)) ?_
    rw [pv_s (by omega)]
    exact h1 _ (by omega) (by omega)
/-- one more at the entry, seen from the entry -/
theorem en_step (hL : L ≤ 40) (hl : l < 400) (hs : 1 ≤ s) (hr : s ≤ r) (hrL : r ≤ L) (hG : ∀ q, q < L → G' q = if r - s ≤ q ∧ q < r then nI l else G q) (h1 : ∀ q, q < r → G q = -1) (h2 : ∀ q, r ≤ q → q < L → ∃ x, x < 400 ∧ x ≠ l ∧ G q = nI x) :
    (∀ D, D < L → dG T G g L = nI D → r ≤ D ∧ dG T G' g L = nI D ∧ cG T G' g D = cG T G g D + (if g < T l then 1 else 0)) ∧
    (dG T G g L = -1 → T l = g → dG T G' g L = nI (r - 1) ∧ cG T G' g (r - 1) = 0) ∧
    (dG T G g L = -1 → ¬ T l = g → dG T G' g L = -1) := by
  have e1 : ∀ q, q < r - s → G' q = -1 := fun q hq => by rw [hG q (by omega), if_neg (by omega)]; exact h1 q (by omega)
  have e2 : ∀ q, r - s ≤ q → q < r → G' q = nI l := fun q a b => by rw [hG q (by omega), if_pos ⟨a, b⟩]
  have e3 : ∀ q, r ≤ q → q < L → G' q = G q := fun q a b => by rw [hG q b, if_neg (by omega)]
  have pv1 : ¬ pvG G' (r - s) = nI l := by
    rcases Nat.eq_zero_or_pos (r - s) with z | z
    · rw [z]
      exact fun q => ne_m1 (by omega) q.symm
    · rw [pv_s z, e1 _ (by omega)]
      exact fun q => ne_m1 (by omega) q.symm
  have blk : cntR (hqG T G' g) (r - s) s = if g < T l then 1 else 0 := cnt_bl hl hs (fun q a b => e2 q a (by omega)) pv1
  have z0 : ∀ c, c ≤ r - s → cntR (hqG T G' g) 0 c = 0 := fun c hc => cntR_zero (fun p _ p2 => hq_m (e1 p (by omega)))
  have z1 : cntR (hqG T G g) 0 r = 0 := cntR_zero (fun p _ p2 => hq_m (h1 p (by omega)))
  have sm : ∀ q, r ≤ q → q < L → hqG T G' g q = hqG T G g q := by
    intro q a b
    obtain ⟨x, x1, x2, x3⟩ := h2 q a b
    rcases Nat.eq_or_lt_of_le a with e | e
    · subst e
      rw [hq_l x1 (by rw [e3 r a b]; exact x3) (by
        rw [pv_s (by omega), e2 _ (by omega) (by omega)]
        intro z
        rw [eq_nI (by omega) (by omega)] at z
        exact x2 z.symm), hq_l x1 x3 (by
        rw [pv_s (by omega), h1 _ (by omega)]
        exact fun q => ne_m1 (by omega) q.symm)]
    · unfold hqG
      rw [pv_s (by omega), pv_s (by omega), e3 q a b, e3 (q - 1) (by omega) (by omega)]
  have lvs : ∀ q, r ≤ q → q < L → lvG T G' g q = lvG T G g q := fun q a b => by unfold lvG; rw [e3 q a b]
  refine ⟨fun D hD hd => ?_, fun hd ht => ?_, fun hd ht => ?_⟩
  · rcases lastR_spec (lvG T G g) L with ⟨a, -⟩ | ⟨a, a1, a2, a3, a4⟩
    · unfold dG at hd
      rw [a] at hd
      exact absurd hd.symm (ne_m1 (by omega))
    · unfold dG at hd
      rw [a2, eq_nI (by omega) (by omega)] at hd
      subst hd
      have ra : r ≤ a := by
        rcases Nat.lt_or_ge a r with z | z
        · rw [lv_m (h1 a z)] at a3; cases a3
        · exact z
      refine ⟨ra, ?_, ?_⟩
      · exact lastR_eq (by omega) a1 (by rw [lvs a ra a1]; exact a3) (fun p p1 p2 => by rw [lvs p (by omega) p2]; exact a4 p p1 p2)
      · obtain ⟨w, rfl⟩ : ∃ w, a = r + w := ⟨a - r, by omega⟩
        unfold cG
        rw [cntR_add, cntR_add, z1, show cntR (hqG T G' g) 0 r = cntR (hqG T G' g) 0 (r - s + s) by rw [Nat.sub_add_cancel hr], cntR_add, z0 _ (by omega), Nat.zero_add, Nat.zero_add, Nat.zero_add, blk, cntR_congr (fun p p1 p2 => sm p (by omega) (by omega))]
        omega
  · rcases lastR_spec (lvG T G g) L with ⟨-, a⟩ | ⟨a, a1, a2, -⟩
    · refine ⟨lastR_eq (by omega) (by omega) ?_ (fun p p1 p2 => ?_), ?_⟩
      · rw [lv_l hl (e2 _ (by omega) (by omega))]; exact decide_eq_true ht
      · rw [lvs p (by omega) p2]; exact a p p2
      · unfold cG
        rcases Nat.eq_or_lt_of_le hs with e | e
        · exact z0 _ (by omega)
        · rw [show r - 1 = r - s + (s - 1) by omega, cntR_add, z0 _ (by omega), Nat.zero_add, Nat.zero_add]
          rw [cnt_bl hl (by omega) (fun q a b => e2 q (by omega) (by omega)) pv1, if_neg (by rw [ht]; exact Int32.lt_irrefl)]
    · unfold dG at hd
      rw [a2] at hd
      exact absurd hd (ne_m1 (by omega))
  · refine lastR_none (fun p hp => ?_)
    rcases lastR_spec (lvG T G g) L with ⟨-, a⟩ | ⟨a, a1, a2, -⟩
    · rcases Nat.lt_or_ge p r with z | z
      · rcases Nat.lt_or_ge p (r - s) with y | y
        · exact lv_m (e1 p y)
        · rw [lv_l hl (e2 p y z)]; exact decide_eq_false ht
      · rw [lvs p z hp]; exact a p hp
    · unfold dG at hd
      rw [a2] at hd
      exact absurd hd (ne_m1 (by omega))
/-- one more, seen from the far end -/
theorem fa_step {u : Nat} (hL : L ≤ 40) (hl : l < 400) (hs : 1 ≤ s) (hu : u + s ≤ L) (hG : ∀ q, q < L → G' q = if u ≤ q ∧ q < u + s then nI l else G q) (h1 : ∀ q, u ≤ q → q < L → G q = -1) (h2 : ∀ q, q < u → ∃ x, x < 400 ∧ x ≠ l ∧ G q = nI x) :
    (T l = g → dG T G' g L = nI (u + s - 1) ∧ cG T G' g (u + s - 1) = cG T G g u) ∧
    (¬ T l = g → ∀ D, D < L → dG T G g L = nI D → D < u ∧ dG T G' g L = nI D ∧ cG T G' g D = cG T G g D) ∧
    (cG T G' g (u + s) = cG T G g u + (if g < T l then 1 else 0)) := by
  have e1 : ∀ q, u + s ≤ q → q < L → G' q = -1 := fun q a b => by rw [hG q (by omega), if_neg (by omega)]; exact h1 q (by omega) b
  have e2 : ∀ q, u ≤ q → q < u + s → G' q = nI l := fun q a b => by rw [hG q (by omega), if_pos ⟨a, b⟩]
  have e3 : ∀ q, q < u → G' q = G q := fun q b => by rw [hG q (by omega), if_neg (by omega)]
  have pv1 : ¬ pvG G' u = nI l := by
    rcases Nat.eq_zero_or_pos u with z | z
    · rw [z]
      exact fun q => ne_m1 (by omega) q.symm
    · obtain ⟨x, x1, x2, x3⟩ := h2 (u - 1) (by omega)
      rw [pv_s z, e3 _ (by omega), x3]
      intro q
      rw [eq_nI (by omega) (by omega)] at q
      exact x2 q
  have blk : ∀ w, 1 ≤ w → w ≤ s → cntR (hqG T G' g) u w = if g < T l then 1 else 0 := fun w w1 w2 => cnt_bl hl w1 (fun q a b => e2 q a (by omega)) pv1
  have sm : ∀ q, q < u → hqG T G' g q = hqG T G g q := by
    intro q b
    unfold hqG
    rcases Nat.eq_zero_or_pos q with z | z
    · subst z
      rw [e3 0 b]
      rfl
    · rw [pv_s z, pv_s z, e3 q b, e3 (q - 1) (by omega)]
  have lvs : ∀ q, q < u → lvG T G' g q = lvG T G g q := fun q b => by unfold lvG; rw [e3 q b]
  have c0 : ∀ c, c ≤ u → cntR (hqG T G' g) 0 c = cntR (hqG T G g) 0 c := fun c hc => cntR_congr (fun p _ p2 => sm p (by omega))
  refine ⟨fun ht => ⟨lastR_eq (by omega) (by omega) ?_ (fun p p1 p2 => lv_m (e1 p (by omega) p2)), ?_⟩, fun ht D hD hd => ?_, ?_⟩
  · rw [lv_l hl (e2 _ (by omega) (by omega))]; exact decide_eq_true ht
  · unfold cG
    rcases Nat.eq_or_lt_of_le hs with e | e
    · rw [show u + s - 1 = u by omega]; exact c0 u (Nat.le_refl _)
    · rw [show u + s - 1 = u + (s - 1) by omega, cntR_add, c0 u (Nat.le_refl _), Nat.zero_add, blk _ (by omega) (by omega), if_neg (by rw [ht]; exact Int32.lt_irrefl)]; rfl
  · rcases lastR_spec (lvG T G g) L with ⟨a, -⟩ | ⟨a, a1, a2, a3, a4⟩
    · unfold dG at hd
      rw [a] at hd
      exact absurd hd.symm (ne_m1 (by omega))
    · unfold dG at hd
      rw [a2, eq_nI (by omega) (by omega)] at hd
      subst hd
      have ua : a < u := by
        rcases Nat.lt_or_ge a u with z | z
        · exact z
        · rw [lv_m (h1 a z a1)] at a3; cases a3
      refine ⟨ua, lastR_eq (by omega) a1 (by rw [lvs a ua]; exact a3) (fun p p1 p2 => ?_), c0 a (by omega)⟩
      rcases Nat.lt_or_ge p u with z | z
      · rw [lvs p z]; exact a4 p p1 p2
      · rcases Nat.lt_or_ge p (u + s) with y | y
        · rw [lv_l hl (e2 p z y)]; exact decide_eq_false ht
        · exact lv_m (e1 p y p2)
  · unfold cG
    rw [cntR_add, c0 u (Nat.le_refl _), Nat.zero_add, blk s hs (Nat.le_refl _)]
end GG
