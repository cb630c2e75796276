/-! THE PLANNER, 5: the search, and what may be left out -/
theorem nd_n : ∀ (n : Nat) (l : List Nat), l.Nodup → (∀ x, x ∈ l → x < n) → l.length ≤ n := by
  intro n
  induction n with
  | zero =>
    intro l _ h
    cases l with
    | nil => exact Nat.le_refl _
    | cons x l => have := h x List.mem_cons_self; omega
  | succ n ih =>
    intro l hn h
    have h1 : (l.erase n).Nodup := hn.erase n
    have h2 : ∀ x, x ∈ l.erase n → x < n := fun x hx => by
      have := h x (List.mem_of_mem_erase hx)
      have : x ≠ n := fun z => by
        rw [z] at hx
        exact (List.Nodup.mem_erase_iff hn).1 hx |>.1 rfl
      omega
    have := ih _ h1 h2
    have l2 : l.length ≤ (l.erase n).length + 1 := by
      rw [List.length_erase]
      split <;> omega
    omega
def fld {β : Type} (f : Nat → β → β) : Nat → Nat → β → β
  | 0, _, b => b
  | r + 1, c, b => fld f r (c + 1) (f c b)
theorem fld_add {β : Type} (f : Nat → β → β) : ∀ r s c b, fld f (r + s) c b = fld f s (c + r) (fld f r c b) := by
  intro r
  induction r with
  | zero => intro s c b; rw [Nat.zero_add]; rfl
  | succ r ih =>
    intro s c b
    rw [show r + 1 + s = r + s + 1 by omega]
    show fld f (r + s) (c + 1) (f c b) = fld f s (c + (r + 1)) (fld f r (c + 1) (f c b))
    rw [ih, show c + 1 + r = c + (r + 1) by omega]
theorem fld_id {β : Type} {f : Nat → β → β} {b : β} : ∀ r c, (∀ x, c ≤ x → x < c + r → f x b = b) → fld f r c b = b := by
  intro r
  induction r with
  | zero => intro c _; rfl
  | succ r ih =>
    intro c h
    show fld f r (c + 1) (f c b) = b
    rw [h c (by omega) (by omega)]
    exact ih (c + 1) (fun x x1 x2 => h x (by omega) (by omega))
theorem fld_congr {β : Type} {f g : Nat → β → β} : ∀ r c b, (∀ x b, c ≤ x → x < c + r → f x b = g x b) → fld f r c b = fld g r c b := by
  intro r
  induction r with
  | zero => intro c b _; rfl
  | succ r ih =>
    intro c b h
    show fld f r (c + 1) (f c b) = fld g r (c + 1) (g c b)
    rw [h c b (by omega) (by omega)]
    exact ih (c + 1) _ (fun x b x1 x2 => h x b (by omega) (by omega))
def usB (P : List (Nat × Nat)) (k : Nat) : Bool := P.any (fun x => decide (x.1 = k))
abbrev Bst : Type := Option (Nat × (Nat → Nat) × (Nat → Nat))
def vL (S : Nat → Int32) (th dk : Nat → Nat) (P : List (Nat × Nat)) (k : Nat) : Nat := (qS S th dk P (3700 + th k)).toNatClampNeg
def vP (S : Nat → Int32) (th dk : Nat → Nat) (P : List (Nat × Nat)) (k : Nat) : Nat := (qS S th dk P (4100 + th k)).toNatClampNeg
/-- whether (a, b) comes ahead of (c, d), load by load -/
def lexR (a b c d : Nat → Nat) : Nat → Nat → Bool
  | 0, _ => false
  | r + 1, k => if a k = c k then (if b k = d k then lexR a b c d r (k + 1) else decide (b k < d k)) else decide (a k < c k)
def cost (S : Nat → Int32) (dl : Nat) (th dk : Nat → Nat) (P : List (Nat × Nat)) : Nat := sumN (lcP S th dk P) dl
def betB (S : Nat → Int32) (n dl : Nat) (th dk : Nat → Nat) (P : List (Nat × Nat)) : Bst → Bool
  | none => true
  | some (c, bl, bp) => if cost S dl th dk P = c then lexR (vL S th dk P) (vP S th dk P) bl bp n 0 else decide (cost S dl th dk P < c)
def wsB (S : Nat → Int32) (L : Int64) (th dk : Nat → Nat) (P : List (Nat × Nat)) : Bool := (fstR (leB (qS S th dk P) L) (S 6503).toNatClampNeg 0).isNone
def jdP (S : Nat → Int32) (L : Int64) (n dl : Nat) (th dk : Nat → Nat) (P : List (Nat × Nat)) (b : Bst) : Bst := if wsB S L th dk P = true then (if betB S n dl th dk P b = true then some (cost S dl th dk P, vL S th dk P, vP S th dk P) else b) else b
def okB (S : Nat → Int32) (n : Nat) (th dk : Nat → Nat) (P : List (Nat × Nat)) (c : Nat) : Bool := decide (c % 6 < n) && (!usB P (c % 6) && !decide (cdA (qS S th dk P) (th (c % 6)) (dk (c / 6)) (enS S (dk (c / 6))) < nI 0))
def exA (S : Nat → Int32) (L : Int64) (n dl : Nat) (th dk : Nat → Nat) : Nat → List (Nat × Nat) → Nat → Bst → Bst
  | 0, P, _, b => jdP S L n dl th dk P b
  | t + 1, P, j, b => fld (fun c b => if okB S n th dk P c = true then exA S L n dl th dk t ((c % 6, c / 6) :: P) (c / 6) b else b) (6 * dl - 6 * j) (6 * j) b
/-- can it still come ahead of (bl, bp)? -/
def lowR (S : Nat → Int32) (th dk : Nat → Nat) (P : List (Nat × Nat)) (j : Nat) (bl bp : Nat → Nat) : Nat → Nat → Bool
  | 0, _ => false
  | r + 1, k => if usB P k = true then (if vL S th dk P k = bl k then (if vP S th dk P k = bp k then lowR S th dk P j bl bp r (k + 1) else decide (vP S th dk P k < bp k)) else decide (vL S th dk P k < bl k)) else decide (dk j ≤ bl k)
def csP (S : Nat → Int32) (th dk : Nat → Nat) (P : List (Nat × Nat)) (j : Nat) : Nat := sumN (lcP S th dk P) j
def prB (S : Nat → Int32) (n : Nat) (th dk : Nat → Nat) (P : List (Nat × Nat)) (j : Nat) : Bst → Prop
  | none => False
  | some (c, bl, bp) => c < csP S th dk P j ∨ (csP S th dk P j = c ∧ lowR S th dk P j bl bp n 0 = false)
section EX
variable {S : Nat → Int32} {L : Int64} {n dl : Nat} {th dk : Nat → Nat} {P : List (Nat × Nat)}
theorem us_iff {k : Nat} : usB P k = true ↔ ∃ x, x ∈ P ∧ x.1 = k := by
  unfold usB
  rw [List.any_eq_true]
  constructor
  · rintro ⟨x, a, b⟩; exact ⟨x, a, of_decide_eq_true b⟩
  · rintro ⟨x, a, b⟩; exact ⟨x, a, decide_eq_true b⟩
theorem us_no {k : Nat} : usB P k = false ↔ ∀ x, x ∈ P → x.1 ≠ k := by
  constructor
  · intro h x hx e
    have := us_iff.2 ⟨x, hx, e⟩
    rw [h] at this
    cases this
  · intro h
    cases e : usB P k with
    | false => rfl
    | true => obtain ⟨x, a, b⟩ := us_iff.1 e; exact absurd b (h x a)
theorem us_cons (c : Nat × Nat) (k : Nat) : usB (c :: P) k = (decide (c.1 = k) || usB P k) := rfl
theorem ok_iff {c : Nat} : okB S n th dk P c = true ↔ c % 6 < n ∧ usB P (c % 6) = false ∧ ¬ cdA (qS S th dk P) (th (c % 6)) (dk (c / 6)) (enS S (dk (c / 6))) < nI 0 := by
  unfold okB
  simp only [Bool.and_eq_true, decide_eq_true_eq, Bool.not_eq_true', decide_eq_false_iff_not]
theorem ok_vd {c j : Nat} (V : Vd S n dl th dk P) (hj : ∀ x, x ∈ P → x.2 ≤ j) (h1 : 6 * j ≤ c) (h2 : c < 6 * dl) (h : okB S n th dk P c = true) : Vd S n dl th dk ((c % 6, c / 6) :: P) := by
  obtain ⟨a1, a2, a3⟩ := ok_iff.1 h
  refine ⟨V, a1, by show c / 6 < dl; omega, fun x hx => ⟨us_no.1 a2 x hx, ?_⟩, a3⟩
  have := hj x hx
  show x.2 ≤ c / 6
  omega
theorem Vd.nd : ∀ {P : List (Nat × Nat)}, Vd S n dl th dk P → (P.map (·.1)).Nodup ∧ ∀ x, x ∈ P.map (·.1) → x < n := by
  intro P
  induction P with
  | nil => intro _; exact ⟨List.nodup_nil, fun x hx => absurd hx (List.not_mem_nil)⟩
  | cons c P ih =>
    intro ⟨v1, v2, v3, v4, v5⟩
    obtain ⟨a, b⟩ := ih v1
    rw [List.map_cons]
    refine ⟨List.nodup_cons.2 ⟨fun h => ?_, a⟩, fun x hx => ?_⟩
    · obtain ⟨y, y1, y2⟩ := List.mem_map.1 h
      exact (v4 y y1).1 y2
    · rcases List.mem_cons.1 hx with e | e
      · rw [e]; exact v2
      · exact b x e
theorem Vd.len (V : Vd S n dl th dk P) : P.length ≤ n := by
  obtain ⟨a, b⟩ := V.nd
  have := nd_n n _ a b
  rw [List.length_map] at this
  exact this
/-- all n driven: each is -/
theorem Vd.all (V : Vd S n dl th dk P) (h : P.length = n) {k : Nat} (hk : k < n) : usB P k = true := by
  cases e : usB P k with
  | true => rfl
  | false =>
    obtain ⟨a, b⟩ := V.nd
    have := nd_n n (k :: P.map (·.1)) (List.nodup_cons.2 ⟨fun h => by
      obtain ⟨y, y1, y2⟩ := List.mem_map.1 h
      exact us_no.1 e y y1 y2, a⟩) (fun x hx => by
      rcases List.mem_cons.1 hx with z | z
      · omega
      · exact b x z)
    rw [List.length_cons, List.length_map] at this
    omega
theorem sg_ne {c : Nat × Nat} {j : Nat} (h : c.2 ≠ j) : sgP (c :: P) j = sgP P j := by
  show (if c.2 = j then _ else _) = _
  rw [if_neg h]
theorem lc_ne {c : Nat × Nat} {j : Nat} (h : c.2 ≠ j) : lcP S th dk (c :: P) j = lcP S th dk P j := by
  unfold lcP conP
  rw [sg_ne h]
theorem sumN_mono (f : Nat → Nat) {a : Nat} : ∀ {b : Nat}, a ≤ b → sumN f a ≤ sumN f b := by
  intro b
  induction b with
  | zero => intro h; have : a = 0 := by omega
            rw [this]; exact Nat.le_refl _
  | succ b ih =>
    intro h
    rcases Nat.eq_or_lt_of_le h with e | e
    · rw [e]; exact Nat.le_refl _
    · have := ih (by omega)
      show sumN f a ≤ sumN f b + f b
      omega
theorem dk_mono (H : PlH S n dl th dk) {j j' : Nat} (h : j ≤ j') (h' : j' < dl) : dk j ≤ dk j' := by
  rcases Nat.eq_or_lt_of_le h with e | e
  · rw [e]; exact Nat.le_refl _
  · exact Nat.le_of_lt (H.dki j j' e h')
theorem v_old (H : PlH S n dl th dk) {c : Nat × Nat} (V : Vd S n dl th dk (c :: P)) {k : Nat} (hk : usB P k = true) : vL S th dk (c :: P) k = vL S th dk P k ∧ vP S th dk (c :: P) k = vP S th dk P k := by
  obtain ⟨v1, v2, v3, v4, v5⟩ := id V
  have K := v1.pk H
  have K' := V.pk H
  obtain ⟨x, x1, rfl⟩ := us_iff.1 hk
  obtain ⟨q1, q2, q, q3⟩ := K.st x x1
  obtain ⟨r1, r2, r, r3⟩ := K'.st x (List.mem_cons_of_mem _ x1)
  have hne : th x.1 ≠ th c.1 := fun z => (v4 x x1).1 (H.inj q1 v2 z)
  have tc := H.t4 v2
  have tx := H.t4 q1
  have d := (H.dk _ v3).1
  have l4 := H.l40 v3
  have hs := cd_rm H K v2 v3 v5
  have sp : spanS (qS S th dk P) (th c.1) = spanS S (th c.1) := K.ag.span tc
  have pl : plS (qS S th dk P) (th c.1) (dk c.2) (enS S (dk c.2)) + spanS S (th c.1) ≤ 40 := by
    unfold plS
    rw [K.way H v3, sp, K.lnE H v3]
    split <;> omega
  have of : ∀ y, 800 ≤ y → y ≠ 3300 + th c.1 → y ≠ 3700 + th c.1 → y ≠ 4100 + th c.1 → qS S th dk (c :: P) y = qS S th dk P y := fun y h1 h2 h3 h4 => putS_off (l := th c.1) (i := dk c.2) (q := plS (qS S th dk P) (th c.1) (dk c.2) (enS S (dk c.2))) h2 h3 h4 (Or.inr (by rw [sp]; omega))
  unfold vL vP
  rw [of _ (by omega) (by omega) (by omega) (by omega), of _ (by omega) (by omega) (by omega) (by omega)]
  exact ⟨rfl, rfl⟩
theorem v_at (H : PlH S n dl th dk) (K : Pk S n dl th dk P) {x : Nat × Nat} (hx : x ∈ P) : vL S th dk P x.1 = dk x.2 ∧ qS S th dk P (3700 + th x.1) = nI (dk x.2) ∧ qS S th dk P (4100 + th x.1) = nI (vP S th dk P x.1) ∧ vP S th dk P x.1 < 40 ∧ StA (qS S th dk P) (th x.1) (dk x.2) (vP S th dk P x.1) := by
  obtain ⟨q1, q2, q, q3⟩ := K.st x hx
  obtain ⟨s1, s2, s3, s4, s5, s6, s7⟩ := id q3
  have l4 := H.l40 q2
  rw [K.lnE H q2] at s6
  have sp := sp_pos (qS S th dk P) (th x.1)
  have e : vP S th dk P x.1 = q := by unfold vP; rw [s3, cl_nI (by omega)]
  refine ⟨by unfold vL; rw [s2, cl_nI (by omega)], s2, by rw [e]; exact s3, by omega, by rw [e]; exact q3⟩
theorem low_mono (H : PlH S n dl th dk) {c : Nat × Nat} {j : Nat} {bl bp : Nat → Nat} (V : Vd S n dl th dk (c :: P)) (hj : j ≤ c.2) : ∀ r k, lowR S th dk (c :: P) c.2 bl bp r k = true → lowR S th dk P j bl bp r k = true := by
  have K' := V.pk H
  intro r
  induction r with
  | zero => intro k h; cases h
  | succ r ih =>
    intro k h
    have dm := dk_mono H hj V.2.2.1
    by_cases u : usB P k = true
    · obtain ⟨e1, e2⟩ := v_old H V u
      have u' : usB (c :: P) k = true := by rw [us_cons, u, Bool.or_true]
      change (if usB (c :: P) k = true then (if vL S th dk (c :: P) k = bl k then (if vP S th dk (c :: P) k = bp k then lowR S th dk (c :: P) c.2 bl bp r (k + 1) else decide (vP S th dk (c :: P) k < bp k)) else decide (vL S th dk (c :: P) k < bl k)) else decide (dk c.2 ≤ bl k)) = true at h
      rw [if_pos u', e1, e2] at h
      show (if usB P k = true then (if vL S th dk P k = bl k then (if vP S th dk P k = bp k then lowR S th dk P j bl bp r (k + 1) else decide (vP S th dk P k < bp k)) else decide (vL S th dk P k < bl k)) else decide (dk j ≤ bl k)) = true
      rw [if_pos u]
      by_cases c1 : vL S th dk P k = bl k
      · rw [if_pos c1] at h ⊢
        by_cases c2 : vP S th dk P k = bp k
        · rw [if_pos c2] at h ⊢
          exact ih _ h
        · rw [if_neg c2] at h ⊢
          exact h
      · rw [if_neg c1] at h ⊢
        exact h
    · show (if usB P k = true then _ else decide (dk j ≤ bl k)) = true
      rw [if_neg u]
      apply decide_eq_true
      change (if usB (c :: P) k = true then (if vL S th dk (c :: P) k = bl k then (if vP S th dk (c :: P) k = bp k then lowR S th dk (c :: P) c.2 bl bp r (k + 1) else decide (vP S th dk (c :: P) k < bp k)) else decide (vL S th dk (c :: P) k < bl k)) else decide (dk c.2 ≤ bl k)) = true at h
      by_cases u' : usB (c :: P) k = true
      · rw [if_pos u'] at h
        have ck : c.1 = k := by
          rw [us_cons] at u'
          have uf : usB P k = false := by revert u; cases usB P k <;> simp
          rw [uf, Bool.or_false] at u'
          exact of_decide_eq_true u'
        have va := (v_at H K' (x := c) List.mem_cons_self).1
        rw [ck] at va
        rw [va] at h
        by_cases c1 : dk c.2 = bl k
        · omega
        · rw [if_neg c1] at h
          have := of_decide_eq_true h
          omega
      · rw [if_neg u'] at h
        have := of_decide_eq_true h
        omega
theorem low_lex {j : Nat} {bl bp : Nat → Nat} : ∀ r k, (∀ x, k ≤ x → x < k + r → usB P x = true) → lowR S th dk P j bl bp r k = lexR (vL S th dk P) (vP S th dk P) bl bp r k := by
  intro r
  induction r with
  | zero => intro k _; rfl
  | succ r ih =>
    intro k h
    show (if usB P k = true then _ else _) = _
    rw [if_pos (h k (by omega) (by omega)), ih (k + 1) (fun x x1 x2 => h x (by omega) (by omega))]
    rfl
/-- what may be left out changes nothing -/
theorem pr_ex (H : PlH S n dl th dk) {b : Bst} : ∀ t {P : List (Nat × Nat)} {j : Nat}, Vd S n dl th dk P → (∀ x, x ∈ P → x.2 ≤ j) → j < dl → P.length + t = n → prB S n th dk P j b → exA S L n dl th dk t P j b = b := by
  intro t
  induction t with
  | zero =>
    intro P j V hj hd hl hp
    show jdP S L n dl th dk P b = b
    unfold jdP
    by_cases w : wsB S L th dk P = true
    · rw [if_pos w]
      rcases b with _ | ⟨c, bl, bp⟩
      · exact hp.elim
      · have mo : csP S th dk P j ≤ cost S dl th dk P := sumN_mono _ (by omega)
        have : betB S n dl th dk P (some (c, bl, bp)) = false := by
          show (if cost S dl th dk P = c then _ else _) = false
          by_cases e : cost S dl th dk P = c
          · rw [if_pos e]
            rcases hp with h | ⟨h1, h2⟩
            · omega
            · rw [low_lex n 0 (fun x _ x2 => V.all hl (by omega))] at h2
              exact h2
          · rw [if_neg e]
            apply decide_eq_false
            rcases hp with h | ⟨h1, h2⟩ <;> omega
        rw [this, if_neg (by decide)]
    · rw [if_neg w]
  | succ t ih =>
    intro P j V hj hd hl hp
    show fld _ _ _ b = b
    refine fld_id _ _ (fun c c1 c2 => ?_)
    by_cases o : okB S n th dk P c = true
    · rw [if_pos o]
      have V' := ok_vd V hj c1 (by omega) o
      refine ih V' (fun x hx => ?_) (by omega) (by rw [List.length_cons]; omega) ?_
      · rcases List.mem_cons.1 hx with e | e
        · rw [e]; exact Nat.le_refl _
        · have := hj x e
          omega
      · rcases b with _ | ⟨c', bl, bp⟩
        · exact hp.elim
        · have e1 : csP S th dk ((c % 6, c / 6) :: P) (c / 6) = csP S th dk P (c / 6) := sumN_congr (fun i hi => lc_ne (by show c / 6 ≠ i; omega))
          have mo : csP S th dk P j ≤ csP S th dk P (c / 6) := sumN_mono _ (by omega)
          show c' < csP S th dk ((c % 6, c / 6) :: P) (c / 6) ∨ (csP S th dk ((c % 6, c / 6) :: P) (c / 6) = c' ∧ lowR S th dk ((c % 6, c / 6) :: P) (c / 6) bl bp n 0 = false)
          rw [e1]
          rcases hp with h | ⟨h1, h2⟩
          · left; omega
          · rcases Nat.lt_or_ge c' (csP S th dk P (c / 6)) with z | z
            · exact Or.inl z
            · right
              refine ⟨by omega, ?_⟩
              cases e : lowR S th dk ((c % 6, c / 6) :: P) (c / 6) bl bp n 0 with
              | false => rfl
              | true =>
                have := low_mono (j := j) H V' (by show j ≤ c / 6; omega) n 0 e
                rw [h2] at this
                cases this
    · rw [if_neg o]
end EX
