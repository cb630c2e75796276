/-! THE PLANNER, 1: the loads driven one behind another -/
def enS (S : Nat → Int32) (i : Nat) : Int32 := if opS S i (nI 0) = true then nI 0 else nI 1
def PlH (S : Nat → Int32) (n dl : Nat) (th dk : Nat → Nat) : Prop := (Wf S) ∧ (¬ S 6501 = nI 1) ∧ (1 ≤ n) ∧ (n ≤ 6) ∧ (1 ≤ dl) ∧ (dl ≤ 3) ∧ (∀ k, k < n → th k < nm S ∧ S (3300 + th k) = nI 0) ∧ (∀ k k', k < k' → k' < n → th k < th k') ∧ (∀ l, l < nm S → S (3300 + l) = nI 0 → ∃ k, k < n ∧ l = th k) ∧ (∀ j, j < dl → dk j < 20 ∧ S (800 + dk j) = nI 1) ∧ (∀ j j', j < j' → j' < dl → dk j < dk j') ∧ (∀ i, i < 20 → S (800 + i) = nI 1 → ∃ j, j < dl ∧ i = dk j) ∧ (∀ y, y < 800 → S y = -1) ∧ (∀ l, l < nm S → ¬ S (3300 + l) = nI 1) ∧ (∀ k, k < n → ∃ p, p < (S 6503).toNatClampNeg ∧ S (2100 + th k) = nI p)
theorem PlH.wf {S : Nat → Int32} {n dl : Nat} {th dk : Nat → Nat} (h : PlH S n dl th dk) : Wf S := h.1
theorem PlH.sea {S : Nat → Int32} {n dl : Nat} {th dk : Nat → Nat} (h : PlH S n dl th dk) : ¬ S 6501 = nI 1 := h.2.1
theorem PlH.n1 {S : Nat → Int32} {n dl : Nat} {th dk : Nat → Nat} (h : PlH S n dl th dk) : 1 ≤ n := h.2.2.1
theorem PlH.n6 {S : Nat → Int32} {n dl : Nat} {th dk : Nat → Nat} (h : PlH S n dl th dk) : n ≤ 6 := h.2.2.2.1
theorem PlH.d1 {S : Nat → Int32} {n dl : Nat} {th dk : Nat → Nat} (h : PlH S n dl th dk) : 1 ≤ dl := h.2.2.2.2.1
theorem PlH.d3 {S : Nat → Int32} {n dl : Nat} {th dk : Nat → Nat} (h : PlH S n dl th dk) : dl ≤ 3 := h.2.2.2.2.2.1
theorem PlH.th {S : Nat → Int32} {n dl : Nat} {th dk : Nat → Nat} (h : PlH S n dl th dk) : ∀ k, k < n → th k < nm S ∧ S (3300 + th k) = nI 0 := h.2.2.2.2.2.2.1
theorem PlH.thi {S : Nat → Int32} {n dl : Nat} {th dk : Nat → Nat} (h : PlH S n dl th dk) : ∀ k k', k < k' → k' < n → th k < th k' := h.2.2.2.2.2.2.2.1
theorem PlH.thc {S : Nat → Int32} {n dl : Nat} {th dk : Nat → Nat} (h : PlH S n dl th dk) : ∀ l, l < nm S → S (3300 + l) = nI 0 → ∃ k, k < n ∧ l = th k := h.2.2.2.2.2.2.2.2.1
theorem PlH.dk {S : Nat → Int32} {n dl : Nat} {th dk : Nat → Nat} (h : PlH S n dl th dk) : ∀ j, j < dl → dk j < 20 ∧ S (800 + dk j) = nI 1 := h.2.2.2.2.2.2.2.2.2.1
theorem PlH.dki {S : Nat → Int32} {n dl : Nat} {th dk : Nat → Nat} (h : PlH S n dl th dk) : ∀ j j', j < j' → j' < dl → dk j < dk j' := h.2.2.2.2.2.2.2.2.2.2.1
theorem PlH.dkc {S : Nat → Int32} {n dl : Nat} {th dk : Nat → Nat} (h : PlH S n dl th dk) : ∀ i, i < 20 → S (800 + i) = nI 1 → ∃ j, j < dl ∧ i = dk j := h.2.2.2.2.2.2.2.2.2.2.2.1
theorem PlH.em {S : Nat → Int32} {n dl : Nat} {th dk : Nat → Nat} (h : PlH S n dl th dk) : ∀ y, y < 800 → S y = -1 := h.2.2.2.2.2.2.2.2.2.2.2.2.1
theorem PlH.ab {S : Nat → Int32} {n dl : Nat} {th dk : Nat → Nat} (h : PlH S n dl th dk) : ∀ l, l < nm S → ¬ S (3300 + l) = nI 1 := h.2.2.2.2.2.2.2.2.2.2.2.2.2.1
theorem PlH.po {S : Nat → Int32} {n dl : Nat} {th dk : Nat → Nat} (h : PlH S n dl th dk) : ∀ k, k < n → ∃ p, p < (S 6503).toNatClampNeg ∧ S (2100 + th k) = nI p := h.2.2.2.2.2.2.2.2.2.2.2.2.2.2
def qS (S : Nat → Int32) (th dk : Nat → Nat) : List (Nat × Nat) → Nat → Int32
  | [] => S
  | c :: P => putS (qS S th dk P) (th c.1) (dk c.2) (plS (qS S th dk P) (th c.1) (dk c.2) (enS S (dk c.2)))
/-- how much of lane j is taken -/
def smP (S : Nat → Int32) (th : Nat → Nat) : List (Nat × Nat) → Nat → Nat
  | [], _ => 0
  | c :: P, j => smP S th P j + if c.2 = j then spanS S (th c.1) else 0
/-- the latest of lane j -/
def lastK : List (Nat × Nat) → Nat → Option Nat
  | [], _ => none
  | c :: P, j => if c.2 = j then some c.1 else lastK P j
def Vd (S : Nat → Int32) (n dl : Nat) (th dk : Nat → Nat) : List (Nat × Nat) → Prop
  | [] => True
  | c :: P => Vd S n dl th dk P ∧ c.1 < n ∧ c.2 < dl ∧ (∀ x, x ∈ P → x.1 ≠ c.1 ∧ x.2 ≤ c.2) ∧ ¬ cdA (qS S th dk P) (th c.1) (dk c.2) (enS S (dk c.2)) < nI 0
def Pk (S : Nat → Int32) (n dl : Nat) (th dk : Nat → Nat) (P : List (Nat × Nat)) : Prop := (AgM S (qS S th dk P)) ∧ (WfW (qS S th dk P)) ∧ (WfC (qS S th dk P)) ∧ (∀ l, l < nm S → (∀ x, x ∈ P → l ≠ th x.1) → qS S th dk P (3300 + l) = S (3300 + l) ∧ qS S th dk P (3700 + l) = S (3700 + l) ∧ qS S th dk P (4100 + l) = S (4100 + l)) ∧ (∀ x, x ∈ P → x.1 < n ∧ x.2 < dl ∧ ∃ q, StA (qS S th dk P) (th x.1) (dk x.2) q) ∧ (∀ j, j < dl → smP S th P j ≤ ln S (dk j)) ∧ (∀ j q, j < dl → q < ln S (dk j) - smP S th P j → dpS (qS S th dk P) (dk j) (ln S (dk j)) (enS S (dk j)) q = -1) ∧ (∀ j q, j < dl → ln S (dk j) - smP S th P j ≤ q → q < ln S (dk j) → ∃ k, (k, j) ∈ P ∧ dpS (qS S th dk P) (dk j) (ln S (dk j)) (enS S (dk j)) q = nI (th k)) ∧ (∀ j k, j < dl → lastK P j = some k → smP S th P j ≠ 0 ∧ dpS (qS S th dk P) (dk j) (ln S (dk j)) (enS S (dk j)) (ln S (dk j) - smP S th P j) = nI (th k)) ∧ (∀ i p, i < 20 → p < 40 → (∀ j, j < dl → i ≠ dk j) → qS S th dk P (40 * i + p) = -1)
theorem Pk.ag {S : Nat → Int32} {n dl : Nat} {th dk : Nat → Nat} {P : List (Nat × Nat)} (h : Pk S n dl th dk P) : AgM S (qS S th dk P) := h.1
theorem Pk.w {S : Nat → Int32} {n dl : Nat} {th dk : Nat → Nat} {P : List (Nat × Nat)} (h : Pk S n dl th dk P) : WfW (qS S th dk P) := h.2.1
theorem Pk.c {S : Nat → Int32} {n dl : Nat} {th dk : Nat → Nat} {P : List (Nat × Nat)} (h : Pk S n dl th dk P) : WfC (qS S th dk P) := h.2.2.1
theorem Pk.off {S : Nat → Int32} {n dl : Nat} {th dk : Nat → Nat} {P : List (Nat × Nat)} (h : Pk S n dl th dk P) : ∀ l, l < nm S → (∀ x, x ∈ P → l ≠ th x.1) → qS S th dk P (3300 + l) = S (3300 + l) ∧ qS S th dk P (3700 + l) = S (3700 + l) ∧ qS S th dk P (4100 + l) = S (4100 + l) := h.2.2.2.1
theorem Pk.st {S : Nat → Int32} {n dl : Nat} {th dk : Nat → Nat} {P : List (Nat × Nat)} (h : Pk S n dl th dk P) : ∀ x, x ∈ P → x.1 < n ∧ x.2 < dl ∧ ∃ q, StA (qS S th dk P) (th x.1) (dk x.2) q := h.2.2.2.2.1
theorem Pk.sm {S : Nat → Int32} {n dl : Nat} {th dk : Nat → Nat} {P : List (Nat × Nat)} (h : Pk S n dl th dk P) : ∀ j, j < dl → smP S th P j ≤ ln S (dk j) := h.2.2.2.2.2.1
theorem Pk.fr {S : Nat → Int32} {n dl : Nat} {th dk : Nat → Nat} {P : List (Nat × Nat)} (h : Pk S n dl th dk P) : ∀ j q, j < dl → q < ln S (dk j) - smP S th P j → dpS (qS S th dk P) (dk j) (ln S (dk j)) (enS S (dk j)) q = -1 := h.2.2.2.2.2.2.1
theorem Pk.oc {S : Nat → Int32} {n dl : Nat} {th dk : Nat → Nat} {P : List (Nat × Nat)} (h : Pk S n dl th dk P) : ∀ j q, j < dl → ln S (dk j) - smP S th P j ≤ q → q < ln S (dk j) → ∃ k, (k, j) ∈ P ∧ dpS (qS S th dk P) (dk j) (ln S (dk j)) (enS S (dk j)) q = nI (th k) := h.2.2.2.2.2.2.2.1
theorem Pk.la {S : Nat → Int32} {n dl : Nat} {th dk : Nat → Nat} {P : List (Nat × Nat)} (h : Pk S n dl th dk P) : ∀ j k, j < dl → lastK P j = some k → smP S th P j ≠ 0 ∧ dpS (qS S th dk P) (dk j) (ln S (dk j)) (enS S (dk j)) (ln S (dk j) - smP S th P j) = nI (th k) := h.2.2.2.2.2.2.2.2.1
theorem Pk.no {S : Nat → Int32} {n dl : Nat} {th dk : Nat → Nat} {P : List (Nat × Nat)} (h : Pk S n dl th dk P) : ∀ i p, i < 20 → p < 40 → (∀ j, j < dl → i ≠ dk j) → qS S th dk P (40 * i + p) = -1 := h.2.2.2.2.2.2.2.2.2
theorem en_ok (S : Nat → Int32) (i : Nat) : okE (enS S i) := by
  unfold enS okE
  split
  · exact Or.inl rfl
  · exact Or.inr rfl
theorem way_rm {S : Nat → Int32} {i r : Nat} {e : Int32} (h1 : ∀ q, q < r → dpS S i (ln S i) e q = -1) (h2 : r ≤ ln S i) (h3 : r < ln S i → ¬ dpS S i (ln S i) e r = -1) : wayS S i e = r := by
  have a := wayS_le S i e
  by_cases c1 : wayS S i e < r
  · have := wayN_end (f := fun q => decide (dpS S i (ln S i) e q = -1)) (ln S i) 0 (by change wayS S i e < 0 + ln S i; omega)
    change decide (dpS S i (ln S i) e (wayS S i e) = -1) = false at this
    rw [h1 _ c1] at this
    simp at this
  · by_cases c2 : r < wayS S i e
    · have := wayN_true (f := fun q => decide (dpS S i (ln S i) e q = -1)) (ln S i) 0 r (by omega) c2
      exact absurd (of_decide_eq_true this) (h3 (by omega))
    · omega
section PK
variable {S : Nat → Int32} {n dl : Nat} {th dk : Nat → Nat} {P : List (Nat × Nat)}
theorem PlH.l40 (H : PlH S n dl th dk) {j : Nat} (hj : j < dl) : ln S (dk j) ≤ 40 := (H.wf.ln _ (H.dk j hj).1).2
theorem PlH.t4 (H : PlH S n dl th dk) {k : Nat} (hk : k < n) : th k < 400 := by
  have := (H.th k hk).1
  have := H.wf.nm.2
  omega
theorem Pk.nmE (K : Pk S n dl th dk P) : nm (qS S th dk P) = nm S := K.ag.nmE
theorem Pk.lnE (H : PlH S n dl th dk) (K : Pk S n dl th dk P) {j : Nat} (hj : j < dl) : ln (qS S th dk P) (dk j) = ln S (dk j) := K.ag.lnE (H.dk j hj).1
theorem Pk.wb (H : PlH S n dl th dk) (K : Pk S n dl th dk P) : Wb (qS S th dk P) := ⟨K.ag.lnok H.wf.ln, K.ag.nmok H.wf.nm, K.ag.t H.wf.t, K.w, K.c⟩
theorem Pk.way (H : PlH S n dl th dk) (K : Pk S n dl th dk P) {j : Nat} (hj : j < dl) : wayS (qS S th dk P) (dk j) (enS S (dk j)) = ln S (dk j) - smP S th P j := by
  have e := K.lnE H hj
  refine way_rm (fun q hq => by rw [e]; exact K.fr j q hj hq) (by rw [e]; omega) (fun hq => ?_)
  rw [e] at hq ⊢
  obtain ⟨k, hk, hc⟩ := K.oc j _ hj (Nat.le_refl _) hq
  rw [hc]
  exact ne_m1 (by have := H.t4 (K.st _ hk).1; simp only at this; omega)
theorem PlH.inj (H : PlH S n dl th dk) {k k' : Nat} (hk : k < n) (hk' : k' < n) (e : th k = th k') : k = k' := by
  rcases Nat.lt_trichotomy k k' with q | q | q
  · have := H.thi k k' q hk'; omega
  · exact q
  · have := H.thi k' k q hk; omega
theorem PlH.inj' (H : PlH S n dl th dk) {k k' : Nat} (hk : k < dl) (hk' : k' < dl) (e : dk k = dk k') : k = k' := by
  rcases Nat.lt_trichotomy k k' with q | q | q
  · have := H.dki k k' q hk'; omega
  · exact q
  · have := H.dki k' k q hk; omega
/-- one more: the cells by depth from the entry -/
theorem dp_put (H : PlH S n dl th dk) (K : Pk S n dl th dk P) {k j q : Nat} (hk : k < n) (hj : j < dl) (hs : spanS S (th k) ≤ ln S (dk j) - smP S th P j) (hq : q < ln S (dk j)) : dpS (qS S th dk ((k, j) :: P)) (dk j) (ln S (dk j)) (enS S (dk j)) q = if ln S (dk j) - smP S th P j - spanS S (th k) ≤ q ∧ q < ln S (dk j) - smP S th P j then nI (th k) else dpS (qS S th dk P) (dk j) (ln S (dk j)) (enS S (dk j)) q := by
  have l1 := H.l40 hj
  have d1 := (H.dk j hj).1
  have t4 := H.t4 hk
  have sp : spanS (qS S th dk P) (th k) = spanS S (th k) := K.ag.span t4
  have w := K.way H hj
  have sm := K.sm j hj
  have s0 : 1 ≤ spanS S (th k) := by unfold spanS; split <;> omega
  show dpS (putS (qS S th dk P) (th k) (dk j) (plS (qS S th dk P) (th k) (dk j) (enS S (dk j)))) (dk j) (ln S (dk j)) (enS S (dk j)) q = _
  have pl : plS (qS S th dk P) (th k) (dk j) (enS S (dk j)) = if enS S (dk j) = nI 0 then ln S (dk j) - smP S th P j - spanS S (th k) else ln S (dk j) - (ln S (dk j) - smP S th P j) := by
    unfold plS
    rw [w, sp, K.lnE H hj]
  rw [pl]
  unfold dpS
  by_cases e : enS S (dk j) = nI 0
  · rw [if_pos e, if_pos e]
    by_cases c : ln S (dk j) - smP S th P j - spanS S (th k) ≤ q ∧ q < ln S (dk j) - smP S th P j
    · rw [if_pos c]
      exact putS_in (by omega) (by rw [sp]; omega)
    · rw [if_neg c]
      exact putS_off (by omega) (by omega) (by omega) (by rw [sp]; omega)
  · rw [if_neg e, if_neg e]
    by_cases c : ln S (dk j) - smP S th P j - spanS S (th k) ≤ q ∧ q < ln S (dk j) - smP S th P j
    · rw [if_pos c]
      exact putS_in (by omega) (by rw [sp]; omega)
    · rw [if_neg c]
      exact putS_off (by omega) (by omega) (by omega) (by rw [sp]; omega)
/-- cells of other lanes -/
theorem put_ot (H : PlH S n dl th dk) (K : Pk S n dl th dk P) {k j i p : Nat} (hk : k < n) (hj : j < dl) (hs : spanS S (th k) ≤ ln S (dk j) - smP S th P j) (hi : i < 20) (hp : p < 40) (hne : i ≠ dk j) : qS S th dk ((k, j) :: P) (40 * i + p) = qS S th dk P (40 * i + p) := by
  have l1 := H.l40 hj
  have d1 := (H.dk j hj).1
  have t4 := H.t4 hk
  have sp : spanS (qS S th dk P) (th k) = spanS S (th k) := K.ag.span t4
  have w := K.way H hj
  have sm := K.sm j hj
  show putS (qS S th dk P) (th k) (dk j) (plS (qS S th dk P) (th k) (dk j) (enS S (dk j))) (40 * i + p) = _
  have pl : plS (qS S th dk P) (th k) (dk j) (enS S (dk j)) + spanS S (th k) ≤ 40 := by
    unfold plS
    rw [w, sp, K.lnE H hj]
    split <;> omega
  refine putS_off (by omega) (by omega) (by omega) ?_
  rw [sp]
  omega
theorem lastK_mem : ∀ {P : List (Nat × Nat)} {j k : Nat}, lastK P j = some k → (k, j) ∈ P := by
  intro P
  induction P with
  | nil => intro j k h; cases h
  | cons c P ih =>
    intro j k h
    unfold lastK at h
    by_cases e : c.2 = j
    · rw [if_pos e] at h
      have := Option.some.inj h
      obtain ⟨c1, c2⟩ := c
      simp only at e this
      subst e this
      exact List.mem_cons_self
    · rw [if_neg e] at h
      exact List.mem_cons_of_mem _ (ih h)
theorem pk_nil (H : PlH S n dl th dk) : Pk S n dl th dk [] := by
  refine ⟨AgM.refl, H.wf.w, H.wf.c, fun l _ _ => ⟨rfl, rfl, rfl⟩, fun x hx => absurd hx (List.not_mem_nil), fun j _ => Nat.zero_le _, fun j q hj hq => ?_, fun j q hj h1 h2 => ?_, fun j k hj h => (by cases h), fun i p hi hp _ => H.em _ (by omega)⟩
  · have := H.l40 hj
    have := (H.dk j hj).1
    unfold dpS
    apply H.em
    split <;> omega
  · exfalso
    simp only [smP] at h1
    omega
theorem pk_cons (H : PlH S n dl th dk) (K : Pk S n dl th dk P) {k j : Nat} (hk : k < n) (hj : j < dl) (hf : ∀ x, x ∈ P → x.1 ≠ k) (hs : spanS S (th k) ≤ ln S (dk j) - smP S th P j) : Pk S n dl th dk ((k, j) :: P) := by
  have l1 := H.l40 hj
  have d1 := (H.dk j hj).1
  have d2 := (H.dk j hj).2
  have t4 := H.t4 hk
  have tn := (H.th k hk).1
  have sp : spanS (qS S th dk P) (th k) = spanS S (th k) := K.ag.span t4
  have w := K.way H hj
  have sm := K.sm j hj
  have b := K.wb H
  have s0 : 1 ≤ spanS S (th k) := by unfold spanS; split <;> omega
  have pe : EmR (qS S th dk P) (th k) (dk j) (plS (qS S th dk P) (th k) (dk j) (enS S (dk j))) := pl_em (en_ok _ _) (by rw [sp, w]; exact hs)
  have pl : plS (qS S th dk P) (th k) (dk j) (enS S (dk j)) + spanS (qS S th dk P) (th k) ≤ ln (qS S th dk P) (dk j) := by
    unfold plS
    rw [w, sp, K.lnE H hj]
    split <;> omega
  have pl40 : plS (qS S th dk P) (th k) (dk j) (enS S (dk j)) + spanS (qS S th dk P) (th k) ≤ 40 := by rw [K.lnE H hj] at pl; omega
  have ht : qS S th dk P (800 + dk j) = nI 1 := by rw [K.ag.th d1]; exact d2
  have hn : th k < nm (qS S th dk P) := by rw [K.nmE]; exact tn
  have h0 : qS S th dk P (3300 + th k) = nI 0 := by
    rw [(K.off _ tn (fun x hx e => hf x hx (H.inj (K.st x hx).1 hk e.symm))).1]
    exact (H.th k hk).2
  have lst : ∀ j', smP S th ((k, j) :: P) j' = smP S th P j' + if j = j' then spanS S (th k) else 0 := fun _ => rfl
  refine ⟨K.ag.trans (putS_ag t4 d1 pl40), put_W b.nm b.ln b.w hn d1 ht pl pe, put_C b.nm b.ln b.c hn (by rw [h0]; decide) d1 ht pl pe, fun l hl hx => ?_, fun x hx => ?_, fun j' hj' => ?_, fun j' q hj' hq => ?_, fun j' q hj' h1 h2 => ?_, fun j' k' hj' hl => ?_, fun i p hi hp hd => ?_⟩
  · have n2 := H.wf.nm.2
    have hne : l ≠ th k := hx (k, j) (List.mem_cons_self)
    obtain ⟨o1, o2, o3⟩ := K.off l hl (fun x hx' => hx x (List.mem_cons_of_mem _ hx'))
    have of : ∀ y, 800 ≤ y → y ≠ 3300 + th k → y ≠ 3700 + th k → y ≠ 4100 + th k → qS S th dk ((k, j) :: P) y = qS S th dk P y := fun y h1 h2 h3 h4 => putS_off (l := th k) (i := dk j) (q := plS (qS S th dk P) (th k) (dk j) (enS S (dk j))) h2 h3 h4 (Or.inr (by omega))
    exact ⟨by rw [← o1]; exact of _ (by omega) (by omega) (by omega) (by omega), by rw [← o2]; exact of _ (by omega) (by omega) (by omega) (by omega), by rw [← o3]; exact of _ (by omega) (by omega) (by omega) (by omega)⟩
  · rcases List.mem_cons.1 hx with e | e
    · rw [e]
      exact ⟨hk, hj, _, put_st t4 d1 ht b.ln pl⟩
    · obtain ⟨q1, q2, q, q3⟩ := K.st x e
      refine ⟨q1, q2, q, put_so b.nm b.ln hn (by rw [K.nmE]; exact (H.th _ q1).1) (fun z => hf x e (H.inj q1 hk z)) d1 pl40 pe q3⟩
  · rw [lst]
    have := K.sm j' hj'
    by_cases e : j = j'
    · rw [if_pos e]; subst e; omega
    · rw [if_neg e]; omega
  · rw [lst] at hq
    by_cases e : j = j'
    · rw [if_pos e] at hq
      subst e
      rw [dp_put H K hk hj hs (by omega), if_neg (by omega)]
      exact K.fr _ q hj (by omega)
    · rw [if_neg e] at hq
      rw [← K.fr j' q hj' (by omega)]
      have l1' := H.l40 hj'
      unfold dpS
      refine put_ot H K hk hj hs (H.dk j' hj').1 ?_ (fun z => e (H.inj' hj hj' z.symm))
      split <;> omega
  · rw [lst] at h1
    by_cases e : j = j'
    · rw [if_pos e] at h1
      subst e
      rw [dp_put H K hk hj hs (by omega)]
      by_cases c : ln S (dk j) - smP S th P j - spanS S (th k) ≤ q ∧ q < ln S (dk j) - smP S th P j
      · rw [if_pos c]
        exact ⟨k, List.mem_cons_self, rfl⟩
      · rw [if_neg c]
        obtain ⟨k', a1, a2⟩ := K.oc j q hj (by omega) h2
        exact ⟨k', List.mem_cons_of_mem _ a1, a2⟩
    · rw [if_neg e] at h1
      obtain ⟨k', a1, a2⟩ := K.oc j' q hj' (by omega) h2
      refine ⟨k', List.mem_cons_of_mem _ a1, ?_⟩
      rw [← a2]
      have l1' := H.l40 hj'
      unfold dpS
      refine put_ot H K hk hj hs (H.dk j' hj').1 ?_ (fun z => e (H.inj' hj hj' z.symm))
      split <;> omega
  · rw [lst]
    unfold lastK at hl
    by_cases e : j = j'
    · rw [if_pos e] at hl ⊢
      subst e
      have := Option.some.inj hl
      subst this
      refine ⟨by omega, ?_⟩
      rw [dp_put H K hk hj hs (by omega), if_pos (by omega)]
    · rw [if_neg e] at hl ⊢
      obtain ⟨a1, a2⟩ := K.la j' k' hj' hl
      refine ⟨by omega, ?_⟩
      rw [Nat.add_zero, ← a2]
      have l1' := H.l40 hj'
      have := K.sm j' hj'
      unfold dpS
      refine put_ot H K hk hj hs (H.dk j' hj').1 ?_ (fun z => e (H.inj' hj hj' z.symm))
      split <;> omega
  · rw [put_ot H K hk hj hs hi hp (hd j hj)]
    exact K.no i p hi hp hd
/-- what could be driven has room -/
theorem cd_rm (H : PlH S n dl th dk) (K : Pk S n dl th dk P) {k j : Nat} (hk : k < n) (hj : j < dl) (h : ¬ cdA (qS S th dk P) (th k) (dk j) (enS S (dk j)) < nI 0) : spanS S (th k) ≤ ln S (dk j) - smP S th P j := by
  obtain ⟨-, -, -, -, -, -, -, p8, -⟩ := cd_in (K.wb H).ln (H.dk j hj).1 h
  rw [K.way H hj, K.ag.span (H.t4 hk)] at p8
  exact p8
theorem Vd.pk (H : PlH S n dl th dk) : ∀ {P : List (Nat × Nat)}, Vd S n dl th dk P → Pk S n dl th dk P := by
  intro P
  induction P with
  | nil => intro _; exact pk_nil H
  | cons c P ih =>
    intro ⟨v1, v2, v3, v4, v5⟩
    obtain ⟨k, j⟩ := c
    have K := ih v1
    exact pk_cons H K v2 v3 (fun x hx => (v4 x hx).1) (cd_rm H K v2 v3 v5)
end PK
