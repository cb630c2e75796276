/-! good lists: each once, seen already; what leaving makes of S -/
def Vs (S : Nat → Int32) (i k : Nat) (e : Int32) (l : Nat) : Prop := l < nm S ∧ ∃ j q, StA S l j q ∧ (j < i ∨ (j = i ∧ fdq (ln S i) e q (spanS S l) < k))
def GdL (S : Nat → Int32) (g : Int32) (i k : Nat) (e : Int32) (MV LF : List Nat) : Prop := MV.Nodup ∧ LF.Nodup ∧ (∀ l, l ∈ MV → Vs S i k e l ∧ ¬ S (2100 + l) = g) ∧ (∀ l, l ∈ LF → Vs S i k e l ∧ S (2100 + l) = g)
section GD
variable {S : Nat → Int32} {i k : Nat} {e g : Int32} {MV LF : List Nat}
theorem GdL.nil : GdL S g 0 0 e [] [] := ⟨List.nodup_nil, List.nodup_nil, fun l h => (by cases h), fun l h => (by cases h)⟩
theorem GdL.m (h : GdL S g i k e MV LF) (hN : NmOk S) : MV.length ≤ 400 := nd_le h.1 (fun x hx => by have := (h.2.2.1 x hx).1.1; have := hN.2; omega)
theorem GdL.l (h : GdL S g i k e MV LF) (hN : NmOk S) : LF.length ≤ 400 := nd_le h.2.1 (fun x hx => by have := (h.2.2.2 x hx).1.1; have := hN.2; omega)
theorem Vs.up {l k' : Nat} (h : Vs S i k e l) (hk : k ≤ k') : Vs S i k' e l := by
  obtain ⟨h1, j, q, h2, h3⟩ := h
  exact ⟨h1, j, q, h2, by omega⟩
theorem GdL.lane {e' : Int32} (h : GdL S g i k e MV LF) : GdL S g (i + 1) 0 e' MV LF := by
  have up : ∀ l, Vs S i k e l → Vs S (i + 1) 0 e' l := by
    rintro l ⟨h1, j, q, h2, h3⟩
    exact ⟨h1, j, q, h2, Or.inl (by omega)⟩
  exact ⟨h.1, h.2.1, fun l hl => ⟨up l (h.2.2.1 l hl).1, (h.2.2.1 l hl).2⟩, fun l hl => ⟨up l (h.2.2.2 l hl).1, (h.2.2.2 l hl).2⟩⟩
theorem GdL.start {e' : Int32} (h : GdL S g i 0 e MV LF) : GdL S g i 0 e' MV LF := by
  have up : ∀ l, Vs S i 0 e l → Vs S i 0 e' l := by
    rintro l ⟨h1, j, q, h2, h3⟩
    exact ⟨h1, j, q, h2, Or.inl (by omega)⟩
  exact ⟨h.1, h.2.1, fun l hl => ⟨up l (h.2.2.1 l hl).1, (h.2.2.1 l hl).2⟩, fun l hl => ⟨up l (h.2.2.2 l hl).1, (h.2.2.2 l hl).2⟩⟩
/-- a load that is seen for the first time isn't among them -/
theorem Vs.new (hL : LnOk S) {l q : Nat} (hs : StA S l i q) (hf : fdq (ln S i) e q (spanS S l) = k) (h : Vs S i k e l) : False := by
  obtain ⟨-, j, q', h2, h3⟩ := h
  obtain ⟨e1, e2⟩ := h2.inj hL hs
  subst e1
  subst e2
  omega
theorem nd_app {l : Nat} {A : List Nat} (h : A.Nodup) (hl : l ∉ A) : (A ++ [l]).Nodup := by
  rw [List.nodup_append]
  refine ⟨h, List.nodup_cons.mpr ⟨(by simp), List.nodup_nil⟩, fun a ha b hb => ?_⟩
  rw [List.mem_singleton] at hb
  rw [hb]
  exact fun q => hl (q ▸ ha)
theorem GdL.step (h : GdL S g i k e MV LF) (hN : NmOk S) (hL : LnOk S) (hC : WfC S) (hi : i < 20) (he : okE e) (hk : k < ln S i) :
    GdL S g i (k + 1) e (MV ++ (if nwB S i e k = true ∧ ¬ S (2100 + ldK S i e k) = g then [ldK S i e k] else [])) (LF ++ (if nwB S i e k = true ∧ S (2100 + ldK S i e k) = g then [ldK S i e k] else [])) := by
  obtain ⟨h1, h2, h3, h4⟩ := h
  have u3 : ∀ l, l ∈ MV → Vs S i (k + 1) e l ∧ ¬ S (2100 + l) = g := fun l hl => ⟨(h3 l hl).1.up (by omega), (h3 l hl).2⟩
  have u4 : ∀ l, l ∈ LF → Vs S i (k + 1) e l ∧ S (2100 + l) = g := fun l hl => ⟨(h4 l hl).1.up (by omega), (h4 l hl).2⟩
  by_cases hw : nwB S i e k = true
  · rcases at_k (e := e) hN hL hC hi hk with h | ⟨l, q, a1, a2, a3, a4, a5, a6⟩
    · unfold nwB at hw
      rw [decide_eq_true h] at hw
      cases hw
    · have hf := (nw_iff hN hL hC hi he hk a1 a2 a4 a5 a6).mp hw
      have hv : Vs S i (k + 1) e l := ⟨a1, i, q, a4, Or.inr ⟨rfl, by omega⟩⟩
      rw [a3]
      by_cases hg : S (2100 + l) = g
      · rw [if_neg (fun q => q.2 hg), if_pos ⟨hw, hg⟩, List.append_nil]
        refine ⟨h1, nd_app h2 (fun hm => Vs.new hL a4 hf (h4 l hm).1), u3, fun x hx => ?_⟩
        rw [List.mem_append, List.mem_singleton] at hx
        rcases hx with hx | hx
        · exact u4 x hx
        · rw [hx]; exact ⟨hv, hg⟩
      · rw [if_pos ⟨hw, hg⟩, if_neg (fun q => hg q.2), List.append_nil]
        refine ⟨nd_app h1 (fun hm => Vs.new hL a4 hf (h3 l hm).1), h2, fun x hx => ?_, u4⟩
        rw [List.mem_append, List.mem_singleton] at hx
        rcases hx with hx | hx
        · exact u3 x hx
        · rw [hx]; exact ⟨hv, hg⟩
  · rw [if_neg (fun q => hw q.1), if_neg (fun q => hw q.1), List.append_nil, List.append_nil]
    exact ⟨h1, h2, u3, u4⟩
theorem GdL.run (h : GdL S g i 0 e MV LF) (hN : NmOk S) (hL : LnOk S) (hC : WfC S) (hi : i < 20) (he : okE e) : ∀ k, k ≤ ln S i → GdL S g i k e (MV ++ mvL S i e g k) (LF ++ lvL S i e g k) := by
  intro k
  induction k with
  | zero => intro _; rw [mvL, lvL, List.append_nil, List.append_nil]; exact h
  | succ k ih =>
    intro hk
    have := (ih (by omega)).step hN hL hC hi he (by omega)
    rw [mvL, lvL, ← List.append_assoc, ← List.append_assoc]
    exact this
end GD
/-- S with the loads of a list gone -/
def tkS (S : Nat → Int32) (LF : List Nat) : Nat → Int32 := fun y => if y < 800 then (if ¬ S y < nI 0 ∧ (S y).toNatClampNeg ∈ LF then -1 else S y) else if 3300 ≤ y ∧ y < 3700 then (if y - 3300 ∈ LF then nI 2 else S y) else if 3700 ≤ y ∧ y < 4100 then (if y - 3700 ∈ LF then -1 else S y) else if 4100 ≤ y ∧ y < 4500 then (if y - 4100 ∈ LF then -1 else S y) else S y
section TK
variable {S : Nat → Int32} {LF : List Nat}
theorem tk_nil : tkS S [] = S := by
  funext y
  unfold tkS
  simp only [List.not_mem_nil, and_false, if_false, ite_self]
theorem tk_ag : AgM S (tkS S LF) := fun y h1 h2 => by
  unfold tkS
  rw [if_neg (by omega), if_neg (by omega), if_neg (by omega), if_neg (by omega)]
theorem tk_w {l : Nat} (hl : l < 400) : tkS S LF (3300 + l) = if l ∈ LF then nI 2 else S (3300 + l) := by
  unfold tkS
  rw [if_neg (by omega), if_pos (by omega), show 3300 + l - 3300 = l by omega]
theorem tk_n {l : Nat} (hl : l < 400) : tkS S LF (3700 + l) = if l ∈ LF then -1 else S (3700 + l) := by
  unfold tkS
  rw [if_neg (by omega), if_neg (by omega), if_pos (by omega), show 3700 + l - 3700 = l by omega]
theorem tk_p {l : Nat} (hl : l < 400) : tkS S LF (4100 + l) = if l ∈ LF then -1 else S (4100 + l) := by
  unfold tkS
  rw [if_neg (by omega), if_neg (by omega), if_neg (by omega), if_pos (by omega), show 4100 + l - 4100 = l by omega]
theorem tk_c {y : Nat} (hy : y < 800) : tkS S LF y = if ¬ S y < nI 0 ∧ (S y).toNatClampNeg ∈ LF then -1 else S y := by
  unfold tkS
  rw [if_pos hy]
theorem tk_st (hN : NmOk S) (hL : LnOk S) {l i q : Nat} (hl : l < nm S) (hn : l ∉ LF) (hs : StA S l i q) : StA (tkS S LF) l i q := by
  have n2 := hN.2
  have h4 := hs.2.2.2.1
  have h6 := hs.2.2.2.2.2.1
  have l2 := (hL i h4).2
  refine hs.of tk_ag (by omega) (by rw [tk_w (by omega), if_neg hn]) (by rw [tk_n (by omega), if_neg hn]) (by rw [tk_p (by omega), if_neg hn]) (fun k hk => ?_)
  have e := hs.2.2.2.2.2.2 k hk
  rw [tk_c (by omega), e, cl_nI (by omega), if_neg (fun q => hn q.2)]
theorem tk_W (hN : NmOk S) (hL : LnOk S) (hW : WfW S) : WfW (tkS S LF) := by
  have n2 := hN.2
  intro l hl
  rw [tk_ag.nmE] at hl
  by_cases hm : l ∈ LF
  · left
    refine ⟨Or.inr ?_, ?_, ?_⟩
    · rw [tk_w (by omega), if_pos hm]
    · rw [tk_n (by omega), if_pos hm]
    · rw [tk_p (by omega), if_pos hm]
  · rcases hW l hl with h | ⟨i, q, h⟩
    · left
      exact h.of (by rw [tk_w (by omega), if_neg hm]) (by rw [tk_n (by omega), if_neg hm]) (by rw [tk_p (by omega), if_neg hm])
    · right
      exact ⟨i, q, tk_st hN hL hl hm h⟩
theorem tk_C (hN : NmOk S) (hL : LnOk S) (hC : WfC S) : WfC (tkS S LF) := by
  have n2 := hN.2
  intro i p hi hp
  rw [tk_c (by omega), tk_ag.lenE hi, tk_ag.nmE]
  rcases hC i p hi hp with h | ⟨h, h'⟩ | ⟨l, q, a1, a2, a3, a4, a5⟩
  · left
    rw [h, if_neg (fun q => q.1 u1)]
  · right; left
    rw [h, if_neg (fun q => q.1 u2)]
    exact ⟨rfl, h'⟩
  · rw [a2, cl_nI (by omega)]
    by_cases hm : l ∈ LF
    · left
      rw [if_pos ⟨by rw [lt_nI (by omega) (by omega)]; omega, hm⟩]
    · right; right
      rw [if_neg (fun q => hm q.2)]
      exact ⟨l, q, a1, rfl, tk_st hN hL a1 hm a3, a4, by rw [tk_ag.span (by omega)]; exact a5⟩
theorem tk_app (hN : NmOk S) (hL : LnOk S) (hC : WfC S) {l i q : Nat} (hl : l < nm S) (hn : l ∉ LF) (hs : StA S l i q) : takeS (tkS S LF) l (nI 2) i q = tkS S (LF ++ [l]) := by
  have n2 := hN.2
  have h4 := hs.2.2.2.1
  have h6 := hs.2.2.2.2.2.1
  have l2 := (hL i h4).2
  have sp := tk_ag.span (S := S) (S' := tkS S LF) (l := l) (by omega)
  have ag2 := takeS_ag (S := tkS S LF) (l := l) (i := i) (q := q) (w := nI 2) (by omega) h4 (by rw [sp]; omega)
  have mem : ∀ x, x ∈ LF ++ [l] ↔ x ∈ LF ∨ x = l := fun x => by rw [List.mem_append, List.mem_singleton]
  funext y
  by_cases hy : y < 800
  · rw [tk_c hy]
    by_cases hr : 40 * i + q ≤ y ∧ y < 40 * i + q + spanS S l
    · rw [takeS_in (by omega) (by rw [sp]; exact hr)]
      have e := hs.2.2.2.2.2.2 (y - (40 * i + q)) (by omega)
      rw [show 40 * i + q + (y - (40 * i + q)) = y by omega] at e
      rw [e, cl_nI (by omega), if_pos ⟨by rw [lt_nI (by omega) (by omega)]; omega, (mem l).mpr (Or.inr rfl)⟩]
    · rw [takeS_off (by omega) (by omega) (by omega) (by rw [sp]; omega), tk_c hy]
      have hiff : (¬ S y < nI 0 ∧ (S y).toNatClampNeg ∈ LF) ↔ (¬ S y < nI 0 ∧ (S y).toNatClampNeg ∈ LF ++ [l]) := by
        constructor
        · rintro ⟨a, b⟩; exact ⟨a, (mem _).mpr (Or.inl b)⟩
        · rintro ⟨a, b⟩
          refine ⟨a, ?_⟩
          rcases (mem _).mp b with b | b
          · exact b
          · exfalso
            obtain ⟨j, p, hj, hp, hjp⟩ : ∃ j p, j < 20 ∧ p < 40 ∧ y = 40 * j + p := ⟨y / 40, y % 40, by omega, by omega, by omega⟩
            subst hjp
            rcases hC j p hj hp with h | ⟨h, -⟩ | ⟨l', q', a1, a2, a3, a4, a5⟩
            · rw [h] at a; exact a u1
            · rw [h] at a; exact a u2
            · rw [a2, cl_nI (by omega)] at b
              subst b
              obtain ⟨e1, e2⟩ := a3.inj hL hs
              omega
      by_cases hc : ¬ S y < nI 0 ∧ (S y).toNatClampNeg ∈ LF
      · rw [if_pos hc, if_pos (hiff.mp hc)]
      · rw [if_neg hc, if_neg (fun z => hc (hiff.mpr z))]
  · by_cases ho : y < 3300 ∨ 4500 ≤ y
    · rw [ag2 y (by omega) ho, tk_ag y (by omega) ho, tk_ag y (by omega) ho]
    · -- a load's where, lane, place
      by_cases h1 : y < 3700
      · obtain ⟨x, rfl⟩ : ∃ x, y = 3300 + x := ⟨y - 3300, by omega⟩
        by_cases hx : x = l
        · subst hx
          rw [takeS_1 (by omega), tk_w (by omega), if_pos ((mem x).mpr (Or.inr rfl))]
        · rw [takeS_off (by omega) (by omega) (by omega) (by rw [sp]; omega), tk_w (by omega), tk_w (by omega)]
          by_cases hm : x ∈ LF
          · rw [if_pos hm, if_pos ((mem x).mpr (Or.inl hm))]
          · rw [if_neg hm, if_neg (fun z => by rcases (mem x).mp z with z | z; exact hm z; exact hx z)]
      · by_cases h2 : y < 4100
        · obtain ⟨x, rfl⟩ : ∃ x, y = 3700 + x := ⟨y - 3700, by omega⟩
          by_cases hx : x = l
          · subst hx
            rw [takeS_2 (by omega), tk_n (by omega), if_pos ((mem x).mpr (Or.inr rfl))]
          · rw [takeS_off (by omega) (by omega) (by omega) (by rw [sp]; omega), tk_n (by omega), tk_n (by omega)]
            by_cases hm : x ∈ LF
            · rw [if_pos hm, if_pos ((mem x).mpr (Or.inl hm))]
            · rw [if_neg hm, if_neg (fun z => by rcases (mem x).mp z with z | z; exact hm z; exact hx z)]
        · obtain ⟨x, rfl⟩ : ∃ x, y = 4100 + x := ⟨y - 4100, by omega⟩
          by_cases hx : x = l
          · subst hx
            rw [takeS_3, tk_p (by omega), if_pos ((mem x).mpr (Or.inr rfl))]
          · rw [takeS_off (by omega) (by omega) (by omega) (by rw [sp]; omega), tk_p (by omega), tk_p (by omega)]
            by_cases hm : x ∈ LF
            · rw [if_pos hm, if_pos ((mem x).mpr (Or.inl hm))]
            · rw [if_neg hm, if_neg (fun z => by rcases (mem x).mp z with z | z; exact hm z; exact hx z)]
end TK
theorem take_rw {S : Nat → Int32} {MV LF : List Nat} {l i q : Nat} {w : Int32} (hm : MV.length ≤ 400) (hf : LF.length ≤ 400) (hl : l < 400) (hi : i < 20) (hq : q + spanS S l ≤ 40) : takeS (rwS S MV LF) l w i q = rwS (takeS S l w i q) MV LF := by
  have sp := (rw_agl (S := S) hm hf).sp (l := l) hl
  funext y
  by_cases hy : y < 4500
  · rw [rw_off (by omega) (by omega) (by omega) hm hf]
    simp only [takeS, up1_at, fillS, sp]
    rw [rw_off (by omega) (by omega) (by omega) hm hf]
  · rw [takeS_off (by omega) (by omega) (by omega) (by rw [sp]; omega)]
    unfold rwS
    rw [takeS_off (S := S) (by omega) (by omega) (by omega) (by omega)]
theorem rw_nil (S : Nat → Int32) : rwS S [] [] = up1 (up1 S 6505 (nI 0)) 6506 (nI 0) := by
  funext y
  unfold rwS
  rw [if_neg (by simp only [List.length_nil]; omega), if_neg (by simp only [List.length_nil]; omega), up1_at, up1_at]
  by_cases h5 : y = 6505
  · rw [if_pos h5, if_neg (by omega), if_pos h5]; rfl
  · rw [if_neg h5]
    by_cases h6 : y = 6506
    · rw [if_pos h6, if_pos h6]; rfl
    · rw [if_neg h6, if_neg h6, if_neg h5]
