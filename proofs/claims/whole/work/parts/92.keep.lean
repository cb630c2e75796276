/-! THE CALLS: keep, back -/
def Ag8 (S S' : Nat → Int32) : Prop := ∀ y, y < 6508 → S' y = S y
theorem Ag8.l {S S' : Nat → Int32} (h : Ag8 S S') : AgL S S' := ⟨fun y hy => h y (by omega), h _ (by omega)⟩
theorem wf_ag8 {S S' : Nat → Int32} (h : Ag8 S S') (W : Wf S) : Wf S' := by
  have l := h.l
  have n2 := W.nm.2
  have k2 := W.a.2
  have e0 : ak S' = ak S := by unfold ak; rw [h _ (by omega)]
  have hL := l.lnok W.ln
  have hN := l.nmok W.nm
  have eq : EqU S S' := by
    refine ⟨by rw [l.nmE]; omega, fun y hy => h y ?_⟩
    rcases hy with q | ⟨x, hx, q⟩ <;> omega
  refine ⟨hL, hN, l.t W.t, l.d W.nm W.d, l.w W.nm W.ln W.w, l.c W.nm W.ln W.c, W.y.of (h _ (by omega)) (h _ (by omega)) (h _ (by omega)), ?_, ?_, W.m1.of (h _ (by omega)), W.m2.of (h _ (by omega)), ?_, ?_⟩
  · unfold AkOk; rw [e0, h _ (by omega)]; exact W.a
  · rw [e0]
    refine UV_eq _ eq W.ln hL W.nm hN (UV_A _ (fun j hj => ?_) W.u)
    unfold acR
    exact h _ (by omega)
  · rw [h _ (by omega), h _ (by omega)]; exact W.s
  · intro q p h1 h2 i hi
    rw [l.ef W.nm W.ln W.c.ok hi]
    rw [h _ (by omega)] at q h2
    refine W.k q p ?_ h2 i hi
    have e : p0S S' = p0S S := by unfold p0S; rw [h _ (by omega), h _ (by omega)]
    rw [← e]; exact h1
theorem sh_ag8 {S S' : Nat → Int32} {m : am_M} {a : Nat} {L : Int64} (h : Ag8 S S') (W : Wf S) (v : ShV m a S L) : ShV m a S' L := by
  have l := h.l
  exact ⟨fun i hi => l.la W.nm W.ln hi (v.la hi), l.lo W.nm v.lo, v.ac.arr (fun y hy => h y (by omega)) W.a, v.pl.arr (fun y _ hy => h y (by omega)), v.ash.arr W.m1 (h _ (by omega)) (fun j hj => h _ (by omega)), v.dep.arr W.m2 (h _ (by omega)) (fun j hj => h _ (by omega)), v.sc.arr (fun y _ hy => h y (by omega))⟩
theorem cp_ag8 (F S : Nat → Int32) : Ag8 S (cpS F S 0 6508) := fun y hy => by
  unfold cpS
  rw [if_pos hy, Nat.zero_add]
/-- a new ship is made above t; else only its holder changes -/
def Nc (B t : Nat) (m m' : am_M) : Prop := (∀ x, x < t → mK m' x = mK m x ∧ mI m' x = mI m x ∧ mL m' x = mL m x) ∧ (∀ x, x < t → x ≠ B → x ≠ B + 76 → mR m' x = mR m x) ∧ ∀ i, i ≠ 3 → mR m' B i = mR m B i
theorem Nc.refl (B t : Nat) (m : am_M) : Nc B t m m := ⟨fun _ _ => ⟨rfl, rfl, rfl⟩, fun _ _ _ _ => rfl, fun _ _ => rfl⟩
theorem Nc.mono {B t u : Nat} {m m' : am_M} (h : Nc B t m m') (g : u ≤ t) : Nc B u m m' := ⟨fun x hx => h.1 x (by omega), fun x hx => h.2.1 x (by omega), h.2.2⟩
theorem FdK.nc {m m' : am_M} {B t : Nat} (f : FdK m B) (h : Nc B t m m') (ht : B + 82 ≤ t) : FdK m' B := by
  obtain ⟨h1, h2, h3⟩ := h
  obtain ⟨f0, f1, f2, f3, f4, f5, f6, f7, f8, f9, f10, f11, f12, f13, f14, f15, f16, f17⟩ := f
  have k : ∀ x, x < B + 82 → mK m' x = mK m x := fun x hx => (h1 x (by omega)).1
  have pk : PnK m' (B + 67) := by
    obtain ⟨p0, p1, p2, p3, p4, p5, p6, p7, p8, p9, p10, p11, p12, p13, p14, p15, p16⟩ := f4
    have r : ∀ i, mR m' (B + 67) i = mR m (B + 67) i := fun i => by rw [h2 _ (by omega) (by omega) (by omega)]
    refine ⟨by rw [k _ (by omega)]; exact p0, by rw [r]; exact p1, by rw [k _ (by omega)]; exact p2, by rw [r]; exact p3, by rw [k _ (by omega)]; exact p4, by rw [r]; exact p5, by rw [k _ (by omega)]; exact p6, by rw [r]; exact p7, by rw [k _ (by omega)]; exact p8, by rw [r]; exact p9, by rw [k _ (by omega)]; exact p10, by rw [r]; exact p11, by rw [k _ (by omega)]; exact p12, by rw [r]; exact p13, by rw [k _ (by omega)]; exact p14, by rw [r]; exact p15, by rw [k _ (by omega)]; exact p16⟩
  have r : ∀ i, i ≠ 3 → mR m' B i = mR m B i := h3
  exact ⟨by rw [k _ (by omega)]; exact f0, by rw [r _ (by omega)]; exact f1, sh_same (fun x g1 g2 => ⟨k x (by omega), h2 x (by omega) (by omega) (by omega)⟩) f2, by rw [r _ (by omega)]; exact f3, pk, by rw [h2 _ (by omega) (by omega) (by omega)]; exact f5, by rw [r _ (by omega)]; exact f6, by rw [k _ (by omega)]; exact f7, by rw [r _ (by omega)]; exact f8, by rw [k _ (by omega)]; exact f9, by rw [r _ (by omega)]; exact f10, by rw [k _ (by omega)]; exact f11, by rw [r _ (by omega)]; exact f12, by rw [k _ (by omega)]; exact f13, by rw [r _ (by omega)]; exact f14, by rw [k _ (by omega)]; exact f15, by rw [r _ (by omega)]; exact f16, by rw [k _ (by omega)]; exact f17⟩
theorem Mo.nc {m m' : am_M} {M B t : Nat} (k : Mo m M) (h : Nc B t m m') (h1 : M + 16 ≤ t) (h2 : B + 76 < M) : Mo m' M := by
  obtain ⟨h3, h4, -⟩ := h
  have r : mR m' M = mR m M := h4 M (by omega) (by omega) (by omega)
  simpa only [Mo, r, (h3 M (by omega)).1, (h3 (M + 1) (by omega)).1, (h3 (M + 2) (by omega)).1, (h3 (M + 3) (by omega)).1, (h3 (M + 4) (by omega)).1, (h3 (M + 5) (by omega)).1, (h3 (M + 6) (by omega)).1, (h3 (M + 7) (by omega)).1, (h3 (M + 8) (by omega)).1, (h3 (M + 9) (by omega)).1, (h3 (M + 10) (by omega)).1, (h3 (M + 11) (by omega)).1, (h3 (M + 12) (by omega)).1, (h3 (M + 13) (by omega)).1, (h3 (M + 14) (by omega)).1, (h3 (M + 15) (by omega)).1] using k
/-- the model's cells as they were -/
theorem MI.nc {m m' : am_M} {B : Nat} {s : St} (w : MI m (B + 82) s) (h : Nc B (B + 98) m m') : MI m' (B + 82) s := by
  obtain ⟨w0, w1, w2, w3, w4, w5, w6, w7, w8, w9⟩ := w
  have i : ∀ x, x < B + 98 → mI m' x = mI m x := fun x h1 => (h.1 x h1).2.1
  have l : ∀ x, x < B + 98 → mL m' x = mL m x := fun x h1 => (h.1 x h1).2.2
  refine ⟨w0.nc h (by omega) (by omega), ?_, ?_, ?_, ?_, ?_, ?_, ?_, ?_, fun k hk => ?_⟩
  · rw [i _ (by omega)]; exact w1
  · rw [l _ (by omega)]; exact w2
  · rw [i _ (by omega)]; exact w3
  · rw [i _ (by omega)]; exact w4
  · rw [i _ (by omega)]; exact w5
  · rw [i _ (by omega)]; exact w6
  · rw [i _ (by omega)]; exact w7
  · rw [i _ (by omega), l _ (by omega)]; exact w8
  · rw [i _ (by omega), i _ (by omega), l _ (by omega)]; exact w9 k hk
/-- the ships made later, but what the x-th holds -/
def KpW (m : am_M) (B : Nat) (ix : Nat → Option Nat) (K : Nat → Bool × (Nat → Int32) × Int64) (x : Nat) : Prop :=
  (∀ k, k < 2 → mR m (B + 76) k = (ix k).map (fun j => B + 98 + 66 * j)) ∧ mR m B 3 = (ix 2).map (fun j => B + 98 + 66 * j) ∧ mS m = B + 98 + 66 * cnI ix ∧ mN m ≤ 40000 + 6000 * cnI ix ∧
  (∀ k j, k < 3 → ix k = some j → j < cnI ix ∧ ShK m (B + 98 + 66 * j)) ∧ (∀ k k' j, k < 3 → k' < 3 → ix k = some j → ix k' = some j → k = k') ∧
  (∀ k, k < 2 → k ≠ x → ((K k).1 = false ∧ ix k = none) ∨ ((K k).1 = true ∧ ∃ j, ix k = some j ∧ ShV m (B + 98 + 66 * j) (K k).2.1 (K k).2.2))
theorem KpV.w {m : am_M} {B : Nat} {ix : Nat → Option Nat} {K : Nat → Bool × (Nat → Int32) × Int64} (h : KpV m B ix K) (x : Nat) : KpW m B ix K x := by
  obtain ⟨h1, h2, h3, h4, h5, h6, h7⟩ := h
  exact ⟨h1, h2, h3, h4, h5, h6, fun k hk _ => h7 k hk⟩
theorem KpW.v {m : am_M} {B : Nat} {ix : Nat → Option Nat} {K : Nat → Bool × (Nat → Int32) × Int64} (h : KpW m B ix K 2) : KpV m B ix K := by
  obtain ⟨h1, h2, h3, h4, h5, h6, h7⟩ := h
  exact ⟨h1, h2, h3, h4, h5, h6, fun k hk => h7 k hk (by omega)⟩
def ixU (ix : Nat → Option Nat) (x j : Nat) : Nat → Option Nat := fun k => if k = x then some j else ix k
theorem cnI_U {ix : Nat → Option Nat} {x j : Nat} (hx : x < 3) (h : ix x = none) : cnI (ixU ix x j) = cnI ix + 1 := by
  have : x = 0 ∨ x = 1 ∨ x = 2 := by omega
  unfold cnI ixU
  rcases this with rfl | rfl | rfl <;> simp [h] <;> omega
theorem KpW.new {m m' : am_M} {B x : Nat} {ix : Nat → Option Nat} {K : Nat → Bool × (Nat → Int32) × Int64} (h : KpV m B ix K) (hx : x < 3) (hi : ix x = none) (n : Nc B (B + 98 + 66 * cnI ix) m m') (hs : mS m' = B + 98 + 66 * cnI ix + 66) (hn : mN m' = mN m + 5819) (k : ShK m' (B + 98 + 66 * cnI ix))
    (r1 : ∀ y, y < 2 → mR m' (B + 76) y = if y = x then some (B + 98 + 66 * cnI ix) else mR m (B + 76) y) (r2 : mR m' B 3 = if 2 = x then some (B + 98 + 66 * cnI ix) else mR m B 3) : KpW m' B (ixU ix x (cnI ix)) K x := by
  obtain ⟨h1, h2, h3, h4, h5, h6, h7⟩ := h
  have c := cnI_U (j := cnI ix) hx hi
  refine ⟨fun y hy => ?_, ?_, by rw [hs, c]; omega, by rw [hn, c]; omega, fun y j hy hj => ?_, fun y y' j hy hy' hj hj' => ?_, fun y hy hne => ?_⟩
  · rw [r1 y hy]
    unfold ixU
    by_cases e : y = x
    · rw [if_pos e, if_pos e]; rfl
    · rw [if_neg e, if_neg e]; exact h1 y hy
  · rw [r2]
    unfold ixU
    by_cases e : 2 = x
    · rw [if_pos e, if_pos e]; rfl
    · rw [if_neg e, if_neg e]; exact h2
  · unfold ixU at hj
    rw [c]
    by_cases e : y = x
    · rw [if_pos e] at hj
      have := Option.some.inj hj
      rw [← this]
      exact ⟨by omega, k⟩
    · rw [if_neg e] at hj
      obtain ⟨q1, q2⟩ := h5 y j hy hj
      refine ⟨by omega, sh_same (fun z g1 g2 => ⟨(n.1 z (by omega)).1, n.2.1 z (by omega) (by omega) (by omega)⟩) q2⟩
  · unfold ixU at hj hj'
    by_cases e : y = x
    · by_cases e' : y' = x
      · rw [e, e']
      · rw [if_pos e] at hj
        rw [if_neg e'] at hj'
        have := Option.some.inj hj
        have := (h5 y' j hy' hj').1
        omega
    · by_cases e' : y' = x
      · rw [if_neg e] at hj
        rw [if_pos e'] at hj'
        have := Option.some.inj hj'
        have := (h5 y j hy hj).1
        omega
      · rw [if_neg e] at hj
        rw [if_neg e'] at hj'
        exact h6 y y' j hy hy' hj hj'
  · unfold ixU
    rw [if_neg hne]
    rcases h7 y hy with q | ⟨q1, j, q2, q3⟩
    · exact Or.inl q
    · have := (h5 y j (by omega) q2).1
      exact Or.inr ⟨q1, j, q2, q3.keep (fun z z1 z2 => (n.1 z (by omega)).2.1) (n.1 _ (by omega)).2.2⟩
theorem KpW.put {m m' : am_M} {B x j : Nat} {ix : Nat → Option Nat} {K : Nat → Bool × (Nat → Int32) × Int64} (h : KpW m B ix K x) (hx : x < 3) (hj : ix x = some j) (F : Fr (B + 98 + 66 * j) m m') : KpW m' B ix K x := by
  obtain ⟨h1, h2, h3, h4, h5, h6, h7⟩ := h
  refine ⟨fun y hy => by rw [F.2.2.2.1]; exact h1 y hy, by rw [F.2.2.2.1]; exact h2, by rw [F.1]; exact h3, by rw [F.2.1]; exact h4, fun y i hy hi => ⟨(h5 y i hy hi).1, (h5 y i hy hi).2.fr F⟩, h6, fun y hy hne => ?_⟩
  rcases h7 y hy hne with q | ⟨q1, i, q2, q3⟩
  · exact Or.inl q
  · have : i ≠ j := fun q => hne (h6 y x j (by omega) hx (by rw [q2, q]) hj)
    exact Or.inr ⟨q1, i, q2, q3.keep (fun z z1 z2 => (F.2.2.2.2 z (by omega)).1) (F.2.2.2.2 _ (by omega)).2⟩
def KU (K : Nat → Bool × (Nat → Int32) × Int64) (x : Nat) (S : Nat → Int32) (L : Int64) : Nat → Bool × (Nat → Int32) × Int64 := fun k => if k = x then (true, S, L) else K k
theorem KpW.set {m : am_M} {B x j : Nat} {ix : Nat → Option Nat} {K : Nat → Bool × (Nat → Int32) × Int64} {S : Nat → Int32} {L : Int64} (h : KpW m B ix K x) (hj : ix x = some j) (v : ShV m (B + 98 + 66 * j) S L) : KpV m B ix (KU K x S L) := by
  obtain ⟨h1, h2, h3, h4, h5, h6, h7⟩ := h
  refine ⟨h1, h2, h3, h4, h5, h6, fun k hk => ?_⟩
  unfold KU
  by_cases e : k = x
  · rw [if_pos e]
    exact Or.inr ⟨rfl, j, by rw [e]; exact hj, v⟩
  · rw [if_neg e]
    exact h7 k hk e
/-- the class's cells: all but the later ships as they were -/
theorem CI.mk {m m' : am_M} {B : Nat} {s : St} {ix : Nat → Option Nat} {K : Nat → Bool × (Nat → Int32) × Int64} (c : CI m B s) (f : FdK m' B) (i : ∀ x, B ≤ x → x < B + 82 → mI m' x = mI m x ∧ mL m' x = mL m x) (k : KpV m' B ix K) : CI m' B (stS s, stL s, stP s, stN s, stF s, stD s, stZ s, stW s, K) := by
  obtain ⟨c0, c1, c2, c3, c4, c5, c6, c7, -⟩ := c
  refine ⟨f, c1.keep (fun y y1 y2 => (i y (by omega) (by omega)).1) (i _ (by omega) (by omega)).2, ?_, ?_, ?_, ?_, ?_, ?_, ix, k⟩
  · intro j hj; rw [(i _ (by omega) (by omega)).1]; exact c2 j hj
  · rw [(i _ (by omega) (by omega)).1]; exact c3
  · intro j hj; rw [(i _ (by omega) (by omega)).1]; exact c4 j hj
  · intro j hj; rw [(i _ (by omega) (by omega)).1]; exact c5 j hj
  · rw [(i _ (by omega) (by omega)).1]; exact c6
  · unfold ReV; rw [(i _ (by omega) (by omega)).2]; exact c7
/-- keep's first half: the ship is there -/
theorem sp_125 {B z : Nat} {m : am_M} {ix : Nat → Option Nat} {K : Nat → Bool × (Nat → Int32) × Int64} (f : FdK m B) (kp : KpV m B ix K) (hk : z < 2) : ∃ m1 ix' j, cal 39 125 [.ref B, .int (nI z)] m = ev 39 125 33 [some (.ref B), some (.int (nI z))] [] m1 ∧ Nc B (B + 98) m m1 ∧ KpW m1 B ix' K z ∧ ix' z = some j := by
  have k := f.sh
  have hq1 : ¬ z < 0 := by omega
  have hq2 : ¬ 1 < z := by omega
  have is := sp_130 (d := 38) (x := nI z) (lo := nI 0) (hi := nI 1) (m := m)
  rw [if_neg (by rw [lt_nI (by omega) (by omega)]; omega), if_neg (by rw [lt_nI (by omega) (by omega)]; omega)] at is
  have r := kp.1 z hk
  rcases hix : ix z with _ | j
  · rw [hix] at r
    simp only [Option.map_none] at r
    obtain ⟨b0, e0, w0⟩ := mk_63 (d := 37) (m := m) rfl
    have hS := kp.2.2.1
    have g : ∀ x, x < mS m → Sa x m b0 := fun x hx => w0.2.2.1 x hx
    have B0 : mK b0 (B + 76) = (5, 8, 2) := by rw [(g _ (by omega)).1]; exact f.k2
    refine ⟨sR b0 (B + 76) z (some (mS m)), ixU ix z (cnI ix), cnI ix, ?_, ?_, ?_, ?_⟩
    · have K0 : mK b0 (mS m) = (1, 8, 0) := w0.2.2.2.1.k
      simp (disch := first | (simp (disch := omega) only [am_k_some, va_rf_some, va_rf_none, tl_some, tl_none, am_clr_int, am_clr_ref, am_clr_none, am_clr_long, am_w_nil, am_w_int, am_w_ref, am_w_long, am_w_null, am_bb_0, am_bb_1, am_bb_bI, xK_sI, xR_sI, xS_sI, xN_sI, xK_sL, xR_sL, xS_sL, xN_sL, xK_sR, xR_sR, xS_sR, xN_sR, xK_sA, xR_sA, xS_sA, xN_sA, Nat.reduceAdd, Nat.reduceLeDiff, sI_sA, I_sA', sA_sA, I_sA, I_sA', nI_add, mul_nI, bI_0, bI_1, f.k, f.r0, f.r1, f.r2, f.k2, f.r4, f.k4, f.r5, f.k5, f.r6, f.k6, f.r7, f.k7, f.r9, f.k9, k.k, k.r0, k.k0, k.rl, k.r1, k.r2, k.ac.k, k.lo.k, B0, K0, ix_nI, cl_nI]; done) | omega | assumption) only [c125, e125_0, e125_1, e125_2, e125_3, e125_6, e125_11, e125_12, e125_15, e125_16, e125_17, e125_17n, e125_20, e125_21, e125_24, e125_25, e125_28, e125_28r, e125_29, e125_32, am_k_some, va_rf_some, va_rf_none, tl_some, tl_none, am_clr_int, am_clr_ref, am_clr_none, am_clr_long, am_w_nil, am_w_int, am_w_ref, am_w_long, am_w_null, am_bb_0, am_bb_1, am_bb_bI, xK_sI, xR_sI, xS_sI, xN_sI, xK_sL, xR_sL, xS_sL, xN_sL, xK_sR, xR_sR, xS_sR, xN_sR, xK_sA, xR_sA, xS_sA, xN_sA, Nat.reduceAdd, Nat.reduceLeDiff, sI_sA, I_sA', sA_sA, I_sA, I_sA', nI_add, mul_nI, bI_0, bI_1, f.k, f.r0, f.r1, f.r2, f.k2, f.r4, f.k4, f.r5, f.k5, f.r6, f.k6, f.r7, f.k7, f.r9, f.k9, k.k, k.r0, k.k0, k.rl, k.r1, k.r2, k.ac.k, k.lo.k, ix_nI, cl_nI, lt_nI, eq_nI, sub_nI, Nat.reduceEqDiff, Nat.one_ne_zero, Nat.not_lt_zero, ↓reduceIte, is, r, e0, B0]
    · refine ⟨fun x hx => ?_, fun x hx h1 h2 => ?_, fun i hi => ?_⟩
      · rw [xK_sR, yI_sR, yL_sR]
        have := g x (by omega)
        exact ⟨this.1, this.2.1, this.2.2.1⟩
      · rw [yR_sR _ _ h2]
        exact (g x (by omega)).2.2.2
      · rw [yR_sR _ _ (by omega)]
        rw [(g B (by omega)).2.2.2]
    · refine KpW.new kp (by omega) hix ?_ ?_ ?_ ?_ ?_ ?_
      · refine ⟨fun x hx => ?_, fun x hx h1 h2 => ?_, fun i hi => ?_⟩
        · rw [xK_sR, yI_sR, yL_sR]
          have := g x (by omega)
          exact ⟨this.1, this.2.1, this.2.2.1⟩
        · rw [yR_sR _ _ h2]
          exact (g x (by omega)).2.2.2
        · rw [yR_sR _ _ (by omega)]
          rw [(g B (by omega)).2.2.2]
      · rw [xS_sR, w0.1, hS]
      · rw [xN_sR, w0.2.1]
      · rw [← hS]
        exact sh_same (fun x g1 g2 => ⟨by rw [xK_sR], by rw [yR_sR _ _ (by omega)]⟩) w0.2.2.2.1
      · intro y hy
        rw [xR_sR, hS]
        by_cases e : y = z
        · rw [if_pos ⟨rfl, e⟩, if_pos e]
        · rw [if_neg (fun q => e q.2), if_neg e, (g _ (by omega)).2.2.2]
      · rw [if_neg (by omega), yR_sR _ _ (by omega), (g _ (by omega)).2.2.2]
    · unfold ixU; rw [if_pos rfl]
  · rw [hix] at r
    simp only [Option.map_some] at r
    refine ⟨m, ix, j, ?_, Nc.refl _ _ m, kp.w z, hix⟩
    simp (disch := first | (simp (disch := omega) only [am_k_some, va_rf_some, va_rf_none, tl_some, tl_none, am_clr_int, am_clr_ref, am_clr_none, am_clr_long, am_w_nil, am_w_int, am_w_ref, am_w_long, am_w_null, am_bb_0, am_bb_1, am_bb_bI, xK_sI, xR_sI, xS_sI, xN_sI, xK_sL, xR_sL, xS_sL, xN_sL, xK_sR, xR_sR, xS_sR, xN_sR, xK_sA, xR_sA, xS_sA, xN_sA, Nat.reduceAdd, Nat.reduceLeDiff, sI_sA, I_sA', sA_sA, I_sA, I_sA', nI_add, mul_nI, bI_0, bI_1, f.k, f.r0, f.r1, f.r2, f.k2, f.r4, f.k4, f.r5, f.k5, f.r6, f.k6, f.r7, f.k7, f.r9, f.k9, k.k, k.r0, k.k0, k.rl, k.r1, k.r2, k.ac.k, k.lo.k, ix_nI, cl_nI]; done) | omega | assumption) only [c125, e125_0, e125_1, e125_2, e125_3, e125_6, e125_11, e125_12, e125_15, e125_16, e125_17, e125_17n, am_k_some, va_rf_some, va_rf_none, tl_some, tl_none, am_clr_int, am_clr_ref, am_clr_none, am_clr_long, am_w_nil, am_w_int, am_w_ref, am_w_long, am_w_null, am_bb_0, am_bb_1, am_bb_bI, xK_sI, xR_sI, xS_sI, xN_sI, xK_sL, xR_sL, xS_sL, xN_sL, xK_sR, xR_sR, xS_sR, xN_sR, xK_sA, xR_sA, xS_sA, xN_sA, Nat.reduceAdd, Nat.reduceLeDiff, sI_sA, I_sA', sA_sA, I_sA, I_sA', nI_add, mul_nI, bI_0, bI_1, f.k, f.r0, f.r1, f.r2, f.k2, f.r4, f.k4, f.r5, f.k5, f.r6, f.k6, f.r7, f.k7, f.r9, f.k9, k.k, k.r0, k.k0, k.rl, k.r1, k.r2, k.ac.k, k.lo.k, ix_nI, cl_nI, lt_nI, eq_nI, sub_nI, Nat.reduceEqDiff, Nat.one_ne_zero, Nat.not_lt_zero, ↓reduceIte, is, r]
theorem op_35 {B : Nat} {m : am_M} {x : Int32} (G : Good B m) : Op1 B 125 222 [.int x] m := by
  obtain ⟨s, c, w, W⟩ := G
  have f := c.1
  have k := f.sh
  have v := c.2.1
  have Q := W.1
  by_cases hb : x < nI 0 ∨ nI 1 < x
  · refine op_r c w W (nI 0) ?_ (sp_222b (d := 38) hb w.1)
    have is := sp_130 (d := 38) (x := x) (lo := nI 0) (hi := nI 1) (m := m)
    have e : (if x < nI 0 then nI 0 else if nI 1 < x then nI 0 else nI 1) = nI 0 := by
      by_cases h0 : x < nI 0
      · rw [if_pos h0]
      · rw [if_neg h0, if_pos (by rcases hb with q | q; exact absurd q h0; exact q)]
    rw [e] at is
    simp (disch := first | (simp (disch := omega) only [am_k_some, va_rf_some, va_rf_none, tl_some, tl_none, am_clr_int, am_clr_ref, am_clr_none, am_clr_long, am_w_nil, am_w_int, am_w_ref, am_w_long, am_w_null, am_bb_0, am_bb_1, am_bb_bI, xK_sI, xR_sI, xS_sI, xN_sI, xK_sL, xR_sL, xS_sL, xN_sL, xK_sR, xR_sR, xS_sR, xN_sR, xK_sA, xR_sA, xS_sA, xN_sA, Nat.reduceAdd, Nat.reduceLeDiff, sI_sA, I_sA', sA_sA, I_sA, I_sA', nI_add, mul_nI, bI_0, bI_1, f.k, f.r0, f.r1, f.r2, f.k2, f.r4, f.k4, f.r5, f.k5, f.r6, f.k6, f.r7, f.k7, f.r9, f.k9, k.k, k.r0, k.k0, k.rl, k.r1, k.r2, k.ac.k, k.lo.k, ix_nI, cl_nI]; done) | omega | assumption) only [c125, e125_0, e125_1, e125_2, e125_3, e125_6, e125_9, e125_10, am_k_some, va_rf_some, va_rf_none, tl_some, tl_none, am_clr_int, am_clr_ref, am_clr_none, am_clr_long, am_w_nil, am_w_int, am_w_ref, am_w_long, am_w_null, am_bb_0, am_bb_1, am_bb_bI, xK_sI, xR_sI, xS_sI, xN_sI, xK_sL, xR_sL, xS_sL, xN_sL, xK_sR, xR_sR, xS_sR, xN_sR, xK_sA, xR_sA, xS_sA, xN_sA, Nat.reduceAdd, Nat.reduceLeDiff, sI_sA, I_sA', sA_sA, I_sA, I_sA', nI_add, mul_nI, bI_0, bI_1, f.k, f.r0, f.r1, f.r2, f.k2, f.r4, f.k4, f.r5, f.k5, f.r6, f.k6, f.r7, f.k7, f.r9, f.k9, k.k, k.r0, k.k0, k.rl, k.r1, k.r2, k.ac.k, k.lo.k, ix_nI, cl_nI, lt_nI, eq_nI, sub_nI, Nat.reduceEqDiff, Nat.one_ne_zero, Nat.not_lt_zero, ↓reduceIte, is]
  obtain ⟨z, hz, rfl⟩ := rngU x 1 (by omega) (fun q => hb (Or.inl q)) (fun q => hb (Or.inr q))
  obtain ⟨ix, kp⟩ := c.2.2.2.2.2.2.2.2
  obtain ⟨m1, ix', j, e1, n1, kw, hj⟩ := sp_125 f kp (z := z) (by omega)
  have f1 := f.nc n1 (by omega)
  have k1' := f1.sh
  have v1 : ShV m1 (B + 1) (stS s) (stL s) := v.keep (fun y y1 y2 => (n1.1 y (by omega)).2.1) (n1.1 _ (by omega)).2.2
  have ks := (kw.2.2.2.2.1 z j (by omega) hj).2
  obtain ⟨m2, e2, F2, v2⟩ := sp_64 (d := 36) (a := B + 98 + 66 * j) ks k1' v1 Q (by omega)
  have kw2 := kw.put (by omega) hj F2
  have w2 : MI m2 (B + 82) s := (w.nc n1).fr F2.p (fun x h1 h2 => by omega)
  have r := kw.1 z (by omega)
  rw [hj] at r
  simp only [Option.map_some] at r
  have E : cal 39 125 [.ref B, .int (nI z)] m = some (some (.int (nI 1)), m2) := by
    rw [e1]
    have q1 := f1.k
    have q2 := f1.r2
    have q3 := f1.k2
    have q4 := f1.r0
    have q5 := ks.k
    simp (disch := first | (simp (disch := omega) only [am_k_some, va_rf_some, va_rf_none, tl_some, tl_none, am_clr_int, am_clr_ref, am_clr_none, am_clr_long, am_w_nil, am_w_int, am_w_ref, am_w_long, am_w_null, am_bb_0, am_bb_1, am_bb_bI, xK_sI, xR_sI, xS_sI, xN_sI, xK_sL, xR_sL, xS_sL, xN_sL, xK_sR, xR_sR, xS_sR, xN_sR, xK_sA, xR_sA, xS_sA, xN_sA, Nat.reduceAdd, Nat.reduceLeDiff, sI_sA, I_sA', sA_sA, I_sA, I_sA', nI_add, mul_nI, bI_0, bI_1, q1, q2, q3, q4, q5, ix_nI, cl_nI]; done) | omega | assumption) only [e125_33, e125_34, e125_37, e125_38, e125_39, e125_40, e125_43, e125_46, e125_47, am_k_some, va_rf_some, va_rf_none, tl_some, tl_none, am_clr_int, am_clr_ref, am_clr_none, am_clr_long, am_w_nil, am_w_int, am_w_ref, am_w_long, am_w_null, am_bb_0, am_bb_1, am_bb_bI, xK_sI, xR_sI, xS_sI, xN_sI, xK_sL, xR_sL, xS_sL, xN_sL, xK_sR, xR_sR, xS_sR, xN_sR, xK_sA, xR_sA, xS_sA, xN_sA, Nat.reduceAdd, Nat.reduceLeDiff, sI_sA, I_sA', sA_sA, I_sA, I_sA', nI_add, mul_nI, bI_0, bI_1, q1, q2, q3, q4, ix_nI, cl_nI, lt_nI, eq_nI, sub_nI, Nat.reduceEqDiff, Nat.one_ne_zero, Nat.not_lt_zero, ↓reduceIte, r, e2]
  have hz' : z = 0 ∨ z = 1 := by omega
  have fin : ∀ m3, m3 = sL (sA (sA m2 (B + 82 + 2 + z) (cpS (mI m2 (B + 82 + 2 + z)) (mI m2 (B + 82 + 1)) 0 6508)) (B + 82 + 5) (up1 (mI m2 (B + 82 + 5)) z (nI 1))) (B + 82 + 6) (z + 1) (mL m2 (B + 82 + 6) 0) → Good B m3 ∧ Bel B m m3 := by
    intro m3 h3
    have P3 : FrP (fun x => B + 82 ≤ x ∧ x < B + 98) m2 m3 := by
      rw [h3]
      exact (((FrP.refl _ m2).sA (by omega)).sA (by omega)).sL (by omega)
    have ag := cp_ag8 (mI m2 (B + 82 + 2 + z)) (stS s)
    obtain ⟨w0, w1, w2', w3, w4, w5, w6, w7, w8, w9⟩ := id w2
    rw [w1, w2'] at h3
    have v3 : ShV m2 (B + 98 + 66 * j) (cpS (mI m2 (B + 82 + 2 + z)) (stS s) 0 6508) (stL s) := sh_ag8 ag Q v2
    have kv := (kw2.set hj v3).fr P3 (fun x hx => by omega)
    have f3 : FdK m3 B := (f1.fr F2.p).fr P3
    have i3 : ∀ x, B ≤ x → x < B + 82 → mI m3 x = mI m x ∧ mL m3 x = mL m x := fun x x1 x2 => by
      rw [P3.i (by omega), P3.l (by omega), (F2.2.2.2.2 x (by omega)).1, (F2.2.2.2.2 x (by omega)).2]
      exact (n1.1 x (by omega)).2
    have ci := c.mk f3 i3 kv
    have i : ∀ x, x ≠ B + 82 + 2 + z → x ≠ B + 82 + 5 → mI m3 x = mI m2 x := fun x h1 h2 => by
      rw [h3, mI_sL, I_sA' _ _ h2, I_sA' _ _ h1]
    have l : ∀ x y, (x ≠ B + 82 + 6 ∨ y ≠ z + 1) → mL m3 x y = mL m2 x y := fun x y h1 => by
      rw [h3, xL_sL, if_neg (fun q => by rcases h1 with h | h; exact h q.1; exact h q.2), mL_sA, mL_sA]
    refine ⟨⟨_, ci, ⟨w0.frP P3, ?_, ?_, ?_, ?_, ?_, ?_, ?_, ?_, fun y hy => ?_⟩, Q, W.2.1, W.2.2.1, fun y hy hf => ?_⟩, fun x hx => ?_⟩
    · rw [i _ (by omega) (by omega)]; exact w1
    · rw [l _ _ (Or.inr (by omega))]; exact w2'
    · rw [i _ (by omega) (by omega)]; exact w3
    · rw [i _ (by omega) (by omega)]; exact w4
    · rw [i _ (by omega) (by omega)]; exact w5
    · rw [i _ (by omega) (by omega)]; exact w6
    · rw [i _ (by omega) (by omega)]; exact w7
    · rw [i _ (by omega) (by omega), l _ _ (Or.inl (by omega))]; exact w8
    · show mI m3 (B + 82 + 5) y = bI (KU (stK s) z _ _ y).1 ∧ mI m3 (B + 82 + 2 + y) = (KU (stK s) z _ _ y).2.1 ∧ mL m3 (B + 82 + 6) (y + 1) = (KU (stK s) z _ _ y).2.2
      unfold KU
      by_cases e : y = z
      · rw [if_pos e, e]
        refine ⟨?_, ?_, ?_⟩
        · rw [h3, mI_sL, I_sA, up1_eq]; rfl
        · rw [h3, mI_sL, I_sA' _ _ (by omega), I_sA]
        · rw [h3, xL_sL, if_pos ⟨rfl, rfl⟩]
      · rw [if_neg e]
        obtain ⟨q1, q2, q3⟩ := w9 y hy
        refine ⟨?_, ?_, ?_⟩
        · rw [h3, mI_sL, I_sA, up1_ne e]; exact q1
        · rw [i _ (by omega) (by omega)]; exact q2
        · rw [l _ _ (Or.inr (by omega))]; exact q3
    · change (KU (stK s) z _ _ y).1 = true at hf
      show Wf (KU (stK s) z _ _ y).2.1 ∧ LmOk (KU (stK s) z _ _ y).2.2
      unfold KU at hf ⊢
      by_cases e : y = z
      · rw [if_pos e]
        exact ⟨wf_ag8 ag Q, W.2.1⟩
      · rw [if_neg e] at hf ⊢
        exact W.2.2.2 y hy hf
    · rw [P3.2.2.1, P3.i (by omega), F2.2.2.1, (F2.2.2.2.2 x (by omega)).1]
      exact ⟨(n1.1 x (by omega)).1, (n1.1 x (by omega)).2.1⟩
  rcases hz' with rfl | rfl
  · have M := sp_222_0 (d := 38) w2.1
    obtain ⟨g1, g2⟩ := fin _ rfl
    exact ⟨_, _, _, E, M, g1, g2⟩
  · have M := sp_222_1 (d := 38) w2.1
    obtain ⟨g1, g2⟩ := fin _ rfl
    exact ⟨_, _, _, E, M, g1, g2⟩
theorem op_36 {B : Nat} {m : am_M} {x : Int32} (G : Good B m) : Op1 B 126 223 [.int x] m := by
  obtain ⟨s, c, w, W⟩ := G
  have f := c.1
  have k := f.sh
  have v := c.2.1
  have Q := W.1
  have is := sp_130 (d := 38) (x := x) (lo := nI 0) (hi := nI 1) (m := m)
  by_cases hb : x < nI 0 ∨ nI 1 < x
  · refine op_r c w W (nI 0) ?_ (sp_223b (d := 38) hb w.1)
    have e : (if x < nI 0 then nI 0 else if nI 1 < x then nI 0 else nI 1) = nI 0 := by
      by_cases h0 : x < nI 0
      · rw [if_pos h0]
      · rw [if_neg h0, if_pos (by rcases hb with q | q; exact absurd q h0; exact q)]
    rw [e] at is
    simp (disch := first | (simp (disch := omega) only [am_k_some, va_rf_some, va_rf_none, tl_some, tl_none, am_clr_int, am_clr_ref, am_clr_none, am_clr_long, am_w_nil, am_w_int, am_w_ref, am_w_long, am_w_null, am_bb_0, am_bb_1, am_bb_bI, xK_sI, xR_sI, xS_sI, xN_sI, xK_sL, xR_sL, xS_sL, xN_sL, xK_sR, xR_sR, xS_sR, xN_sR, xK_sA, xR_sA, xS_sA, xN_sA, Nat.reduceAdd, Nat.reduceLeDiff, sI_sA, I_sA', sA_sA, I_sA, I_sA', nI_add, mul_nI, bI_0, bI_1, f.k, f.r0, f.r1, f.r2, f.k2, f.r4, f.k4, f.r5, f.k5, f.r6, f.k6, f.r7, f.k7, f.r9, f.k9, k.k, k.r0, k.k0, k.rl, k.r1, k.r2, k.ac.k, k.lo.k, ix_nI, cl_nI]; done) | omega | assumption) only [c126, e126_0, e126_1, e126_2, e126_3, e126_6, e126_18, e126_19, am_k_some, va_rf_some, va_rf_none, tl_some, tl_none, am_clr_int, am_clr_ref, am_clr_none, am_clr_long, am_w_nil, am_w_int, am_w_ref, am_w_long, am_w_null, am_bb_0, am_bb_1, am_bb_bI, xK_sI, xR_sI, xS_sI, xN_sI, xK_sL, xR_sL, xS_sL, xN_sL, xK_sR, xR_sR, xS_sR, xN_sR, xK_sA, xR_sA, xS_sA, xN_sA, Nat.reduceAdd, Nat.reduceLeDiff, sI_sA, I_sA', sA_sA, I_sA, I_sA', nI_add, mul_nI, bI_0, bI_1, f.k, f.r0, f.r1, f.r2, f.k2, f.r4, f.k4, f.r5, f.k5, f.r6, f.k6, f.r7, f.k7, f.r9, f.k9, k.k, k.r0, k.k0, k.rl, k.r1, k.r2, k.ac.k, k.lo.k, ix_nI, cl_nI, lt_nI, eq_nI, sub_nI, Nat.reduceEqDiff, Nat.one_ne_zero, Nat.not_lt_zero, ↓reduceIte, is]
  obtain ⟨z, hz, rfl⟩ := rngU x 1 (by omega) (fun q => hb (Or.inl q)) (fun q => hb (Or.inr q))
  rw [if_neg (fun q => hb (Or.inl q)), if_neg (fun q => hb (Or.inr q))] at is
  obtain ⟨ix, kp⟩ := c.2.2.2.2.2.2.2.2
  have r := kp.1 z (by omega)
  have wz := w.2.2.2.2.2.2.2.2.2 z (by omega)
  rcases kp.2.2.2.2.2.2 z (by omega) with ⟨t1, t2⟩ | ⟨t1, j, t2, t3⟩
  · rw [t2] at r
    simp only [Option.map_none] at r
    rw [t1] at wz
    refine op_r c w W (nI 0) ?_ (sp_223_n (d := 38) w.1 (by omega) wz.1)
    simp (disch := first | (simp (disch := omega) only [am_k_some, va_rf_some, va_rf_none, tl_some, tl_none, am_clr_int, am_clr_ref, am_clr_none, am_clr_long, am_w_nil, am_w_int, am_w_ref, am_w_long, am_w_null, am_bb_0, am_bb_1, am_bb_bI, xK_sI, xR_sI, xS_sI, xN_sI, xK_sL, xR_sL, xS_sL, xN_sL, xK_sR, xR_sR, xS_sR, xN_sR, xK_sA, xR_sA, xS_sA, xN_sA, Nat.reduceAdd, Nat.reduceLeDiff, sI_sA, I_sA', sA_sA, I_sA, I_sA', nI_add, mul_nI, bI_0, bI_1, f.k, f.r0, f.r1, f.r2, f.k2, f.r4, f.k4, f.r5, f.k5, f.r6, f.k6, f.r7, f.k7, f.r9, f.k9, k.k, k.r0, k.k0, k.rl, k.r1, k.r2, k.ac.k, k.lo.k, ix_nI, cl_nI]; done) | omega | assumption) only [c126, e126_0, e126_1, e126_2, e126_3, e126_6, e126_9, e126_10, e126_13, e126_14, e126_15, e126_15n, e126_18, e126_19, am_k_some, va_rf_some, va_rf_none, tl_some, tl_none, am_clr_int, am_clr_ref, am_clr_none, am_clr_long, am_w_nil, am_w_int, am_w_ref, am_w_long, am_w_null, am_bb_0, am_bb_1, am_bb_bI, xK_sI, xR_sI, xS_sI, xN_sI, xK_sL, xR_sL, xS_sL, xN_sL, xK_sR, xR_sR, xS_sR, xN_sR, xK_sA, xR_sA, xS_sA, xN_sA, Nat.reduceAdd, Nat.reduceLeDiff, sI_sA, I_sA', sA_sA, I_sA, I_sA', nI_add, mul_nI, bI_0, bI_1, f.k, f.r0, f.r1, f.r2, f.k2, f.r4, f.k4, f.r5, f.k5, f.r6, f.k6, f.r7, f.k7, f.r9, f.k9, k.k, k.r0, k.k0, k.rl, k.r1, k.r2, k.ac.k, k.lo.k, ix_nI, cl_nI, lt_nI, eq_nI, sub_nI, Nat.reduceEqDiff, Nat.one_ne_zero, Nat.not_lt_zero, ↓reduceIte, is, r]
  rw [t2] at r
  simp only [Option.map_some] at r
  have ks := (kp.2.2.2.2.1 z j (by omega) t2).2
  obtain ⟨Wk, Lk⟩ := W.2.2.2 z (by omega) t1
  obtain ⟨m2, e2, F2, v2⟩ := sp_64 (d := 36) (a := B + 1) k ks t3 Wk (by omega)
  have w2 : MI m2 (B + 82) s := w.fr F2.p (fun x h1 h2 => by omega)
  have E : cal 39 126 [.ref B, .int (nI z)] m = some (some (.int (nI 1)), m2) := by
    simp (disch := first | (simp (disch := omega) only [am_k_some, va_rf_some, va_rf_none, tl_some, tl_none, am_clr_int, am_clr_ref, am_clr_none, am_clr_long, am_w_nil, am_w_int, am_w_ref, am_w_long, am_w_null, am_bb_0, am_bb_1, am_bb_bI, xK_sI, xR_sI, xS_sI, xN_sI, xK_sL, xR_sL, xS_sL, xN_sL, xK_sR, xR_sR, xS_sR, xN_sR, xK_sA, xR_sA, xS_sA, xN_sA, Nat.reduceAdd, Nat.reduceLeDiff, sI_sA, I_sA', sA_sA, I_sA, I_sA', nI_add, mul_nI, bI_0, bI_1, f.k, f.r0, f.r1, f.r2, f.k2, f.r4, f.k4, f.r5, f.k5, f.r6, f.k6, f.r7, f.k7, f.r9, f.k9, k.k, k.r0, k.k0, k.rl, k.r1, k.r2, k.ac.k, k.lo.k, ix_nI, cl_nI]; done) | omega | assumption) only [c126, e126_0, e126_1, e126_2, e126_3, e126_6, e126_9, e126_10, e126_13, e126_14, e126_15, e126_15n, e126_20, e126_21, e126_24, e126_25, e126_28, e126_29, e126_30, e126_33, e126_34, am_k_some, va_rf_some, va_rf_none, tl_some, tl_none, am_clr_int, am_clr_ref, am_clr_none, am_clr_long, am_w_nil, am_w_int, am_w_ref, am_w_long, am_w_null, am_bb_0, am_bb_1, am_bb_bI, xK_sI, xR_sI, xS_sI, xN_sI, xK_sL, xR_sL, xS_sL, xN_sL, xK_sR, xR_sR, xS_sR, xN_sR, xK_sA, xR_sA, xS_sA, xN_sA, Nat.reduceAdd, Nat.reduceLeDiff, sI_sA, I_sA', sA_sA, I_sA, I_sA', nI_add, mul_nI, bI_0, bI_1, f.k, f.r0, f.r1, f.r2, f.k2, f.r4, f.k4, f.r5, f.k5, f.r6, f.k6, f.r7, f.k7, f.r9, f.k9, k.k, k.r0, k.k0, k.rl, k.r1, k.r2, k.ac.k, k.lo.k, ix_nI, cl_nI, lt_nI, eq_nI, sub_nI, Nat.reduceEqDiff, Nat.one_ne_zero, Nat.not_lt_zero, ↓reduceIte, is, r, e2]
  have hz' : z = 0 ∨ z = 1 := by omega
  have fin : ∀ m3, m3 = sL (sA m2 (B + 82 + 1) (cpS (mI m2 (B + 82 + 1)) (mI m2 (B + 82 + 2 + z)) 0 6508)) (B + 82 + 6) 0 (mL m2 (B + 82 + 6) (z + 1)) → Good B m3 ∧ Bel B m m3 := by
    intro m3 h3
    have P3 : FrP (fun x => B + 82 ≤ x ∧ x < B + 98) m2 m3 := by
      rw [h3]
      exact ((FrP.refl _ m2).sA (by omega)).sL (by omega)
    have ag := cp_ag8 (mI m2 (B + 82 + 1)) (stK s z).2.1
    obtain ⟨w0, w1, w2', w3, w4, w5, w6, w7, w8, w9⟩ := id w2
    rw [(w9 z (by omega)).2.1, (w9 z (by omega)).2.2] at h3
    have v3 : ShV m3 (B + 1) (cpS (mI m2 (B + 82 + 1)) (stK s z).2.1 0 6508) (stK s z).2.2 := (sh_ag8 ag Wk v2).keep (fun y y1 y2 => P3.i (by omega)) (P3.l (by omega))
    have f3 : FdK m3 B := (f.fr F2.p).fr P3
    have kv := (kp.fr F2.p (fun x hx => by omega)).fr P3 (fun x hx => by omega)
    have i3 : ∀ x, (x < B + 1 ∨ B + 67 ≤ x) → (x < B + 82 ∨ B + 98 ≤ x) → mI m3 x = mI m x ∧ mL m3 x = mL m x := fun x x1 x2 => by
      rw [P3.i (by omega), P3.l (by omega)]
      exact F2.2.2.2.2 x (by omega)
    have i : ∀ x, x ≠ B + 82 + 1 → mI m3 x = mI m2 x := fun x h1 => by
      rw [h3, mI_sL, I_sA' _ _ h1]
    have l : ∀ x y, (x ≠ B + 82 + 6 ∨ y ≠ 0) → mL m3 x y = mL m2 x y := fun x y h1 => by
      rw [h3, xL_sL, if_neg (fun q => by rcases h1 with h | h; exact h q.1; exact h q.2), mL_sA]
    obtain ⟨c0, c1, c2, c3, c4, c5, c6, c7, -⟩ := c
    refine ⟨⟨(cpS (mI m2 (B + 82 + 1)) (stK s z).2.1 0 6508, (stK s z).2.2, stP s, stN s, stF s, stD s, stZ s, stW s, stK s), ⟨f3, v3, ?_, ?_, ?_, ?_, ?_, ?_, ix, kv⟩, ⟨w0.frP P3, ?_, ?_, ?_, ?_, ?_, ?_, ?_, ?_, fun y hy => ?_⟩, wf_ag8 ag Wk, Lk, W.2.2⟩, fun x hx => ?_⟩
    · intro j hj; rw [(i3 _ (by omega) (by omega)).1]; exact c2 j hj
    · rw [(i3 _ (by omega) (by omega)).1]; exact c3
    · intro j hj; rw [(i3 _ (by omega) (by omega)).1]; exact c4 j hj
    · intro j hj; rw [(i3 _ (by omega) (by omega)).1]; exact c5 j hj
    · rw [(i3 _ (by omega) (by omega)).1]; exact c6
    · unfold ReV; rw [(i3 _ (by omega) (by omega)).2]; exact c7
    · rw [h3, mI_sL, I_sA]; rfl
    · rw [h3, xL_sL, if_pos ⟨rfl, rfl⟩]; rfl
    · rw [i _ (by omega)]; exact w3
    · rw [i _ (by omega)]; exact w4
    · rw [i _ (by omega)]; exact w5
    · rw [i _ (by omega)]; exact w6
    · rw [i _ (by omega)]; exact w7
    · rw [i _ (by omega), l _ _ (Or.inl (by omega))]; exact w8
    · rw [i _ (by omega), i _ (by omega), l _ _ (Or.inr (by omega))]; exact w9 y hy
    · rw [P3.2.2.1, P3.i (by omega), F2.2.2.1, (F2.2.2.2.2 x (by omega)).1]
      exact ⟨rfl, rfl⟩
  have wz2 := w2.2.2.2.2.2.2.2.2.2 z (by omega)
  rw [t1] at wz2
  rcases hz' with rfl | rfl
  · have M := sp_223_0 (d := 38) w2.1 wz2.1
    obtain ⟨g1, g2⟩ := fin _ rfl
    exact ⟨_, _, _, E, M, g1, g2⟩
  · have M := sp_223_1 (d := 38) w2.1 wz2.1
    obtain ⟨g1, g2⟩ := fin _ rfl
    exact ⟨_, _, _, E, M, g1, g2⟩
