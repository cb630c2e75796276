theorem c213 {d : Nat} {m : am_M} {a : Nat} : cal d 213 [.ref a] m = ev d 213 0 [some (.ref a), none, none, none] [] m := rfl
theorem e213_0 {d : Nat} {ls : am_L} {st : List Value} {m : am_M} {x : Nat} : ev d 213 0 (some (.ref x) :: ls) st m = ev d 213 1 (some (.ref x) :: ls) (.ref x :: st) m := q_nx (show am_row 213 0 = some (.aload_n 0, 1, 0, 0, 0, 0) from rfl) rfl
theorem e213_1 {d : Nat} {ls : am_L} {st : List Value} {m : am_M} : ev d 213 1 ls st m = ev d 213 2 ls (.int (-1) :: st) m := q_nx (show am_row 213 1 = some (.iconst (-1), 1, 0, 0, 0, 0) from rfl) rfl
theorem e213_2 {d : Nat} {ls : am_L} {st : List Value} {m : am_M} {a : Nat} {x : Int32} (hK : mK m a = (1, 10, 0)) : ev d 213 2 ls (.int x :: .ref a :: st) m = ev d 213 5 ls st (sI m a 23 x) := q_put (show am_row 213 2 = some (.putfield 230, 3, 10, 23, 0, 1063) from rfl) (by decide) rfl hK
theorem e213_5 {d : Nat} {ls : am_L} {st : List Value} {m : am_M} : ev d 213 5 ls st m = ev d 213 6 ls (.int (nI 0) :: st) m := q_nx (show am_row 213 5 = some (.iconst 0, 1, 0, 0, 0, 0) from rfl) rfl
theorem e213_6 {d : Nat} {ls : am_L} {st : List Value} {m : am_M} {l0 : Option Value} {l1 : Option Value} {x : Int32} : ev d 213 6 (l0 :: l1 :: ls) (.int x :: st) m = ev d 213 7 (am_clr l0 :: some (.int x) :: ls) st m := q_nx (show am_row 213 6 = some (.istore_n 1, 1, 0, 0, 0, 0) from rfl) rfl
theorem e213_7 {d : Nat} {ls : am_L} {st : List Value} {m : am_M} {l0 : Option Value} {x : Int32} : ev d 213 7 (l0 :: some (.int x) :: ls) st m = ev d 213 8 (l0 :: some (.int x) :: ls) (.int x :: st) m := q_nx (show am_row 213 7 = some (.iload_n 1, 1, 0, 0, 0, 0) from rfl) rfl
theorem e213_8 {d : Nat} {ls : am_L} {st : List Value} {m : am_M} : ev d 213 8 ls st m = ev d 213 10 ls (.int (nI 6) :: st) m := q_nx (show am_row 213 8 = some (.bipush 6, 2, 0, 0, 0, 0) from rfl) rfl
theorem e213_10 {d : Nat} {ls : am_L} {st : List Value} {m : am_M} {x y : Int32} : ev d 213 10 ls (.int y :: .int x :: st) m = if x < y then ev d 213 13 ls st m else ev d 213 26 ls st m := q_ite (a := (13, ls, st, m)) (b := (26, ls, st, m)) (show am_row 213 10 = some (.if_icmp .ge 16, 3, 0, 0, 0, 0) from rfl) rfl
theorem e213_13 {d : Nat} {ls : am_L} {st : List Value} {m : am_M} {x : Nat} : ev d 213 13 (some (.ref x) :: ls) st m = ev d 213 14 (some (.ref x) :: ls) (.ref x :: st) m := q_nx (show am_row 213 13 = some (.aload_n 0, 1, 0, 0, 0, 0) from rfl) rfl
theorem e213_14 {d : Nat} {ls : am_L} {st : List Value} {m : am_M} {a : Nat} (hK : mK m a = (1, 10, 0)) : ev d 213 14 ls (.ref a :: st) m = ev d 213 17 ls (va_rf (mR m a 20) :: st) m := q_get (show am_row 213 14 = some (.getfield 52, 3, 10, 20, 0, 1060) from rfl) (by decide) hK
theorem e213_17 {d : Nat} {ls : am_L} {st : List Value} {m : am_M} {l0 : Option Value} {x : Int32} : ev d 213 17 (l0 :: some (.int x) :: ls) st m = ev d 213 18 (l0 :: some (.int x) :: ls) (.int x :: st) m := q_nx (show am_row 213 17 = some (.iload_n 1, 1, 0, 0, 0, 0) from rfl) rfl
theorem e213_18 {d : Nat} {ls : am_L} {st : List Value} {m : am_M} : ev d 213 18 ls st m = ev d 213 19 ls (.int (nI 0) :: st) m := q_nx (show am_row 213 18 = some (.iconst 0, 1, 0, 0, 0, 0) from rfl) rfl
theorem e213_19 {d : Nat} {ls : am_L} {st : List Value} {m : am_M} {a : Nat} {i x : Int32} (hK : (mK m a).1 = 3) (hi : am_ix i (mK m a).2.2 = true) (hb : am_bb x = true) : ev d 213 19 ls (.int x :: .int i :: .ref a :: st) m = ev d 213 20 ls st (sI m a i.toNatClampNeg x) := q_bast (show am_row 213 19 = some (.bastore, 1, 0, 0, 0, 0) from rfl) hK hi hb
theorem e213_20 {d : Nat} {ls : am_L} {st : List Value} {m : am_M} {l0 : Option Value} {x : Int32} : ev d 213 20 (l0 :: some (.int x) :: ls) st m = ev d 213 23 (am_clr l0 :: some (.int (x + (nI 1))) :: ls) st m := q_nx (show am_row 213 20 = some (.iinc 1 1, 3, 0, 0, 0, 0) from rfl) rfl
theorem e213_23 {d : Nat} {ls : am_L} {st : List Value} {m : am_M} : ev d 213 23 ls st m = ev d 213 7 ls st m := q_nx (show am_row 213 23 = some (.goto (-16), 3, 0, 0, 0, 0) from rfl) rfl
theorem e213_26 {d : Nat} {ls : am_L} {st : List Value} {m : am_M} : ev d 213 26 ls st m = ev d 213 27 ls (.int (nI 0) :: st) m := q_nx (show am_row 213 26 = some (.iconst 0, 1, 0, 0, 0, 0) from rfl) rfl
theorem e213_27 {d : Nat} {ls : am_L} {st : List Value} {m : am_M} {l0 : Option Value} {l1 : Option Value} {x : Int32} : ev d 213 27 (l0 :: l1 :: ls) (.int x :: st) m = ev d 213 28 (am_clr l0 :: some (.int x) :: ls) st m := q_nx (show am_row 213 27 = some (.istore_n 1, 1, 0, 0, 0, 0) from rfl) rfl
theorem e213_28 {d : Nat} {ls : am_L} {st : List Value} {m : am_M} : ev d 213 28 ls st m = ev d 213 29 ls (.int (nI 0) :: st) m := q_nx (show am_row 213 28 = some (.iconst 0, 1, 0, 0, 0, 0) from rfl) rfl
theorem e213_29 {d : Nat} {ls : am_L} {st : List Value} {m : am_M} {l0 : Option Value} {l1 : Option Value} {l2 : Option Value} {x : Int32} : ev d 213 29 (l0 :: l1 :: l2 :: ls) (.int x :: st) m = ev d 213 30 (l0 :: am_clr l1 :: some (.int x) :: ls) st m := q_nx (show am_row 213 29 = some (.istore_n 2, 1, 0, 0, 0, 0) from rfl) rfl
theorem e213_30 {d : Nat} {ls : am_L} {st : List Value} {m : am_M} {l0 : Option Value} {x : Int32} : ev d 213 30 (l0 :: some (.int x) :: ls) st m = ev d 213 31 (l0 :: some (.int x) :: ls) (.int x :: st) m := q_nx (show am_row 213 30 = some (.iload_n 1, 1, 0, 0, 0, 0) from rfl) rfl
theorem e213_31 {d : Nat} {ls : am_L} {st : List Value} {m : am_M} {x : Int32} : ev d 213 31 ls (.int x :: st) m = if x < nI 0 then ev d 213 137 ls st m else ev d 213 34 ls st m := q_ite (a := (137, ls, st, m)) (b := (34, ls, st, m)) (show am_row 213 31 = some (.ifCond .lt 106, 3, 0, 0, 0, 0) from rfl) rfl
theorem e213_34 {d : Nat} {ls : am_L} {st : List Value} {m : am_M} {l0 : Option Value} {x : Int32} : ev d 213 34 (l0 :: some (.int x) :: ls) st m = ev d 213 35 (l0 :: some (.int x) :: ls) (.int x :: st) m := q_nx (show am_row 213 34 = some (.iload_n 1, 1, 0, 0, 0, 0) from rfl) rfl
theorem e213_35 {d : Nat} {ls : am_L} {st : List Value} {m : am_M} {x : Nat} : ev d 213 35 (some (.ref x) :: ls) st m = ev d 213 36 (some (.ref x) :: ls) (.ref x :: st) m := q_nx (show am_row 213 35 = some (.aload_n 0, 1, 0, 0, 0, 0) from rfl) rfl
theorem e213_36 {d : Nat} {ls : am_L} {st : List Value} {m : am_M} {a : Nat} (hK : mK m a = (1, 10, 0)) : ev d 213 36 ls (.ref a :: st) m = ev d 213 39 ls (.int (mI m a 16) :: st) m := q_get (show am_row 213 36 = some (.getfield 224, 3, 10, 16, 0, 1056) from rfl) (by decide) hK
theorem e213_39 {d : Nat} {ls : am_L} {st : List Value} {m : am_M} {x y : Int32} : ev d 213 39 ls (.int y :: .int x :: st) m = if x < y then ev d 213 42 ls st m else ev d 213 51 ls st m := q_ite (a := (42, ls, st, m)) (b := (51, ls, st, m)) (show am_row 213 39 = some (.if_icmp .ge 12, 3, 0, 0, 0, 0) from rfl) rfl
theorem e213_42 {d : Nat} {ls : am_L} {st : List Value} {m : am_M} {x : Nat} : ev d 213 42 (some (.ref x) :: ls) st m = ev d 213 43 (some (.ref x) :: ls) (.ref x :: st) m := q_nx (show am_row 213 42 = some (.aload_n 0, 1, 0, 0, 0, 0) from rfl) rfl
theorem e213_43 {d : Nat} {ls : am_L} {st : List Value} {m : am_M} {l0 : Option Value} {x : Int32} : ev d 213 43 (l0 :: some (.int x) :: ls) st m = ev d 213 44 (l0 :: some (.int x) :: ls) (.int x :: st) m := q_nx (show am_row 213 43 = some (.iload_n 1, 1, 0, 0, 0, 0) from rfl) rfl
theorem e213_44 {d : Nat} {ls : am_L} {st : List Value} {m : am_M} {l0 : Option Value} {l1 : Option Value} {x : Int32} : ev d 213 44 (l0 :: l1 :: some (.int x) :: ls) st m = ev d 213 45 (l0 :: l1 :: some (.int x) :: ls) (.int x :: st) m := q_nx (show am_row 213 44 = some (.iload_n 2, 1, 0, 0, 0, 0) from rfl) rfl
theorem e213_45 {d : Nat} {ls : am_L} {st : List Value} {m : am_M} {a : Nat} {v0 : Int32} {v1 : Int32} (hK : mK m a = (1, 10, 0)) (hw : am_w st ≤ 8) : ev (d + 1) 213 45 ls (.int v1 :: .int v0 :: .ref a :: st) m = am_k (cal d 212 [.ref a, .int v0, .int v1] m) (fun v m'' => ev (d + 1) 213 48 ls (v.toList ++ st) m'') := q_cl (show am_row 213 45 = some (.invokevirtual 239, 3, 212, 0, 0, 1407) from rfl) rfl (if_pos ⟨hK, (by show 2 ≤ _; simp only [List.length_cons]; omega), hw⟩)
theorem e213_48 {d : Nat} {ls : am_L} {st : List Value} {m : am_M} : ev d 213 48 ls st m = ev d 213 52 ls st m := q_nx (show am_row 213 48 = some (.goto 4, 3, 0, 0, 0, 0) from rfl) rfl
theorem e213_51 {d : Nat} {ls : am_L} {st : List Value} {m : am_M} : ev d 213 51 ls st m = ev d 213 52 ls (.int (-1) :: st) m := q_nx (show am_row 213 51 = some (.iconst (-1), 1, 0, 0, 0, 0) from rfl) rfl
theorem e213_52 {d : Nat} {ls : am_L} {st : List Value} {m : am_M} {l0 : Option Value} {l1 : Option Value} {l2 : Option Value} {l3 : Option Value} {x : Int32} : ev d 213 52 (l0 :: l1 :: l2 :: l3 :: ls) (.int x :: st) m = ev d 213 53 (l0 :: l1 :: am_clr l2 :: some (.int x) :: ls) st m := q_nx (show am_row 213 52 = some (.istore_n 3, 1, 0, 0, 0, 0) from rfl) rfl
theorem e213_53 {d : Nat} {ls : am_L} {st : List Value} {m : am_M} {l0 : Option Value} {x : Int32} : ev d 213 53 (l0 :: some (.int x) :: ls) st m = ev d 213 54 (l0 :: some (.int x) :: ls) (.int x :: st) m := q_nx (show am_row 213 53 = some (.iload_n 1, 1, 0, 0, 0, 0) from rfl) rfl
theorem e213_54 {d : Nat} {ls : am_L} {st : List Value} {m : am_M} {x : Nat} : ev d 213 54 (some (.ref x) :: ls) st m = ev d 213 55 (some (.ref x) :: ls) (.ref x :: st) m := q_nx (show am_row 213 54 = some (.aload_n 0, 1, 0, 0, 0, 0) from rfl) rfl
theorem e213_55 {d : Nat} {ls : am_L} {st : List Value} {m : am_M} {a : Nat} (hK : mK m a = (1, 10, 0)) : ev d 213 55 ls (.ref a :: st) m = ev d 213 58 ls (.int (mI m a 16) :: st) m := q_get (show am_row 213 55 = some (.getfield 224, 3, 10, 16, 0, 1056) from rfl) (by decide) hK
theorem e213_58 {d : Nat} {ls : am_L} {st : List Value} {m : am_M} {x y : Int32} : ev d 213 58 ls (.int y :: .int x :: st) m = if x = y then ev d 213 61 ls st m else ev d 213 65 ls st m := q_ite (a := (61, ls, st, m)) (b := (65, ls, st, m)) (show am_row 213 58 = some (.if_icmp .ne 7, 3, 0, 0, 0, 0) from rfl) rfl
theorem e213_61 {d : Nat} {ls : am_L} {st : List Value} {m : am_M} {x : Nat} : ev d 213 61 (some (.ref x) :: ls) st m = ev d 213 62 (some (.ref x) :: ls) (.ref x :: st) m := q_nx (show am_row 213 61 = some (.aload_n 0, 1, 0, 0, 0, 0) from rfl) rfl
theorem e213_62 {d : Nat} {ls : am_L} {st : List Value} {m : am_M} {a : Nat} (hK : mK m a = (1, 10, 0)) (hw : am_w st ≤ 8) : ev (d + 1) 213 62 ls (.ref a :: st) m = am_k (cal d 211 [.ref a] m) (fun v m'' => ev (d + 1) 213 65 ls (v.toList ++ st) m'') := q_cl (show am_row 213 62 = some (.invokevirtual 242, 3, 211, 0, 0, 1411) from rfl) rfl (if_pos ⟨hK, (Nat.zero_le _), hw⟩)
theorem e213_65 {d : Nat} {ls : am_L} {st : List Value} {m : am_M} {l0 : Option Value} {l1 : Option Value} {l2 : Option Value} {x : Int32} : ev d 213 65 (l0 :: l1 :: l2 :: some (.int x) :: ls) st m = ev d 213 66 (l0 :: l1 :: l2 :: some (.int x) :: ls) (.int x :: st) m := q_nx (show am_row 213 65 = some (.iload_n 3, 1, 0, 0, 0, 0) from rfl) rfl
theorem e213_66 {d : Nat} {ls : am_L} {st : List Value} {m : am_M} {x : Int32} : ev d 213 66 ls (.int x :: st) m = if x < nI 0 then ev d 213 84 ls st m else ev d 213 69 ls st m := q_ite (a := (84, ls, st, m)) (b := (69, ls, st, m)) (show am_row 213 66 = some (.ifCond .lt 18, 3, 0, 0, 0, 0) from rfl) rfl
theorem e213_69 {d : Nat} {ls : am_L} {st : List Value} {m : am_M} {x : Nat} : ev d 213 69 (some (.ref x) :: ls) st m = ev d 213 70 (some (.ref x) :: ls) (.ref x :: st) m := q_nx (show am_row 213 69 = some (.aload_n 0, 1, 0, 0, 0, 0) from rfl) rfl
theorem e213_70 {d : Nat} {ls : am_L} {st : List Value} {m : am_M} {a : Nat} (hK : mK m a = (1, 10, 0)) : ev d 213 70 ls (.ref a :: st) m = ev d 213 73 ls (va_rf (mR m a 19) :: st) m := q_get (show am_row 213 70 = some (.getfield 49, 3, 10, 19, 0, 1059) from rfl) (by decide) hK
theorem e213_73 {d : Nat} {ls : am_L} {st : List Value} {m : am_M} {l0 : Option Value} {x : Int32} : ev d 213 73 (l0 :: some (.int x) :: ls) st m = ev d 213 74 (l0 :: some (.int x) :: ls) (.int x :: st) m := q_nx (show am_row 213 73 = some (.iload_n 1, 1, 0, 0, 0, 0) from rfl) rfl
theorem e213_74 {d : Nat} {ls : am_L} {st : List Value} {m : am_M} {l0 : Option Value} {l1 : Option Value} {l2 : Option Value} {x : Int32} : ev d 213 74 (l0 :: l1 :: l2 :: some (.int x) :: ls) st m = ev d 213 75 (l0 :: l1 :: l2 :: some (.int x) :: ls) (.int x :: st) m := q_nx (show am_row 213 74 = some (.iload_n 3, 1, 0, 0, 0, 0) from rfl) rfl
theorem e213_75 {d : Nat} {ls : am_L} {st : List Value} {m : am_M} {a : Nat} {i x : Int32} (hK : (mK m a).1 = 2) (hi : am_ix i (mK m a).2.2 = true) : ev d 213 75 ls (.int x :: .int i :: .ref a :: st) m = ev d 213 76 ls st (sI m a i.toNatClampNeg x) := q_iast (show am_row 213 75 = some (.iastore, 1, 0, 0, 0, 0) from rfl) hK hi
theorem e213_76 {d : Nat} {ls : am_L} {st : List Value} {m : am_M} {l0 : Option Value} {x : Int32} : ev d 213 76 (l0 :: some (.int x) :: ls) st m = ev d 213 79 (am_clr l0 :: some (.int (x + (nI 1))) :: ls) st m := q_nx (show am_row 213 76 = some (.iinc 1 1, 3, 0, 0, 0, 0) from rfl) rfl
theorem e213_79 {d : Nat} {ls : am_L} {st : List Value} {m : am_M} : ev d 213 79 ls st m = ev d 213 80 ls (.int (nI 0) :: st) m := q_nx (show am_row 213 79 = some (.iconst 0, 1, 0, 0, 0, 0) from rfl) rfl
theorem e213_80 {d : Nat} {ls : am_L} {st : List Value} {m : am_M} {l0 : Option Value} {l1 : Option Value} {l2 : Option Value} {x : Int32} : ev d 213 80 (l0 :: l1 :: l2 :: ls) (.int x :: st) m = ev d 213 81 (l0 :: am_clr l1 :: some (.int x) :: ls) st m := q_nx (show am_row 213 80 = some (.istore_n 2, 1, 0, 0, 0, 0) from rfl) rfl
theorem e213_81 {d : Nat} {ls : am_L} {st : List Value} {m : am_M} : ev d 213 81 ls st m = ev d 213 134 ls st m := q_nx (show am_row 213 81 = some (.goto 53, 3, 0, 0, 0, 0) from rfl) rfl
theorem e213_84 {d : Nat} {ls : am_L} {st : List Value} {m : am_M} {l0 : Option Value} {x : Int32} : ev d 213 84 (l0 :: some (.int x) :: ls) st m = ev d 213 87 (am_clr l0 :: some (.int (x + (-1))) :: ls) st m := q_nx (show am_row 213 84 = some (.iinc 1 (-1), 3, 0, 0, 0, 0) from rfl) rfl
theorem e213_87 {d : Nat} {ls : am_L} {st : List Value} {m : am_M} {l0 : Option Value} {x : Int32} : ev d 213 87 (l0 :: some (.int x) :: ls) st m = ev d 213 88 (l0 :: some (.int x) :: ls) (.int x :: st) m := q_nx (show am_row 213 87 = some (.iload_n 1, 1, 0, 0, 0, 0) from rfl) rfl
theorem e213_88 {d : Nat} {ls : am_L} {st : List Value} {m : am_M} {x : Int32} : ev d 213 88 ls (.int x :: st) m = if x < nI 0 then ev d 213 134 ls st m else ev d 213 91 ls st m := q_ite (a := (134, ls, st, m)) (b := (91, ls, st, m)) (show am_row 213 88 = some (.ifCond .lt 46, 3, 0, 0, 0, 0) from rfl) rfl
theorem e213_91 {d : Nat} {ls : am_L} {st : List Value} {m : am_M} {x : Nat} : ev d 213 91 (some (.ref x) :: ls) st m = ev d 213 92 (some (.ref x) :: ls) (.ref x :: st) m := q_nx (show am_row 213 91 = some (.aload_n 0, 1, 0, 0, 0, 0) from rfl) rfl
theorem e213_92 {d : Nat} {ls : am_L} {st : List Value} {m : am_M} {a : Nat} (hK : mK m a = (1, 10, 0)) : ev d 213 92 ls (.ref a :: st) m = ev d 213 95 ls (va_rf (mR m a 20) :: st) m := q_get (show am_row 213 92 = some (.getfield 52, 3, 10, 20, 0, 1060) from rfl) (by decide) hK
theorem e213_95 {d : Nat} {ls : am_L} {st : List Value} {m : am_M} {x : Nat} : ev d 213 95 (some (.ref x) :: ls) st m = ev d 213 96 (some (.ref x) :: ls) (.ref x :: st) m := q_nx (show am_row 213 95 = some (.aload_n 0, 1, 0, 0, 0, 0) from rfl) rfl
theorem e213_96 {d : Nat} {ls : am_L} {st : List Value} {m : am_M} {a : Nat} (hK : mK m a = (1, 10, 0)) : ev d 213 96 ls (.ref a :: st) m = ev d 213 99 ls (va_rf (mR m a 19) :: st) m := q_get (show am_row 213 96 = some (.getfield 49, 3, 10, 19, 0, 1059) from rfl) (by decide) hK
theorem e213_99 {d : Nat} {ls : am_L} {st : List Value} {m : am_M} {l0 : Option Value} {x : Int32} : ev d 213 99 (l0 :: some (.int x) :: ls) st m = ev d 213 100 (l0 :: some (.int x) :: ls) (.int x :: st) m := q_nx (show am_row 213 99 = some (.iload_n 1, 1, 0, 0, 0, 0) from rfl) rfl
theorem e213_100 {d : Nat} {ls : am_L} {st : List Value} {m : am_M} {a : Nat} {i : Int32} (hK : (mK m a).1 = 2) (hi : am_ix i (mK m a).2.2 = true) : ev d 213 100 ls (.int i :: .ref a :: st) m = ev d 213 101 ls (.int (mI m a i.toNatClampNeg) :: st) m := q_iald (show am_row 213 100 = some (.iaload, 1, 0, 0, 0, 0) from rfl) hK hi
theorem e213_101 {d : Nat} {ls : am_L} {st : List Value} {m : am_M} : ev d 213 101 ls st m = ev d 213 103 ls (.int (nI 6) :: st) m := q_nx (show am_row 213 101 = some (.bipush 6, 2, 0, 0, 0, 0) from rfl) rfl
theorem e213_103 {d : Nat} {ls : am_L} {st : List Value} {m : am_M} {x y : Int32} (hy : ¬ y = 0) : ev d 213 103 ls (.int y :: .int x :: st) m = ev d 213 104 ls (.int (x - x / y * y) :: st) m := q_irem (show am_row 213 103 = some (.irem, 1, 0, 0, 0, 0) from rfl) hy
theorem e213_104 {d : Nat} {ls : am_L} {st : List Value} {m : am_M} : ev d 213 104 ls st m = ev d 213 105 ls (.int (nI 0) :: st) m := q_nx (show am_row 213 104 = some (.iconst 0, 1, 0, 0, 0, 0) from rfl) rfl
theorem e213_105 {d : Nat} {ls : am_L} {st : List Value} {m : am_M} {a : Nat} {i x : Int32} (hK : (mK m a).1 = 3) (hi : am_ix i (mK m a).2.2 = true) (hb : am_bb x = true) : ev d 213 105 ls (.int x :: .int i :: .ref a :: st) m = ev d 213 106 ls st (sI m a i.toNatClampNeg x) := q_bast (show am_row 213 105 = some (.bastore, 1, 0, 0, 0, 0) from rfl) hK hi hb
theorem e213_106 {d : Nat} {ls : am_L} {st : List Value} {m : am_M} {x : Nat} : ev d 213 106 (some (.ref x) :: ls) st m = ev d 213 107 (some (.ref x) :: ls) (.ref x :: st) m := q_nx (show am_row 213 106 = some (.aload_n 0, 1, 0, 0, 0, 0) from rfl) rfl
theorem e213_107 {d : Nat} {ls : am_L} {st : List Value} {m : am_M} {x : Nat} : ev d 213 107 (some (.ref x) :: ls) st m = ev d 213 108 (some (.ref x) :: ls) (.ref x :: st) m := q_nx (show am_row 213 107 = some (.aload_n 0, 1, 0, 0, 0, 0) from rfl) rfl
theorem e213_108 {d : Nat} {ls : am_L} {st : List Value} {m : am_M} {a : Nat} (hK : mK m a = (1, 10, 0)) : ev d 213 108 ls (.ref a :: st) m = ev d 213 111 ls (va_rf (mR m a 15) :: st) m := q_get (show am_row 213 108 = some (.getfield 43, 3, 10, 15, 0, 1055) from rfl) (by decide) hK
theorem e213_111 {d : Nat} {ls : am_L} {st : List Value} {m : am_M} {x : Nat} : ev d 213 111 (some (.ref x) :: ls) st m = ev d 213 112 (some (.ref x) :: ls) (.ref x :: st) m := q_nx (show am_row 213 111 = some (.aload_n 0, 1, 0, 0, 0, 0) from rfl) rfl
theorem e213_112 {d : Nat} {ls : am_L} {st : List Value} {m : am_M} {a : Nat} (hK : mK m a = (1, 10, 0)) : ev d 213 112 ls (.ref a :: st) m = ev d 213 115 ls (va_rf (mR m a 19) :: st) m := q_get (show am_row 213 112 = some (.getfield 49, 3, 10, 19, 0, 1059) from rfl) (by decide) hK
theorem e213_115 {d : Nat} {ls : am_L} {st : List Value} {m : am_M} {l0 : Option Value} {x : Int32} : ev d 213 115 (l0 :: some (.int x) :: ls) st m = ev d 213 116 (l0 :: some (.int x) :: ls) (.int x :: st) m := q_nx (show am_row 213 115 = some (.iload_n 1, 1, 0, 0, 0, 0) from rfl) rfl
theorem e213_116 {d : Nat} {ls : am_L} {st : List Value} {m : am_M} {a : Nat} {i : Int32} (hK : (mK m a).1 = 2) (hi : am_ix i (mK m a).2.2 = true) : ev d 213 116 ls (.int i :: .ref a :: st) m = ev d 213 117 ls (.int (mI m a i.toNatClampNeg) :: st) m := q_iald (show am_row 213 116 = some (.iaload, 1, 0, 0, 0, 0) from rfl) hK hi
theorem e213_117 {d : Nat} {ls : am_L} {st : List Value} {m : am_M} : ev d 213 117 ls st m = ev d 213 119 ls (.int (nI 6) :: st) m := q_nx (show am_row 213 117 = some (.bipush 6, 2, 0, 0, 0, 0) from rfl) rfl
theorem e213_119 {d : Nat} {ls : am_L} {st : List Value} {m : am_M} {x y : Int32} (hy : ¬ y = 0) : ev d 213 119 ls (.int y :: .int x :: st) m = ev d 213 120 ls (.int (x - x / y * y) :: st) m := q_irem (show am_row 213 119 = some (.irem, 1, 0, 0, 0, 0) from rfl) hy
theorem e213_120 {d : Nat} {ls : am_L} {st : List Value} {m : am_M} {a : Nat} {i : Int32} (hK : (mK m a).1 = 2) (hi : am_ix i (mK m a).2.2 = true) : ev d 213 120 ls (.int i :: .ref a :: st) m = ev d 213 121 ls (.int (mI m a i.toNatClampNeg) :: st) m := q_iald (show am_row 213 120 = some (.iaload, 1, 0, 0, 0, 0) from rfl) hK hi
theorem e213_121 {d : Nat} {ls : am_L} {st : List Value} {m : am_M} : ev d 213 121 ls st m = ev d 213 122 ls (.int (nI 0) :: st) m := q_nx (show am_row 213 121 = some (.iconst 0, 1, 0, 0, 0, 0) from rfl) rfl
theorem e213_122 {d : Nat} {ls : am_L} {st : List Value} {m : am_M} {a : Nat} {v0 : Int32} {v1 : Int32} (hK : mK m a = (1, 10, 0)) (hw : am_w st ≤ 8) : ev (d + 1) 213 122 ls (.int v1 :: .int v0 :: .ref a :: st) m = am_k (cal d 157 [.ref a, .int v0, .int v1] m) (fun v m'' => ev (d + 1) 213 125 ls (v.toList ++ st) m'') := q_cl (show am_row 213 122 = some (.invokevirtual 160, 3, 157, 0, 0, 1296) from rfl) rfl (if_pos ⟨hK, (by show 2 ≤ _; simp only [List.length_cons]; omega), hw⟩)
theorem e213_125 {d : Nat} {ls : am_L} {st : List Value} {m : am_M} {x : Nat} : ev d 213 125 (some (.ref x) :: ls) st m = ev d 213 126 (some (.ref x) :: ls) (.ref x :: st) m := q_nx (show am_row 213 125 = some (.aload_n 0, 1, 0, 0, 0, 0) from rfl) rfl
theorem e213_126 {d : Nat} {ls : am_L} {st : List Value} {m : am_M} {a : Nat} (hK : mK m a = (1, 10, 0)) : ev d 213 126 ls (.ref a :: st) m = ev d 213 129 ls (va_rf (mR m a 19) :: st) m := q_get (show am_row 213 126 = some (.getfield 49, 3, 10, 19, 0, 1059) from rfl) (by decide) hK
theorem e213_129 {d : Nat} {ls : am_L} {st : List Value} {m : am_M} {l0 : Option Value} {x : Int32} : ev d 213 129 (l0 :: some (.int x) :: ls) st m = ev d 213 130 (l0 :: some (.int x) :: ls) (.int x :: st) m := q_nx (show am_row 213 129 = some (.iload_n 1, 1, 0, 0, 0, 0) from rfl) rfl
theorem e213_130 {d : Nat} {ls : am_L} {st : List Value} {m : am_M} {a : Nat} {i : Int32} (hK : (mK m a).1 = 2) (hi : am_ix i (mK m a).2.2 = true) : ev d 213 130 ls (.int i :: .ref a :: st) m = ev d 213 131 ls (.int (mI m a i.toNatClampNeg) :: st) m := q_iald (show am_row 213 130 = some (.iaload, 1, 0, 0, 0, 0) from rfl) hK hi
theorem e213_131 {d : Nat} {ls : am_L} {st : List Value} {m : am_M} : ev d 213 131 ls st m = ev d 213 132 ls (.int (nI 1) :: st) m := q_nx (show am_row 213 131 = some (.iconst 1, 1, 0, 0, 0, 0) from rfl) rfl
theorem e213_132 {d : Nat} {ls : am_L} {st : List Value} {m : am_M} {x y : Int32} : ev d 213 132 ls (.int y :: .int x :: st) m = ev d 213 133 ls (.int (x + y) :: st) m := q_nx (show am_row 213 132 = some (.iadd, 1, 0, 0, 0, 0) from rfl) rfl
theorem e213_133 {d : Nat} {ls : am_L} {st : List Value} {m : am_M} {l0 : Option Value} {l1 : Option Value} {l2 : Option Value} {x : Int32} : ev d 213 133 (l0 :: l1 :: l2 :: ls) (.int x :: st) m = ev d 213 134 (l0 :: am_clr l1 :: some (.int x) :: ls) st m := q_nx (show am_row 213 133 = some (.istore_n 2, 1, 0, 0, 0, 0) from rfl) rfl
theorem e213_134 {d : Nat} {ls : am_L} {st : List Value} {m : am_M} : ev d 213 134 ls st m = ev d 213 30 ls st m := q_nx (show am_row 213 134 = some (.goto (-104), 3, 0, 0, 0, 0) from rfl) rfl
theorem e213_137 {d : Nat} {ls : am_L} {m : am_M} : ev d 213 137 ls [] m = some (none, m) := q_rt (show am_row 213 137 = some (.return_, 1, 0, 0, 0, 0) from rfl) rfl
theorem c214 {d : Nat} {m : am_M} {a : Nat} : cal d 214 [.ref a] m = ev d 214 0 [some (.ref a), none, none] [] m := rfl
theorem e214_0 {d : Nat} {ls : am_L} {st : List Value} {m : am_M} {x : Nat} : ev d 214 0 (some (.ref x) :: ls) st m = ev d 214 1 (some (.ref x) :: ls) (.ref x :: st) m := q_nx (show am_row 214 0 = some (.aload_n 0, 1, 0, 0, 0, 0) from rfl) rfl
theorem e214_1 {d : Nat} {ls : am_L} {st : List Value} {m : am_M} {a : Nat} (hK : mK m a = (1, 10, 0)) (hw : am_w st ≤ 8) : ev (d + 1) 214 1 ls (.ref a :: st) m = am_k (cal d 207 [.ref a] m) (fun v m'' => ev (d + 1) 214 4 ls (v.toList ++ st) m'') := q_cl (show am_row 214 1 = some (.invokevirtual 245, 3, 207, 0, 0, 1395) from rfl) rfl (if_pos ⟨hK, (Nat.zero_le _), hw⟩)
theorem e214_4 {d : Nat} {ls : am_L} {st : List Value} {m : am_M} {l0 : Option Value} {l1 : Option Value} {x : Int32} : ev d 214 4 (l0 :: l1 :: ls) (.int x :: st) m = ev d 214 5 (am_clr l0 :: some (.int x) :: ls) st m := q_nx (show am_row 214 4 = some (.istore_n 1, 1, 0, 0, 0, 0) from rfl) rfl
theorem e214_5 {d : Nat} {ls : am_L} {st : List Value} {m : am_M} {l0 : Option Value} {x : Int32} : ev d 214 5 (l0 :: some (.int x) :: ls) st m = ev d 214 6 (l0 :: some (.int x) :: ls) (.int x :: st) m := q_nx (show am_row 214 5 = some (.iload_n 1, 1, 0, 0, 0, 0) from rfl) rfl
theorem e214_6 {d : Nat} {ls : am_L} {st : List Value} {m : am_M} {x : Int32} : ev d 214 6 ls (.int x :: st) m = if x < nI 0 then ev d 214 9 ls st m else ev d 214 11 ls st m := q_ite (a := (9, ls, st, m)) (b := (11, ls, st, m)) (show am_row 214 6 = some (.ifCond .ge 5, 3, 0, 0, 0, 0) from rfl) rfl
theorem e214_9 {d : Nat} {ls : am_L} {st : List Value} {m : am_M} {l0 : Option Value} {x : Int32} : ev d 214 9 (l0 :: some (.int x) :: ls) st m = ev d 214 10 (l0 :: some (.int x) :: ls) (.int x :: st) m := q_nx (show am_row 214 9 = some (.iload_n 1, 1, 0, 0, 0, 0) from rfl) rfl
theorem e214_10 {d : Nat} {ls : am_L} {m : am_M} {x : Int32} : ev d 214 10 ls [.int x] m = some (some (.int x), m) := q_iret (show am_row 214 10 = some (.ireturn, 1, 0, 0, 0, 0) from rfl)
theorem e214_11 {d : Nat} {ls : am_L} {st : List Value} {m : am_M} {x : Nat} : ev d 214 11 (some (.ref x) :: ls) st m = ev d 214 12 (some (.ref x) :: ls) (.ref x :: st) m := q_nx (show am_row 214 11 = some (.aload_n 0, 1, 0, 0, 0, 0) from rfl) rfl
theorem e214_12 {d : Nat} {ls : am_L} {st : List Value} {m : am_M} {a : Nat} (hK : mK m a = (1, 10, 0)) (hw : am_w st ≤ 8) : ev (d + 1) 214 12 ls (.ref a :: st) m = am_k (cal d 213 [.ref a] m) (fun v m'' => ev (d + 1) 214 15 ls (v.toList ++ st) m'') := q_cl (show am_row 214 12 = some (.invokevirtual 248, 3, 213, 0, 0, 1403) from rfl) rfl (if_pos ⟨hK, (Nat.zero_le _), hw⟩)
theorem e214_15 {d : Nat} {ls : am_L} {st : List Value} {m : am_M} : ev d 214 15 ls st m = ev d 214 16 ls (.int (nI 0) :: st) m := q_nx (show am_row 214 15 = some (.iconst 0, 1, 0, 0, 0, 0) from rfl) rfl
theorem e214_16 {d : Nat} {ls : am_L} {st : List Value} {m : am_M} {l0 : Option Value} {l1 : Option Value} {l2 : Option Value} {x : Int32} : ev d 214 16 (l0 :: l1 :: l2 :: ls) (.int x :: st) m = ev d 214 17 (l0 :: am_clr l1 :: some (.int x) :: ls) st m := q_nx (show am_row 214 16 = some (.istore_n 2, 1, 0, 0, 0, 0) from rfl) rfl
theorem e214_17 {d : Nat} {ls : am_L} {st : List Value} {m : am_M} {l0 : Option Value} {l1 : Option Value} {x : Int32} : ev d 214 17 (l0 :: l1 :: some (.int x) :: ls) st m = ev d 214 18 (l0 :: l1 :: some (.int x) :: ls) (.int x :: st) m := q_nx (show am_row 214 17 = some (.iload_n 2, 1, 0, 0, 0, 0) from rfl) rfl
theorem e214_18 {d : Nat} {ls : am_L} {st : List Value} {m : am_M} : ev d 214 18 ls st m = ev d 214 21 ls (.int (nI 400) :: st) m := q_nx (show am_row 214 18 = some (.sipush 400, 3, 0, 0, 0, 0) from rfl) rfl
theorem e214_21 {d : Nat} {ls : am_L} {st : List Value} {m : am_M} {x y : Int32} : ev d 214 21 ls (.int y :: .int x :: st) m = if x < y then ev d 214 24 ls st m else ev d 214 52 ls st m := q_ite (a := (24, ls, st, m)) (b := (52, ls, st, m)) (show am_row 214 21 = some (.if_icmp .ge 31, 3, 0, 0, 0, 0) from rfl) rfl
theorem e214_24 {d : Nat} {ls : am_L} {st : List Value} {m : am_M} {x : Nat} : ev d 214 24 (some (.ref x) :: ls) st m = ev d 214 25 (some (.ref x) :: ls) (.ref x :: st) m := q_nx (show am_row 214 24 = some (.aload_n 0, 1, 0, 0, 0, 0) from rfl) rfl
theorem e214_25 {d : Nat} {ls : am_L} {st : List Value} {m : am_M} {a : Nat} (hK : mK m a = (1, 10, 0)) : ev d 214 25 ls (.ref a :: st) m = ev d 214 28 ls (va_rf (mR m a 0) :: st) m := q_get (show am_row 214 25 = some (.getfield 7, 3, 10, 0, 0, 1040) from rfl) (by decide) hK
theorem e214_28 {d : Nat} {ls : am_L} {st : List Value} {m : am_M} : ev d 214 28 ls st m = ev d 214 31 ls (.int (nI 5300) :: st) m := q_nx (show am_row 214 28 = some (.sipush 5300, 3, 0, 0, 0, 0) from rfl) rfl
theorem e214_31 {d : Nat} {ls : am_L} {st : List Value} {m : am_M} {l0 : Option Value} {l1 : Option Value} {x : Int32} : ev d 214 31 (l0 :: l1 :: some (.int x) :: ls) st m = ev d 214 32 (l0 :: l1 :: some (.int x) :: ls) (.int x :: st) m := q_nx (show am_row 214 31 = some (.iload_n 2, 1, 0, 0, 0, 0) from rfl) rfl
theorem e214_32 {d : Nat} {ls : am_L} {st : List Value} {m : am_M} {x y : Int32} : ev d 214 32 ls (.int y :: .int x :: st) m = ev d 214 33 ls (.int (x + y) :: st) m := q_nx (show am_row 214 32 = some (.iadd, 1, 0, 0, 0, 0) from rfl) rfl
theorem e214_33 {d : Nat} {ls : am_L} {st : List Value} {m : am_M} : ev d 214 33 ls st m = ev d 214 34 ls (.int (-1) :: st) m := q_nx (show am_row 214 33 = some (.iconst (-1), 1, 0, 0, 0, 0) from rfl) rfl
theorem e214_34 {d : Nat} {ls : am_L} {st : List Value} {m : am_M} {a : Nat} {i x : Int32} (hK : (mK m a).1 = 2) (hi : am_ix i (mK m a).2.2 = true) : ev d 214 34 ls (.int x :: .int i :: .ref a :: st) m = ev d 214 35 ls st (sI m a i.toNatClampNeg x) := q_iast (show am_row 214 34 = some (.iastore, 1, 0, 0, 0, 0) from rfl) hK hi
theorem e214_35 {d : Nat} {ls : am_L} {st : List Value} {m : am_M} {x : Nat} : ev d 214 35 (some (.ref x) :: ls) st m = ev d 214 36 (some (.ref x) :: ls) (.ref x :: st) m := q_nx (show am_row 214 35 = some (.aload_n 0, 1, 0, 0, 0, 0) from rfl) rfl
theorem e214_36 {d : Nat} {ls : am_L} {st : List Value} {m : am_M} {a : Nat} (hK : mK m a = (1, 10, 0)) : ev d 214 36 ls (.ref a :: st) m = ev d 214 39 ls (va_rf (mR m a 0) :: st) m := q_get (show am_row 214 36 = some (.getfield 7, 3, 10, 0, 0, 1040) from rfl) (by decide) hK
theorem e214_39 {d : Nat} {ls : am_L} {st : List Value} {m : am_M} : ev d 214 39 ls st m = ev d 214 42 ls (.int (nI 5700) :: st) m := q_nx (show am_row 214 39 = some (.sipush 5700, 3, 0, 0, 0, 0) from rfl) rfl
theorem e214_42 {d : Nat} {ls : am_L} {st : List Value} {m : am_M} {l0 : Option Value} {l1 : Option Value} {x : Int32} : ev d 214 42 (l0 :: l1 :: some (.int x) :: ls) st m = ev d 214 43 (l0 :: l1 :: some (.int x) :: ls) (.int x :: st) m := q_nx (show am_row 214 42 = some (.iload_n 2, 1, 0, 0, 0, 0) from rfl) rfl
theorem e214_43 {d : Nat} {ls : am_L} {st : List Value} {m : am_M} {x y : Int32} : ev d 214 43 ls (.int y :: .int x :: st) m = ev d 214 44 ls (.int (x + y) :: st) m := q_nx (show am_row 214 43 = some (.iadd, 1, 0, 0, 0, 0) from rfl) rfl
theorem e214_44 {d : Nat} {ls : am_L} {st : List Value} {m : am_M} : ev d 214 44 ls st m = ev d 214 45 ls (.int (-1) :: st) m := q_nx (show am_row 214 44 = some (.iconst (-1), 1, 0, 0, 0, 0) from rfl) rfl
theorem e214_45 {d : Nat} {ls : am_L} {st : List Value} {m : am_M} {a : Nat} {i x : Int32} (hK : (mK m a).1 = 2) (hi : am_ix i (mK m a).2.2 = true) : ev d 214 45 ls (.int x :: .int i :: .ref a :: st) m = ev d 214 46 ls st (sI m a i.toNatClampNeg x) := q_iast (show am_row 214 45 = some (.iastore, 1, 0, 0, 0, 0) from rfl) hK hi
theorem e214_46 {d : Nat} {ls : am_L} {st : List Value} {m : am_M} {l0 : Option Value} {l1 : Option Value} {x : Int32} : ev d 214 46 (l0 :: l1 :: some (.int x) :: ls) st m = ev d 214 49 (l0 :: am_clr l1 :: some (.int (x + (nI 1))) :: ls) st m := q_nx (show am_row 214 46 = some (.iinc 2 1, 3, 0, 0, 0, 0) from rfl) rfl
theorem e214_49 {d : Nat} {ls : am_L} {st : List Value} {m : am_M} : ev d 214 49 ls st m = ev d 214 17 ls st m := q_nx (show am_row 214 49 = some (.goto (-32), 3, 0, 0, 0, 0) from rfl) rfl
theorem e214_52 {d : Nat} {ls : am_L} {st : List Value} {m : am_M} : ev d 214 52 ls st m = ev d 214 53 ls (.int (nI 0) :: st) m := q_nx (show am_row 214 52 = some (.iconst 0, 1, 0, 0, 0, 0) from rfl) rfl
theorem e214_53 {d : Nat} {ls : am_L} {st : List Value} {m : am_M} {l0 : Option Value} {l1 : Option Value} {l2 : Option Value} {x : Int32} : ev d 214 53 (l0 :: l1 :: l2 :: ls) (.int x :: st) m = ev d 214 54 (l0 :: am_clr l1 :: some (.int x) :: ls) st m := q_nx (show am_row 214 53 = some (.istore_n 2, 1, 0, 0, 0, 0) from rfl) rfl
theorem e214_54 {d : Nat} {ls : am_L} {st : List Value} {m : am_M} {l0 : Option Value} {l1 : Option Value} {x : Int32} : ev d 214 54 (l0 :: l1 :: some (.int x) :: ls) st m = ev d 214 55 (l0 :: l1 :: some (.int x) :: ls) (.int x :: st) m := q_nx (show am_row 214 54 = some (.iload_n 2, 1, 0, 0, 0, 0) from rfl) rfl
theorem e214_55 {d : Nat} {ls : am_L} {st : List Value} {m : am_M} {x : Nat} : ev d 214 55 (some (.ref x) :: ls) st m = ev d 214 56 (some (.ref x) :: ls) (.ref x :: st) m := q_nx (show am_row 214 55 = some (.aload_n 0, 1, 0, 0, 0, 0) from rfl) rfl
theorem e214_56 {d : Nat} {ls : am_L} {st : List Value} {m : am_M} {a : Nat} (hK : mK m a = (1, 10, 0)) : ev d 214 56 ls (.ref a :: st) m = ev d 214 59 ls (.int (mI m a 16) :: st) m := q_get (show am_row 214 56 = some (.getfield 224, 3, 10, 16, 0, 1056) from rfl) (by decide) hK
theorem e214_59 {d : Nat} {ls : am_L} {st : List Value} {m : am_M} {x y : Int32} : ev d 214 59 ls (.int y :: .int x :: st) m = if x < y then ev d 214 62 ls st m else ev d 214 117 ls st m := q_ite (a := (62, ls, st, m)) (b := (117, ls, st, m)) (show am_row 214 59 = some (.if_icmp .ge 58, 3, 0, 0, 0, 0) from rfl) rfl
theorem e214_62 {d : Nat} {ls : am_L} {st : List Value} {m : am_M} {x : Nat} : ev d 214 62 (some (.ref x) :: ls) st m = ev d 214 63 (some (.ref x) :: ls) (.ref x :: st) m := q_nx (show am_row 214 62 = some (.aload_n 0, 1, 0, 0, 0, 0) from rfl) rfl
theorem e214_63 {d : Nat} {ls : am_L} {st : List Value} {m : am_M} {a : Nat} (hK : mK m a = (1, 10, 0)) : ev d 214 63 ls (.ref a :: st) m = ev d 214 66 ls (.int (mI m a 23) :: st) m := q_get (show am_row 214 63 = some (.getfield 230, 3, 10, 23, 0, 1063) from rfl) (by decide) hK
theorem e214_66 {d : Nat} {ls : am_L} {st : List Value} {m : am_M} {x : Int32} : ev d 214 66 ls (.int x :: st) m = if x < nI 0 then ev d 214 117 ls st m else ev d 214 69 ls st m := q_ite (a := (117, ls, st, m)) (b := (69, ls, st, m)) (show am_row 214 66 = some (.ifCond .lt 51, 3, 0, 0, 0, 0) from rfl) rfl
theorem e214_69 {d : Nat} {ls : am_L} {st : List Value} {m : am_M} {x : Nat} : ev d 214 69 (some (.ref x) :: ls) st m = ev d 214 70 (some (.ref x) :: ls) (.ref x :: st) m := q_nx (show am_row 214 69 = some (.aload_n 0, 1, 0, 0, 0, 0) from rfl) rfl
theorem e214_70 {d : Nat} {ls : am_L} {st : List Value} {m : am_M} {a : Nat} (hK : mK m a = (1, 10, 0)) : ev d 214 70 ls (.ref a :: st) m = ev d 214 73 ls (va_rf (mR m a 0) :: st) m := q_get (show am_row 214 70 = some (.getfield 7, 3, 10, 0, 0, 1040) from rfl) (by decide) hK
theorem e214_73 {d : Nat} {ls : am_L} {st : List Value} {m : am_M} : ev d 214 73 ls st m = ev d 214 76 ls (.int (nI 5300) :: st) m := q_nx (show am_row 214 73 = some (.sipush 5300, 3, 0, 0, 0, 0) from rfl) rfl
theorem e214_76 {d : Nat} {ls : am_L} {st : List Value} {m : am_M} {x : Nat} : ev d 214 76 (some (.ref x) :: ls) st m = ev d 214 77 (some (.ref x) :: ls) (.ref x :: st) m := q_nx (show am_row 214 76 = some (.aload_n 0, 1, 0, 0, 0, 0) from rfl) rfl
theorem e214_77 {d : Nat} {ls : am_L} {st : List Value} {m : am_M} {a : Nat} (hK : mK m a = (1, 10, 0)) : ev d 214 77 ls (.ref a :: st) m = ev d 214 80 ls (va_rf (mR m a 15) :: st) m := q_get (show am_row 214 77 = some (.getfield 43, 3, 10, 15, 0, 1055) from rfl) (by decide) hK
theorem e214_80 {d : Nat} {ls : am_L} {st : List Value} {m : am_M} {l0 : Option Value} {l1 : Option Value} {x : Int32} : ev d 214 80 (l0 :: l1 :: some (.int x) :: ls) st m = ev d 214 81 (l0 :: l1 :: some (.int x) :: ls) (.int x :: st) m := q_nx (show am_row 214 80 = some (.iload_n 2, 1, 0, 0, 0, 0) from rfl) rfl
theorem e214_81 {d : Nat} {ls : am_L} {st : List Value} {m : am_M} {a : Nat} {i : Int32} (hK : (mK m a).1 = 2) (hi : am_ix i (mK m a).2.2 = true) : ev d 214 81 ls (.int i :: .ref a :: st) m = ev d 214 82 ls (.int (mI m a i.toNatClampNeg) :: st) m := q_iald (show am_row 214 81 = some (.iaload, 1, 0, 0, 0, 0) from rfl) hK hi
theorem e214_82 {d : Nat} {ls : am_L} {st : List Value} {m : am_M} {x y : Int32} : ev d 214 82 ls (.int y :: .int x :: st) m = ev d 214 83 ls (.int (x + y) :: st) m := q_nx (show am_row 214 82 = some (.iadd, 1, 0, 0, 0, 0) from rfl) rfl
theorem e214_83 {d : Nat} {ls : am_L} {st : List Value} {m : am_M} {x : Nat} : ev d 214 83 (some (.ref x) :: ls) st m = ev d 214 84 (some (.ref x) :: ls) (.ref x :: st) m := q_nx (show am_row 214 83 = some (.aload_n 0, 1, 0, 0, 0, 0) from rfl) rfl
theorem e214_84 {d : Nat} {ls : am_L} {st : List Value} {m : am_M} {a : Nat} (hK : mK m a = (1, 10, 0)) : ev d 214 84 ls (.ref a :: st) m = ev d 214 87 ls (va_rf (mR m a 21) :: st) m := q_get (show am_row 214 84 = some (.getfield 55, 3, 10, 21, 0, 1061) from rfl) (by decide) hK
theorem e214_87 {d : Nat} {ls : am_L} {st : List Value} {m : am_M} {l0 : Option Value} {l1 : Option Value} {x : Int32} : ev d 214 87 (l0 :: l1 :: some (.int x) :: ls) st m = ev d 214 88 (l0 :: l1 :: some (.int x) :: ls) (.int x :: st) m := q_nx (show am_row 214 87 = some (.iload_n 2, 1, 0, 0, 0, 0) from rfl) rfl
theorem e214_88 {d : Nat} {ls : am_L} {st : List Value} {m : am_M} {a : Nat} {i : Int32} (hK : (mK m a).1 = 2) (hi : am_ix i (mK m a).2.2 = true) : ev d 214 88 ls (.int i :: .ref a :: st) m = ev d 214 89 ls (.int (mI m a i.toNatClampNeg) :: st) m := q_iald (show am_row 214 88 = some (.iaload, 1, 0, 0, 0, 0) from rfl) hK hi
theorem e214_89 {d : Nat} {ls : am_L} {st : List Value} {m : am_M} {a : Nat} {i x : Int32} (hK : (mK m a).1 = 2) (hi : am_ix i (mK m a).2.2 = true) : ev d 214 89 ls (.int x :: .int i :: .ref a :: st) m = ev d 214 90 ls st (sI m a i.toNatClampNeg x) := q_iast (show am_row 214 89 = some (.iastore, 1, 0, 0, 0, 0) from rfl) hK hi
theorem e214_90 {d : Nat} {ls : am_L} {st : List Value} {m : am_M} {x : Nat} : ev d 214 90 (some (.ref x) :: ls) st m = ev d 214 91 (some (.ref x) :: ls) (.ref x :: st) m := q_nx (show am_row 214 90 = some (.aload_n 0, 1, 0, 0, 0, 0) from rfl) rfl
theorem e214_91 {d : Nat} {ls : am_L} {st : List Value} {m : am_M} {a : Nat} (hK : mK m a = (1, 10, 0)) : ev d 214 91 ls (.ref a :: st) m = ev d 214 94 ls (va_rf (mR m a 0) :: st) m := q_get (show am_row 214 91 = some (.getfield 7, 3, 10, 0, 0, 1040) from rfl) (by decide) hK
theorem e214_94 {d : Nat} {ls : am_L} {st : List Value} {m : am_M} : ev d 214 94 ls st m = ev d 214 97 ls (.int (nI 5700) :: st) m := q_nx (show am_row 214 94 = some (.sipush 5700, 3, 0, 0, 0, 0) from rfl) rfl
theorem e214_97 {d : Nat} {ls : am_L} {st : List Value} {m : am_M} {x : Nat} : ev d 214 97 (some (.ref x) :: ls) st m = ev d 214 98 (some (.ref x) :: ls) (.ref x :: st) m := q_nx (show am_row 214 97 = some (.aload_n 0, 1, 0, 0, 0, 0) from rfl) rfl
theorem e214_98 {d : Nat} {ls : am_L} {st : List Value} {m : am_M} {a : Nat} (hK : mK m a = (1, 10, 0)) : ev d 214 98 ls (.ref a :: st) m = ev d 214 101 ls (va_rf (mR m a 15) :: st) m := q_get (show am_row 214 98 = some (.getfield 43, 3, 10, 15, 0, 1055) from rfl) (by decide) hK
theorem e214_101 {d : Nat} {ls : am_L} {st : List Value} {m : am_M} {l0 : Option Value} {l1 : Option Value} {x : Int32} : ev d 214 101 (l0 :: l1 :: some (.int x) :: ls) st m = ev d 214 102 (l0 :: l1 :: some (.int x) :: ls) (.int x :: st) m := q_nx (show am_row 214 101 = some (.iload_n 2, 1, 0, 0, 0, 0) from rfl) rfl
theorem e214_102 {d : Nat} {ls : am_L} {st : List Value} {m : am_M} {a : Nat} {i : Int32} (hK : (mK m a).1 = 2) (hi : am_ix i (mK m a).2.2 = true) : ev d 214 102 ls (.int i :: .ref a :: st) m = ev d 214 103 ls (.int (mI m a i.toNatClampNeg) :: st) m := q_iald (show am_row 214 102 = some (.iaload, 1, 0, 0, 0, 0) from rfl) hK hi
theorem e214_103 {d : Nat} {ls : am_L} {st : List Value} {m : am_M} {x y : Int32} : ev d 214 103 ls (.int y :: .int x :: st) m = ev d 214 104 ls (.int (x + y) :: st) m := q_nx (show am_row 214 103 = some (.iadd, 1, 0, 0, 0, 0) from rfl) rfl
theorem e214_104 {d : Nat} {ls : am_L} {st : List Value} {m : am_M} {x : Nat} : ev d 214 104 (some (.ref x) :: ls) st m = ev d 214 105 (some (.ref x) :: ls) (.ref x :: st) m := q_nx (show am_row 214 104 = some (.aload_n 0, 1, 0, 0, 0, 0) from rfl) rfl
theorem e214_105 {d : Nat} {ls : am_L} {st : List Value} {m : am_M} {a : Nat} (hK : mK m a = (1, 10, 0)) : ev d 214 105 ls (.ref a :: st) m = ev d 214 108 ls (va_rf (mR m a 22) :: st) m := q_get (show am_row 214 105 = some (.getfield 58, 3, 10, 22, 0, 1062) from rfl) (by decide) hK
theorem e214_108 {d : Nat} {ls : am_L} {st : List Value} {m : am_M} {l0 : Option Value} {l1 : Option Value} {x : Int32} : ev d 214 108 (l0 :: l1 :: some (.int x) :: ls) st m = ev d 214 109 (l0 :: l1 :: some (.int x) :: ls) (.int x :: st) m := q_nx (show am_row 214 108 = some (.iload_n 2, 1, 0, 0, 0, 0) from rfl) rfl
theorem e214_109 {d : Nat} {ls : am_L} {st : List Value} {m : am_M} {a : Nat} {i : Int32} (hK : (mK m a).1 = 2) (hi : am_ix i (mK m a).2.2 = true) : ev d 214 109 ls (.int i :: .ref a :: st) m = ev d 214 110 ls (.int (mI m a i.toNatClampNeg) :: st) m := q_iald (show am_row 214 109 = some (.iaload, 1, 0, 0, 0, 0) from rfl) hK hi
theorem e214_110 {d : Nat} {ls : am_L} {st : List Value} {m : am_M} {a : Nat} {i x : Int32} (hK : (mK m a).1 = 2) (hi : am_ix i (mK m a).2.2 = true) : ev d 214 110 ls (.int x :: .int i :: .ref a :: st) m = ev d 214 111 ls st (sI m a i.toNatClampNeg x) := q_iast (show am_row 214 110 = some (.iastore, 1, 0, 0, 0, 0) from rfl) hK hi
theorem e214_111 {d : Nat} {ls : am_L} {st : List Value} {m : am_M} {l0 : Option Value} {l1 : Option Value} {x : Int32} : ev d 214 111 (l0 :: l1 :: some (.int x) :: ls) st m = ev d 214 114 (l0 :: am_clr l1 :: some (.int (x + (nI 1))) :: ls) st m := q_nx (show am_row 214 111 = some (.iinc 2 1, 3, 0, 0, 0, 0) from rfl) rfl
theorem e214_114 {d : Nat} {ls : am_L} {st : List Value} {m : am_M} : ev d 214 114 ls st m = ev d 214 54 ls st m := q_nx (show am_row 214 114 = some (.goto (-60), 3, 0, 0, 0, 0) from rfl) rfl
theorem e214_117 {d : Nat} {ls : am_L} {st : List Value} {m : am_M} {x : Nat} : ev d 214 117 (some (.ref x) :: ls) st m = ev d 214 118 (some (.ref x) :: ls) (.ref x :: st) m := q_nx (show am_row 214 117 = some (.aload_n 0, 1, 0, 0, 0, 0) from rfl) rfl
theorem e214_118 {d : Nat} {ls : am_L} {st : List Value} {m : am_M} {a : Nat} (hK : mK m a = (1, 10, 0)) : ev d 214 118 ls (.ref a :: st) m = ev d 214 121 ls (.int (mI m a 23) :: st) m := q_get (show am_row 214 118 = some (.getfield 230, 3, 10, 23, 0, 1063) from rfl) (by decide) hK
theorem e214_121 {d : Nat} {ls : am_L} {st : List Value} {m : am_M} {x : Int32} : ev d 214 121 ls (.int x :: st) m = if x < nI 0 then ev d 214 124 ls st m else ev d 214 129 ls st m := q_ite (a := (124, ls, st, m)) (b := (129, ls, st, m)) (show am_row 214 121 = some (.ifCond .ge 8, 3, 0, 0, 0, 0) from rfl) rfl
theorem e214_124 {d : Nat} {ls : am_L} {st : List Value} {m : am_M} : ev d 214 124 ls st m = ev d 214 126 ls (.int (-15) :: st) m := q_nx (show am_row 214 124 = some (.bipush (-15), 2, 0, 0, 0, 0) from rfl) rfl
theorem e214_126 {d : Nat} {ls : am_L} {st : List Value} {m : am_M} : ev d 214 126 ls st m = ev d 214 133 ls st m := q_nx (show am_row 214 126 = some (.goto 7, 3, 0, 0, 0, 0) from rfl) rfl
theorem e214_129 {d : Nat} {ls : am_L} {st : List Value} {m : am_M} {x : Nat} : ev d 214 129 (some (.ref x) :: ls) st m = ev d 214 130 (some (.ref x) :: ls) (.ref x :: st) m := q_nx (show am_row 214 129 = some (.aload_n 0, 1, 0, 0, 0, 0) from rfl) rfl
theorem e214_130 {d : Nat} {ls : am_L} {st : List Value} {m : am_M} {a : Nat} (hK : mK m a = (1, 10, 0)) : ev d 214 130 ls (.ref a :: st) m = ev d 214 133 ls (.int (mI m a 23) :: st) m := q_get (show am_row 214 130 = some (.getfield 230, 3, 10, 23, 0, 1063) from rfl) (by decide) hK
theorem e214_133 {d : Nat} {ls : am_L} {m : am_M} {x : Int32} : ev d 214 133 ls [.int x] m = some (some (.int x), m) := q_iret (show am_row 214 133 = some (.ireturn, 1, 0, 0, 0, 0) from rfl)
theorem c215 {d : Nat} {m : am_M} {a : Nat} {v0 : Int32} {v1 : Int32} : cal d 215 [.ref a, .int v0, .int v1] m = ev d 215 0 [some (.ref a), some (.int v0), some (.int v1)] [] m := rfl
theorem e215_0 {d : Nat} {ls : am_L} {st : List Value} {m : am_M} {l0 : Option Value} {x : Int32} : ev d 215 0 (l0 :: some (.int x) :: ls) st m = ev d 215 1 (l0 :: some (.int x) :: ls) (.int x :: st) m := q_nx (show am_row 215 0 = some (.iload_n 1, 1, 0, 0, 0, 0) from rfl) rfl
theorem e215_1 {d : Nat} {ls : am_L} {st : List Value} {m : am_M} {x : Int32} : ev d 215 1 ls (.int x :: st) m = if x < nI 0 then ev d 215 20 ls st m else ev d 215 4 ls st m := q_ite (a := (20, ls, st, m)) (b := (4, ls, st, m)) (show am_row 215 1 = some (.ifCond .lt 19, 3, 0, 0, 0, 0) from rfl) rfl
theorem e215_4 {d : Nat} {ls : am_L} {st : List Value} {m : am_M} {l0 : Option Value} {x : Int32} : ev d 215 4 (l0 :: some (.int x) :: ls) st m = ev d 215 5 (l0 :: some (.int x) :: ls) (.int x :: st) m := q_nx (show am_row 215 4 = some (.iload_n 1, 1, 0, 0, 0, 0) from rfl) rfl
theorem e215_5 {d : Nat} {ls : am_L} {st : List Value} {m : am_M} : ev d 215 5 ls st m = ev d 215 8 ls (.int (nI 399) :: st) m := q_nx (show am_row 215 5 = some (.sipush 399, 3, 0, 0, 0, 0) from rfl) rfl
theorem e215_8 {d : Nat} {ls : am_L} {st : List Value} {m : am_M} {x y : Int32} : ev d 215 8 ls (.int y :: .int x :: st) m = if y < x then ev d 215 20 ls st m else ev d 215 11 ls st m := q_ite (a := (20, ls, st, m)) (b := (11, ls, st, m)) (show am_row 215 8 = some (.if_icmp .gt 12, 3, 0, 0, 0, 0) from rfl) rfl
theorem e215_11 {d : Nat} {ls : am_L} {st : List Value} {m : am_M} {l0 : Option Value} {l1 : Option Value} {x : Int32} : ev d 215 11 (l0 :: l1 :: some (.int x) :: ls) st m = ev d 215 12 (l0 :: l1 :: some (.int x) :: ls) (.int x :: st) m := q_nx (show am_row 215 11 = some (.iload_n 2, 1, 0, 0, 0, 0) from rfl) rfl
theorem e215_12 {d : Nat} {ls : am_L} {st : List Value} {m : am_M} {x : Int32} : ev d 215 12 ls (.int x :: st) m = if x < nI 0 then ev d 215 20 ls st m else ev d 215 15 ls st m := q_ite (a := (20, ls, st, m)) (b := (15, ls, st, m)) (show am_row 215 12 = some (.ifCond .lt 8, 3, 0, 0, 0, 0) from rfl) rfl
theorem e215_15 {d : Nat} {ls : am_L} {st : List Value} {m : am_M} {l0 : Option Value} {l1 : Option Value} {x : Int32} : ev d 215 15 (l0 :: l1 :: some (.int x) :: ls) st m = ev d 215 16 (l0 :: l1 :: some (.int x) :: ls) (.int x :: st) m := q_nx (show am_row 215 15 = some (.iload_n 2, 1, 0, 0, 0, 0) from rfl) rfl
theorem e215_16 {d : Nat} {ls : am_L} {st : List Value} {m : am_M} : ev d 215 16 ls st m = ev d 215 17 ls (.int (nI 1) :: st) m := q_nx (show am_row 215 16 = some (.iconst 1, 1, 0, 0, 0, 0) from rfl) rfl
theorem e215_17 {d : Nat} {ls : am_L} {st : List Value} {m : am_M} {x y : Int32} : ev d 215 17 ls (.int y :: .int x :: st) m = if y < x then ev d 215 20 ls st m else ev d 215 22 ls st m := q_ite (a := (20, ls, st, m)) (b := (22, ls, st, m)) (show am_row 215 17 = some (.if_icmp .le 5, 3, 0, 0, 0, 0) from rfl) rfl
theorem e215_20 {d : Nat} {ls : am_L} {st : List Value} {m : am_M} : ev d 215 20 ls st m = ev d 215 21 ls (.int (-1) :: st) m := q_nx (show am_row 215 20 = some (.iconst (-1), 1, 0, 0, 0, 0) from rfl) rfl
theorem e215_21 {d : Nat} {ls : am_L} {m : am_M} {x : Int32} : ev d 215 21 ls [.int x] m = some (some (.int x), m) := q_iret (show am_row 215 21 = some (.ireturn, 1, 0, 0, 0, 0) from rfl)
theorem e215_22 {d : Nat} {ls : am_L} {st : List Value} {m : am_M} {l0 : Option Value} {l1 : Option Value} {x : Int32} : ev d 215 22 (l0 :: l1 :: some (.int x) :: ls) st m = ev d 215 23 (l0 :: l1 :: some (.int x) :: ls) (.int x :: st) m := q_nx (show am_row 215 22 = some (.iload_n 2, 1, 0, 0, 0, 0) from rfl) rfl
theorem e215_23 {d : Nat} {ls : am_L} {st : List Value} {m : am_M} {x : Int32} : ev d 215 23 ls (.int x :: st) m = if x = nI 0 then ev d 215 26 ls st m else ev d 215 39 ls st m := q_ite (a := (26, ls, st, m)) (b := (39, ls, st, m)) (show am_row 215 23 = some (.ifCond .ne 16, 3, 0, 0, 0, 0) from rfl) rfl
theorem e215_26 {d : Nat} {ls : am_L} {st : List Value} {m : am_M} {x : Nat} : ev d 215 26 (some (.ref x) :: ls) st m = ev d 215 27 (some (.ref x) :: ls) (.ref x :: st) m := q_nx (show am_row 215 26 = some (.aload_n 0, 1, 0, 0, 0, 0) from rfl) rfl
theorem e215_27 {d : Nat} {ls : am_L} {st : List Value} {m : am_M} {a : Nat} (hK : mK m a = (1, 10, 0)) : ev d 215 27 ls (.ref a :: st) m = ev d 215 30 ls (va_rf (mR m a 0) :: st) m := q_get (show am_row 215 27 = some (.getfield 7, 3, 10, 0, 0, 1040) from rfl) (by decide) hK
theorem e215_30 {d : Nat} {ls : am_L} {st : List Value} {m : am_M} : ev d 215 30 ls st m = ev d 215 33 ls (.int (nI 5300) :: st) m := q_nx (show am_row 215 30 = some (.sipush 5300, 3, 0, 0, 0, 0) from rfl) rfl
theorem e215_33 {d : Nat} {ls : am_L} {st : List Value} {m : am_M} {l0 : Option Value} {x : Int32} : ev d 215 33 (l0 :: some (.int x) :: ls) st m = ev d 215 34 (l0 :: some (.int x) :: ls) (.int x :: st) m := q_nx (show am_row 215 33 = some (.iload_n 1, 1, 0, 0, 0, 0) from rfl) rfl
theorem e215_34 {d : Nat} {ls : am_L} {st : List Value} {m : am_M} {x y : Int32} : ev d 215 34 ls (.int y :: .int x :: st) m = ev d 215 35 ls (.int (x + y) :: st) m := q_nx (show am_row 215 34 = some (.iadd, 1, 0, 0, 0, 0) from rfl) rfl
theorem e215_35 {d : Nat} {ls : am_L} {st : List Value} {m : am_M} {a : Nat} {i : Int32} (hK : (mK m a).1 = 2) (hi : am_ix i (mK m a).2.2 = true) : ev d 215 35 ls (.int i :: .ref a :: st) m = ev d 215 36 ls (.int (mI m a i.toNatClampNeg) :: st) m := q_iald (show am_row 215 35 = some (.iaload, 1, 0, 0, 0, 0) from rfl) hK hi
theorem e215_36 {d : Nat} {ls : am_L} {st : List Value} {m : am_M} : ev d 215 36 ls st m = ev d 215 49 ls st m := q_nx (show am_row 215 36 = some (.goto 13, 3, 0, 0, 0, 0) from rfl) rfl
theorem e215_39 {d : Nat} {ls : am_L} {st : List Value} {m : am_M} {x : Nat} : ev d 215 39 (some (.ref x) :: ls) st m = ev d 215 40 (some (.ref x) :: ls) (.ref x :: st) m := q_nx (show am_row 215 39 = some (.aload_n 0, 1, 0, 0, 0, 0) from rfl) rfl
theorem e215_40 {d : Nat} {ls : am_L} {st : List Value} {m : am_M} {a : Nat} (hK : mK m a = (1, 10, 0)) : ev d 215 40 ls (.ref a :: st) m = ev d 215 43 ls (va_rf (mR m a 0) :: st) m := q_get (show am_row 215 40 = some (.getfield 7, 3, 10, 0, 0, 1040) from rfl) (by decide) hK
theorem e215_43 {d : Nat} {ls : am_L} {st : List Value} {m : am_M} : ev d 215 43 ls st m = ev d 215 46 ls (.int (nI 5700) :: st) m := q_nx (show am_row 215 43 = some (.sipush 5700, 3, 0, 0, 0, 0) from rfl) rfl
theorem e215_46 {d : Nat} {ls : am_L} {st : List Value} {m : am_M} {l0 : Option Value} {x : Int32} : ev d 215 46 (l0 :: some (.int x) :: ls) st m = ev d 215 47 (l0 :: some (.int x) :: ls) (.int x :: st) m := q_nx (show am_row 215 46 = some (.iload_n 1, 1, 0, 0, 0, 0) from rfl) rfl
theorem e215_47 {d : Nat} {ls : am_L} {st : List Value} {m : am_M} {x y : Int32} : ev d 215 47 ls (.int y :: .int x :: st) m = ev d 215 48 ls (.int (x + y) :: st) m := q_nx (show am_row 215 47 = some (.iadd, 1, 0, 0, 0, 0) from rfl) rfl
theorem e215_48 {d : Nat} {ls : am_L} {st : List Value} {m : am_M} {a : Nat} {i : Int32} (hK : (mK m a).1 = 2) (hi : am_ix i (mK m a).2.2 = true) : ev d 215 48 ls (.int i :: .ref a :: st) m = ev d 215 49 ls (.int (mI m a i.toNatClampNeg) :: st) m := q_iald (show am_row 215 48 = some (.iaload, 1, 0, 0, 0, 0) from rfl) hK hi
theorem e215_49 {d : Nat} {ls : am_L} {m : am_M} {x : Int32} : ev d 215 49 ls [.int x] m = some (some (.int x), m) := q_iret (show am_row 215 49 = some (.ireturn, 1, 0, 0, 0, 0) from rfl)
theorem c216 {d : Nat} {m : am_M} {a : Nat} : cal d 216 [.ref a] m = ev d 216 0 [some (.ref a), none, none] [] m := rfl
theorem e216_0 {d : Nat} {ls : am_L} {st : List Value} {m : am_M} {x : Nat} : ev d 216 0 (some (.ref x) :: ls) st m = ev d 216 1 (some (.ref x) :: ls) (.ref x :: st) m := q_nx (show am_row 216 0 = some (.aload_n 0, 1, 0, 0, 0, 0) from rfl) rfl
theorem e216_1 {d : Nat} {ls : am_L} {st : List Value} {m : am_M} {a : Nat} (hK : mK m a = (1, 10, 0)) (hw : am_w st ≤ 8) : ev (d + 1) 216 1 ls (.ref a :: st) m = am_k (cal d 214 [.ref a] m) (fun v m'' => ev (d + 1) 216 4 ls (v.toList ++ st) m'') := q_cl (show am_row 216 1 = some (.invokevirtual 251, 3, 214, 0, 0, 1431) from rfl) rfl (if_pos ⟨hK, (Nat.zero_le _), hw⟩)
theorem e216_4 {d : Nat} {ls : am_L} {st : List Value} {m : am_M} {l0 : Option Value} {l1 : Option Value} {x : Int32} : ev d 216 4 (l0 :: l1 :: ls) (.int x :: st) m = ev d 216 5 (am_clr l0 :: some (.int x) :: ls) st m := q_nx (show am_row 216 4 = some (.istore_n 1, 1, 0, 0, 0, 0) from rfl) rfl
theorem e216_5 {d : Nat} {ls : am_L} {st : List Value} {m : am_M} {l0 : Option Value} {x : Int32} : ev d 216 5 (l0 :: some (.int x) :: ls) st m = ev d 216 6 (l0 :: some (.int x) :: ls) (.int x :: st) m := q_nx (show am_row 216 5 = some (.iload_n 1, 1, 0, 0, 0, 0) from rfl) rfl
theorem e216_6 {d : Nat} {ls : am_L} {st : List Value} {m : am_M} {x : Int32} : ev d 216 6 ls (.int x :: st) m = if x < nI 0 then ev d 216 9 ls st m else ev d 216 11 ls st m := q_ite (a := (9, ls, st, m)) (b := (11, ls, st, m)) (show am_row 216 6 = some (.ifCond .ge 5, 3, 0, 0, 0, 0) from rfl) rfl
theorem e216_9 {d : Nat} {ls : am_L} {st : List Value} {m : am_M} {l0 : Option Value} {x : Int32} : ev d 216 9 (l0 :: some (.int x) :: ls) st m = ev d 216 10 (l0 :: some (.int x) :: ls) (.int x :: st) m := q_nx (show am_row 216 9 = some (.iload_n 1, 1, 0, 0, 0, 0) from rfl) rfl
theorem e216_10 {d : Nat} {ls : am_L} {m : am_M} {x : Int32} : ev d 216 10 ls [.int x] m = some (some (.int x), m) := q_iret (show am_row 216 10 = some (.ireturn, 1, 0, 0, 0, 0) from rfl)
theorem e216_11 {d : Nat} {ls : am_L} {st : List Value} {m : am_M} : ev d 216 11 ls st m = ev d 216 12 ls (.int (nI 0) :: st) m := q_nx (show am_row 216 11 = some (.iconst 0, 1, 0, 0, 0, 0) from rfl) rfl
theorem e216_12 {d : Nat} {ls : am_L} {st : List Value} {m : am_M} {l0 : Option Value} {l1 : Option Value} {l2 : Option Value} {x : Int32} : ev d 216 12 (l0 :: l1 :: l2 :: ls) (.int x :: st) m = ev d 216 13 (l0 :: am_clr l1 :: some (.int x) :: ls) st m := q_nx (show am_row 216 12 = some (.istore_n 2, 1, 0, 0, 0, 0) from rfl) rfl
theorem e216_13 {d : Nat} {ls : am_L} {st : List Value} {m : am_M} {l0 : Option Value} {l1 : Option Value} {x : Int32} : ev d 216 13 (l0 :: l1 :: some (.int x) :: ls) st m = ev d 216 14 (l0 :: l1 :: some (.int x) :: ls) (.int x :: st) m := q_nx (show am_row 216 13 = some (.iload_n 2, 1, 0, 0, 0, 0) from rfl) rfl
theorem e216_14 {d : Nat} {ls : am_L} {st : List Value} {m : am_M} {x : Nat} : ev d 216 14 (some (.ref x) :: ls) st m = ev d 216 15 (some (.ref x) :: ls) (.ref x :: st) m := q_nx (show am_row 216 14 = some (.aload_n 0, 1, 0, 0, 0, 0) from rfl) rfl
theorem e216_15 {d : Nat} {ls : am_L} {st : List Value} {m : am_M} {a : Nat} (hK : mK m a = (1, 10, 0)) : ev d 216 15 ls (.ref a :: st) m = ev d 216 18 ls (.int (mI m a 16) :: st) m := q_get (show am_row 216 15 = some (.getfield 224, 3, 10, 16, 0, 1056) from rfl) (by decide) hK
theorem e216_18 {d : Nat} {ls : am_L} {st : List Value} {m : am_M} {x y : Int32} : ev d 216 18 ls (.int y :: .int x :: st) m = if x < y then ev d 216 21 ls st m else ev d 216 49 ls st m := q_ite (a := (21, ls, st, m)) (b := (49, ls, st, m)) (show am_row 216 18 = some (.if_icmp .ge 31, 3, 0, 0, 0, 0) from rfl) rfl
theorem e216_21 {d : Nat} {ls : am_L} {st : List Value} {m : am_M} {x : Nat} : ev d 216 21 (some (.ref x) :: ls) st m = ev d 216 22 (some (.ref x) :: ls) (.ref x :: st) m := q_nx (show am_row 216 21 = some (.aload_n 0, 1, 0, 0, 0, 0) from rfl) rfl
theorem e216_22 {d : Nat} {ls : am_L} {st : List Value} {m : am_M} {x : Nat} : ev d 216 22 (some (.ref x) :: ls) st m = ev d 216 23 (some (.ref x) :: ls) (.ref x :: st) m := q_nx (show am_row 216 22 = some (.aload_n 0, 1, 0, 0, 0, 0) from rfl) rfl
theorem e216_23 {d : Nat} {ls : am_L} {st : List Value} {m : am_M} {a : Nat} (hK : mK m a = (1, 10, 0)) : ev d 216 23 ls (.ref a :: st) m = ev d 216 26 ls (va_rf (mR m a 15) :: st) m := q_get (show am_row 216 23 = some (.getfield 43, 3, 10, 15, 0, 1055) from rfl) (by decide) hK
theorem e216_26 {d : Nat} {ls : am_L} {st : List Value} {m : am_M} {l0 : Option Value} {l1 : Option Value} {x : Int32} : ev d 216 26 (l0 :: l1 :: some (.int x) :: ls) st m = ev d 216 27 (l0 :: l1 :: some (.int x) :: ls) (.int x :: st) m := q_nx (show am_row 216 26 = some (.iload_n 2, 1, 0, 0, 0, 0) from rfl) rfl
theorem e216_27 {d : Nat} {ls : am_L} {st : List Value} {m : am_M} {a : Nat} {i : Int32} (hK : (mK m a).1 = 2) (hi : am_ix i (mK m a).2.2 = true) : ev d 216 27 ls (.int i :: .ref a :: st) m = ev d 216 28 ls (.int (mI m a i.toNatClampNeg) :: st) m := q_iald (show am_row 216 27 = some (.iaload, 1, 0, 0, 0, 0) from rfl) hK hi
theorem e216_28 {d : Nat} {ls : am_L} {st : List Value} {m : am_M} {x : Nat} : ev d 216 28 (some (.ref x) :: ls) st m = ev d 216 29 (some (.ref x) :: ls) (.ref x :: st) m := q_nx (show am_row 216 28 = some (.aload_n 0, 1, 0, 0, 0, 0) from rfl) rfl
theorem e216_29 {d : Nat} {ls : am_L} {st : List Value} {m : am_M} {a : Nat} (hK : mK m a = (1, 10, 0)) : ev d 216 29 ls (.ref a :: st) m = ev d 216 32 ls (va_rf (mR m a 21) :: st) m := q_get (show am_row 216 29 = some (.getfield 55, 3, 10, 21, 0, 1061) from rfl) (by decide) hK
theorem e216_32 {d : Nat} {ls : am_L} {st : List Value} {m : am_M} {l0 : Option Value} {l1 : Option Value} {x : Int32} : ev d 216 32 (l0 :: l1 :: some (.int x) :: ls) st m = ev d 216 33 (l0 :: l1 :: some (.int x) :: ls) (.int x :: st) m := q_nx (show am_row 216 32 = some (.iload_n 2, 1, 0, 0, 0, 0) from rfl) rfl
theorem e216_33 {d : Nat} {ls : am_L} {st : List Value} {m : am_M} {a : Nat} {i : Int32} (hK : (mK m a).1 = 2) (hi : am_ix i (mK m a).2.2 = true) : ev d 216 33 ls (.int i :: .ref a :: st) m = ev d 216 34 ls (.int (mI m a i.toNatClampNeg) :: st) m := q_iald (show am_row 216 33 = some (.iaload, 1, 0, 0, 0, 0) from rfl) hK hi
theorem e216_34 {d : Nat} {ls : am_L} {st : List Value} {m : am_M} {x : Nat} : ev d 216 34 (some (.ref x) :: ls) st m = ev d 216 35 (some (.ref x) :: ls) (.ref x :: st) m := q_nx (show am_row 216 34 = some (.aload_n 0, 1, 0, 0, 0, 0) from rfl) rfl
theorem e216_35 {d : Nat} {ls : am_L} {st : List Value} {m : am_M} {a : Nat} (hK : mK m a = (1, 10, 0)) : ev d 216 35 ls (.ref a :: st) m = ev d 216 38 ls (va_rf (mR m a 22) :: st) m := q_get (show am_row 216 35 = some (.getfield 58, 3, 10, 22, 0, 1062) from rfl) (by decide) hK
theorem e216_38 {d : Nat} {ls : am_L} {st : List Value} {m : am_M} {l0 : Option Value} {l1 : Option Value} {x : Int32} : ev d 216 38 (l0 :: l1 :: some (.int x) :: ls) st m = ev d 216 39 (l0 :: l1 :: some (.int x) :: ls) (.int x :: st) m := q_nx (show am_row 216 38 = some (.iload_n 2, 1, 0, 0, 0, 0) from rfl) rfl
theorem e216_39 {d : Nat} {ls : am_L} {st : List Value} {m : am_M} {a : Nat} {i : Int32} (hK : (mK m a).1 = 2) (hi : am_ix i (mK m a).2.2 = true) : ev d 216 39 ls (.int i :: .ref a :: st) m = ev d 216 40 ls (.int (mI m a i.toNatClampNeg) :: st) m := q_iald (show am_row 216 39 = some (.iaload, 1, 0, 0, 0, 0) from rfl) hK hi
theorem e216_40 {d : Nat} {ls : am_L} {st : List Value} {m : am_M} {a : Nat} {v0 : Int32} {v1 : Int32} {v2 : Int32} (hK : mK m a = (1, 10, 0)) (hw : am_w st ≤ 8) : ev (d + 1) 216 40 ls (.int v2 :: .int v1 :: .int v0 :: .ref a :: st) m = am_k (cal d 156 [.ref a, .int v0, .int v1, .int v2] m) (fun v m'' => ev (d + 1) 216 43 ls (v.toList ++ st) m'') := q_cl (show am_row 216 40 = some (.invokevirtual 151, 3, 156, 0, 0, 1288) from rfl) rfl (if_pos ⟨hK, (by show 3 ≤ _; simp only [List.length_cons]; omega), hw⟩)
theorem e216_43 {d : Nat} {ls : am_L} {st : List Value} {m : am_M} {l0 : Option Value} {l1 : Option Value} {x : Int32} : ev d 216 43 (l0 :: l1 :: some (.int x) :: ls) st m = ev d 216 46 (l0 :: am_clr l1 :: some (.int (x + (nI 1))) :: ls) st m := q_nx (show am_row 216 43 = some (.iinc 2 1, 3, 0, 0, 0, 0) from rfl) rfl
theorem e216_46 {d : Nat} {ls : am_L} {st : List Value} {m : am_M} : ev d 216 46 ls st m = ev d 216 13 ls st m := q_nx (show am_row 216 46 = some (.goto (-33), 3, 0, 0, 0, 0) from rfl) rfl
theorem e216_49 {d : Nat} {ls : am_L} {st : List Value} {m : am_M} {x : Nat} : ev d 216 49 (some (.ref x) :: ls) st m = ev d 216 50 (some (.ref x) :: ls) (.ref x :: st) m := q_nx (show am_row 216 49 = some (.aload_n 0, 1, 0, 0, 0, 0) from rfl) rfl
theorem e216_50 {d : Nat} {ls : am_L} {st : List Value} {m : am_M} {a : Nat} (hK : mK m a = (1, 10, 0)) : ev d 216 50 ls (.ref a :: st) m = ev d 216 53 ls (va_rf (mR m a 0) :: st) m := q_get (show am_row 216 50 = some (.getfield 7, 3, 10, 0, 0, 1040) from rfl) (by decide) hK
theorem e216_53 {d : Nat} {ls : am_L} {st : List Value} {m : am_M} : ev d 216 53 ls st m = ev d 216 56 ls (.int (nI 6507) :: st) m := q_nx (show am_row 216 53 = some (.sipush 6507, 3, 0, 0, 0, 0) from rfl) rfl
theorem e216_56 {d : Nat} {ls : am_L} {st : List Value} {m : am_M} : ev d 216 56 ls st m = ev d 216 57 ls (.int (nI 0) :: st) m := q_nx (show am_row 216 56 = some (.iconst 0, 1, 0, 0, 0, 0) from rfl) rfl
theorem e216_57 {d : Nat} {ls : am_L} {st : List Value} {m : am_M} {a : Nat} {i x : Int32} (hK : (mK m a).1 = 2) (hi : am_ix i (mK m a).2.2 = true) : ev d 216 57 ls (.int x :: .int i :: .ref a :: st) m = ev d 216 58 ls st (sI m a i.toNatClampNeg x) := q_iast (show am_row 216 57 = some (.iastore, 1, 0, 0, 0, 0) from rfl) hK hi
theorem e216_58 {d : Nat} {ls : am_L} {st : List Value} {m : am_M} {l0 : Option Value} {x : Int32} : ev d 216 58 (l0 :: some (.int x) :: ls) st m = ev d 216 59 (l0 :: some (.int x) :: ls) (.int x :: st) m := q_nx (show am_row 216 58 = some (.iload_n 1, 1, 0, 0, 0, 0) from rfl) rfl
theorem e216_59 {d : Nat} {ls : am_L} {m : am_M} {x : Int32} : ev d 216 59 ls [.int x] m = some (some (.int x), m) := q_iret (show am_row 216 59 = some (.ireturn, 1, 0, 0, 0, 0) from rfl)
theorem c217 {d : Nat} {m : am_M} {a : Nat} {v0 : Int32} {v1 : Int32} {v2 : Int32} {v3 : Int32} : cal d 217 [.ref a, .int v0, .int v1, .int v2, .int v3] m = ev d 217 0 [some (.ref a), some (.int v0), some (.int v1), some (.int v2), some (.int v3)] [] m := rfl
theorem e217_0 {d : Nat} {ls : am_L} {st : List Value} {m : am_M} {x : Nat} : ev d 217 0 (some (.ref x) :: ls) st m = ev d 217 1 (some (.ref x) :: ls) (.ref x :: st) m := q_nx (show am_row 217 0 = some (.aload_n 0, 1, 0, 0, 0, 0) from rfl) rfl
theorem e217_1 {d : Nat} {ls : am_L} {st : List Value} {m : am_M} {a : Nat} (hK : mK m a = (1, 10, 0)) : ev d 217 1 ls (.ref a :: st) m = ev d 217 4 ls (.int (mI m a 7) :: st) m := q_get (show am_row 217 1 = some (.getfield 218, 3, 10, 7, 0, 1047) from rfl) (by decide) hK
theorem e217_4 {d : Nat} {ls : am_L} {st : List Value} {m : am_M} : ev d 217 4 ls st m = ev d 217 7 ls (.int (nI 200) :: st) m := q_nx (show am_row 217 4 = some (.sipush 200, 3, 0, 0, 0, 0) from rfl) rfl
theorem e217_7 {d : Nat} {ls : am_L} {st : List Value} {m : am_M} {x y : Int32} : ev d 217 7 ls (.int y :: .int x :: st) m = if x = y then ev d 217 10 ls st m else ev d 217 13 ls st m := q_ite (a := (10, ls, st, m)) (b := (13, ls, st, m)) (show am_row 217 7 = some (.if_icmp .ne 6, 3, 0, 0, 0, 0) from rfl) rfl
theorem e217_10 {d : Nat} {ls : am_L} {st : List Value} {m : am_M} : ev d 217 10 ls st m = ev d 217 12 ls (.int (-10) :: st) m := q_nx (show am_row 217 10 = some (.bipush (-10), 2, 0, 0, 0, 0) from rfl) rfl
theorem e217_12 {d : Nat} {ls : am_L} {m : am_M} {x : Int32} : ev d 217 12 ls [.int x] m = some (some (.int x), m) := q_iret (show am_row 217 12 = some (.ireturn, 1, 0, 0, 0, 0) from rfl)
theorem e217_13 {d : Nat} {ls : am_L} {st : List Value} {m : am_M} {x : Nat} : ev d 217 13 (some (.ref x) :: ls) st m = ev d 217 14 (some (.ref x) :: ls) (.ref x :: st) m := q_nx (show am_row 217 13 = some (.aload_n 0, 1, 0, 0, 0, 0) from rfl) rfl
theorem e217_14 {d : Nat} {ls : am_L} {st : List Value} {m : am_M} {a : Nat} (hK : mK m a = (1, 10, 0)) : ev d 217 14 ls (.ref a :: st) m = ev d 217 17 ls (va_rf (mR m a 6) :: st) m := q_get (show am_row 217 14 = some (.getfield 30, 3, 10, 6, 0, 1046) from rfl) (by decide) hK
theorem e217_17 {d : Nat} {ls : am_L} {st : List Value} {m : am_M} : ev d 217 17 ls st m = ev d 217 18 ls (.int (nI 4) :: st) m := q_nx (show am_row 217 17 = some (.iconst 4, 1, 0, 0, 0, 0) from rfl) rfl
theorem e217_18 {d : Nat} {ls : am_L} {st : List Value} {m : am_M} {x : Nat} : ev d 217 18 (some (.ref x) :: ls) st m = ev d 217 19 (some (.ref x) :: ls) (.ref x :: st) m := q_nx (show am_row 217 18 = some (.aload_n 0, 1, 0, 0, 0, 0) from rfl) rfl
theorem e217_19 {d : Nat} {ls : am_L} {st : List Value} {m : am_M} {a : Nat} (hK : mK m a = (1, 10, 0)) : ev d 217 19 ls (.ref a :: st) m = ev d 217 22 ls (.int (mI m a 7) :: st) m := q_get (show am_row 217 19 = some (.getfield 218, 3, 10, 7, 0, 1047) from rfl) (by decide) hK
theorem e217_22 {d : Nat} {ls : am_L} {st : List Value} {m : am_M} {x y : Int32} : ev d 217 22 ls (.int y :: .int x :: st) m = ev d 217 23 ls (.int (x * y) :: st) m := q_nx (show am_row 217 22 = some (.imul, 1, 0, 0, 0, 0) from rfl) rfl
theorem e217_23 {d : Nat} {ls : am_L} {st : List Value} {m : am_M} {l0 : Option Value} {x : Int32} : ev d 217 23 (l0 :: some (.int x) :: ls) st m = ev d 217 24 (l0 :: some (.int x) :: ls) (.int x :: st) m := q_nx (show am_row 217 23 = some (.iload_n 1, 1, 0, 0, 0, 0) from rfl) rfl
theorem e217_24 {d : Nat} {ls : am_L} {st : List Value} {m : am_M} {a : Nat} {i x : Int32} (hK : (mK m a).1 = 2) (hi : am_ix i (mK m a).2.2 = true) : ev d 217 24 ls (.int x :: .int i :: .ref a :: st) m = ev d 217 25 ls st (sI m a i.toNatClampNeg x) := q_iast (show am_row 217 24 = some (.iastore, 1, 0, 0, 0, 0) from rfl) hK hi
theorem e217_25 {d : Nat} {ls : am_L} {st : List Value} {m : am_M} {x : Nat} : ev d 217 25 (some (.ref x) :: ls) st m = ev d 217 26 (some (.ref x) :: ls) (.ref x :: st) m := q_nx (show am_row 217 25 = some (.aload_n 0, 1, 0, 0, 0, 0) from rfl) rfl
theorem e217_26 {d : Nat} {ls : am_L} {st : List Value} {m : am_M} {a : Nat} (hK : mK m a = (1, 10, 0)) : ev d 217 26 ls (.ref a :: st) m = ev d 217 29 ls (va_rf (mR m a 6) :: st) m := q_get (show am_row 217 26 = some (.getfield 30, 3, 10, 6, 0, 1046) from rfl) (by decide) hK
theorem e217_29 {d : Nat} {ls : am_L} {st : List Value} {m : am_M} : ev d 217 29 ls st m = ev d 217 30 ls (.int (nI 4) :: st) m := q_nx (show am_row 217 29 = some (.iconst 4, 1, 0, 0, 0, 0) from rfl) rfl
theorem e217_30 {d : Nat} {ls : am_L} {st : List Value} {m : am_M} {x : Nat} : ev d 217 30 (some (.ref x) :: ls) st m = ev d 217 31 (some (.ref x) :: ls) (.ref x :: st) m := q_nx (show am_row 217 30 = some (.aload_n 0, 1, 0, 0, 0, 0) from rfl) rfl
theorem e217_31 {d : Nat} {ls : am_L} {st : List Value} {m : am_M} {a : Nat} (hK : mK m a = (1, 10, 0)) : ev d 217 31 ls (.ref a :: st) m = ev d 217 34 ls (.int (mI m a 7) :: st) m := q_get (show am_row 217 31 = some (.getfield 218, 3, 10, 7, 0, 1047) from rfl) (by decide) hK
theorem e217_34 {d : Nat} {ls : am_L} {st : List Value} {m : am_M} {x y : Int32} : ev d 217 34 ls (.int y :: .int x :: st) m = ev d 217 35 ls (.int (x * y) :: st) m := q_nx (show am_row 217 34 = some (.imul, 1, 0, 0, 0, 0) from rfl) rfl
theorem e217_35 {d : Nat} {ls : am_L} {st : List Value} {m : am_M} : ev d 217 35 ls st m = ev d 217 36 ls (.int (nI 1) :: st) m := q_nx (show am_row 217 35 = some (.iconst 1, 1, 0, 0, 0, 0) from rfl) rfl
theorem e217_36 {d : Nat} {ls : am_L} {st : List Value} {m : am_M} {x y : Int32} : ev d 217 36 ls (.int y :: .int x :: st) m = ev d 217 37 ls (.int (x + y) :: st) m := q_nx (show am_row 217 36 = some (.iadd, 1, 0, 0, 0, 0) from rfl) rfl
theorem e217_37 {d : Nat} {ls : am_L} {st : List Value} {m : am_M} {l0 : Option Value} {l1 : Option Value} {x : Int32} : ev d 217 37 (l0 :: l1 :: some (.int x) :: ls) st m = ev d 217 38 (l0 :: l1 :: some (.int x) :: ls) (.int x :: st) m := q_nx (show am_row 217 37 = some (.iload_n 2, 1, 0, 0, 0, 0) from rfl) rfl
theorem e217_38 {d : Nat} {ls : am_L} {st : List Value} {m : am_M} {a : Nat} {i x : Int32} (hK : (mK m a).1 = 2) (hi : am_ix i (mK m a).2.2 = true) : ev d 217 38 ls (.int x :: .int i :: .ref a :: st) m = ev d 217 39 ls st (sI m a i.toNatClampNeg x) := q_iast (show am_row 217 38 = some (.iastore, 1, 0, 0, 0, 0) from rfl) hK hi
theorem e217_39 {d : Nat} {ls : am_L} {st : List Value} {m : am_M} {x : Nat} : ev d 217 39 (some (.ref x) :: ls) st m = ev d 217 40 (some (.ref x) :: ls) (.ref x :: st) m := q_nx (show am_row 217 39 = some (.aload_n 0, 1, 0, 0, 0, 0) from rfl) rfl
theorem e217_40 {d : Nat} {ls : am_L} {st : List Value} {m : am_M} {a : Nat} (hK : mK m a = (1, 10, 0)) : ev d 217 40 ls (.ref a :: st) m = ev d 217 43 ls (va_rf (mR m a 6) :: st) m := q_get (show am_row 217 40 = some (.getfield 30, 3, 10, 6, 0, 1046) from rfl) (by decide) hK
theorem e217_43 {d : Nat} {ls : am_L} {st : List Value} {m : am_M} : ev d 217 43 ls st m = ev d 217 44 ls (.int (nI 4) :: st) m := q_nx (show am_row 217 43 = some (.iconst 4, 1, 0, 0, 0, 0) from rfl) rfl
theorem e217_44 {d : Nat} {ls : am_L} {st : List Value} {m : am_M} {x : Nat} : ev d 217 44 (some (.ref x) :: ls) st m = ev d 217 45 (some (.ref x) :: ls) (.ref x :: st) m := q_nx (show am_row 217 44 = some (.aload_n 0, 1, 0, 0, 0, 0) from rfl) rfl
theorem e217_45 {d : Nat} {ls : am_L} {st : List Value} {m : am_M} {a : Nat} (hK : mK m a = (1, 10, 0)) : ev d 217 45 ls (.ref a :: st) m = ev d 217 48 ls (.int (mI m a 7) :: st) m := q_get (show am_row 217 45 = some (.getfield 218, 3, 10, 7, 0, 1047) from rfl) (by decide) hK
theorem e217_48 {d : Nat} {ls : am_L} {st : List Value} {m : am_M} {x y : Int32} : ev d 217 48 ls (.int y :: .int x :: st) m = ev d 217 49 ls (.int (x * y) :: st) m := q_nx (show am_row 217 48 = some (.imul, 1, 0, 0, 0, 0) from rfl) rfl
theorem e217_49 {d : Nat} {ls : am_L} {st : List Value} {m : am_M} : ev d 217 49 ls st m = ev d 217 50 ls (.int (nI 2) :: st) m := q_nx (show am_row 217 49 = some (.iconst 2, 1, 0, 0, 0, 0) from rfl) rfl
theorem e217_50 {d : Nat} {ls : am_L} {st : List Value} {m : am_M} {x y : Int32} : ev d 217 50 ls (.int y :: .int x :: st) m = ev d 217 51 ls (.int (x + y) :: st) m := q_nx (show am_row 217 50 = some (.iadd, 1, 0, 0, 0, 0) from rfl) rfl
theorem e217_51 {d : Nat} {ls : am_L} {st : List Value} {m : am_M} {l0 : Option Value} {l1 : Option Value} {l2 : Option Value} {x : Int32} : ev d 217 51 (l0 :: l1 :: l2 :: some (.int x) :: ls) st m = ev d 217 52 (l0 :: l1 :: l2 :: some (.int x) :: ls) (.int x :: st) m := q_nx (show am_row 217 51 = some (.iload_n 3, 1, 0, 0, 0, 0) from rfl) rfl
theorem e217_52 {d : Nat} {ls : am_L} {st : List Value} {m : am_M} {a : Nat} {i x : Int32} (hK : (mK m a).1 = 2) (hi : am_ix i (mK m a).2.2 = true) : ev d 217 52 ls (.int x :: .int i :: .ref a :: st) m = ev d 217 53 ls st (sI m a i.toNatClampNeg x) := q_iast (show am_row 217 52 = some (.iastore, 1, 0, 0, 0, 0) from rfl) hK hi
theorem e217_53 {d : Nat} {ls : am_L} {st : List Value} {m : am_M} {x : Nat} : ev d 217 53 (some (.ref x) :: ls) st m = ev d 217 54 (some (.ref x) :: ls) (.ref x :: st) m := q_nx (show am_row 217 53 = some (.aload_n 0, 1, 0, 0, 0, 0) from rfl) rfl
theorem e217_54 {d : Nat} {ls : am_L} {st : List Value} {m : am_M} {a : Nat} (hK : mK m a = (1, 10, 0)) : ev d 217 54 ls (.ref a :: st) m = ev d 217 57 ls (va_rf (mR m a 6) :: st) m := q_get (show am_row 217 54 = some (.getfield 30, 3, 10, 6, 0, 1046) from rfl) (by decide) hK
theorem e217_57 {d : Nat} {ls : am_L} {st : List Value} {m : am_M} : ev d 217 57 ls st m = ev d 217 58 ls (.int (nI 4) :: st) m := q_nx (show am_row 217 57 = some (.iconst 4, 1, 0, 0, 0, 0) from rfl) rfl
theorem e217_58 {d : Nat} {ls : am_L} {st : List Value} {m : am_M} {x : Nat} : ev d 217 58 (some (.ref x) :: ls) st m = ev d 217 59 (some (.ref x) :: ls) (.ref x :: st) m := q_nx (show am_row 217 58 = some (.aload_n 0, 1, 0, 0, 0, 0) from rfl) rfl
theorem e217_59 {d : Nat} {ls : am_L} {st : List Value} {m : am_M} {a : Nat} (hK : mK m a = (1, 10, 0)) : ev d 217 59 ls (.ref a :: st) m = ev d 217 62 ls (.int (mI m a 7) :: st) m := q_get (show am_row 217 59 = some (.getfield 218, 3, 10, 7, 0, 1047) from rfl) (by decide) hK
theorem e217_62 {d : Nat} {ls : am_L} {st : List Value} {m : am_M} {x y : Int32} : ev d 217 62 ls (.int y :: .int x :: st) m = ev d 217 63 ls (.int (x * y) :: st) m := q_nx (show am_row 217 62 = some (.imul, 1, 0, 0, 0, 0) from rfl) rfl
theorem e217_63 {d : Nat} {ls : am_L} {st : List Value} {m : am_M} : ev d 217 63 ls st m = ev d 217 64 ls (.int (nI 3) :: st) m := q_nx (show am_row 217 63 = some (.iconst 3, 1, 0, 0, 0, 0) from rfl) rfl
theorem e217_64 {d : Nat} {ls : am_L} {st : List Value} {m : am_M} {x y : Int32} : ev d 217 64 ls (.int y :: .int x :: st) m = ev d 217 65 ls (.int (x + y) :: st) m := q_nx (show am_row 217 64 = some (.iadd, 1, 0, 0, 0, 0) from rfl) rfl
theorem e217_65 {d : Nat} {ls : am_L} {st : List Value} {m : am_M} {l0 : Option Value} {l1 : Option Value} {l2 : Option Value} {l3 : Option Value} {x : Int32} : ev d 217 65 (l0 :: l1 :: l2 :: l3 :: some (.int x) :: ls) st m = ev d 217 67 (l0 :: l1 :: l2 :: l3 :: some (.int x) :: ls) (.int x :: st) m := q_nx (show am_row 217 65 = some (.iload 4, 2, 0, 0, 0, 0) from rfl) rfl
theorem e217_67 {d : Nat} {ls : am_L} {st : List Value} {m : am_M} {a : Nat} {i x : Int32} (hK : (mK m a).1 = 2) (hi : am_ix i (mK m a).2.2 = true) : ev d 217 67 ls (.int x :: .int i :: .ref a :: st) m = ev d 217 68 ls st (sI m a i.toNatClampNeg x) := q_iast (show am_row 217 67 = some (.iastore, 1, 0, 0, 0, 0) from rfl) hK hi
theorem e217_68 {d : Nat} {ls : am_L} {st : List Value} {m : am_M} {x : Nat} : ev d 217 68 (some (.ref x) :: ls) st m = ev d 217 69 (some (.ref x) :: ls) (.ref x :: st) m := q_nx (show am_row 217 68 = some (.aload_n 0, 1, 0, 0, 0, 0) from rfl) rfl
theorem e217_69 {d : Nat} {ls : am_L} {st : List Value} {m : am_M} {x : Int32} : ev d 217 69 ls (.int x :: st) m = ev d 217 70 ls (.int x :: .int x :: st) m := q_nx (show am_row 217 69 = some (.dup, 1, 0, 0, 0, 0) from rfl) rfl
theorem e217_69r {d : Nat} {ls : am_L} {st : List Value} {m : am_M} {x : Nat} : ev d 217 69 ls (.ref x :: st) m = ev d 217 70 ls (.ref x :: .ref x :: st) m := q_nx (show am_row 217 69 = some (.dup, 1, 0, 0, 0, 0) from rfl) rfl
theorem e217_70 {d : Nat} {ls : am_L} {st : List Value} {m : am_M} {a : Nat} (hK : mK m a = (1, 10, 0)) : ev d 217 70 ls (.ref a :: st) m = ev d 217 73 ls (.int (mI m a 7) :: st) m := q_get (show am_row 217 70 = some (.getfield 218, 3, 10, 7, 0, 1047) from rfl) (by decide) hK
theorem e217_73 {d : Nat} {ls : am_L} {st : List Value} {m : am_M} : ev d 217 73 ls st m = ev d 217 74 ls (.int (nI 1) :: st) m := q_nx (show am_row 217 73 = some (.iconst 1, 1, 0, 0, 0, 0) from rfl) rfl
theorem e217_74 {d : Nat} {ls : am_L} {st : List Value} {m : am_M} {x y : Int32} : ev d 217 74 ls (.int y :: .int x :: st) m = ev d 217 75 ls (.int (x + y) :: st) m := q_nx (show am_row 217 74 = some (.iadd, 1, 0, 0, 0, 0) from rfl) rfl
theorem e217_75 {d : Nat} {ls : am_L} {st : List Value} {m : am_M} {a : Nat} {x : Int32} (hK : mK m a = (1, 10, 0)) : ev d 217 75 ls (.int x :: .ref a :: st) m = ev d 217 78 ls st (sI m a 7 x) := q_put (show am_row 217 75 = some (.putfield 218, 3, 10, 7, 0, 1047) from rfl) (by decide) rfl hK
theorem e217_78 {d : Nat} {ls : am_L} {st : List Value} {m : am_M} {x : Nat} : ev d 217 78 (some (.ref x) :: ls) st m = ev d 217 79 (some (.ref x) :: ls) (.ref x :: st) m := q_nx (show am_row 217 78 = some (.aload_n 0, 1, 0, 0, 0, 0) from rfl) rfl
theorem e217_79 {d : Nat} {ls : am_L} {st : List Value} {m : am_M} {a : Nat} (hK : mK m a = (1, 10, 0)) : ev d 217 79 ls (.ref a :: st) m = ev d 217 82 ls (.int (mI m a 7) :: st) m := q_get (show am_row 217 79 = some (.getfield 218, 3, 10, 7, 0, 1047) from rfl) (by decide) hK
theorem e217_82 {d : Nat} {ls : am_L} {m : am_M} {x : Int32} : ev d 217 82 ls [.int x] m = some (some (.int x), m) := q_iret (show am_row 217 82 = some (.ireturn, 1, 0, 0, 0, 0) from rfl)
theorem c218 {d : Nat} {m : am_M} {a : Nat} : cal d 218 [.ref a] m = ev d 218 0 [some (.ref a), none] [] m := rfl
theorem e218_0 {d : Nat} {ls : am_L} {st : List Value} {m : am_M} {x : Nat} : ev d 218 0 (some (.ref x) :: ls) st m = ev d 218 1 (some (.ref x) :: ls) (.ref x :: st) m := q_nx (show am_row 218 0 = some (.aload_n 0, 1, 0, 0, 0, 0) from rfl) rfl
theorem e218_1 {d : Nat} {ls : am_L} {st : List Value} {m : am_M} {a : Nat} (hK : mK m a = (1, 10, 0)) : ev d 218 1 ls (.ref a :: st) m = ev d 218 4 ls (.int (mI m a 7) :: st) m := q_get (show am_row 218 1 = some (.getfield 218, 3, 10, 7, 0, 1047) from rfl) (by decide) hK
theorem e218_4 {d : Nat} {ls : am_L} {st : List Value} {m : am_M} {l0 : Option Value} {l1 : Option Value} {x : Int32} : ev d 218 4 (l0 :: l1 :: ls) (.int x :: st) m = ev d 218 5 (am_clr l0 :: some (.int x) :: ls) st m := q_nx (show am_row 218 4 = some (.istore_n 1, 1, 0, 0, 0, 0) from rfl) rfl
theorem e218_5 {d : Nat} {ls : am_L} {st : List Value} {m : am_M} {x : Nat} : ev d 218 5 (some (.ref x) :: ls) st m = ev d 218 6 (some (.ref x) :: ls) (.ref x :: st) m := q_nx (show am_row 218 5 = some (.aload_n 0, 1, 0, 0, 0, 0) from rfl) rfl
theorem e218_6 {d : Nat} {ls : am_L} {st : List Value} {m : am_M} : ev d 218 6 ls st m = ev d 218 7 ls (.int (nI 0) :: st) m := q_nx (show am_row 218 6 = some (.iconst 0, 1, 0, 0, 0, 0) from rfl) rfl
theorem e218_7 {d : Nat} {ls : am_L} {st : List Value} {m : am_M} {a : Nat} {x : Int32} (hK : mK m a = (1, 10, 0)) : ev d 218 7 ls (.int x :: .ref a :: st) m = ev d 218 10 ls st (sI m a 7 x) := q_put (show am_row 218 7 = some (.putfield 218, 3, 10, 7, 0, 1047) from rfl) (by decide) rfl hK
theorem e218_10 {d : Nat} {ls : am_L} {st : List Value} {m : am_M} {l0 : Option Value} {x : Int32} : ev d 218 10 (l0 :: some (.int x) :: ls) st m = ev d 218 11 (l0 :: some (.int x) :: ls) (.int x :: st) m := q_nx (show am_row 218 10 = some (.iload_n 1, 1, 0, 0, 0, 0) from rfl) rfl
theorem e218_11 {d : Nat} {ls : am_L} {m : am_M} {x : Int32} : ev d 218 11 ls [.int x] m = some (some (.int x), m) := q_iret (show am_row 218 11 = some (.ireturn, 1, 0, 0, 0, 0) from rfl)
theorem c219 {d : Nat} {m : am_M} {a : Nat} {v0 : Int32} {v1 : Int32} {v2 : Int32} {v3 : Int32} : cal d 219 [.ref a, .int v0, .int v1, .int v2, .int v3] m = ev d 219 0 [some (.ref a), some (.int v0), some (.int v1), some (.int v2), some (.int v3)] [] m := rfl
theorem e219_0 {d : Nat} {ls : am_L} {st : List Value} {m : am_M} {l0 : Option Value} {x : Int32} : ev d 219 0 (l0 :: some (.int x) :: ls) st m = ev d 219 1 (l0 :: some (.int x) :: ls) (.int x :: st) m := q_nx (show am_row 219 0 = some (.iload_n 1, 1, 0, 0, 0, 0) from rfl) rfl
theorem e219_1_1 {d : Nat} {ls : am_L} {st : List Value} {m : am_M} : ev d 219 1 ls (.int (nI 1) :: st) m = ev d 219 44 ls st m := q_nx (show am_row 219 1 = some (.tableswitch 162 1 7 #[43, 60, 76, 90, 108, 128, 148], 43, 0, 0, 0, 0) from rfl) rfl
theorem e219_1_2 {d : Nat} {ls : am_L} {st : List Value} {m : am_M} : ev d 219 1 ls (.int (nI 2) :: st) m = ev d 219 61 ls st m := q_nx (show am_row 219 1 = some (.tableswitch 162 1 7 #[43, 60, 76, 90, 108, 128, 148], 43, 0, 0, 0, 0) from rfl) rfl
theorem e219_1_3 {d : Nat} {ls : am_L} {st : List Value} {m : am_M} : ev d 219 1 ls (.int (nI 3) :: st) m = ev d 219 77 ls st m := q_nx (show am_row 219 1 = some (.tableswitch 162 1 7 #[43, 60, 76, 90, 108, 128, 148], 43, 0, 0, 0, 0) from rfl) rfl
theorem e219_1_4 {d : Nat} {ls : am_L} {st : List Value} {m : am_M} : ev d 219 1 ls (.int (nI 4) :: st) m = ev d 219 91 ls st m := q_nx (show am_row 219 1 = some (.tableswitch 162 1 7 #[43, 60, 76, 90, 108, 128, 148], 43, 0, 0, 0, 0) from rfl) rfl
theorem e219_1_5 {d : Nat} {ls : am_L} {st : List Value} {m : am_M} : ev d 219 1 ls (.int (nI 5) :: st) m = ev d 219 109 ls st m := q_nx (show am_row 219 1 = some (.tableswitch 162 1 7 #[43, 60, 76, 90, 108, 128, 148], 43, 0, 0, 0, 0) from rfl) rfl
theorem e219_1_6 {d : Nat} {ls : am_L} {st : List Value} {m : am_M} : ev d 219 1 ls (.int (nI 6) :: st) m = ev d 219 129 ls st m := q_nx (show am_row 219 1 = some (.tableswitch 162 1 7 #[43, 60, 76, 90, 108, 128, 148], 43, 0, 0, 0, 0) from rfl) rfl
theorem e219_1_7 {d : Nat} {ls : am_L} {st : List Value} {m : am_M} : ev d 219 1 ls (.int (nI 7) :: st) m = ev d 219 149 ls st m := q_nx (show am_row 219 1 = some (.tableswitch 162 1 7 #[43, 60, 76, 90, 108, 128, 148], 43, 0, 0, 0, 0) from rfl) rfl
theorem e219_1_x {d : Nat} {ls : am_L} {st : List Value} {m : am_M} {x : Int32} (hx : x.toInt < 1 ∨ 7 < x.toInt) : ev d 219 1 ls (.int x :: st) m = ev d 219 163 ls st m := q_nx (show am_row 219 1 = some (.tableswitch 162 1 7 #[43, 60, 76, 90, 108, 128, 148], 43, 0, 0, 0, 0) from rfl) (if_pos hx)
theorem e219_44 {d : Nat} {ls : am_L} {st : List Value} {m : am_M} {x : Nat} : ev d 219 44 (some (.ref x) :: ls) st m = ev d 219 45 (some (.ref x) :: ls) (.ref x :: st) m := q_nx (show am_row 219 44 = some (.aload_n 0, 1, 0, 0, 0, 0) from rfl) rfl
theorem e219_45 {d : Nat} {ls : am_L} {st : List Value} {m : am_M} {l0 : Option Value} {l1 : Option Value} {x : Int32} : ev d 219 45 (l0 :: l1 :: some (.int x) :: ls) st m = ev d 219 46 (l0 :: l1 :: some (.int x) :: ls) (.int x :: st) m := q_nx (show am_row 219 45 = some (.iload_n 2, 1, 0, 0, 0, 0) from rfl) rfl
theorem e219_46 {d : Nat} {ls : am_L} {st : List Value} {m : am_M} {l0 : Option Value} {l1 : Option Value} {l2 : Option Value} {x : Int32} : ev d 219 46 (l0 :: l1 :: l2 :: some (.int x) :: ls) st m = ev d 219 47 (l0 :: l1 :: l2 :: some (.int x) :: ls) (.int x :: st) m := q_nx (show am_row 219 46 = some (.iload_n 3, 1, 0, 0, 0, 0) from rfl) rfl
theorem e219_47 {d : Nat} {ls : am_L} {st : List Value} {m : am_M} {l0 : Option Value} {l1 : Option Value} {l2 : Option Value} {l3 : Option Value} {x : Int32} : ev d 219 47 (l0 :: l1 :: l2 :: l3 :: some (.int x) :: ls) st m = ev d 219 49 (l0 :: l1 :: l2 :: l3 :: some (.int x) :: ls) (.int x :: st) m := q_nx (show am_row 219 47 = some (.iload 4, 2, 0, 0, 0, 0) from rfl) rfl
theorem e219_49 {d : Nat} {ls : am_L} {st : List Value} {m : am_M} {a : Nat} {v0 : Int32} {v1 : Int32} {v2 : Int32} (hK : mK m a = (1, 10, 0)) (hw : am_w st ≤ 8) : ev (d + 1) 219 49 ls (.int v2 :: .int v1 :: .int v0 :: .ref a :: st) m = am_k (cal d 183 [.ref a, .int v0, .int v1, .int v2] m) (fun v m'' => ev (d + 1) 219 52 ls (v.toList ++ st) m'') := q_cl (show am_row 219 49 = some (.invokevirtual 154, 3, 183, 0, 0, 1276) from rfl) rfl (if_pos ⟨hK, (by show 3 ≤ _; simp only [List.length_cons]; omega), hw⟩)
theorem e219_52 {d : Nat} {ls : am_L} {st : List Value} {m : am_M} {x : Int32} : ev d 219 52 ls (.int x :: st) m = if x < nI 0 then ev d 219 59 ls st m else ev d 219 55 ls st m := q_ite (a := (59, ls, st, m)) (b := (55, ls, st, m)) (show am_row 219 52 = some (.ifCond .lt 7, 3, 0, 0, 0, 0) from rfl) rfl
theorem e219_55 {d : Nat} {ls : am_L} {st : List Value} {m : am_M} : ev d 219 55 ls st m = ev d 219 56 ls (.int (nI 1) :: st) m := q_nx (show am_row 219 55 = some (.iconst 1, 1, 0, 0, 0, 0) from rfl) rfl
theorem e219_56 {d : Nat} {ls : am_L} {st : List Value} {m : am_M} : ev d 219 56 ls st m = ev d 219 60 ls st m := q_nx (show am_row 219 56 = some (.goto 4, 3, 0, 0, 0, 0) from rfl) rfl
theorem e219_59 {d : Nat} {ls : am_L} {st : List Value} {m : am_M} : ev d 219 59 ls st m = ev d 219 60 ls (.int (nI 0) :: st) m := q_nx (show am_row 219 59 = some (.iconst 0, 1, 0, 0, 0, 0) from rfl) rfl
theorem e219_60 {d : Nat} {ls : am_L} {m : am_M} {x : Int32} (hb : am_bb x = true) : ev d 219 60 ls [.int x] m = some (some (.int x), m) := q_zret (show am_row 219 60 = some (.ireturn, 1, 1, 0, 0, 0) from rfl) hb
theorem e219_61 {d : Nat} {ls : am_L} {st : List Value} {m : am_M} {x : Nat} : ev d 219 61 (some (.ref x) :: ls) st m = ev d 219 62 (some (.ref x) :: ls) (.ref x :: st) m := q_nx (show am_row 219 61 = some (.aload_n 0, 1, 0, 0, 0, 0) from rfl) rfl
theorem e219_62 {d : Nat} {ls : am_L} {st : List Value} {m : am_M} {l0 : Option Value} {l1 : Option Value} {x : Int32} : ev d 219 62 (l0 :: l1 :: some (.int x) :: ls) st m = ev d 219 63 (l0 :: l1 :: some (.int x) :: ls) (.int x :: st) m := q_nx (show am_row 219 62 = some (.iload_n 2, 1, 0, 0, 0, 0) from rfl) rfl
theorem e219_63 {d : Nat} {ls : am_L} {st : List Value} {m : am_M} {l0 : Option Value} {l1 : Option Value} {l2 : Option Value} {x : Int32} : ev d 219 63 (l0 :: l1 :: l2 :: some (.int x) :: ls) st m = ev d 219 64 (l0 :: l1 :: l2 :: some (.int x) :: ls) (.int x :: st) m := q_nx (show am_row 219 63 = some (.iload_n 3, 1, 0, 0, 0, 0) from rfl) rfl
theorem e219_64 {d : Nat} {ls : am_L} {st : List Value} {m : am_M} {a : Nat} {v0 : Int32} {v1 : Int32} (hK : mK m a = (1, 10, 0)) (hw : am_w st ≤ 8) : ev (d + 1) 219 64 ls (.int v1 :: .int v0 :: .ref a :: st) m = am_k (cal d 185 [.ref a, .int v0, .int v1] m) (fun v m'' => ev (d + 1) 219 67 ls (v.toList ++ st) m'') := q_cl (show am_row 219 64 = some (.invokevirtual 254, 3, 185, 0, 0, 1451) from rfl) rfl (if_pos ⟨hK, (by show 2 ≤ _; simp only [List.length_cons]; omega), hw⟩)
theorem e219_67 {d : Nat} {ls : am_L} {st : List Value} {m : am_M} : ev d 219 67 ls st m = ev d 219 68 ls (.int (nI 1) :: st) m := q_nx (show am_row 219 67 = some (.iconst 1, 1, 0, 0, 0, 0) from rfl) rfl
theorem e219_68 {d : Nat} {ls : am_L} {st : List Value} {m : am_M} {x y : Int32} : ev d 219 68 ls (.int y :: .int x :: st) m = if x = y then ev d 219 71 ls st m else ev d 219 75 ls st m := q_ite (a := (71, ls, st, m)) (b := (75, ls, st, m)) (show am_row 219 68 = some (.if_icmp .ne 7, 3, 0, 0, 0, 0) from rfl) rfl
theorem e219_71 {d : Nat} {ls : am_L} {st : List Value} {m : am_M} : ev d 219 71 ls st m = ev d 219 72 ls (.int (nI 1) :: st) m := q_nx (show am_row 219 71 = some (.iconst 1, 1, 0, 0, 0, 0) from rfl) rfl
theorem e219_72 {d : Nat} {ls : am_L} {st : List Value} {m : am_M} : ev d 219 72 ls st m = ev d 219 76 ls st m := q_nx (show am_row 219 72 = some (.goto 4, 3, 0, 0, 0, 0) from rfl) rfl
theorem e219_75 {d : Nat} {ls : am_L} {st : List Value} {m : am_M} : ev d 219 75 ls st m = ev d 219 76 ls (.int (nI 0) :: st) m := q_nx (show am_row 219 75 = some (.iconst 0, 1, 0, 0, 0, 0) from rfl) rfl
theorem e219_76 {d : Nat} {ls : am_L} {m : am_M} {x : Int32} (hb : am_bb x = true) : ev d 219 76 ls [.int x] m = some (some (.int x), m) := q_zret (show am_row 219 76 = some (.ireturn, 1, 1, 0, 0, 0) from rfl) hb
theorem e219_77 {d : Nat} {ls : am_L} {st : List Value} {m : am_M} {x : Nat} : ev d 219 77 (some (.ref x) :: ls) st m = ev d 219 78 (some (.ref x) :: ls) (.ref x :: st) m := q_nx (show am_row 219 77 = some (.aload_n 0, 1, 0, 0, 0, 0) from rfl) rfl
theorem e219_78 {d : Nat} {ls : am_L} {st : List Value} {m : am_M} {a : Nat} (hK : mK m a = (1, 10, 0)) (hw : am_w st ≤ 8) : ev (d + 1) 219 78 ls (.ref a :: st) m = am_k (cal d 198 [.ref a] m) (fun v m'' => ev (d + 1) 219 81 ls (v.toList ++ st) m'') := q_cl (show am_row 219 78 = some (.invokevirtual 207, 3, 198, 0, 0, 1325) from rfl) rfl (if_pos ⟨hK, (Nat.zero_le _), hw⟩)
theorem e219_81 {d : Nat} {ls : am_L} {st : List Value} {m : am_M} : ev d 219 81 ls st m = ev d 219 82 ls (.int (nI 1) :: st) m := q_nx (show am_row 219 81 = some (.iconst 1, 1, 0, 0, 0, 0) from rfl) rfl
theorem e219_82 {d : Nat} {ls : am_L} {st : List Value} {m : am_M} {x y : Int32} : ev d 219 82 ls (.int y :: .int x :: st) m = if x = y then ev d 219 85 ls st m else ev d 219 89 ls st m := q_ite (a := (85, ls, st, m)) (b := (89, ls, st, m)) (show am_row 219 82 = some (.if_icmp .ne 7, 3, 0, 0, 0, 0) from rfl) rfl
theorem e219_85 {d : Nat} {ls : am_L} {st : List Value} {m : am_M} : ev d 219 85 ls st m = ev d 219 86 ls (.int (nI 1) :: st) m := q_nx (show am_row 219 85 = some (.iconst 1, 1, 0, 0, 0, 0) from rfl) rfl
theorem e219_86 {d : Nat} {ls : am_L} {st : List Value} {m : am_M} : ev d 219 86 ls st m = ev d 219 90 ls st m := q_nx (show am_row 219 86 = some (.goto 4, 3, 0, 0, 0, 0) from rfl) rfl
theorem e219_89 {d : Nat} {ls : am_L} {st : List Value} {m : am_M} : ev d 219 89 ls st m = ev d 219 90 ls (.int (nI 0) :: st) m := q_nx (show am_row 219 89 = some (.iconst 0, 1, 0, 0, 0, 0) from rfl) rfl
theorem e219_90 {d : Nat} {ls : am_L} {m : am_M} {x : Int32} (hb : am_bb x = true) : ev d 219 90 ls [.int x] m = some (some (.int x), m) := q_zret (show am_row 219 90 = some (.ireturn, 1, 1, 0, 0, 0) from rfl) hb
theorem e219_91 {d : Nat} {ls : am_L} {st : List Value} {m : am_M} {l0 : Option Value} {l1 : Option Value} {x : Int32} : ev d 219 91 (l0 :: l1 :: some (.int x) :: ls) st m = ev d 219 92 (l0 :: l1 :: some (.int x) :: ls) (.int x :: st) m := q_nx (show am_row 219 91 = some (.iload_n 2, 1, 0, 0, 0, 0) from rfl) rfl
theorem e219_92 {d : Nat} {ls : am_L} {st : List Value} {m : am_M} {x : Int32} : ev d 219 92 ls (.int x :: st) m = if x < nI 0 then ev d 219 107 ls st m else ev d 219 95 ls st m := q_ite (a := (107, ls, st, m)) (b := (95, ls, st, m)) (show am_row 219 92 = some (.ifCond .lt 15, 3, 0, 0, 0, 0) from rfl) rfl
theorem e219_95 {d : Nat} {ls : am_L} {st : List Value} {m : am_M} {x : Nat} : ev d 219 95 (some (.ref x) :: ls) st m = ev d 219 96 (some (.ref x) :: ls) (.ref x :: st) m := q_nx (show am_row 219 95 = some (.aload_n 0, 1, 0, 0, 0, 0) from rfl) rfl
theorem e219_96 {d : Nat} {ls : am_L} {st : List Value} {m : am_M} {a : Nat} (hK : mK m a = (1, 10, 0)) (hw : am_w st ≤ 8) : ev (d + 1) 219 96 ls (.ref a :: st) m = am_k (cal d 202 [.ref a] m) (fun v m'' => ev (d + 1) 219 99 ls (v.toList ++ st) m'') := q_cl (show am_row 219 96 = some (.invokevirtual 257, 3, 202, 0, 0, 1452) from rfl) rfl (if_pos ⟨hK, (Nat.zero_le _), hw⟩)
theorem e219_99 {d : Nat} {ls : am_L} {st : List Value} {m : am_M} {l0 : Option Value} {l1 : Option Value} {x : Int32} : ev d 219 99 (l0 :: l1 :: some (.int x) :: ls) st m = ev d 219 100 (l0 :: l1 :: some (.int x) :: ls) (.int x :: st) m := q_nx (show am_row 219 99 = some (.iload_n 2, 1, 0, 0, 0, 0) from rfl) rfl
theorem e219_100 {d : Nat} {ls : am_L} {st : List Value} {m : am_M} {x y : Int32} : ev d 219 100 ls (.int y :: .int x :: st) m = if x = y then ev d 219 103 ls st m else ev d 219 107 ls st m := q_ite (a := (103, ls, st, m)) (b := (107, ls, st, m)) (show am_row 219 100 = some (.if_icmp .ne 7, 3, 0, 0, 0, 0) from rfl) rfl
theorem e219_103 {d : Nat} {ls : am_L} {st : List Value} {m : am_M} : ev d 219 103 ls st m = ev d 219 104 ls (.int (nI 1) :: st) m := q_nx (show am_row 219 103 = some (.iconst 1, 1, 0, 0, 0, 0) from rfl) rfl
theorem e219_104 {d : Nat} {ls : am_L} {st : List Value} {m : am_M} : ev d 219 104 ls st m = ev d 219 108 ls st m := q_nx (show am_row 219 104 = some (.goto 4, 3, 0, 0, 0, 0) from rfl) rfl
theorem e219_107 {d : Nat} {ls : am_L} {st : List Value} {m : am_M} : ev d 219 107 ls st m = ev d 219 108 ls (.int (nI 0) :: st) m := q_nx (show am_row 219 107 = some (.iconst 0, 1, 0, 0, 0, 0) from rfl) rfl
theorem e219_108 {d : Nat} {ls : am_L} {m : am_M} {x : Int32} (hb : am_bb x = true) : ev d 219 108 ls [.int x] m = some (some (.int x), m) := q_zret (show am_row 219 108 = some (.ireturn, 1, 1, 0, 0, 0) from rfl) hb
theorem e219_109 {d : Nat} {ls : am_L} {st : List Value} {m : am_M} {l0 : Option Value} {l1 : Option Value} {l2 : Option Value} {x : Int32} : ev d 219 109 (l0 :: l1 :: l2 :: some (.int x) :: ls) st m = ev d 219 110 (l0 :: l1 :: l2 :: some (.int x) :: ls) (.int x :: st) m := q_nx (show am_row 219 109 = some (.iload_n 3, 1, 0, 0, 0, 0) from rfl) rfl
theorem e219_110 {d : Nat} {ls : am_L} {st : List Value} {m : am_M} : ev d 219 110 ls st m = ev d 219 111 ls (.int (-1) :: st) m := q_nx (show am_row 219 110 = some (.iconst (-1), 1, 0, 0, 0, 0) from rfl) rfl
theorem e219_111 {d : Nat} {ls : am_L} {st : List Value} {m : am_M} {x y : Int32} : ev d 219 111 ls (.int y :: .int x :: st) m = if x = y then ev d 219 127 ls st m else ev d 219 114 ls st m := q_ite (a := (127, ls, st, m)) (b := (114, ls, st, m)) (show am_row 219 111 = some (.if_icmp .eq 16, 3, 0, 0, 0, 0) from rfl) rfl
theorem e219_114 {d : Nat} {ls : am_L} {st : List Value} {m : am_M} {x : Nat} : ev d 219 114 (some (.ref x) :: ls) st m = ev d 219 115 (some (.ref x) :: ls) (.ref x :: st) m := q_nx (show am_row 219 114 = some (.aload_n 0, 1, 0, 0, 0, 0) from rfl) rfl
theorem e219_115 {d : Nat} {ls : am_L} {st : List Value} {m : am_M} {l0 : Option Value} {l1 : Option Value} {x : Int32} : ev d 219 115 (l0 :: l1 :: some (.int x) :: ls) st m = ev d 219 116 (l0 :: l1 :: some (.int x) :: ls) (.int x :: st) m := q_nx (show am_row 219 115 = some (.iload_n 2, 1, 0, 0, 0, 0) from rfl) rfl
theorem e219_116 {d : Nat} {ls : am_L} {st : List Value} {m : am_M} {a : Nat} {v0 : Int32} (hK : mK m a = (1, 10, 0)) (hw : am_w st ≤ 8) : ev (d + 1) 219 116 ls (.int v0 :: .ref a :: st) m = am_k (cal d 203 [.ref a, .int v0] m) (fun v m'' => ev (d + 1) 219 119 ls (v.toList ++ st) m'') := q_cl (show am_row 219 116 = some (.invokevirtual 260, 3, 203, 0, 0, 1453) from rfl) rfl (if_pos ⟨hK, (by show 1 ≤ _; simp only [List.length_cons]; omega), hw⟩)
theorem e219_119 {d : Nat} {ls : am_L} {st : List Value} {m : am_M} {l0 : Option Value} {l1 : Option Value} {l2 : Option Value} {x : Int32} : ev d 219 119 (l0 :: l1 :: l2 :: some (.int x) :: ls) st m = ev d 219 120 (l0 :: l1 :: l2 :: some (.int x) :: ls) (.int x :: st) m := q_nx (show am_row 219 119 = some (.iload_n 3, 1, 0, 0, 0, 0) from rfl) rfl
theorem e219_120 {d : Nat} {ls : am_L} {st : List Value} {m : am_M} {x y : Int32} : ev d 219 120 ls (.int y :: .int x :: st) m = if x = y then ev d 219 123 ls st m else ev d 219 127 ls st m := q_ite (a := (123, ls, st, m)) (b := (127, ls, st, m)) (show am_row 219 120 = some (.if_icmp .ne 7, 3, 0, 0, 0, 0) from rfl) rfl
theorem e219_123 {d : Nat} {ls : am_L} {st : List Value} {m : am_M} : ev d 219 123 ls st m = ev d 219 124 ls (.int (nI 1) :: st) m := q_nx (show am_row 219 123 = some (.iconst 1, 1, 0, 0, 0, 0) from rfl) rfl
theorem e219_124 {d : Nat} {ls : am_L} {st : List Value} {m : am_M} : ev d 219 124 ls st m = ev d 219 128 ls st m := q_nx (show am_row 219 124 = some (.goto 4, 3, 0, 0, 0, 0) from rfl) rfl
theorem e219_127 {d : Nat} {ls : am_L} {st : List Value} {m : am_M} : ev d 219 127 ls st m = ev d 219 128 ls (.int (nI 0) :: st) m := q_nx (show am_row 219 127 = some (.iconst 0, 1, 0, 0, 0, 0) from rfl) rfl
theorem e219_128 {d : Nat} {ls : am_L} {m : am_M} {x : Int32} (hb : am_bb x = true) : ev d 219 128 ls [.int x] m = some (some (.int x), m) := q_zret (show am_row 219 128 = some (.ireturn, 1, 1, 0, 0, 0) from rfl) hb
theorem e219_129 {d : Nat} {ls : am_L} {st : List Value} {m : am_M} {l0 : Option Value} {l1 : Option Value} {l2 : Option Value} {x : Int32} : ev d 219 129 (l0 :: l1 :: l2 :: some (.int x) :: ls) st m = ev d 219 130 (l0 :: l1 :: l2 :: some (.int x) :: ls) (.int x :: st) m := q_nx (show am_row 219 129 = some (.iload_n 3, 1, 0, 0, 0, 0) from rfl) rfl
theorem e219_130 {d : Nat} {ls : am_L} {st : List Value} {m : am_M} : ev d 219 130 ls st m = ev d 219 131 ls (.int (-1) :: st) m := q_nx (show am_row 219 130 = some (.iconst (-1), 1, 0, 0, 0, 0) from rfl) rfl
theorem e219_131 {d : Nat} {ls : am_L} {st : List Value} {m : am_M} {x y : Int32} : ev d 219 131 ls (.int y :: .int x :: st) m = if x = y then ev d 219 147 ls st m else ev d 219 134 ls st m := q_ite (a := (147, ls, st, m)) (b := (134, ls, st, m)) (show am_row 219 131 = some (.if_icmp .eq 16, 3, 0, 0, 0, 0) from rfl) rfl
theorem e219_134 {d : Nat} {ls : am_L} {st : List Value} {m : am_M} {x : Nat} : ev d 219 134 (some (.ref x) :: ls) st m = ev d 219 135 (some (.ref x) :: ls) (.ref x :: st) m := q_nx (show am_row 219 134 = some (.aload_n 0, 1, 0, 0, 0, 0) from rfl) rfl
theorem e219_135 {d : Nat} {ls : am_L} {st : List Value} {m : am_M} {l0 : Option Value} {l1 : Option Value} {x : Int32} : ev d 219 135 (l0 :: l1 :: some (.int x) :: ls) st m = ev d 219 136 (l0 :: l1 :: some (.int x) :: ls) (.int x :: st) m := q_nx (show am_row 219 135 = some (.iload_n 2, 1, 0, 0, 0, 0) from rfl) rfl
theorem e219_136 {d : Nat} {ls : am_L} {st : List Value} {m : am_M} {a : Nat} {v0 : Int32} (hK : mK m a = (1, 10, 0)) (hw : am_w st ≤ 8) : ev (d + 1) 219 136 ls (.int v0 :: .ref a :: st) m = am_k (cal d 204 [.ref a, .int v0] m) (fun v m'' => ev (d + 1) 219 139 ls (v.toList ++ st) m'') := q_cl (show am_row 219 136 = some (.invokevirtual 263, 3, 204, 0, 0, 1454) from rfl) rfl (if_pos ⟨hK, (by show 1 ≤ _; simp only [List.length_cons]; omega), hw⟩)
theorem e219_139 {d : Nat} {ls : am_L} {st : List Value} {m : am_M} {l0 : Option Value} {l1 : Option Value} {l2 : Option Value} {x : Int32} : ev d 219 139 (l0 :: l1 :: l2 :: some (.int x) :: ls) st m = ev d 219 140 (l0 :: l1 :: l2 :: some (.int x) :: ls) (.int x :: st) m := q_nx (show am_row 219 139 = some (.iload_n 3, 1, 0, 0, 0, 0) from rfl) rfl
theorem e219_140 {d : Nat} {ls : am_L} {st : List Value} {m : am_M} {x y : Int32} : ev d 219 140 ls (.int y :: .int x :: st) m = if x = y then ev d 219 143 ls st m else ev d 219 147 ls st m := q_ite (a := (143, ls, st, m)) (b := (147, ls, st, m)) (show am_row 219 140 = some (.if_icmp .ne 7, 3, 0, 0, 0, 0) from rfl) rfl
theorem e219_143 {d : Nat} {ls : am_L} {st : List Value} {m : am_M} : ev d 219 143 ls st m = ev d 219 144 ls (.int (nI 1) :: st) m := q_nx (show am_row 219 143 = some (.iconst 1, 1, 0, 0, 0, 0) from rfl) rfl
theorem e219_144 {d : Nat} {ls : am_L} {st : List Value} {m : am_M} : ev d 219 144 ls st m = ev d 219 148 ls st m := q_nx (show am_row 219 144 = some (.goto 4, 3, 0, 0, 0, 0) from rfl) rfl
theorem e219_147 {d : Nat} {ls : am_L} {st : List Value} {m : am_M} : ev d 219 147 ls st m = ev d 219 148 ls (.int (nI 0) :: st) m := q_nx (show am_row 219 147 = some (.iconst 0, 1, 0, 0, 0, 0) from rfl) rfl
theorem e219_148 {d : Nat} {ls : am_L} {m : am_M} {x : Int32} (hb : am_bb x = true) : ev d 219 148 ls [.int x] m = some (some (.int x), m) := q_zret (show am_row 219 148 = some (.ireturn, 1, 1, 0, 0, 0) from rfl) hb
theorem e219_149 {d : Nat} {ls : am_L} {st : List Value} {m : am_M} {x : Nat} : ev d 219 149 (some (.ref x) :: ls) st m = ev d 219 150 (some (.ref x) :: ls) (.ref x :: st) m := q_nx (show am_row 219 149 = some (.aload_n 0, 1, 0, 0, 0, 0) from rfl) rfl
theorem e219_150 {d : Nat} {ls : am_L} {st : List Value} {m : am_M} {a : Nat} (hK : mK m a = (1, 10, 0)) (hw : am_w st ≤ 8) : ev (d + 1) 219 150 ls (.ref a :: st) m = am_k (cal d 186 [.ref a] m) (fun v m'' => ev (d + 1) 219 153 ls (v.toList ++ st) m'') := q_cl (show am_row 219 150 = some (.invokevirtual 266, 3, 186, 0, 0, 1455) from rfl) rfl (if_pos ⟨hK, (Nat.zero_le _), hw⟩)
theorem e219_153 {d : Nat} {ls : am_L} {st : List Value} {m : am_M} : ev d 219 153 ls st m = ev d 219 154 ls (.int (nI 1) :: st) m := q_nx (show am_row 219 153 = some (.iconst 1, 1, 0, 0, 0, 0) from rfl) rfl
theorem e219_154 {d : Nat} {ls : am_L} {st : List Value} {m : am_M} {x y : Int32} : ev d 219 154 ls (.int y :: .int x :: st) m = if x = y then ev d 219 157 ls st m else ev d 219 161 ls st m := q_ite (a := (157, ls, st, m)) (b := (161, ls, st, m)) (show am_row 219 154 = some (.if_icmp .ne 7, 3, 0, 0, 0, 0) from rfl) rfl
theorem e219_157 {d : Nat} {ls : am_L} {st : List Value} {m : am_M} : ev d 219 157 ls st m = ev d 219 158 ls (.int (nI 1) :: st) m := q_nx (show am_row 219 157 = some (.iconst 1, 1, 0, 0, 0, 0) from rfl) rfl
theorem e219_158 {d : Nat} {ls : am_L} {st : List Value} {m : am_M} : ev d 219 158 ls st m = ev d 219 162 ls st m := q_nx (show am_row 219 158 = some (.goto 4, 3, 0, 0, 0, 0) from rfl) rfl
theorem e219_161 {d : Nat} {ls : am_L} {st : List Value} {m : am_M} : ev d 219 161 ls st m = ev d 219 162 ls (.int (nI 0) :: st) m := q_nx (show am_row 219 161 = some (.iconst 0, 1, 0, 0, 0, 0) from rfl) rfl
theorem e219_162 {d : Nat} {ls : am_L} {m : am_M} {x : Int32} (hb : am_bb x = true) : ev d 219 162 ls [.int x] m = some (some (.int x), m) := q_zret (show am_row 219 162 = some (.ireturn, 1, 1, 0, 0, 0) from rfl) hb
theorem e219_163 {d : Nat} {ls : am_L} {st : List Value} {m : am_M} : ev d 219 163 ls st m = ev d 219 164 ls (.int (nI 0) :: st) m := q_nx (show am_row 219 163 = some (.iconst 0, 1, 0, 0, 0, 0) from rfl) rfl
theorem e219_164 {d : Nat} {ls : am_L} {m : am_M} {x : Int32} (hb : am_bb x = true) : ev d 219 164 ls [.int x] m = some (some (.int x), m) := q_zret (show am_row 219 164 = some (.ireturn, 1, 1, 0, 0, 0) from rfl) hb
theorem c220 {d : Nat} {m : am_M} {v0 : Nat} {v1 : Nat} : cal d 220 [.ref v0, .ref v1] m = ev d 220 0 [some (.ref v0), some (.ref v1), none] [] m := rfl
theorem e220_0 {d : Nat} {ls : am_L} {st : List Value} {m : am_M} : ev d 220 0 ls st m = ev d 220 1 ls (.int (nI 0) :: st) m := q_nx (show am_row 220 0 = some (.iconst 0, 1, 0, 0, 0, 0) from rfl) rfl
theorem e220_1 {d : Nat} {ls : am_L} {st : List Value} {m : am_M} {l0 : Option Value} {l1 : Option Value} {l2 : Option Value} {x : Int32} : ev d 220 1 (l0 :: l1 :: l2 :: ls) (.int x :: st) m = ev d 220 2 (l0 :: am_clr l1 :: some (.int x) :: ls) st m := q_nx (show am_row 220 1 = some (.istore_n 2, 1, 0, 0, 0, 0) from rfl) rfl
theorem e220_2 {d : Nat} {ls : am_L} {st : List Value} {m : am_M} {l0 : Option Value} {l1 : Option Value} {x : Int32} : ev d 220 2 (l0 :: l1 :: some (.int x) :: ls) st m = ev d 220 3 (l0 :: l1 :: some (.int x) :: ls) (.int x :: st) m := q_nx (show am_row 220 2 = some (.iload_n 2, 1, 0, 0, 0, 0) from rfl) rfl
theorem e220_3 {d : Nat} {ls : am_L} {st : List Value} {m : am_M} : ev d 220 3 ls st m = ev d 220 6 ls (.int (nI 6508) :: st) m := q_nx (show am_row 220 3 = some (.sipush 6508, 3, 0, 0, 0, 0) from rfl) rfl
theorem e220_6 {d : Nat} {ls : am_L} {st : List Value} {m : am_M} {x y : Int32} : ev d 220 6 ls (.int y :: .int x :: st) m = if x < y then ev d 220 9 ls st m else ev d 220 21 ls st m := q_ite (a := (9, ls, st, m)) (b := (21, ls, st, m)) (show am_row 220 6 = some (.if_icmp .ge 15, 3, 0, 0, 0, 0) from rfl) rfl
theorem e220_9 {d : Nat} {ls : am_L} {st : List Value} {m : am_M} {l0 : Option Value} {x : Nat} : ev d 220 9 (l0 :: some (.ref x) :: ls) st m = ev d 220 10 (l0 :: some (.ref x) :: ls) (.ref x :: st) m := q_nx (show am_row 220 9 = some (.aload_n 1, 1, 0, 0, 0, 0) from rfl) rfl
theorem e220_10 {d : Nat} {ls : am_L} {st : List Value} {m : am_M} {l0 : Option Value} {l1 : Option Value} {x : Int32} : ev d 220 10 (l0 :: l1 :: some (.int x) :: ls) st m = ev d 220 11 (l0 :: l1 :: some (.int x) :: ls) (.int x :: st) m := q_nx (show am_row 220 10 = some (.iload_n 2, 1, 0, 0, 0, 0) from rfl) rfl
theorem e220_11 {d : Nat} {ls : am_L} {st : List Value} {m : am_M} {x : Nat} : ev d 220 11 (some (.ref x) :: ls) st m = ev d 220 12 (some (.ref x) :: ls) (.ref x :: st) m := q_nx (show am_row 220 11 = some (.aload_n 0, 1, 0, 0, 0, 0) from rfl) rfl
theorem e220_12 {d : Nat} {ls : am_L} {st : List Value} {m : am_M} {l0 : Option Value} {l1 : Option Value} {x : Int32} : ev d 220 12 (l0 :: l1 :: some (.int x) :: ls) st m = ev d 220 13 (l0 :: l1 :: some (.int x) :: ls) (.int x :: st) m := q_nx (show am_row 220 12 = some (.iload_n 2, 1, 0, 0, 0, 0) from rfl) rfl
theorem e220_13 {d : Nat} {ls : am_L} {st : List Value} {m : am_M} {a : Nat} {i : Int32} (hK : (mK m a).1 = 2) (hi : am_ix i (mK m a).2.2 = true) : ev d 220 13 ls (.int i :: .ref a :: st) m = ev d 220 14 ls (.int (mI m a i.toNatClampNeg) :: st) m := q_iald (show am_row 220 13 = some (.iaload, 1, 0, 0, 0, 0) from rfl) hK hi
theorem e220_14 {d : Nat} {ls : am_L} {st : List Value} {m : am_M} {a : Nat} {i x : Int32} (hK : (mK m a).1 = 2) (hi : am_ix i (mK m a).2.2 = true) : ev d 220 14 ls (.int x :: .int i :: .ref a :: st) m = ev d 220 15 ls st (sI m a i.toNatClampNeg x) := q_iast (show am_row 220 14 = some (.iastore, 1, 0, 0, 0, 0) from rfl) hK hi
theorem e220_15 {d : Nat} {ls : am_L} {st : List Value} {m : am_M} {l0 : Option Value} {l1 : Option Value} {x : Int32} : ev d 220 15 (l0 :: l1 :: some (.int x) :: ls) st m = ev d 220 18 (l0 :: am_clr l1 :: some (.int (x + (nI 1))) :: ls) st m := q_nx (show am_row 220 15 = some (.iinc 2 1, 3, 0, 0, 0, 0) from rfl) rfl
theorem e220_18 {d : Nat} {ls : am_L} {st : List Value} {m : am_M} : ev d 220 18 ls st m = ev d 220 2 ls st m := q_nx (show am_row 220 18 = some (.goto (-16), 3, 0, 0, 0, 0) from rfl) rfl
theorem e220_21 {d : Nat} {ls : am_L} {m : am_M} : ev d 220 21 ls [] m = some (none, m) := q_rt (show am_row 220 21 = some (.return_, 1, 0, 0, 0, 0) from rfl) rfl
theorem c221 {d : Nat} {m : am_M} {a : Nat} : cal d 221 [.ref a] m = ev d 221 0 [some (.ref a), none, none, none, none, none, none] [] m := rfl
theorem e221_0 {d : Nat} {ls : am_L} {st : List Value} {m : am_M} {x : Nat} : ev d 221 0 (some (.ref x) :: ls) st m = ev d 221 1 (some (.ref x) :: ls) (.ref x :: st) m := q_nx (show am_row 221 0 = some (.aload_n 0, 1, 0, 0, 0, 0) from rfl) rfl
theorem e221_1 {d : Nat} {ls : am_L} {st : List Value} {m : am_M} {a : Nat} (hK : mK m a = (1, 10, 0)) : ev d 221 1 ls (.ref a :: st) m = ev d 221 4 ls (.int (mI m a 11) :: st) m := q_get (show am_row 221 1 = some (.getfield 189, 3, 10, 11, 0, 1051) from rfl) (by decide) hK
theorem e221_4 {d : Nat} {ls : am_L} {st : List Value} {m : am_M} {l0 : Option Value} {l1 : Option Value} {x : Int32} : ev d 221 4 (l0 :: l1 :: ls) (.int x :: st) m = ev d 221 5 (am_clr l0 :: some (.int x) :: ls) st m := q_nx (show am_row 221 4 = some (.istore_n 1, 1, 0, 0, 0, 0) from rfl) rfl
theorem e221_5 {d : Nat} {ls : am_L} {st : List Value} {m : am_M} {x : Nat} : ev d 221 5 (some (.ref x) :: ls) st m = ev d 221 6 (some (.ref x) :: ls) (.ref x :: st) m := q_nx (show am_row 221 5 = some (.aload_n 0, 1, 0, 0, 0, 0) from rfl) rfl
theorem e221_6 {d : Nat} {ls : am_L} {st : List Value} {m : am_M} {a : Nat} (hK : mK m a = (1, 10, 0)) : ev d 221 6 ls (.ref a :: st) m = ev d 221 9 ls (.int (mI m a 12) :: st) m := q_get (show am_row 221 6 = some (.getfield 192, 3, 10, 12, 0, 1052) from rfl) (by decide) hK
theorem e221_9 {d : Nat} {ls : am_L} {st : List Value} {m : am_M} {l0 : Option Value} {l1 : Option Value} {l2 : Option Value} {x : Int32} : ev d 221 9 (l0 :: l1 :: l2 :: ls) (.int x :: st) m = ev d 221 10 (l0 :: am_clr l1 :: some (.int x) :: ls) st m := q_nx (show am_row 221 9 = some (.istore_n 2, 1, 0, 0, 0, 0) from rfl) rfl
theorem e221_10 {d : Nat} {ls : am_L} {st : List Value} {m : am_M} {x : Nat} : ev d 221 10 (some (.ref x) :: ls) st m = ev d 221 11 (some (.ref x) :: ls) (.ref x :: st) m := q_nx (show am_row 221 10 = some (.aload_n 0, 1, 0, 0, 0, 0) from rfl) rfl
theorem e221_11 {d : Nat} {ls : am_L} {st : List Value} {m : am_M} {a : Nat} (hK : mK m a = (1, 10, 0)) : ev d 221 11 ls (.ref a :: st) m = ev d 221 14 ls (.long (mL m a 13) :: st) m := q_get (show am_row 221 11 = some (.getfield 195, 3, 10, 13, 0, 1053) from rfl) (by decide) hK
theorem e221_14 {d : Nat} {ls : am_L} {st : List Value} {m : am_M} {l0 : Option Value} {l1 : Option Value} {l2 : Option Value} {l3 : Option Value} {l4 : Option Value} {x : Int64} : ev d 221 14 (l0 :: l1 :: l2 :: l3 :: l4 :: ls) (.long x :: st) m = ev d 221 15 (l0 :: l1 :: am_clr l2 :: some (.long x) :: none :: ls) st m := q_nx (show am_row 221 14 = some (.lstore_n 3, 1, 0, 0, 0, 0) from rfl) rfl
theorem e221_15 {d : Nat} {ls : am_L} {st : List Value} {m : am_M} {x : Nat} : ev d 221 15 (some (.ref x) :: ls) st m = ev d 221 16 (some (.ref x) :: ls) (.ref x :: st) m := q_nx (show am_row 221 15 = some (.aload_n 0, 1, 0, 0, 0, 0) from rfl) rfl
theorem e221_16 {d : Nat} {ls : am_L} {st : List Value} {m : am_M} {a : Nat} (hK : mK m a = (1, 10, 0)) : ev d 221 16 ls (.ref a :: st) m = ev d 221 19 ls (.int (mI m a 14) :: st) m := q_get (show am_row 221 16 = some (.getfield 39, 3, 10, 14, 0, 1054) from rfl) (by decide) hK
theorem e221_19 {d : Nat} {ls : am_L} {st : List Value} {m : am_M} {l0 : Option Value} {l1 : Option Value} {l2 : Option Value} {l3 : Option Value} {l4 : Option Value} {l5 : Option Value} {x : Int32} : ev d 221 19 (l0 :: l1 :: l2 :: l3 :: l4 :: l5 :: ls) (.int x :: st) m = ev d 221 21 (l0 :: l1 :: l2 :: l3 :: am_clr l4 :: some (.int x) :: ls) st m := q_nx (show am_row 221 19 = some (.istore 5, 2, 0, 0, 0, 0) from rfl) rfl
theorem e221_21 {d : Nat} {ls : am_L} {st : List Value} {m : am_M} {x : Nat} : ev d 221 21 (some (.ref x) :: ls) st m = ev d 221 22 (some (.ref x) :: ls) (.ref x :: st) m := q_nx (show am_row 221 21 = some (.aload_n 0, 1, 0, 0, 0, 0) from rfl) rfl
theorem e221_22 {d : Nat} {ls : am_L} {st : List Value} {m : am_M} {a : Nat} (hK : mK m a = (1, 10, 0)) : ev d 221 22 ls (.ref a :: st) m = ev d 221 25 ls (va_rf (mR m a 0) :: st) m := q_get (show am_row 221 22 = some (.getfield 7, 3, 10, 0, 0, 1040) from rfl) (by decide) hK
theorem e221_25 {d : Nat} {ls : am_L} {st : List Value} {m : am_M} {x : Nat} : ev d 221 25 (some (.ref x) :: ls) st m = ev d 221 26 (some (.ref x) :: ls) (.ref x :: st) m := q_nx (show am_row 221 25 = some (.aload_n 0, 1, 0, 0, 0, 0) from rfl) rfl
theorem e221_26 {d : Nat} {ls : am_L} {st : List Value} {m : am_M} {a : Nat} (hK : mK m a = (1, 10, 0)) : ev d 221 26 ls (.ref a :: st) m = ev d 221 29 ls (va_rf (mR m a 3) :: st) m := q_get (show am_row 221 26 = some (.getfield 19, 3, 10, 3, 0, 1043) from rfl) (by decide) hK
theorem e221_29 {d : Nat} {ls : am_L} {st : List Value} {m : am_M} {v0 : Nat} {v1 : Nat} (hw : am_w st ≤ 8) : ev (d + 1) 221 29 ls (.ref v1 :: .ref v0 :: st) m = am_k (cal d 220 [.ref v0, .ref v1] m) (fun v m'' => ev (d + 1) 221 32 ls (v.toList ++ st) m'') := q_cl (show am_row 221 29 = some (.invokestatic 269, 3, 220, 0, 0, 1444) from rfl) rfl (if_pos ⟨(by show 2 ≤ _; simp only [List.length_cons]; omega), hw⟩)
theorem e221_32 {d : Nat} {ls : am_L} {st : List Value} {m : am_M} {x : Nat} : ev d 221 32 (some (.ref x) :: ls) st m = ev d 221 33 (some (.ref x) :: ls) (.ref x :: st) m := q_nx (show am_row 221 32 = some (.aload_n 0, 1, 0, 0, 0, 0) from rfl) rfl
theorem e221_33 {d : Nat} {ls : am_L} {st : List Value} {m : am_M} {a : Nat} (hK : mK m a = (1, 10, 0)) : ev d 221 33 ls (.ref a :: st) m = ev d 221 36 ls (va_rf (mR m a 5) :: st) m := q_get (show am_row 221 33 = some (.getfield 26, 3, 10, 5, 0, 1045) from rfl) (by decide) hK
theorem e221_36 {d : Nat} {ls : am_L} {st : List Value} {m : am_M} : ev d 221 36 ls st m = ev d 221 37 ls (.int (nI 3) :: st) m := q_nx (show am_row 221 36 = some (.iconst 3, 1, 0, 0, 0, 0) from rfl) rfl
theorem e221_37 {d : Nat} {ls : am_L} {st : List Value} {m : am_M} {x : Nat} : ev d 221 37 (some (.ref x) :: ls) st m = ev d 221 38 (some (.ref x) :: ls) (.ref x :: st) m := q_nx (show am_row 221 37 = some (.aload_n 0, 1, 0, 0, 0, 0) from rfl) rfl
theorem e221_38 {d : Nat} {ls : am_L} {st : List Value} {m : am_M} {a : Nat} (hK : mK m a = (1, 10, 0)) : ev d 221 38 ls (.ref a :: st) m = ev d 221 41 ls (va_rf (mR m a 5) :: st) m := q_get (show am_row 221 38 = some (.getfield 26, 3, 10, 5, 0, 1045) from rfl) (by decide) hK
theorem e221_41 {d : Nat} {ls : am_L} {st : List Value} {m : am_M} : ev d 221 41 ls st m = ev d 221 42 ls (.int (nI 0) :: st) m := q_nx (show am_row 221 41 = some (.iconst 0, 1, 0, 0, 0, 0) from rfl) rfl
theorem e221_42 {d : Nat} {ls : am_L} {st : List Value} {m : am_M} {a : Nat} {i : Int32} (hK : (mK m a).1 = 4) (hi : am_ix i (mK m a).2.2 = true) : ev d 221 42 ls (.int i :: .ref a :: st) m = ev d 221 43 ls (.long (mL m a i.toNatClampNeg) :: st) m := q_lald (show am_row 221 42 = some (.laload, 1, 0, 0, 0, 0) from rfl) hK hi
theorem e221_43 {d : Nat} {ls : am_L} {st : List Value} {m : am_M} {a : Nat} {i : Int32} {x : Int64} (hK : (mK m a).1 = 4) (hi : am_ix i (mK m a).2.2 = true) : ev d 221 43 ls (.long x :: .int i :: .ref a :: st) m = ev d 221 44 ls st (sL m a i.toNatClampNeg x) := q_last (show am_row 221 43 = some (.lastore, 1, 0, 0, 0, 0) from rfl) hK hi
theorem e221_44 {d : Nat} {ls : am_L} {st : List Value} {m : am_M} : ev d 221 44 ls st m = ev d 221 45 ls (.int (nI 0) :: st) m := q_nx (show am_row 221 44 = some (.iconst 0, 1, 0, 0, 0, 0) from rfl) rfl
theorem e221_45 {d : Nat} {ls : am_L} {st : List Value} {m : am_M} {l0 : Option Value} {l1 : Option Value} {l2 : Option Value} {l3 : Option Value} {l4 : Option Value} {l5 : Option Value} {l6 : Option Value} {x : Int32} : ev d 221 45 (l0 :: l1 :: l2 :: l3 :: l4 :: l5 :: l6 :: ls) (.int x :: st) m = ev d 221 47 (l0 :: l1 :: l2 :: l3 :: l4 :: am_clr l5 :: some (.int x) :: ls) st m := q_nx (show am_row 221 45 = some (.istore 6, 2, 0, 0, 0, 0) from rfl) rfl
theorem e221_47 {d : Nat} {ls : am_L} {st : List Value} {m : am_M} {l0 : Option Value} {l1 : Option Value} {l2 : Option Value} {l3 : Option Value} {l4 : Option Value} {l5 : Option Value} {x : Int32} : ev d 221 47 (l0 :: l1 :: l2 :: l3 :: l4 :: l5 :: some (.int x) :: ls) st m = ev d 221 49 (l0 :: l1 :: l2 :: l3 :: l4 :: l5 :: some (.int x) :: ls) (.int x :: st) m := q_nx (show am_row 221 47 = some (.iload 6, 2, 0, 0, 0, 0) from rfl) rfl
theorem e221_49 {d : Nat} {ls : am_L} {st : List Value} {m : am_M} {x : Nat} : ev d 221 49 (some (.ref x) :: ls) st m = ev d 221 50 (some (.ref x) :: ls) (.ref x :: st) m := q_nx (show am_row 221 49 = some (.aload_n 0, 1, 0, 0, 0, 0) from rfl) rfl
theorem e221_50 {d : Nat} {ls : am_L} {st : List Value} {m : am_M} {a : Nat} (hK : mK m a = (1, 10, 0)) : ev d 221 50 ls (.ref a :: st) m = ev d 221 53 ls (.int (mI m a 7) :: st) m := q_get (show am_row 221 50 = some (.getfield 218, 3, 10, 7, 0, 1047) from rfl) (by decide) hK
theorem e221_53 {d : Nat} {ls : am_L} {st : List Value} {m : am_M} {x y : Int32} : ev d 221 53 ls (.int y :: .int x :: st) m = if x < y then ev d 221 56 ls st m else ev d 221 111 ls st m := q_ite (a := (56, ls, st, m)) (b := (111, ls, st, m)) (show am_row 221 53 = some (.if_icmp .ge 58, 3, 0, 0, 0, 0) from rfl) rfl
theorem e221_56 {d : Nat} {ls : am_L} {st : List Value} {m : am_M} {x : Nat} : ev d 221 56 (some (.ref x) :: ls) st m = ev d 221 57 (some (.ref x) :: ls) (.ref x :: st) m := q_nx (show am_row 221 56 = some (.aload_n 0, 1, 0, 0, 0, 0) from rfl) rfl
theorem e221_57 {d : Nat} {ls : am_L} {st : List Value} {m : am_M} {x : Nat} : ev d 221 57 (some (.ref x) :: ls) st m = ev d 221 58 (some (.ref x) :: ls) (.ref x :: st) m := q_nx (show am_row 221 57 = some (.aload_n 0, 1, 0, 0, 0, 0) from rfl) rfl
theorem e221_58 {d : Nat} {ls : am_L} {st : List Value} {m : am_M} {a : Nat} (hK : mK m a = (1, 10, 0)) : ev d 221 58 ls (.ref a :: st) m = ev d 221 61 ls (va_rf (mR m a 6) :: st) m := q_get (show am_row 221 58 = some (.getfield 30, 3, 10, 6, 0, 1046) from rfl) (by decide) hK
theorem e221_61 {d : Nat} {ls : am_L} {st : List Value} {m : am_M} : ev d 221 61 ls st m = ev d 221 62 ls (.int (nI 4) :: st) m := q_nx (show am_row 221 61 = some (.iconst 4, 1, 0, 0, 0, 0) from rfl) rfl
theorem e221_62 {d : Nat} {ls : am_L} {st : List Value} {m : am_M} {l0 : Option Value} {l1 : Option Value} {l2 : Option Value} {l3 : Option Value} {l4 : Option Value} {l5 : Option Value} {x : Int32} : ev d 221 62 (l0 :: l1 :: l2 :: l3 :: l4 :: l5 :: some (.int x) :: ls) st m = ev d 221 64 (l0 :: l1 :: l2 :: l3 :: l4 :: l5 :: some (.int x) :: ls) (.int x :: st) m := q_nx (show am_row 221 62 = some (.iload 6, 2, 0, 0, 0, 0) from rfl) rfl
theorem e221_64 {d : Nat} {ls : am_L} {st : List Value} {m : am_M} {x y : Int32} : ev d 221 64 ls (.int y :: .int x :: st) m = ev d 221 65 ls (.int (x * y) :: st) m := q_nx (show am_row 221 64 = some (.imul, 1, 0, 0, 0, 0) from rfl) rfl
theorem e221_65 {d : Nat} {ls : am_L} {st : List Value} {m : am_M} {a : Nat} {i : Int32} (hK : (mK m a).1 = 2) (hi : am_ix i (mK m a).2.2 = true) : ev d 221 65 ls (.int i :: .ref a :: st) m = ev d 221 66 ls (.int (mI m a i.toNatClampNeg) :: st) m := q_iald (show am_row 221 65 = some (.iaload, 1, 0, 0, 0, 0) from rfl) hK hi
theorem e221_66 {d : Nat} {ls : am_L} {st : List Value} {m : am_M} {x : Nat} : ev d 221 66 (some (.ref x) :: ls) st m = ev d 221 67 (some (.ref x) :: ls) (.ref x :: st) m := q_nx (show am_row 221 66 = some (.aload_n 0, 1, 0, 0, 0, 0) from rfl) rfl
theorem e221_67 {d : Nat} {ls : am_L} {st : List Value} {m : am_M} {a : Nat} (hK : mK m a = (1, 10, 0)) : ev d 221 67 ls (.ref a :: st) m = ev d 221 70 ls (va_rf (mR m a 6) :: st) m := q_get (show am_row 221 67 = some (.getfield 30, 3, 10, 6, 0, 1046) from rfl) (by decide) hK
theorem e221_70 {d : Nat} {ls : am_L} {st : List Value} {m : am_M} : ev d 221 70 ls st m = ev d 221 71 ls (.int (nI 4) :: st) m := q_nx (show am_row 221 70 = some (.iconst 4, 1, 0, 0, 0, 0) from rfl) rfl
theorem e221_71 {d : Nat} {ls : am_L} {st : List Value} {m : am_M} {l0 : Option Value} {l1 : Option Value} {l2 : Option Value} {l3 : Option Value} {l4 : Option Value} {l5 : Option Value} {x : Int32} : ev d 221 71 (l0 :: l1 :: l2 :: l3 :: l4 :: l5 :: some (.int x) :: ls) st m = ev d 221 73 (l0 :: l1 :: l2 :: l3 :: l4 :: l5 :: some (.int x) :: ls) (.int x :: st) m := q_nx (show am_row 221 71 = some (.iload 6, 2, 0, 0, 0, 0) from rfl) rfl
theorem e221_73 {d : Nat} {ls : am_L} {st : List Value} {m : am_M} {x y : Int32} : ev d 221 73 ls (.int y :: .int x :: st) m = ev d 221 74 ls (.int (x * y) :: st) m := q_nx (show am_row 221 73 = some (.imul, 1, 0, 0, 0, 0) from rfl) rfl
theorem e221_74 {d : Nat} {ls : am_L} {st : List Value} {m : am_M} : ev d 221 74 ls st m = ev d 221 75 ls (.int (nI 1) :: st) m := q_nx (show am_row 221 74 = some (.iconst 1, 1, 0, 0, 0, 0) from rfl) rfl
theorem e221_75 {d : Nat} {ls : am_L} {st : List Value} {m : am_M} {x y : Int32} : ev d 221 75 ls (.int y :: .int x :: st) m = ev d 221 76 ls (.int (x + y) :: st) m := q_nx (show am_row 221 75 = some (.iadd, 1, 0, 0, 0, 0) from rfl) rfl
theorem e221_76 {d : Nat} {ls : am_L} {st : List Value} {m : am_M} {a : Nat} {i : Int32} (hK : (mK m a).1 = 2) (hi : am_ix i (mK m a).2.2 = true) : ev d 221 76 ls (.int i :: .ref a :: st) m = ev d 221 77 ls (.int (mI m a i.toNatClampNeg) :: st) m := q_iald (show am_row 221 76 = some (.iaload, 1, 0, 0, 0, 0) from rfl) hK hi
theorem e221_77 {d : Nat} {ls : am_L} {st : List Value} {m : am_M} {x : Nat} : ev d 221 77 (some (.ref x) :: ls) st m = ev d 221 78 (some (.ref x) :: ls) (.ref x :: st) m := q_nx (show am_row 221 77 = some (.aload_n 0, 1, 0, 0, 0, 0) from rfl) rfl
theorem e221_78 {d : Nat} {ls : am_L} {st : List Value} {m : am_M} {a : Nat} (hK : mK m a = (1, 10, 0)) : ev d 221 78 ls (.ref a :: st) m = ev d 221 81 ls (va_rf (mR m a 6) :: st) m := q_get (show am_row 221 78 = some (.getfield 30, 3, 10, 6, 0, 1046) from rfl) (by decide) hK
theorem e221_81 {d : Nat} {ls : am_L} {st : List Value} {m : am_M} : ev d 221 81 ls st m = ev d 221 82 ls (.int (nI 4) :: st) m := q_nx (show am_row 221 81 = some (.iconst 4, 1, 0, 0, 0, 0) from rfl) rfl
theorem e221_82 {d : Nat} {ls : am_L} {st : List Value} {m : am_M} {l0 : Option Value} {l1 : Option Value} {l2 : Option Value} {l3 : Option Value} {l4 : Option Value} {l5 : Option Value} {x : Int32} : ev d 221 82 (l0 :: l1 :: l2 :: l3 :: l4 :: l5 :: some (.int x) :: ls) st m = ev d 221 84 (l0 :: l1 :: l2 :: l3 :: l4 :: l5 :: some (.int x) :: ls) (.int x :: st) m := q_nx (show am_row 221 82 = some (.iload 6, 2, 0, 0, 0, 0) from rfl) rfl
theorem e221_84 {d : Nat} {ls : am_L} {st : List Value} {m : am_M} {x y : Int32} : ev d 221 84 ls (.int y :: .int x :: st) m = ev d 221 85 ls (.int (x * y) :: st) m := q_nx (show am_row 221 84 = some (.imul, 1, 0, 0, 0, 0) from rfl) rfl
theorem e221_85 {d : Nat} {ls : am_L} {st : List Value} {m : am_M} : ev d 221 85 ls st m = ev d 221 86 ls (.int (nI 2) :: st) m := q_nx (show am_row 221 85 = some (.iconst 2, 1, 0, 0, 0, 0) from rfl) rfl
theorem e221_86 {d : Nat} {ls : am_L} {st : List Value} {m : am_M} {x y : Int32} : ev d 221 86 ls (.int y :: .int x :: st) m = ev d 221 87 ls (.int (x + y) :: st) m := q_nx (show am_row 221 86 = some (.iadd, 1, 0, 0, 0, 0) from rfl) rfl
theorem e221_87 {d : Nat} {ls : am_L} {st : List Value} {m : am_M} {a : Nat} {i : Int32} (hK : (mK m a).1 = 2) (hi : am_ix i (mK m a).2.2 = true) : ev d 221 87 ls (.int i :: .ref a :: st) m = ev d 221 88 ls (.int (mI m a i.toNatClampNeg) :: st) m := q_iald (show am_row 221 87 = some (.iaload, 1, 0, 0, 0, 0) from rfl) hK hi
theorem e221_88 {d : Nat} {ls : am_L} {st : List Value} {m : am_M} {x : Nat} : ev d 221 88 (some (.ref x) :: ls) st m = ev d 221 89 (some (.ref x) :: ls) (.ref x :: st) m := q_nx (show am_row 221 88 = some (.aload_n 0, 1, 0, 0, 0, 0) from rfl) rfl
theorem e221_89 {d : Nat} {ls : am_L} {st : List Value} {m : am_M} {a : Nat} (hK : mK m a = (1, 10, 0)) : ev d 221 89 ls (.ref a :: st) m = ev d 221 92 ls (va_rf (mR m a 6) :: st) m := q_get (show am_row 221 89 = some (.getfield 30, 3, 10, 6, 0, 1046) from rfl) (by decide) hK
theorem e221_92 {d : Nat} {ls : am_L} {st : List Value} {m : am_M} : ev d 221 92 ls st m = ev d 221 93 ls (.int (nI 4) :: st) m := q_nx (show am_row 221 92 = some (.iconst 4, 1, 0, 0, 0, 0) from rfl) rfl
theorem e221_93 {d : Nat} {ls : am_L} {st : List Value} {m : am_M} {l0 : Option Value} {l1 : Option Value} {l2 : Option Value} {l3 : Option Value} {l4 : Option Value} {l5 : Option Value} {x : Int32} : ev d 221 93 (l0 :: l1 :: l2 :: l3 :: l4 :: l5 :: some (.int x) :: ls) st m = ev d 221 95 (l0 :: l1 :: l2 :: l3 :: l4 :: l5 :: some (.int x) :: ls) (.int x :: st) m := q_nx (show am_row 221 93 = some (.iload 6, 2, 0, 0, 0, 0) from rfl) rfl
theorem e221_95 {d : Nat} {ls : am_L} {st : List Value} {m : am_M} {x y : Int32} : ev d 221 95 ls (.int y :: .int x :: st) m = ev d 221 96 ls (.int (x * y) :: st) m := q_nx (show am_row 221 95 = some (.imul, 1, 0, 0, 0, 0) from rfl) rfl
theorem e221_96 {d : Nat} {ls : am_L} {st : List Value} {m : am_M} : ev d 221 96 ls st m = ev d 221 97 ls (.int (nI 3) :: st) m := q_nx (show am_row 221 96 = some (.iconst 3, 1, 0, 0, 0, 0) from rfl) rfl
theorem e221_97 {d : Nat} {ls : am_L} {st : List Value} {m : am_M} {x y : Int32} : ev d 221 97 ls (.int y :: .int x :: st) m = ev d 221 98 ls (.int (x + y) :: st) m := q_nx (show am_row 221 97 = some (.iadd, 1, 0, 0, 0, 0) from rfl) rfl
theorem e221_98 {d : Nat} {ls : am_L} {st : List Value} {m : am_M} {a : Nat} {i : Int32} (hK : (mK m a).1 = 2) (hi : am_ix i (mK m a).2.2 = true) : ev d 221 98 ls (.int i :: .ref a :: st) m = ev d 221 99 ls (.int (mI m a i.toNatClampNeg) :: st) m := q_iald (show am_row 221 98 = some (.iaload, 1, 0, 0, 0, 0) from rfl) hK hi
theorem e221_99 {d : Nat} {ls : am_L} {st : List Value} {m : am_M} {a : Nat} {v0 : Int32} {v1 : Int32} {v2 : Int32} {v3 : Int32} (hK : mK m a = (1, 10, 0)) (hw : am_w st ≤ 8) : ev (d + 1) 221 99 ls (.int v3 :: .int v2 :: .int v1 :: .int v0 :: .ref a :: st) m = am_k (cal d 219 [.ref a, .int v0, .int v1, .int v2, .int v3] m) (fun v m'' => ev (d + 1) 221 102 ls (v.toList ++ st) m'') := q_cl (show am_row 221 99 = some (.invokevirtual 273, 3, 219, 0, 0, 1447) from rfl) rfl (if_pos ⟨hK, (by show 4 ≤ _; simp only [List.length_cons]; omega), hw⟩)
theorem e221_102 {d : Nat} {ls : am_L} {st : List Value} {m : am_M} {x : Int32} : ev d 221 102 ls (.int x :: st) m = if x = nI 0 then ev d 221 111 ls st m else ev d 221 105 ls st m := q_ite (a := (111, ls, st, m)) (b := (105, ls, st, m)) (show am_row 221 102 = some (.ifCond .eq 9, 3, 0, 0, 0, 0) from rfl) rfl
theorem e221_105 {d : Nat} {ls : am_L} {st : List Value} {m : am_M} {l0 : Option Value} {l1 : Option Value} {l2 : Option Value} {l3 : Option Value} {l4 : Option Value} {l5 : Option Value} {x : Int32} : ev d 221 105 (l0 :: l1 :: l2 :: l3 :: l4 :: l5 :: some (.int x) :: ls) st m = ev d 221 108 (l0 :: l1 :: l2 :: l3 :: l4 :: am_clr l5 :: some (.int (x + (nI 1))) :: ls) st m := q_nx (show am_row 221 105 = some (.iinc 6 1, 3, 0, 0, 0, 0) from rfl) rfl
theorem e221_108 {d : Nat} {ls : am_L} {st : List Value} {m : am_M} : ev d 221 108 ls st m = ev d 221 47 ls st m := q_nx (show am_row 221 108 = some (.goto (-61), 3, 0, 0, 0, 0) from rfl) rfl
theorem e221_111 {d : Nat} {ls : am_L} {st : List Value} {m : am_M} {x : Nat} : ev d 221 111 (some (.ref x) :: ls) st m = ev d 221 112 (some (.ref x) :: ls) (.ref x :: st) m := q_nx (show am_row 221 111 = some (.aload_n 0, 1, 0, 0, 0, 0) from rfl) rfl
theorem e221_112 {d : Nat} {ls : am_L} {st : List Value} {m : am_M} {a : Nat} (hK : mK m a = (1, 10, 0)) : ev d 221 112 ls (.ref a :: st) m = ev d 221 115 ls (va_rf (mR m a 3) :: st) m := q_get (show am_row 221 112 = some (.getfield 19, 3, 10, 3, 0, 1043) from rfl) (by decide) hK
theorem e221_115 {d : Nat} {ls : am_L} {st : List Value} {m : am_M} {x : Nat} : ev d 221 115 (some (.ref x) :: ls) st m = ev d 221 116 (some (.ref x) :: ls) (.ref x :: st) m := q_nx (show am_row 221 115 = some (.aload_n 0, 1, 0, 0, 0, 0) from rfl) rfl
theorem e221_116 {d : Nat} {ls : am_L} {st : List Value} {m : am_M} {a : Nat} (hK : mK m a = (1, 10, 0)) : ev d 221 116 ls (.ref a :: st) m = ev d 221 119 ls (va_rf (mR m a 0) :: st) m := q_get (show am_row 221 116 = some (.getfield 7, 3, 10, 0, 0, 1040) from rfl) (by decide) hK
theorem e221_119 {d : Nat} {ls : am_L} {st : List Value} {m : am_M} {v0 : Nat} {v1 : Nat} (hw : am_w st ≤ 8) : ev (d + 1) 221 119 ls (.ref v1 :: .ref v0 :: st) m = am_k (cal d 220 [.ref v0, .ref v1] m) (fun v m'' => ev (d + 1) 221 122 ls (v.toList ++ st) m'') := q_cl (show am_row 221 119 = some (.invokestatic 269, 3, 220, 0, 0, 1444) from rfl) rfl (if_pos ⟨(by show 2 ≤ _; simp only [List.length_cons]; omega), hw⟩)
theorem e221_122 {d : Nat} {ls : am_L} {st : List Value} {m : am_M} {x : Nat} : ev d 221 122 (some (.ref x) :: ls) st m = ev d 221 123 (some (.ref x) :: ls) (.ref x :: st) m := q_nx (show am_row 221 122 = some (.aload_n 0, 1, 0, 0, 0, 0) from rfl) rfl
theorem e221_123 {d : Nat} {ls : am_L} {st : List Value} {m : am_M} {a : Nat} (hK : mK m a = (1, 10, 0)) : ev d 221 123 ls (.ref a :: st) m = ev d 221 126 ls (va_rf (mR m a 5) :: st) m := q_get (show am_row 221 123 = some (.getfield 26, 3, 10, 5, 0, 1045) from rfl) (by decide) hK
theorem e221_126 {d : Nat} {ls : am_L} {st : List Value} {m : am_M} : ev d 221 126 ls st m = ev d 221 127 ls (.int (nI 0) :: st) m := q_nx (show am_row 221 126 = some (.iconst 0, 1, 0, 0, 0, 0) from rfl) rfl
theorem e221_127 {d : Nat} {ls : am_L} {st : List Value} {m : am_M} {x : Nat} : ev d 221 127 (some (.ref x) :: ls) st m = ev d 221 128 (some (.ref x) :: ls) (.ref x :: st) m := q_nx (show am_row 221 127 = some (.aload_n 0, 1, 0, 0, 0, 0) from rfl) rfl
theorem e221_128 {d : Nat} {ls : am_L} {st : List Value} {m : am_M} {a : Nat} (hK : mK m a = (1, 10, 0)) : ev d 221 128 ls (.ref a :: st) m = ev d 221 131 ls (va_rf (mR m a 5) :: st) m := q_get (show am_row 221 128 = some (.getfield 26, 3, 10, 5, 0, 1045) from rfl) (by decide) hK
theorem e221_131 {d : Nat} {ls : am_L} {st : List Value} {m : am_M} : ev d 221 131 ls st m = ev d 221 132 ls (.int (nI 3) :: st) m := q_nx (show am_row 221 131 = some (.iconst 3, 1, 0, 0, 0, 0) from rfl) rfl
theorem e221_132 {d : Nat} {ls : am_L} {st : List Value} {m : am_M} {a : Nat} {i : Int32} (hK : (mK m a).1 = 4) (hi : am_ix i (mK m a).2.2 = true) : ev d 221 132 ls (.int i :: .ref a :: st) m = ev d 221 133 ls (.long (mL m a i.toNatClampNeg) :: st) m := q_lald (show am_row 221 132 = some (.laload, 1, 0, 0, 0, 0) from rfl) hK hi
theorem e221_133 {d : Nat} {ls : am_L} {st : List Value} {m : am_M} {a : Nat} {i : Int32} {x : Int64} (hK : (mK m a).1 = 4) (hi : am_ix i (mK m a).2.2 = true) : ev d 221 133 ls (.long x :: .int i :: .ref a :: st) m = ev d 221 134 ls st (sL m a i.toNatClampNeg x) := q_last (show am_row 221 133 = some (.lastore, 1, 0, 0, 0, 0) from rfl) hK hi
theorem e221_134 {d : Nat} {ls : am_L} {st : List Value} {m : am_M} {x : Nat} : ev d 221 134 (some (.ref x) :: ls) st m = ev d 221 135 (some (.ref x) :: ls) (.ref x :: st) m := q_nx (show am_row 221 134 = some (.aload_n 0, 1, 0, 0, 0, 0) from rfl) rfl
theorem e221_135 {d : Nat} {ls : am_L} {st : List Value} {m : am_M} {l0 : Option Value} {x : Int32} : ev d 221 135 (l0 :: some (.int x) :: ls) st m = ev d 221 136 (l0 :: some (.int x) :: ls) (.int x :: st) m := q_nx (show am_row 221 135 = some (.iload_n 1, 1, 0, 0, 0, 0) from rfl) rfl
theorem e221_136 {d : Nat} {ls : am_L} {st : List Value} {m : am_M} {l0 : Option Value} {l1 : Option Value} {x : Int32} : ev d 221 136 (l0 :: l1 :: some (.int x) :: ls) st m = ev d 221 137 (l0 :: l1 :: some (.int x) :: ls) (.int x :: st) m := q_nx (show am_row 221 136 = some (.iload_n 2, 1, 0, 0, 0, 0) from rfl) rfl
theorem e221_137 {d : Nat} {ls : am_L} {st : List Value} {m : am_M} {l0 : Option Value} {l1 : Option Value} {l2 : Option Value} {x : Int64} : ev d 221 137 (l0 :: l1 :: l2 :: some (.long x) :: ls) st m = ev d 221 138 (l0 :: l1 :: l2 :: some (.long x) :: ls) (.long x :: st) m := q_nx (show am_row 221 137 = some (.lload_n 3, 1, 0, 0, 0, 0) from rfl) rfl
theorem e221_138 {d : Nat} {ls : am_L} {st : List Value} {m : am_M} {l0 : Option Value} {l1 : Option Value} {l2 : Option Value} {l3 : Option Value} {l4 : Option Value} {x : Int32} : ev d 221 138 (l0 :: l1 :: l2 :: l3 :: l4 :: some (.int x) :: ls) st m = ev d 221 140 (l0 :: l1 :: l2 :: l3 :: l4 :: some (.int x) :: ls) (.int x :: st) m := q_nx (show am_row 221 138 = some (.iload 5, 2, 0, 0, 0, 0) from rfl) rfl
theorem e221_140 {d : Nat} {ls : am_L} {st : List Value} {m : am_M} {a : Nat} {v0 : Int32} {v1 : Int32} {v2 : Int64} {v3 : Int32} (hK : mK m a = (1, 10, 0)) (hw : am_w st ≤ 8) : ev (d + 1) 221 140 ls (.int v3 :: .long v2 :: .int v1 :: .int v0 :: .ref a :: st) m = am_k (cal d 197 [.ref a, .int v0, .int v1, .long v2, .int v3] m) (fun v m'' => ev (d + 1) 221 143 ls (v.toList ++ st) m'') := q_cl (show am_row 221 140 = some (.invokevirtual 199, 3, 197, 0, 0, 1329) from rfl) rfl (if_pos ⟨hK, (by show 4 ≤ _; simp only [List.length_cons]; omega), hw⟩)
theorem e221_143 {d : Nat} {ls : am_L} {st : List Value} {m : am_M} {l0 : Option Value} {l1 : Option Value} {l2 : Option Value} {l3 : Option Value} {l4 : Option Value} {l5 : Option Value} {x : Int32} : ev d 221 143 (l0 :: l1 :: l2 :: l3 :: l4 :: l5 :: some (.int x) :: ls) st m = ev d 221 145 (l0 :: l1 :: l2 :: l3 :: l4 :: l5 :: some (.int x) :: ls) (.int x :: st) m := q_nx (show am_row 221 143 = some (.iload 6, 2, 0, 0, 0, 0) from rfl) rfl
theorem e221_145 {d : Nat} {ls : am_L} {m : am_M} {x : Int32} : ev d 221 145 ls [.int x] m = some (some (.int x), m) := q_iret (show am_row 221 145 = some (.ireturn, 1, 0, 0, 0, 0) from rfl)
theorem c222 {d : Nat} {m : am_M} {a : Nat} {v0 : Int32} : cal d 222 [.ref a, .int v0] m = ev d 222 0 [some (.ref a), some (.int v0)] [] m := rfl
theorem e222_0 {d : Nat} {ls : am_L} {st : List Value} {m : am_M} {l0 : Option Value} {x : Int32} : ev d 222 0 (l0 :: some (.int x) :: ls) st m = ev d 222 1 (l0 :: some (.int x) :: ls) (.int x :: st) m := q_nx (show am_row 222 0 = some (.iload_n 1, 1, 0, 0, 0, 0) from rfl) rfl
theorem e222_1 {d : Nat} {ls : am_L} {st : List Value} {m : am_M} {x : Int32} : ev d 222 1 ls (.int x :: st) m = if x < nI 0 then ev d 222 9 ls st m else ev d 222 4 ls st m := q_ite (a := (9, ls, st, m)) (b := (4, ls, st, m)) (show am_row 222 1 = some (.ifCond .lt 8, 3, 0, 0, 0, 0) from rfl) rfl
theorem e222_4 {d : Nat} {ls : am_L} {st : List Value} {m : am_M} {l0 : Option Value} {x : Int32} : ev d 222 4 (l0 :: some (.int x) :: ls) st m = ev d 222 5 (l0 :: some (.int x) :: ls) (.int x :: st) m := q_nx (show am_row 222 4 = some (.iload_n 1, 1, 0, 0, 0, 0) from rfl) rfl
theorem e222_5 {d : Nat} {ls : am_L} {st : List Value} {m : am_M} : ev d 222 5 ls st m = ev d 222 6 ls (.int (nI 1) :: st) m := q_nx (show am_row 222 5 = some (.iconst 1, 1, 0, 0, 0, 0) from rfl) rfl
theorem e222_6 {d : Nat} {ls : am_L} {st : List Value} {m : am_M} {x y : Int32} : ev d 222 6 ls (.int y :: .int x :: st) m = if y < x then ev d 222 9 ls st m else ev d 222 11 ls st m := q_ite (a := (9, ls, st, m)) (b := (11, ls, st, m)) (show am_row 222 6 = some (.if_icmp .le 5, 3, 0, 0, 0, 0) from rfl) rfl
theorem e222_9 {d : Nat} {ls : am_L} {st : List Value} {m : am_M} : ev d 222 9 ls st m = ev d 222 10 ls (.int (nI 0) :: st) m := q_nx (show am_row 222 9 = some (.iconst 0, 1, 0, 0, 0, 0) from rfl) rfl
theorem e222_10 {d : Nat} {ls : am_L} {m : am_M} {x : Int32} (hb : am_bb x = true) : ev d 222 10 ls [.int x] m = some (some (.int x), m) := q_zret (show am_row 222 10 = some (.ireturn, 1, 1, 0, 0, 0) from rfl) hb
theorem e222_11 {d : Nat} {ls : am_L} {st : List Value} {m : am_M} {x : Nat} : ev d 222 11 (some (.ref x) :: ls) st m = ev d 222 12 (some (.ref x) :: ls) (.ref x :: st) m := q_nx (show am_row 222 11 = some (.aload_n 0, 1, 0, 0, 0, 0) from rfl) rfl
theorem e222_12 {d : Nat} {ls : am_L} {st : List Value} {m : am_M} {a : Nat} (hK : mK m a = (1, 10, 0)) : ev d 222 12 ls (.ref a :: st) m = ev d 222 15 ls (va_rf (mR m a 0) :: st) m := q_get (show am_row 222 12 = some (.getfield 7, 3, 10, 0, 0, 1040) from rfl) (by decide) hK
theorem e222_15 {d : Nat} {ls : am_L} {st : List Value} {m : am_M} {l0 : Option Value} {x : Int32} : ev d 222 15 (l0 :: some (.int x) :: ls) st m = ev d 222 16 (l0 :: some (.int x) :: ls) (.int x :: st) m := q_nx (show am_row 222 15 = some (.iload_n 1, 1, 0, 0, 0, 0) from rfl) rfl
theorem e222_16 {d : Nat} {ls : am_L} {st : List Value} {m : am_M} {x : Int32} : ev d 222 16 ls (.int x :: st) m = if x = nI 0 then ev d 222 19 ls st m else ev d 222 26 ls st m := q_ite (a := (19, ls, st, m)) (b := (26, ls, st, m)) (show am_row 222 16 = some (.ifCond .ne 10, 3, 0, 0, 0, 0) from rfl) rfl
theorem e222_19 {d : Nat} {ls : am_L} {st : List Value} {m : am_M} {x : Nat} : ev d 222 19 (some (.ref x) :: ls) st m = ev d 222 20 (some (.ref x) :: ls) (.ref x :: st) m := q_nx (show am_row 222 19 = some (.aload_n 0, 1, 0, 0, 0, 0) from rfl) rfl
theorem e222_20 {d : Nat} {ls : am_L} {st : List Value} {m : am_M} {a : Nat} (hK : mK m a = (1, 10, 0)) : ev d 222 20 ls (.ref a :: st) m = ev d 222 23 ls (va_rf (mR m a 1) :: st) m := q_get (show am_row 222 20 = some (.getfield 13, 3, 10, 1, 0, 1041) from rfl) (by decide) hK
theorem e222_23 {d : Nat} {ls : am_L} {st : List Value} {m : am_M} : ev d 222 23 ls st m = ev d 222 30 ls st m := q_nx (show am_row 222 23 = some (.goto 7, 3, 0, 0, 0, 0) from rfl) rfl
theorem e222_26 {d : Nat} {ls : am_L} {st : List Value} {m : am_M} {x : Nat} : ev d 222 26 (some (.ref x) :: ls) st m = ev d 222 27 (some (.ref x) :: ls) (.ref x :: st) m := q_nx (show am_row 222 26 = some (.aload_n 0, 1, 0, 0, 0, 0) from rfl) rfl
theorem e222_27 {d : Nat} {ls : am_L} {st : List Value} {m : am_M} {a : Nat} (hK : mK m a = (1, 10, 0)) : ev d 222 27 ls (.ref a :: st) m = ev d 222 30 ls (va_rf (mR m a 2) :: st) m := q_get (show am_row 222 27 = some (.getfield 16, 3, 10, 2, 0, 1042) from rfl) (by decide) hK
theorem e222_30 {d : Nat} {ls : am_L} {st : List Value} {m : am_M} {v0 : Nat} {v1 : Nat} (hw : am_w st ≤ 8) : ev (d + 1) 222 30 ls (.ref v1 :: .ref v0 :: st) m = am_k (cal d 220 [.ref v0, .ref v1] m) (fun v m'' => ev (d + 1) 222 33 ls (v.toList ++ st) m'') := q_cl (show am_row 222 30 = some (.invokestatic 269, 3, 220, 0, 0, 1444) from rfl) rfl (if_pos ⟨(by show 2 ≤ _; simp only [List.length_cons]; omega), hw⟩)
theorem e222_33 {d : Nat} {ls : am_L} {st : List Value} {m : am_M} {x : Nat} : ev d 222 33 (some (.ref x) :: ls) st m = ev d 222 34 (some (.ref x) :: ls) (.ref x :: st) m := q_nx (show am_row 222 33 = some (.aload_n 0, 1, 0, 0, 0, 0) from rfl) rfl
theorem e222_34 {d : Nat} {ls : am_L} {st : List Value} {m : am_M} {a : Nat} (hK : mK m a = (1, 10, 0)) : ev d 222 34 ls (.ref a :: st) m = ev d 222 37 ls (va_rf (mR m a 5) :: st) m := q_get (show am_row 222 34 = some (.getfield 26, 3, 10, 5, 0, 1045) from rfl) (by decide) hK
theorem e222_37 {d : Nat} {ls : am_L} {st : List Value} {m : am_M} {l0 : Option Value} {x : Int32} : ev d 222 37 (l0 :: some (.int x) :: ls) st m = ev d 222 38 (l0 :: some (.int x) :: ls) (.int x :: st) m := q_nx (show am_row 222 37 = some (.iload_n 1, 1, 0, 0, 0, 0) from rfl) rfl
theorem e222_38 {d : Nat} {ls : am_L} {st : List Value} {m : am_M} : ev d 222 38 ls st m = ev d 222 39 ls (.int (nI 1) :: st) m := q_nx (show am_row 222 38 = some (.iconst 1, 1, 0, 0, 0, 0) from rfl) rfl
theorem e222_39 {d : Nat} {ls : am_L} {st : List Value} {m : am_M} {x y : Int32} : ev d 222 39 ls (.int y :: .int x :: st) m = ev d 222 40 ls (.int (x + y) :: st) m := q_nx (show am_row 222 39 = some (.iadd, 1, 0, 0, 0, 0) from rfl) rfl
theorem e222_40 {d : Nat} {ls : am_L} {st : List Value} {m : am_M} {x : Nat} : ev d 222 40 (some (.ref x) :: ls) st m = ev d 222 41 (some (.ref x) :: ls) (.ref x :: st) m := q_nx (show am_row 222 40 = some (.aload_n 0, 1, 0, 0, 0, 0) from rfl) rfl
theorem e222_41 {d : Nat} {ls : am_L} {st : List Value} {m : am_M} {a : Nat} (hK : mK m a = (1, 10, 0)) : ev d 222 41 ls (.ref a :: st) m = ev d 222 44 ls (va_rf (mR m a 5) :: st) m := q_get (show am_row 222 41 = some (.getfield 26, 3, 10, 5, 0, 1045) from rfl) (by decide) hK
theorem e222_44 {d : Nat} {ls : am_L} {st : List Value} {m : am_M} : ev d 222 44 ls st m = ev d 222 45 ls (.int (nI 0) :: st) m := q_nx (show am_row 222 44 = some (.iconst 0, 1, 0, 0, 0, 0) from rfl) rfl
theorem e222_45 {d : Nat} {ls : am_L} {st : List Value} {m : am_M} {a : Nat} {i : Int32} (hK : (mK m a).1 = 4) (hi : am_ix i (mK m a).2.2 = true) : ev d 222 45 ls (.int i :: .ref a :: st) m = ev d 222 46 ls (.long (mL m a i.toNatClampNeg) :: st) m := q_lald (show am_row 222 45 = some (.laload, 1, 0, 0, 0, 0) from rfl) hK hi
theorem e222_46 {d : Nat} {ls : am_L} {st : List Value} {m : am_M} {a : Nat} {i : Int32} {x : Int64} (hK : (mK m a).1 = 4) (hi : am_ix i (mK m a).2.2 = true) : ev d 222 46 ls (.long x :: .int i :: .ref a :: st) m = ev d 222 47 ls st (sL m a i.toNatClampNeg x) := q_last (show am_row 222 46 = some (.lastore, 1, 0, 0, 0, 0) from rfl) hK hi
theorem e222_47 {d : Nat} {ls : am_L} {st : List Value} {m : am_M} {x : Nat} : ev d 222 47 (some (.ref x) :: ls) st m = ev d 222 48 (some (.ref x) :: ls) (.ref x :: st) m := q_nx (show am_row 222 47 = some (.aload_n 0, 1, 0, 0, 0, 0) from rfl) rfl
theorem e222_48 {d : Nat} {ls : am_L} {st : List Value} {m : am_M} {a : Nat} (hK : mK m a = (1, 10, 0)) : ev d 222 48 ls (.ref a :: st) m = ev d 222 51 ls (va_rf (mR m a 4) :: st) m := q_get (show am_row 222 48 = some (.getfield 22, 3, 10, 4, 0, 1044) from rfl) (by decide) hK
theorem e222_51 {d : Nat} {ls : am_L} {st : List Value} {m : am_M} {l0 : Option Value} {x : Int32} : ev d 222 51 (l0 :: some (.int x) :: ls) st m = ev d 222 52 (l0 :: some (.int x) :: ls) (.int x :: st) m := q_nx (show am_row 222 51 = some (.iload_n 1, 1, 0, 0, 0, 0) from rfl) rfl
theorem e222_52 {d : Nat} {ls : am_L} {st : List Value} {m : am_M} : ev d 222 52 ls st m = ev d 222 53 ls (.int (nI 1) :: st) m := q_nx (show am_row 222 52 = some (.iconst 1, 1, 0, 0, 0, 0) from rfl) rfl
theorem e222_53 {d : Nat} {ls : am_L} {st : List Value} {m : am_M} {a : Nat} {i x : Int32} (hK : (mK m a).1 = 3) (hi : am_ix i (mK m a).2.2 = true) (hb : am_bb x = true) : ev d 222 53 ls (.int x :: .int i :: .ref a :: st) m = ev d 222 54 ls st (sI m a i.toNatClampNeg x) := q_bast (show am_row 222 53 = some (.bastore, 1, 0, 0, 0, 0) from rfl) hK hi hb
theorem e222_54 {d : Nat} {ls : am_L} {st : List Value} {m : am_M} : ev d 222 54 ls st m = ev d 222 55 ls (.int (nI 1) :: st) m := q_nx (show am_row 222 54 = some (.iconst 1, 1, 0, 0, 0, 0) from rfl) rfl
theorem e222_55 {d : Nat} {ls : am_L} {m : am_M} {x : Int32} (hb : am_bb x = true) : ev d 222 55 ls [.int x] m = some (some (.int x), m) := q_zret (show am_row 222 55 = some (.ireturn, 1, 1, 0, 0, 0) from rfl) hb
theorem c223 {d : Nat} {m : am_M} {a : Nat} {v0 : Int32} : cal d 223 [.ref a, .int v0] m = ev d 223 0 [some (.ref a), some (.int v0)] [] m := rfl
theorem e223_0 {d : Nat} {ls : am_L} {st : List Value} {m : am_M} {l0 : Option Value} {x : Int32} : ev d 223 0 (l0 :: some (.int x) :: ls) st m = ev d 223 1 (l0 :: some (.int x) :: ls) (.int x :: st) m := q_nx (show am_row 223 0 = some (.iload_n 1, 1, 0, 0, 0, 0) from rfl) rfl
theorem e223_1 {d : Nat} {ls : am_L} {st : List Value} {m : am_M} {x : Int32} : ev d 223 1 ls (.int x :: st) m = if x < nI 0 then ev d 223 18 ls st m else ev d 223 4 ls st m := q_ite (a := (18, ls, st, m)) (b := (4, ls, st, m)) (show am_row 223 1 = some (.ifCond .lt 17, 3, 0, 0, 0, 0) from rfl) rfl
theorem e223_4 {d : Nat} {ls : am_L} {st : List Value} {m : am_M} {l0 : Option Value} {x : Int32} : ev d 223 4 (l0 :: some (.int x) :: ls) st m = ev d 223 5 (l0 :: some (.int x) :: ls) (.int x :: st) m := q_nx (show am_row 223 4 = some (.iload_n 1, 1, 0, 0, 0, 0) from rfl) rfl
theorem e223_5 {d : Nat} {ls : am_L} {st : List Value} {m : am_M} : ev d 223 5 ls st m = ev d 223 6 ls (.int (nI 1) :: st) m := q_nx (show am_row 223 5 = some (.iconst 1, 1, 0, 0, 0, 0) from rfl) rfl
theorem e223_6 {d : Nat} {ls : am_L} {st : List Value} {m : am_M} {x y : Int32} : ev d 223 6 ls (.int y :: .int x :: st) m = if y < x then ev d 223 18 ls st m else ev d 223 9 ls st m := q_ite (a := (18, ls, st, m)) (b := (9, ls, st, m)) (show am_row 223 6 = some (.if_icmp .gt 12, 3, 0, 0, 0, 0) from rfl) rfl
theorem e223_9 {d : Nat} {ls : am_L} {st : List Value} {m : am_M} {x : Nat} : ev d 223 9 (some (.ref x) :: ls) st m = ev d 223 10 (some (.ref x) :: ls) (.ref x :: st) m := q_nx (show am_row 223 9 = some (.aload_n 0, 1, 0, 0, 0, 0) from rfl) rfl
theorem e223_10 {d : Nat} {ls : am_L} {st : List Value} {m : am_M} {a : Nat} (hK : mK m a = (1, 10, 0)) : ev d 223 10 ls (.ref a :: st) m = ev d 223 13 ls (va_rf (mR m a 4) :: st) m := q_get (show am_row 223 10 = some (.getfield 22, 3, 10, 4, 0, 1044) from rfl) (by decide) hK
theorem e223_13 {d : Nat} {ls : am_L} {st : List Value} {m : am_M} {l0 : Option Value} {x : Int32} : ev d 223 13 (l0 :: some (.int x) :: ls) st m = ev d 223 14 (l0 :: some (.int x) :: ls) (.int x :: st) m := q_nx (show am_row 223 13 = some (.iload_n 1, 1, 0, 0, 0, 0) from rfl) rfl
theorem e223_14 {d : Nat} {ls : am_L} {st : List Value} {m : am_M} {a : Nat} {i : Int32} (hK : (mK m a).1 = 3) (hi : am_ix i (mK m a).2.2 = true) : ev d 223 14 ls (.int i :: .ref a :: st) m = ev d 223 15 ls (.int (mI m a i.toNatClampNeg) :: st) m := q_bald (show am_row 223 14 = some (.baload, 1, 0, 0, 0, 0) from rfl) hK hi
theorem e223_15 {d : Nat} {ls : am_L} {st : List Value} {m : am_M} {x : Int32} : ev d 223 15 ls (.int x :: st) m = if x = nI 0 then ev d 223 18 ls st m else ev d 223 20 ls st m := q_ite (a := (18, ls, st, m)) (b := (20, ls, st, m)) (show am_row 223 15 = some (.ifCond .ne 5, 3, 0, 0, 0, 0) from rfl) rfl
theorem e223_18 {d : Nat} {ls : am_L} {st : List Value} {m : am_M} : ev d 223 18 ls st m = ev d 223 19 ls (.int (nI 0) :: st) m := q_nx (show am_row 223 18 = some (.iconst 0, 1, 0, 0, 0, 0) from rfl) rfl
theorem e223_19 {d : Nat} {ls : am_L} {m : am_M} {x : Int32} (hb : am_bb x = true) : ev d 223 19 ls [.int x] m = some (some (.int x), m) := q_zret (show am_row 223 19 = some (.ireturn, 1, 1, 0, 0, 0) from rfl) hb
theorem e223_20 {d : Nat} {ls : am_L} {st : List Value} {m : am_M} {l0 : Option Value} {x : Int32} : ev d 223 20 (l0 :: some (.int x) :: ls) st m = ev d 223 21 (l0 :: some (.int x) :: ls) (.int x :: st) m := q_nx (show am_row 223 20 = some (.iload_n 1, 1, 0, 0, 0, 0) from rfl) rfl
theorem e223_21 {d : Nat} {ls : am_L} {st : List Value} {m : am_M} {x : Int32} : ev d 223 21 ls (.int x :: st) m = if x = nI 0 then ev d 223 24 ls st m else ev d 223 31 ls st m := q_ite (a := (24, ls, st, m)) (b := (31, ls, st, m)) (show am_row 223 21 = some (.ifCond .ne 10, 3, 0, 0, 0, 0) from rfl) rfl
theorem e223_24 {d : Nat} {ls : am_L} {st : List Value} {m : am_M} {x : Nat} : ev d 223 24 (some (.ref x) :: ls) st m = ev d 223 25 (some (.ref x) :: ls) (.ref x :: st) m := q_nx (show am_row 223 24 = some (.aload_n 0, 1, 0, 0, 0, 0) from rfl) rfl
theorem e223_25 {d : Nat} {ls : am_L} {st : List Value} {m : am_M} {a : Nat} (hK : mK m a = (1, 10, 0)) : ev d 223 25 ls (.ref a :: st) m = ev d 223 28 ls (va_rf (mR m a 1) :: st) m := q_get (show am_row 223 25 = some (.getfield 13, 3, 10, 1, 0, 1041) from rfl) (by decide) hK
theorem e223_28 {d : Nat} {ls : am_L} {st : List Value} {m : am_M} : ev d 223 28 ls st m = ev d 223 35 ls st m := q_nx (show am_row 223 28 = some (.goto 7, 3, 0, 0, 0, 0) from rfl) rfl
theorem e223_31 {d : Nat} {ls : am_L} {st : List Value} {m : am_M} {x : Nat} : ev d 223 31 (some (.ref x) :: ls) st m = ev d 223 32 (some (.ref x) :: ls) (.ref x :: st) m := q_nx (show am_row 223 31 = some (.aload_n 0, 1, 0, 0, 0, 0) from rfl) rfl
theorem e223_32 {d : Nat} {ls : am_L} {st : List Value} {m : am_M} {a : Nat} (hK : mK m a = (1, 10, 0)) : ev d 223 32 ls (.ref a :: st) m = ev d 223 35 ls (va_rf (mR m a 2) :: st) m := q_get (show am_row 223 32 = some (.getfield 16, 3, 10, 2, 0, 1042) from rfl) (by decide) hK
theorem e223_35 {d : Nat} {ls : am_L} {st : List Value} {m : am_M} {x : Nat} : ev d 223 35 (some (.ref x) :: ls) st m = ev d 223 36 (some (.ref x) :: ls) (.ref x :: st) m := q_nx (show am_row 223 35 = some (.aload_n 0, 1, 0, 0, 0, 0) from rfl) rfl
theorem e223_36 {d : Nat} {ls : am_L} {st : List Value} {m : am_M} {a : Nat} (hK : mK m a = (1, 10, 0)) : ev d 223 36 ls (.ref a :: st) m = ev d 223 39 ls (va_rf (mR m a 0) :: st) m := q_get (show am_row 223 36 = some (.getfield 7, 3, 10, 0, 0, 1040) from rfl) (by decide) hK
theorem e223_39 {d : Nat} {ls : am_L} {st : List Value} {m : am_M} {v0 : Nat} {v1 : Nat} (hw : am_w st ≤ 8) : ev (d + 1) 223 39 ls (.ref v1 :: .ref v0 :: st) m = am_k (cal d 220 [.ref v0, .ref v1] m) (fun v m'' => ev (d + 1) 223 42 ls (v.toList ++ st) m'') := q_cl (show am_row 223 39 = some (.invokestatic 269, 3, 220, 0, 0, 1444) from rfl) rfl (if_pos ⟨(by show 2 ≤ _; simp only [List.length_cons]; omega), hw⟩)
theorem e223_42 {d : Nat} {ls : am_L} {st : List Value} {m : am_M} {x : Nat} : ev d 223 42 (some (.ref x) :: ls) st m = ev d 223 43 (some (.ref x) :: ls) (.ref x :: st) m := q_nx (show am_row 223 42 = some (.aload_n 0, 1, 0, 0, 0, 0) from rfl) rfl
theorem e223_43 {d : Nat} {ls : am_L} {st : List Value} {m : am_M} {a : Nat} (hK : mK m a = (1, 10, 0)) : ev d 223 43 ls (.ref a :: st) m = ev d 223 46 ls (va_rf (mR m a 5) :: st) m := q_get (show am_row 223 43 = some (.getfield 26, 3, 10, 5, 0, 1045) from rfl) (by decide) hK
theorem e223_46 {d : Nat} {ls : am_L} {st : List Value} {m : am_M} : ev d 223 46 ls st m = ev d 223 47 ls (.int (nI 0) :: st) m := q_nx (show am_row 223 46 = some (.iconst 0, 1, 0, 0, 0, 0) from rfl) rfl
theorem e223_47 {d : Nat} {ls : am_L} {st : List Value} {m : am_M} {x : Nat} : ev d 223 47 (some (.ref x) :: ls) st m = ev d 223 48 (some (.ref x) :: ls) (.ref x :: st) m := q_nx (show am_row 223 47 = some (.aload_n 0, 1, 0, 0, 0, 0) from rfl) rfl
theorem e223_48 {d : Nat} {ls : am_L} {st : List Value} {m : am_M} {a : Nat} (hK : mK m a = (1, 10, 0)) : ev d 223 48 ls (.ref a :: st) m = ev d 223 51 ls (va_rf (mR m a 5) :: st) m := q_get (show am_row 223 48 = some (.getfield 26, 3, 10, 5, 0, 1045) from rfl) (by decide) hK
theorem e223_51 {d : Nat} {ls : am_L} {st : List Value} {m : am_M} {l0 : Option Value} {x : Int32} : ev d 223 51 (l0 :: some (.int x) :: ls) st m = ev d 223 52 (l0 :: some (.int x) :: ls) (.int x :: st) m := q_nx (show am_row 223 51 = some (.iload_n 1, 1, 0, 0, 0, 0) from rfl) rfl
theorem e223_52 {d : Nat} {ls : am_L} {st : List Value} {m : am_M} : ev d 223 52 ls st m = ev d 223 53 ls (.int (nI 1) :: st) m := q_nx (show am_row 223 52 = some (.iconst 1, 1, 0, 0, 0, 0) from rfl) rfl
theorem e223_53 {d : Nat} {ls : am_L} {st : List Value} {m : am_M} {x y : Int32} : ev d 223 53 ls (.int y :: .int x :: st) m = ev d 223 54 ls (.int (x + y) :: st) m := q_nx (show am_row 223 53 = some (.iadd, 1, 0, 0, 0, 0) from rfl) rfl
theorem e223_54 {d : Nat} {ls : am_L} {st : List Value} {m : am_M} {a : Nat} {i : Int32} (hK : (mK m a).1 = 4) (hi : am_ix i (mK m a).2.2 = true) : ev d 223 54 ls (.int i :: .ref a :: st) m = ev d 223 55 ls (.long (mL m a i.toNatClampNeg) :: st) m := q_lald (show am_row 223 54 = some (.laload, 1, 0, 0, 0, 0) from rfl) hK hi
theorem e223_55 {d : Nat} {ls : am_L} {st : List Value} {m : am_M} {a : Nat} {i : Int32} {x : Int64} (hK : (mK m a).1 = 4) (hi : am_ix i (mK m a).2.2 = true) : ev d 223 55 ls (.long x :: .int i :: .ref a :: st) m = ev d 223 56 ls st (sL m a i.toNatClampNeg x) := q_last (show am_row 223 55 = some (.lastore, 1, 0, 0, 0, 0) from rfl) hK hi
theorem e223_56 {d : Nat} {ls : am_L} {st : List Value} {m : am_M} : ev d 223 56 ls st m = ev d 223 57 ls (.int (nI 1) :: st) m := q_nx (show am_row 223 56 = some (.iconst 1, 1, 0, 0, 0, 0) from rfl) rfl
theorem e223_57 {d : Nat} {ls : am_L} {m : am_M} {x : Int32} (hb : am_bb x = true) : ev d 223 57 ls [.int x] m = some (some (.int x), m) := q_zret (show am_row 223 57 = some (.ireturn, 1, 1, 0, 0, 0) from rfl) hb
theorem c224 {d : Nat} {m : am_M} {a : Nat} {v0 : Int32} : cal d 224 [.ref a, .int v0] m = ev d 224 0 [some (.ref a), some (.int v0)] [] m := rfl
theorem e224_0 {d : Nat} {ls : am_L} {st : List Value} {m : am_M} {l0 : Option Value} {x : Int32} : ev d 224 0 (l0 :: some (.int x) :: ls) st m = ev d 224 1 (l0 :: some (.int x) :: ls) (.int x :: st) m := q_nx (show am_row 224 0 = some (.iload_n 1, 1, 0, 0, 0, 0) from rfl) rfl
theorem e224_1 {d : Nat} {ls : am_L} {st : List Value} {m : am_M} {x : Int32} : ev d 224 1 ls (.int x :: st) m = if x < nI 0 then ev d 224 10 ls st m else ev d 224 4 ls st m := q_ite (a := (10, ls, st, m)) (b := (4, ls, st, m)) (show am_row 224 1 = some (.ifCond .lt 9, 3, 0, 0, 0, 0) from rfl) rfl
theorem e224_4 {d : Nat} {ls : am_L} {st : List Value} {m : am_M} {l0 : Option Value} {x : Int32} : ev d 224 4 (l0 :: some (.int x) :: ls) st m = ev d 224 5 (l0 :: some (.int x) :: ls) (.int x :: st) m := q_nx (show am_row 224 4 = some (.iload_n 1, 1, 0, 0, 0, 0) from rfl) rfl
theorem e224_5 {d : Nat} {ls : am_L} {st : List Value} {m : am_M} : ev d 224 5 ls st m = ev d 224 7 ls (.int (nI 6) :: st) m := q_nx (show am_row 224 5 = some (.bipush 6, 2, 0, 0, 0, 0) from rfl) rfl
theorem e224_7 {d : Nat} {ls : am_L} {st : List Value} {m : am_M} {x y : Int32} : ev d 224 7 ls (.int y :: .int x :: st) m = if y < x then ev d 224 10 ls st m else ev d 224 14 ls st m := q_ite (a := (10, ls, st, m)) (b := (14, ls, st, m)) (show am_row 224 7 = some (.if_icmp .le 7, 3, 0, 0, 0, 0) from rfl) rfl
theorem e224_10 {d : Nat} {ls : am_L} {st : List Value} {m : am_M} : ev d 224 10 ls st m = ev d 224 11 ls (.int (-1) :: st) m := q_nx (show am_row 224 10 = some (.iconst (-1), 1, 0, 0, 0, 0) from rfl) rfl
theorem e224_11 {d : Nat} {ls : am_L} {st : List Value} {m : am_M} : ev d 224 11 ls st m = ev d 224 20 ls st m := q_nx (show am_row 224 11 = some (.goto 9, 3, 0, 0, 0, 0) from rfl) rfl
theorem e224_14 {d : Nat} {ls : am_L} {st : List Value} {m : am_M} {x : Nat} : ev d 224 14 (some (.ref x) :: ls) st m = ev d 224 15 (some (.ref x) :: ls) (.ref x :: st) m := q_nx (show am_row 224 14 = some (.aload_n 0, 1, 0, 0, 0, 0) from rfl) rfl
theorem e224_15 {d : Nat} {ls : am_L} {st : List Value} {m : am_M} {a : Nat} (hK : mK m a = (1, 10, 0)) : ev d 224 15 ls (.ref a :: st) m = ev d 224 18 ls (va_rf (mR m a 9) :: st) m := q_get (show am_row 224 15 = some (.getfield 36, 3, 10, 9, 0, 1049) from rfl) (by decide) hK
theorem e224_18 {d : Nat} {ls : am_L} {st : List Value} {m : am_M} {l0 : Option Value} {x : Int32} : ev d 224 18 (l0 :: some (.int x) :: ls) st m = ev d 224 19 (l0 :: some (.int x) :: ls) (.int x :: st) m := q_nx (show am_row 224 18 = some (.iload_n 1, 1, 0, 0, 0, 0) from rfl) rfl
theorem e224_19 {d : Nat} {ls : am_L} {st : List Value} {m : am_M} {a : Nat} {i : Int32} (hK : (mK m a).1 = 2) (hi : am_ix i (mK m a).2.2 = true) : ev d 224 19 ls (.int i :: .ref a :: st) m = ev d 224 20 ls (.int (mI m a i.toNatClampNeg) :: st) m := q_iald (show am_row 224 19 = some (.iaload, 1, 0, 0, 0, 0) from rfl) hK hi
theorem e224_20 {d : Nat} {ls : am_L} {m : am_M} {x : Int32} : ev d 224 20 ls [.int x] m = some (some (.int x), m) := q_iret (show am_row 224 20 = some (.ireturn, 1, 0, 0, 0, 0) from rfl)
set_option maxRecDepth 20000 in
theorem e225_0 {d : Nat} {ls : am_L} {st : List Value} {m : am_M} : ev d 225 0 ls st m = ev d 225 3 ls (.ref (mS m) :: st) (nw m (1, 9, 0) 11) := q_nx (show am_row 225 0 = some (.new 7, 3, 9, 0, 0, 92) from rfl) rfl
set_option maxRecDepth 20000 in
theorem e225_3 {d : Nat} {ls : am_L} {st : List Value} {m : am_M} {x : Int32} : ev d 225 3 ls (.int x :: st) m = ev d 225 4 ls (.int x :: .int x :: st) m := q_nx (show am_row 225 3 = some (.dup, 1, 0, 0, 0, 0) from rfl) rfl
set_option maxRecDepth 20000 in
theorem e225_3r {d : Nat} {ls : am_L} {st : List Value} {m : am_M} {x : Nat} : ev d 225 3 ls (.ref x :: st) m = ev d 225 4 ls (.ref x :: .ref x :: st) m := q_nx (show am_row 225 3 = some (.dup, 1, 0, 0, 0, 0) from rfl) rfl
set_option maxRecDepth 20000 in
theorem e225_4 {d : Nat} {ls : am_L} {st : List Value} {m : am_M} {a : Nat} (hw : am_w st ≤ 8) : ev (d + 1) 225 4 ls (.ref a :: st) m = am_k (cal d 89 [.ref a] m) (fun v m'' => ev (d + 1) 225 7 ls (v.toList ++ st) m'') := q_cl (show am_row 225 4 = some (.invokespecial 9, 3, 89, 0, 0, 94) from rfl) rfl (if_pos ⟨(Nat.zero_le _), hw⟩)
set_option maxRecDepth 20000 in
theorem e225_7 {d : Nat} {ls : am_L} {st : List Value} {m : am_M} {l0 : Option Value} {l1 : Option Value} {x : Nat} : ev d 225 7 (l0 :: l1 :: ls) (.ref x :: st) m = ev d 225 8 (am_clr l0 :: some (.ref x) :: ls) st m := q_nx (show am_row 225 7 = some (.astore_n 1, 1, 0, 0, 0, 0) from rfl) rfl
set_option maxRecDepth 20000 in
theorem e225_8 {d : Nat} {ls : am_L} {st : List Value} {m : am_M} : ev d 225 8 ls st m = ev d 225 11 ls (.ref (mS m) :: st) (nw m (1, 10, 0) 24) := q_nx (show am_row 225 8 = some (.new 10, 3, 10, 0, 0, 1033) from rfl) rfl
set_option maxRecDepth 20000 in
theorem e225_11 {d : Nat} {ls : am_L} {st : List Value} {m : am_M} {x : Int32} : ev d 225 11 ls (.int x :: st) m = ev d 225 12 ls (.int x :: .int x :: st) m := q_nx (show am_row 225 11 = some (.dup, 1, 0, 0, 0, 0) from rfl) rfl
set_option maxRecDepth 20000 in
theorem e225_11r {d : Nat} {ls : am_L} {st : List Value} {m : am_M} {x : Nat} : ev d 225 11 ls (.ref x :: st) m = ev d 225 12 ls (.ref x :: .ref x :: st) m := q_nx (show am_row 225 11 = some (.dup, 1, 0, 0, 0, 0) from rfl) rfl
set_option maxRecDepth 20000 in
theorem e225_12 {d : Nat} {ls : am_L} {st : List Value} {m : am_M} {a : Nat} (hw : am_w st ≤ 8) : ev (d + 1) 225 12 ls (.ref a :: st) m = am_k (cal d 138 [.ref a] m) (fun v m'' => ev (d + 1) 225 15 ls (v.toList ++ st) m'') := q_cl (show am_row 225 12 = some (.invokespecial 12, 3, 138, 0, 0, 1035) from rfl) rfl (if_pos ⟨(Nat.zero_le _), hw⟩)
set_option maxRecDepth 20000 in
theorem e225_15 {d : Nat} {ls : am_L} {st : List Value} {m : am_M} {l0 : Option Value} {l1 : Option Value} {l2 : Option Value} {x : Nat} : ev d 225 15 (l0 :: l1 :: l2 :: ls) (.ref x :: st) m = ev d 225 16 (l0 :: am_clr l1 :: some (.ref x) :: ls) st m := q_nx (show am_row 225 15 = some (.astore_n 2, 1, 0, 0, 0, 0) from rfl) rfl
set_option maxRecDepth 20000 in
theorem e225_16 {d : Nat} {ls : am_L} {st : List Value} {m : am_M} : ev d 225 16 ls st m = ev d 225 17 ls (.int (nI 0) :: st) m := q_nx (show am_row 225 16 = some (.iconst 0, 1, 0, 0, 0, 0) from rfl) rfl
set_option maxRecDepth 20000 in
theorem e225_17 {d : Nat} {ls : am_L} {st : List Value} {m : am_M} {l0 : Option Value} {l1 : Option Value} {l2 : Option Value} {l3 : Option Value} {x : Int32} : ev d 225 17 (l0 :: l1 :: l2 :: l3 :: ls) (.int x :: st) m = ev d 225 18 (l0 :: l1 :: am_clr l2 :: some (.int x) :: ls) st m := q_nx (show am_row 225 17 = some (.istore_n 3, 1, 0, 0, 0, 0) from rfl) rfl
set_option maxRecDepth 20000 in
theorem e225_18 {d : Nat} {ls : am_L} {st : List Value} {m : am_M} {l0 : Option Value} {l1 : Option Value} {l2 : Option Value} {x : Int32} : ev d 225 18 (l0 :: l1 :: l2 :: some (.int x) :: ls) st m = ev d 225 19 (l0 :: l1 :: l2 :: some (.int x) :: ls) (.int x :: st) m := q_nx (show am_row 225 18 = some (.iload_n 3, 1, 0, 0, 0, 0) from rfl) rfl
set_option maxRecDepth 20000 in
theorem e225_19 {d : Nat} {ls : am_L} {st : List Value} {m : am_M} {x : Nat} : ev d 225 19 (some (.ref x) :: ls) st m = ev d 225 20 (some (.ref x) :: ls) (.ref x :: st) m := q_nx (show am_row 225 19 = some (.aload_n 0, 1, 0, 0, 0, 0) from rfl) rfl
set_option maxRecDepth 20000 in
theorem e225_20 {d : Nat} {ls : am_L} {st : List Value} {m : am_M} {a : Nat} (hK : (mK m a).1 = 6) : ev d 225 20 ls (.ref a :: st) m = ev d 225 21 ls (.int (nI (mK m a).2.2) :: st) m := q_alen (show am_row 225 20 = some (.arraylength, 1, 0, 0, 0, 0) from rfl) hK
set_option maxRecDepth 20000 in
theorem e225_21 {d : Nat} {ls : am_L} {st : List Value} {m : am_M} : ev d 225 21 ls st m = ev d 225 23 ls (.int (nI 6) :: st) m := q_nx (show am_row 225 21 = some (.bipush 6, 2, 0, 0, 0, 0) from rfl) rfl
set_option maxRecDepth 20000 in
theorem e225_23 {d : Nat} {ls : am_L} {st : List Value} {m : am_M} {x y : Int32} : ev d 225 23 ls (.int y :: .int x :: st) m = ev d 225 24 ls (.int (x - y) :: st) m := q_nx (show am_row 225 23 = some (.isub, 1, 0, 0, 0, 0) from rfl) rfl
set_option maxRecDepth 20000 in
theorem e225_24 {d : Nat} {ls : am_L} {st : List Value} {m : am_M} {x y : Int32} : ev d 225 24 ls (.int y :: .int x :: st) m = if y < x then ev d 225 1272 ls st m else ev d 225 27 ls st m := q_ite (a := (1272, ls, st, m)) (b := (27, ls, st, m)) (show am_row 225 24 = some (.if_icmp .gt 1248, 3, 0, 0, 0, 0) from rfl) rfl
set_option maxRecDepth 20000 in
theorem e225_27 {d : Nat} {ls : am_L} {st : List Value} {m : am_M} {x : Nat} : ev d 225 27 (some (.ref x) :: ls) st m = ev d 225 28 (some (.ref x) :: ls) (.ref x :: st) m := q_nx (show am_row 225 27 = some (.aload_n 0, 1, 0, 0, 0, 0) from rfl) rfl
set_option maxRecDepth 20000 in
theorem e225_28 {d : Nat} {ls : am_L} {st : List Value} {m : am_M} {l0 : Option Value} {l1 : Option Value} {l2 : Option Value} {x : Int32} : ev d 225 28 (l0 :: l1 :: l2 :: some (.int x) :: ls) st m = ev d 225 29 (l0 :: l1 :: l2 :: some (.int x) :: ls) (.int x :: st) m := q_nx (show am_row 225 28 = some (.iload_n 3, 1, 0, 0, 0, 0) from rfl) rfl
set_option maxRecDepth 20000 in
theorem e225_29 {d : Nat} {ls : am_L} {st : List Value} {m : am_M} {a : Nat} {i : Int32} (hK : (mK m a).1 = 6) (hi : am_ix i (mK m a).2.2 = true) : ev d 225 29 ls (.int i :: .ref a :: st) m = ev d 225 30 ls (.int (mI m a i.toNatClampNeg) :: st) m := q_sald (show am_row 225 29 = some (.iaload, 1, 0, 0, 0, 0) from rfl) hK hi
set_option maxRecDepth 20000 in
theorem e225_30 {d : Nat} {ls : am_L} {st : List Value} {m : am_M} : ev d 225 30 ls st m = ev d 225 32 ls (.int (nI 63) :: st) m := q_nx (show am_row 225 30 = some (.bipush 63, 2, 0, 0, 0, 0) from rfl) rfl
set_option maxRecDepth 20000 in
theorem e225_32 {d : Nat} {ls : am_L} {st : List Value} {m : am_M} {x y : Int32} : ev d 225 32 ls (.int y :: .int x :: st) m = ev d 225 33 ls (.int (x &&& y) :: st) m := q_nx (show am_row 225 32 = some (.iand, 1, 0, 0, 0, 0) from rfl) rfl
set_option maxRecDepth 20000 in
theorem e225_33_0 {d : Nat} {ls : am_L} {st : List Value} {m : am_M} : ev d 225 33 ls (.int (nI 0) :: st) m = ev d 225 200 ls st m := q_nx (show am_row 225 33 = some (.tableswitch 1233 0 37 #[167, 230, 253, 286, 319, 352, 385, 418, 461, 484, 517, 580, 613, 636, 659, 672, 705, 748, 781, 794, 807, 870, 894, 907, 931, 944, 967, 990, 1003, 1026, 1039, 1072, 1085, 1138, 1151, 1164, 1187, 1210], 167, 0, 0, 0, 0) from rfl) rfl
set_option maxRecDepth 20000 in
theorem e225_33_1 {d : Nat} {ls : am_L} {st : List Value} {m : am_M} : ev d 225 33 ls (.int (nI 1) :: st) m = ev d 225 263 ls st m := q_nx (show am_row 225 33 = some (.tableswitch 1233 0 37 #[167, 230, 253, 286, 319, 352, 385, 418, 461, 484, 517, 580, 613, 636, 659, 672, 705, 748, 781, 794, 807, 870, 894, 907, 931, 944, 967, 990, 1003, 1026, 1039, 1072, 1085, 1138, 1151, 1164, 1187, 1210], 167, 0, 0, 0, 0) from rfl) rfl
set_option maxRecDepth 20000 in
theorem e225_33_2 {d : Nat} {ls : am_L} {st : List Value} {m : am_M} : ev d 225 33 ls (.int (nI 2) :: st) m = ev d 225 286 ls st m := q_nx (show am_row 225 33 = some (.tableswitch 1233 0 37 #[167, 230, 253, 286, 319, 352, 385, 418, 461, 484, 517, 580, 613, 636, 659, 672, 705, 748, 781, 794, 807, 870, 894, 907, 931, 944, 967, 990, 1003, 1026, 1039, 1072, 1085, 1138, 1151, 1164, 1187, 1210], 167, 0, 0, 0, 0) from rfl) rfl
set_option maxRecDepth 20000 in
theorem e225_33_3 {d : Nat} {ls : am_L} {st : List Value} {m : am_M} : ev d 225 33 ls (.int (nI 3) :: st) m = ev d 225 319 ls st m := q_nx (show am_row 225 33 = some (.tableswitch 1233 0 37 #[167, 230, 253, 286, 319, 352, 385, 418, 461, 484, 517, 580, 613, 636, 659, 672, 705, 748, 781, 794, 807, 870, 894, 907, 931, 944, 967, 990, 1003, 1026, 1039, 1072, 1085, 1138, 1151, 1164, 1187, 1210], 167, 0, 0, 0, 0) from rfl) rfl
set_option maxRecDepth 20000 in
theorem e225_33_4 {d : Nat} {ls : am_L} {st : List Value} {m : am_M} : ev d 225 33 ls (.int (nI 4) :: st) m = ev d 225 352 ls st m := q_nx (show am_row 225 33 = some (.tableswitch 1233 0 37 #[167, 230, 253, 286, 319, 352, 385, 418, 461, 484, 517, 580, 613, 636, 659, 672, 705, 748, 781, 794, 807, 870, 894, 907, 931, 944, 967, 990, 1003, 1026, 1039, 1072, 1085, 1138, 1151, 1164, 1187, 1210], 167, 0, 0, 0, 0) from rfl) rfl
set_option maxRecDepth 20000 in
theorem e225_33_5 {d : Nat} {ls : am_L} {st : List Value} {m : am_M} : ev d 225 33 ls (.int (nI 5) :: st) m = ev d 225 385 ls st m := q_nx (show am_row 225 33 = some (.tableswitch 1233 0 37 #[167, 230, 253, 286, 319, 352, 385, 418, 461, 484, 517, 580, 613, 636, 659, 672, 705, 748, 781, 794, 807, 870, 894, 907, 931, 944, 967, 990, 1003, 1026, 1039, 1072, 1085, 1138, 1151, 1164, 1187, 1210], 167, 0, 0, 0, 0) from rfl) rfl
set_option maxRecDepth 20000 in
theorem e225_33_6 {d : Nat} {ls : am_L} {st : List Value} {m : am_M} : ev d 225 33 ls (.int (nI 6) :: st) m = ev d 225 418 ls st m := q_nx (show am_row 225 33 = some (.tableswitch 1233 0 37 #[167, 230, 253, 286, 319, 352, 385, 418, 461, 484, 517, 580, 613, 636, 659, 672, 705, 748, 781, 794, 807, 870, 894, 907, 931, 944, 967, 990, 1003, 1026, 1039, 1072, 1085, 1138, 1151, 1164, 1187, 1210], 167, 0, 0, 0, 0) from rfl) rfl
set_option maxRecDepth 20000 in
theorem e225_33_7 {d : Nat} {ls : am_L} {st : List Value} {m : am_M} : ev d 225 33 ls (.int (nI 7) :: st) m = ev d 225 451 ls st m := q_nx (show am_row 225 33 = some (.tableswitch 1233 0 37 #[167, 230, 253, 286, 319, 352, 385, 418, 461, 484, 517, 580, 613, 636, 659, 672, 705, 748, 781, 794, 807, 870, 894, 907, 931, 944, 967, 990, 1003, 1026, 1039, 1072, 1085, 1138, 1151, 1164, 1187, 1210], 167, 0, 0, 0, 0) from rfl) rfl
set_option maxRecDepth 20000 in
theorem e225_33_8 {d : Nat} {ls : am_L} {st : List Value} {m : am_M} : ev d 225 33 ls (.int (nI 8) :: st) m = ev d 225 494 ls st m := q_nx (show am_row 225 33 = some (.tableswitch 1233 0 37 #[167, 230, 253, 286, 319, 352, 385, 418, 461, 484, 517, 580, 613, 636, 659, 672, 705, 748, 781, 794, 807, 870, 894, 907, 931, 944, 967, 990, 1003, 1026, 1039, 1072, 1085, 1138, 1151, 1164, 1187, 1210], 167, 0, 0, 0, 0) from rfl) rfl
set_option maxRecDepth 20000 in
theorem e225_33_9 {d : Nat} {ls : am_L} {st : List Value} {m : am_M} : ev d 225 33 ls (.int (nI 9) :: st) m = ev d 225 517 ls st m := q_nx (show am_row 225 33 = some (.tableswitch 1233 0 37 #[167, 230, 253, 286, 319, 352, 385, 418, 461, 484, 517, 580, 613, 636, 659, 672, 705, 748, 781, 794, 807, 870, 894, 907, 931, 944, 967, 990, 1003, 1026, 1039, 1072, 1085, 1138, 1151, 1164, 1187, 1210], 167, 0, 0, 0, 0) from rfl) rfl
set_option maxRecDepth 20000 in
theorem e225_33_10 {d : Nat} {ls : am_L} {st : List Value} {m : am_M} : ev d 225 33 ls (.int (nI 10) :: st) m = ev d 225 550 ls st m := q_nx (show am_row 225 33 = some (.tableswitch 1233 0 37 #[167, 230, 253, 286, 319, 352, 385, 418, 461, 484, 517, 580, 613, 636, 659, 672, 705, 748, 781, 794, 807, 870, 894, 907, 931, 944, 967, 990, 1003, 1026, 1039, 1072, 1085, 1138, 1151, 1164, 1187, 1210], 167, 0, 0, 0, 0) from rfl) rfl
set_option maxRecDepth 20000 in
theorem e225_33_11 {d : Nat} {ls : am_L} {st : List Value} {m : am_M} : ev d 225 33 ls (.int (nI 11) :: st) m = ev d 225 613 ls st m := q_nx (show am_row 225 33 = some (.tableswitch 1233 0 37 #[167, 230, 253, 286, 319, 352, 385, 418, 461, 484, 517, 580, 613, 636, 659, 672, 705, 748, 781, 794, 807, 870, 894, 907, 931, 944, 967, 990, 1003, 1026, 1039, 1072, 1085, 1138, 1151, 1164, 1187, 1210], 167, 0, 0, 0, 0) from rfl) rfl
set_option maxRecDepth 20000 in
theorem e225_33_12 {d : Nat} {ls : am_L} {st : List Value} {m : am_M} : ev d 225 33 ls (.int (nI 12) :: st) m = ev d 225 646 ls st m := q_nx (show am_row 225 33 = some (.tableswitch 1233 0 37 #[167, 230, 253, 286, 319, 352, 385, 418, 461, 484, 517, 580, 613, 636, 659, 672, 705, 748, 781, 794, 807, 870, 894, 907, 931, 944, 967, 990, 1003, 1026, 1039, 1072, 1085, 1138, 1151, 1164, 1187, 1210], 167, 0, 0, 0, 0) from rfl) rfl
set_option maxRecDepth 20000 in
theorem e225_33_13 {d : Nat} {ls : am_L} {st : List Value} {m : am_M} : ev d 225 33 ls (.int (nI 13) :: st) m = ev d 225 669 ls st m := q_nx (show am_row 225 33 = some (.tableswitch 1233 0 37 #[167, 230, 253, 286, 319, 352, 385, 418, 461, 484, 517, 580, 613, 636, 659, 672, 705, 748, 781, 794, 807, 870, 894, 907, 931, 944, 967, 990, 1003, 1026, 1039, 1072, 1085, 1138, 1151, 1164, 1187, 1210], 167, 0, 0, 0, 0) from rfl) rfl
set_option maxRecDepth 20000 in
theorem e225_33_14 {d : Nat} {ls : am_L} {st : List Value} {m : am_M} : ev d 225 33 ls (.int (nI 14) :: st) m = ev d 225 692 ls st m := q_nx (show am_row 225 33 = some (.tableswitch 1233 0 37 #[167, 230, 253, 286, 319, 352, 385, 418, 461, 484, 517, 580, 613, 636, 659, 672, 705, 748, 781, 794, 807, 870, 894, 907, 931, 944, 967, 990, 1003, 1026, 1039, 1072, 1085, 1138, 1151, 1164, 1187, 1210], 167, 0, 0, 0, 0) from rfl) rfl
set_option maxRecDepth 20000 in
theorem e225_33_15 {d : Nat} {ls : am_L} {st : List Value} {m : am_M} : ev d 225 33 ls (.int (nI 15) :: st) m = ev d 225 705 ls st m := q_nx (show am_row 225 33 = some (.tableswitch 1233 0 37 #[167, 230, 253, 286, 319, 352, 385, 418, 461, 484, 517, 580, 613, 636, 659, 672, 705, 748, 781, 794, 807, 870, 894, 907, 931, 944, 967, 990, 1003, 1026, 1039, 1072, 1085, 1138, 1151, 1164, 1187, 1210], 167, 0, 0, 0, 0) from rfl) rfl
set_option maxRecDepth 20000 in
theorem e225_33_16 {d : Nat} {ls : am_L} {st : List Value} {m : am_M} : ev d 225 33 ls (.int (nI 16) :: st) m = ev d 225 738 ls st m := q_nx (show am_row 225 33 = some (.tableswitch 1233 0 37 #[167, 230, 253, 286, 319, 352, 385, 418, 461, 484, 517, 580, 613, 636, 659, 672, 705, 748, 781, 794, 807, 870, 894, 907, 931, 944, 967, 990, 1003, 1026, 1039, 1072, 1085, 1138, 1151, 1164, 1187, 1210], 167, 0, 0, 0, 0) from rfl) rfl
set_option maxRecDepth 20000 in
theorem e225_33_17 {d : Nat} {ls : am_L} {st : List Value} {m : am_M} : ev d 225 33 ls (.int (nI 17) :: st) m = ev d 225 781 ls st m := q_nx (show am_row 225 33 = some (.tableswitch 1233 0 37 #[167, 230, 253, 286, 319, 352, 385, 418, 461, 484, 517, 580, 613, 636, 659, 672, 705, 748, 781, 794, 807, 870, 894, 907, 931, 944, 967, 990, 1003, 1026, 1039, 1072, 1085, 1138, 1151, 1164, 1187, 1210], 167, 0, 0, 0, 0) from rfl) rfl
set_option maxRecDepth 20000 in
theorem e225_33_18 {d : Nat} {ls : am_L} {st : List Value} {m : am_M} : ev d 225 33 ls (.int (nI 18) :: st) m = ev d 225 814 ls st m := q_nx (show am_row 225 33 = some (.tableswitch 1233 0 37 #[167, 230, 253, 286, 319, 352, 385, 418, 461, 484, 517, 580, 613, 636, 659, 672, 705, 748, 781, 794, 807, 870, 894, 907, 931, 944, 967, 990, 1003, 1026, 1039, 1072, 1085, 1138, 1151, 1164, 1187, 1210], 167, 0, 0, 0, 0) from rfl) rfl
set_option maxRecDepth 20000 in
theorem e225_33_19 {d : Nat} {ls : am_L} {st : List Value} {m : am_M} : ev d 225 33 ls (.int (nI 19) :: st) m = ev d 225 827 ls st m := q_nx (show am_row 225 33 = some (.tableswitch 1233 0 37 #[167, 230, 253, 286, 319, 352, 385, 418, 461, 484, 517, 580, 613, 636, 659, 672, 705, 748, 781, 794, 807, 870, 894, 907, 931, 944, 967, 990, 1003, 1026, 1039, 1072, 1085, 1138, 1151, 1164, 1187, 1210], 167, 0, 0, 0, 0) from rfl) rfl
set_option maxRecDepth 20000 in
theorem e225_33_20 {d : Nat} {ls : am_L} {st : List Value} {m : am_M} : ev d 225 33 ls (.int (nI 20) :: st) m = ev d 225 840 ls st m := q_nx (show am_row 225 33 = some (.tableswitch 1233 0 37 #[167, 230, 253, 286, 319, 352, 385, 418, 461, 484, 517, 580, 613, 636, 659, 672, 705, 748, 781, 794, 807, 870, 894, 907, 931, 944, 967, 990, 1003, 1026, 1039, 1072, 1085, 1138, 1151, 1164, 1187, 1210], 167, 0, 0, 0, 0) from rfl) rfl
set_option maxRecDepth 20000 in
theorem e225_33_21 {d : Nat} {ls : am_L} {st : List Value} {m : am_M} : ev d 225 33 ls (.int (nI 21) :: st) m = ev d 225 903 ls st m := q_nx (show am_row 225 33 = some (.tableswitch 1233 0 37 #[167, 230, 253, 286, 319, 352, 385, 418, 461, 484, 517, 580, 613, 636, 659, 672, 705, 748, 781, 794, 807, 870, 894, 907, 931, 944, 967, 990, 1003, 1026, 1039, 1072, 1085, 1138, 1151, 1164, 1187, 1210], 167, 0, 0, 0, 0) from rfl) rfl
set_option maxRecDepth 20000 in
theorem e225_33_22 {d : Nat} {ls : am_L} {st : List Value} {m : am_M} : ev d 225 33 ls (.int (nI 22) :: st) m = ev d 225 927 ls st m := q_nx (show am_row 225 33 = some (.tableswitch 1233 0 37 #[167, 230, 253, 286, 319, 352, 385, 418, 461, 484, 517, 580, 613, 636, 659, 672, 705, 748, 781, 794, 807, 870, 894, 907, 931, 944, 967, 990, 1003, 1026, 1039, 1072, 1085, 1138, 1151, 1164, 1187, 1210], 167, 0, 0, 0, 0) from rfl) rfl
set_option maxRecDepth 20000 in
theorem e225_33_23 {d : Nat} {ls : am_L} {st : List Value} {m : am_M} : ev d 225 33 ls (.int (nI 23) :: st) m = ev d 225 940 ls st m := q_nx (show am_row 225 33 = some (.tableswitch 1233 0 37 #[167, 230, 253, 286, 319, 352, 385, 418, 461, 484, 517, 580, 613, 636, 659, 672, 705, 748, 781, 794, 807, 870, 894, 907, 931, 944, 967, 990, 1003, 1026, 1039, 1072, 1085, 1138, 1151, 1164, 1187, 1210], 167, 0, 0, 0, 0) from rfl) rfl
set_option maxRecDepth 20000 in
theorem e225_33_24 {d : Nat} {ls : am_L} {st : List Value} {m : am_M} : ev d 225 33 ls (.int (nI 24) :: st) m = ev d 225 964 ls st m := q_nx (show am_row 225 33 = some (.tableswitch 1233 0 37 #[167, 230, 253, 286, 319, 352, 385, 418, 461, 484, 517, 580, 613, 636, 659, 672, 705, 748, 781, 794, 807, 870, 894, 907, 931, 944, 967, 990, 1003, 1026, 1039, 1072, 1085, 1138, 1151, 1164, 1187, 1210], 167, 0, 0, 0, 0) from rfl) rfl
set_option maxRecDepth 20000 in
theorem e225_33_25 {d : Nat} {ls : am_L} {st : List Value} {m : am_M} : ev d 225 33 ls (.int (nI 25) :: st) m = ev d 225 977 ls st m := q_nx (show am_row 225 33 = some (.tableswitch 1233 0 37 #[167, 230, 253, 286, 319, 352, 385, 418, 461, 484, 517, 580, 613, 636, 659, 672, 705, 748, 781, 794, 807, 870, 894, 907, 931, 944, 967, 990, 1003, 1026, 1039, 1072, 1085, 1138, 1151, 1164, 1187, 1210], 167, 0, 0, 0, 0) from rfl) rfl
set_option maxRecDepth 20000 in
theorem e225_33_26 {d : Nat} {ls : am_L} {st : List Value} {m : am_M} : ev d 225 33 ls (.int (nI 26) :: st) m = ev d 225 1000 ls st m := q_nx (show am_row 225 33 = some (.tableswitch 1233 0 37 #[167, 230, 253, 286, 319, 352, 385, 418, 461, 484, 517, 580, 613, 636, 659, 672, 705, 748, 781, 794, 807, 870, 894, 907, 931, 944, 967, 990, 1003, 1026, 1039, 1072, 1085, 1138, 1151, 1164, 1187, 1210], 167, 0, 0, 0, 0) from rfl) rfl
set_option maxRecDepth 20000 in
theorem e225_33_27 {d : Nat} {ls : am_L} {st : List Value} {m : am_M} : ev d 225 33 ls (.int (nI 27) :: st) m = ev d 225 1023 ls st m := q_nx (show am_row 225 33 = some (.tableswitch 1233 0 37 #[167, 230, 253, 286, 319, 352, 385, 418, 461, 484, 517, 580, 613, 636, 659, 672, 705, 748, 781, 794, 807, 870, 894, 907, 931, 944, 967, 990, 1003, 1026, 1039, 1072, 1085, 1138, 1151, 1164, 1187, 1210], 167, 0, 0, 0, 0) from rfl) rfl
set_option maxRecDepth 20000 in
theorem e225_33_28 {d : Nat} {ls : am_L} {st : List Value} {m : am_M} : ev d 225 33 ls (.int (nI 28) :: st) m = ev d 225 1036 ls st m := q_nx (show am_row 225 33 = some (.tableswitch 1233 0 37 #[167, 230, 253, 286, 319, 352, 385, 418, 461, 484, 517, 580, 613, 636, 659, 672, 705, 748, 781, 794, 807, 870, 894, 907, 931, 944, 967, 990, 1003, 1026, 1039, 1072, 1085, 1138, 1151, 1164, 1187, 1210], 167, 0, 0, 0, 0) from rfl) rfl
set_option maxRecDepth 20000 in
theorem e225_33_29 {d : Nat} {ls : am_L} {st : List Value} {m : am_M} : ev d 225 33 ls (.int (nI 29) :: st) m = ev d 225 1059 ls st m := q_nx (show am_row 225 33 = some (.tableswitch 1233 0 37 #[167, 230, 253, 286, 319, 352, 385, 418, 461, 484, 517, 580, 613, 636, 659, 672, 705, 748, 781, 794, 807, 870, 894, 907, 931, 944, 967, 990, 1003, 1026, 1039, 1072, 1085, 1138, 1151, 1164, 1187, 1210], 167, 0, 0, 0, 0) from rfl) rfl
set_option maxRecDepth 20000 in
theorem e225_33_30 {d : Nat} {ls : am_L} {st : List Value} {m : am_M} : ev d 225 33 ls (.int (nI 30) :: st) m = ev d 225 1072 ls st m := q_nx (show am_row 225 33 = some (.tableswitch 1233 0 37 #[167, 230, 253, 286, 319, 352, 385, 418, 461, 484, 517, 580, 613, 636, 659, 672, 705, 748, 781, 794, 807, 870, 894, 907, 931, 944, 967, 990, 1003, 1026, 1039, 1072, 1085, 1138, 1151, 1164, 1187, 1210], 167, 0, 0, 0, 0) from rfl) rfl
set_option maxRecDepth 20000 in
theorem e225_33_31 {d : Nat} {ls : am_L} {st : List Value} {m : am_M} : ev d 225 33 ls (.int (nI 31) :: st) m = ev d 225 1105 ls st m := q_nx (show am_row 225 33 = some (.tableswitch 1233 0 37 #[167, 230, 253, 286, 319, 352, 385, 418, 461, 484, 517, 580, 613, 636, 659, 672, 705, 748, 781, 794, 807, 870, 894, 907, 931, 944, 967, 990, 1003, 1026, 1039, 1072, 1085, 1138, 1151, 1164, 1187, 1210], 167, 0, 0, 0, 0) from rfl) rfl
set_option maxRecDepth 20000 in
theorem e225_33_32 {d : Nat} {ls : am_L} {st : List Value} {m : am_M} : ev d 225 33 ls (.int (nI 32) :: st) m = ev d 225 1118 ls st m := q_nx (show am_row 225 33 = some (.tableswitch 1233 0 37 #[167, 230, 253, 286, 319, 352, 385, 418, 461, 484, 517, 580, 613, 636, 659, 672, 705, 748, 781, 794, 807, 870, 894, 907, 931, 944, 967, 990, 1003, 1026, 1039, 1072, 1085, 1138, 1151, 1164, 1187, 1210], 167, 0, 0, 0, 0) from rfl) rfl
set_option maxRecDepth 20000 in
theorem e225_33_33 {d : Nat} {ls : am_L} {st : List Value} {m : am_M} : ev d 225 33 ls (.int (nI 33) :: st) m = ev d 225 1171 ls st m := q_nx (show am_row 225 33 = some (.tableswitch 1233 0 37 #[167, 230, 253, 286, 319, 352, 385, 418, 461, 484, 517, 580, 613, 636, 659, 672, 705, 748, 781, 794, 807, 870, 894, 907, 931, 944, 967, 990, 1003, 1026, 1039, 1072, 1085, 1138, 1151, 1164, 1187, 1210], 167, 0, 0, 0, 0) from rfl) rfl
set_option maxRecDepth 20000 in
theorem e225_33_34 {d : Nat} {ls : am_L} {st : List Value} {m : am_M} : ev d 225 33 ls (.int (nI 34) :: st) m = ev d 225 1184 ls st m := q_nx (show am_row 225 33 = some (.tableswitch 1233 0 37 #[167, 230, 253, 286, 319, 352, 385, 418, 461, 484, 517, 580, 613, 636, 659, 672, 705, 748, 781, 794, 807, 870, 894, 907, 931, 944, 967, 990, 1003, 1026, 1039, 1072, 1085, 1138, 1151, 1164, 1187, 1210], 167, 0, 0, 0, 0) from rfl) rfl
set_option maxRecDepth 20000 in
theorem e225_33_35 {d : Nat} {ls : am_L} {st : List Value} {m : am_M} : ev d 225 33 ls (.int (nI 35) :: st) m = ev d 225 1197 ls st m := q_nx (show am_row 225 33 = some (.tableswitch 1233 0 37 #[167, 230, 253, 286, 319, 352, 385, 418, 461, 484, 517, 580, 613, 636, 659, 672, 705, 748, 781, 794, 807, 870, 894, 907, 931, 944, 967, 990, 1003, 1026, 1039, 1072, 1085, 1138, 1151, 1164, 1187, 1210], 167, 0, 0, 0, 0) from rfl) rfl
set_option maxRecDepth 20000 in
theorem e225_33_36 {d : Nat} {ls : am_L} {st : List Value} {m : am_M} : ev d 225 33 ls (.int (nI 36) :: st) m = ev d 225 1220 ls st m := q_nx (show am_row 225 33 = some (.tableswitch 1233 0 37 #[167, 230, 253, 286, 319, 352, 385, 418, 461, 484, 517, 580, 613, 636, 659, 672, 705, 748, 781, 794, 807, 870, 894, 907, 931, 944, 967, 990, 1003, 1026, 1039, 1072, 1085, 1138, 1151, 1164, 1187, 1210], 167, 0, 0, 0, 0) from rfl) rfl
set_option maxRecDepth 20000 in
theorem e225_33_37 {d : Nat} {ls : am_L} {st : List Value} {m : am_M} : ev d 225 33 ls (.int (nI 37) :: st) m = ev d 225 1243 ls st m := q_nx (show am_row 225 33 = some (.tableswitch 1233 0 37 #[167, 230, 253, 286, 319, 352, 385, 418, 461, 484, 517, 580, 613, 636, 659, 672, 705, 748, 781, 794, 807, 870, 894, 907, 931, 944, 967, 990, 1003, 1026, 1039, 1072, 1085, 1138, 1151, 1164, 1187, 1210], 167, 0, 0, 0, 0) from rfl) rfl
set_option maxRecDepth 20000 in
theorem e225_33_x {d : Nat} {ls : am_L} {st : List Value} {m : am_M} {x : Int32} (hx : x.toInt < 0 ∨ 37 < x.toInt) : ev d 225 33 ls (.int x :: st) m = ev d 225 1266 ls st m := q_nx (show am_row 225 33 = some (.tableswitch 1233 0 37 #[167, 230, 253, 286, 319, 352, 385, 418, 461, 484, 517, 580, 613, 636, 659, 672, 705, 748, 781, 794, 807, 870, 894, 907, 931, 944, 967, 990, 1003, 1026, 1039, 1072, 1085, 1138, 1151, 1164, 1187, 1210], 167, 0, 0, 0, 0) from rfl) (if_pos hx)
set_option maxRecDepth 20000 in
theorem e225_200 {d : Nat} {ls : am_L} {st : List Value} {m : am_M} {l0 : Option Value} {x : Nat} : ev d 225 200 (l0 :: some (.ref x) :: ls) st m = ev d 225 201 (l0 :: some (.ref x) :: ls) (.ref x :: st) m := q_nx (show am_row 225 200 = some (.aload_n 1, 1, 0, 0, 0, 0) from rfl) rfl
set_option maxRecDepth 20000 in
theorem e225_201 {d : Nat} {ls : am_L} {st : List Value} {m : am_M} {x : Nat} : ev d 225 201 (some (.ref x) :: ls) st m = ev d 225 202 (some (.ref x) :: ls) (.ref x :: st) m := q_nx (show am_row 225 201 = some (.aload_n 0, 1, 0, 0, 0, 0) from rfl) rfl
set_option maxRecDepth 20000 in
theorem e225_202 {d : Nat} {ls : am_L} {st : List Value} {m : am_M} {l0 : Option Value} {l1 : Option Value} {l2 : Option Value} {x : Int32} : ev d 225 202 (l0 :: l1 :: l2 :: some (.int x) :: ls) st m = ev d 225 203 (l0 :: l1 :: l2 :: some (.int x) :: ls) (.int x :: st) m := q_nx (show am_row 225 202 = some (.iload_n 3, 1, 0, 0, 0, 0) from rfl) rfl
set_option maxRecDepth 20000 in
theorem e225_203 {d : Nat} {ls : am_L} {st : List Value} {m : am_M} : ev d 225 203 ls st m = ev d 225 204 ls (.int (nI 1) :: st) m := q_nx (show am_row 225 203 = some (.iconst 1, 1, 0, 0, 0, 0) from rfl) rfl
set_option maxRecDepth 20000 in
theorem e225_204 {d : Nat} {ls : am_L} {st : List Value} {m : am_M} {x y : Int32} : ev d 225 204 ls (.int y :: .int x :: st) m = ev d 225 205 ls (.int (x + y) :: st) m := q_nx (show am_row 225 204 = some (.iadd, 1, 0, 0, 0, 0) from rfl) rfl
set_option maxRecDepth 20000 in
theorem e225_205 {d : Nat} {ls : am_L} {st : List Value} {m : am_M} {a : Nat} {i : Int32} (hK : (mK m a).1 = 6) (hi : am_ix i (mK m a).2.2 = true) : ev d 225 205 ls (.int i :: .ref a :: st) m = ev d 225 206 ls (.int (mI m a i.toNatClampNeg) :: st) m := q_sald (show am_row 225 205 = some (.iaload, 1, 0, 0, 0, 0) from rfl) hK hi
set_option maxRecDepth 20000 in
theorem e225_206 {d : Nat} {ls : am_L} {st : List Value} {m : am_M} {x : Nat} : ev d 225 206 (some (.ref x) :: ls) st m = ev d 225 207 (some (.ref x) :: ls) (.ref x :: st) m := q_nx (show am_row 225 206 = some (.aload_n 0, 1, 0, 0, 0, 0) from rfl) rfl
set_option maxRecDepth 20000 in
theorem e225_207 {d : Nat} {ls : am_L} {st : List Value} {m : am_M} {l0 : Option Value} {l1 : Option Value} {l2 : Option Value} {x : Int32} : ev d 225 207 (l0 :: l1 :: l2 :: some (.int x) :: ls) st m = ev d 225 208 (l0 :: l1 :: l2 :: some (.int x) :: ls) (.int x :: st) m := q_nx (show am_row 225 207 = some (.iload_n 3, 1, 0, 0, 0, 0) from rfl) rfl
set_option maxRecDepth 20000 in
theorem e225_208 {d : Nat} {ls : am_L} {st : List Value} {m : am_M} : ev d 225 208 ls st m = ev d 225 209 ls (.int (nI 2) :: st) m := q_nx (show am_row 225 208 = some (.iconst 2, 1, 0, 0, 0, 0) from rfl) rfl
set_option maxRecDepth 20000 in
theorem e225_209 {d : Nat} {ls : am_L} {st : List Value} {m : am_M} {x y : Int32} : ev d 225 209 ls (.int y :: .int x :: st) m = ev d 225 210 ls (.int (x + y) :: st) m := q_nx (show am_row 225 209 = some (.iadd, 1, 0, 0, 0, 0) from rfl) rfl
set_option maxRecDepth 20000 in
theorem e225_210 {d : Nat} {ls : am_L} {st : List Value} {m : am_M} {a : Nat} {i : Int32} (hK : (mK m a).1 = 6) (hi : am_ix i (mK m a).2.2 = true) : ev d 225 210 ls (.int i :: .ref a :: st) m = ev d 225 211 ls (.int (mI m a i.toNatClampNeg) :: st) m := q_sald (show am_row 225 210 = some (.iaload, 1, 0, 0, 0, 0) from rfl) hK hi
set_option maxRecDepth 20000 in
theorem e225_211 {d : Nat} {ls : am_L} {st : List Value} {m : am_M} {x : Nat} : ev d 225 211 (some (.ref x) :: ls) st m = ev d 225 212 (some (.ref x) :: ls) (.ref x :: st) m := q_nx (show am_row 225 211 = some (.aload_n 0, 1, 0, 0, 0, 0) from rfl) rfl
set_option maxRecDepth 20000 in
theorem e225_212 {d : Nat} {ls : am_L} {st : List Value} {m : am_M} {l0 : Option Value} {l1 : Option Value} {l2 : Option Value} {x : Int32} : ev d 225 212 (l0 :: l1 :: l2 :: some (.int x) :: ls) st m = ev d 225 213 (l0 :: l1 :: l2 :: some (.int x) :: ls) (.int x :: st) m := q_nx (show am_row 225 212 = some (.iload_n 3, 1, 0, 0, 0, 0) from rfl) rfl
set_option maxRecDepth 20000 in
theorem e225_213 {d : Nat} {ls : am_L} {st : List Value} {m : am_M} : ev d 225 213 ls st m = ev d 225 214 ls (.int (nI 3) :: st) m := q_nx (show am_row 225 213 = some (.iconst 3, 1, 0, 0, 0, 0) from rfl) rfl
set_option maxRecDepth 20000 in
theorem e225_214 {d : Nat} {ls : am_L} {st : List Value} {m : am_M} {x y : Int32} : ev d 225 214 ls (.int y :: .int x :: st) m = ev d 225 215 ls (.int (x + y) :: st) m := q_nx (show am_row 225 214 = some (.iadd, 1, 0, 0, 0, 0) from rfl) rfl
set_option maxRecDepth 20000 in
theorem e225_215 {d : Nat} {ls : am_L} {st : List Value} {m : am_M} {a : Nat} {i : Int32} (hK : (mK m a).1 = 6) (hi : am_ix i (mK m a).2.2 = true) : ev d 225 215 ls (.int i :: .ref a :: st) m = ev d 225 216 ls (.int (mI m a i.toNatClampNeg) :: st) m := q_sald (show am_row 225 215 = some (.iaload, 1, 0, 0, 0, 0) from rfl) hK hi
set_option maxRecDepth 20000 in
theorem e225_216 {d : Nat} {ls : am_L} {st : List Value} {m : am_M} {x : Nat} : ev d 225 216 (some (.ref x) :: ls) st m = ev d 225 217 (some (.ref x) :: ls) (.ref x :: st) m := q_nx (show am_row 225 216 = some (.aload_n 0, 1, 0, 0, 0, 0) from rfl) rfl
set_option maxRecDepth 20000 in
theorem e225_217 {d : Nat} {ls : am_L} {st : List Value} {m : am_M} {l0 : Option Value} {l1 : Option Value} {l2 : Option Value} {x : Int32} : ev d 225 217 (l0 :: l1 :: l2 :: some (.int x) :: ls) st m = ev d 225 218 (l0 :: l1 :: l2 :: some (.int x) :: ls) (.int x :: st) m := q_nx (show am_row 225 217 = some (.iload_n 3, 1, 0, 0, 0, 0) from rfl) rfl
set_option maxRecDepth 20000 in
theorem e225_218 {d : Nat} {ls : am_L} {st : List Value} {m : am_M} : ev d 225 218 ls st m = ev d 225 219 ls (.int (nI 4) :: st) m := q_nx (show am_row 225 218 = some (.iconst 4, 1, 0, 0, 0, 0) from rfl) rfl
set_option maxRecDepth 20000 in
theorem e225_219 {d : Nat} {ls : am_L} {st : List Value} {m : am_M} {x y : Int32} : ev d 225 219 ls (.int y :: .int x :: st) m = ev d 225 220 ls (.int (x + y) :: st) m := q_nx (show am_row 225 219 = some (.iadd, 1, 0, 0, 0, 0) from rfl) rfl
set_option maxRecDepth 20000 in
theorem e225_220 {d : Nat} {ls : am_L} {st : List Value} {m : am_M} {a : Nat} {i : Int32} (hK : (mK m a).1 = 6) (hi : am_ix i (mK m a).2.2 = true) : ev d 225 220 ls (.int i :: .ref a :: st) m = ev d 225 221 ls (.int (mI m a i.toNatClampNeg) :: st) m := q_sald (show am_row 225 220 = some (.iaload, 1, 0, 0, 0, 0) from rfl) hK hi
set_option maxRecDepth 20000 in
theorem e225_221 {d : Nat} {ls : am_L} {st : List Value} {m : am_M} {x : Nat} : ev d 225 221 (some (.ref x) :: ls) st m = ev d 225 222 (some (.ref x) :: ls) (.ref x :: st) m := q_nx (show am_row 225 221 = some (.aload_n 0, 1, 0, 0, 0, 0) from rfl) rfl
set_option maxRecDepth 20000 in
theorem e225_222 {d : Nat} {ls : am_L} {st : List Value} {m : am_M} {l0 : Option Value} {l1 : Option Value} {l2 : Option Value} {x : Int32} : ev d 225 222 (l0 :: l1 :: l2 :: some (.int x) :: ls) st m = ev d 225 223 (l0 :: l1 :: l2 :: some (.int x) :: ls) (.int x :: st) m := q_nx (show am_row 225 222 = some (.iload_n 3, 1, 0, 0, 0, 0) from rfl) rfl
set_option maxRecDepth 20000 in
theorem e225_223 {d : Nat} {ls : am_L} {st : List Value} {m : am_M} : ev d 225 223 ls st m = ev d 225 224 ls (.int (nI 5) :: st) m := q_nx (show am_row 225 223 = some (.iconst 5, 1, 0, 0, 0, 0) from rfl) rfl
set_option maxRecDepth 20000 in
theorem e225_224 {d : Nat} {ls : am_L} {st : List Value} {m : am_M} {x y : Int32} : ev d 225 224 ls (.int y :: .int x :: st) m = ev d 225 225 ls (.int (x + y) :: st) m := q_nx (show am_row 225 224 = some (.iadd, 1, 0, 0, 0, 0) from rfl) rfl
set_option maxRecDepth 20000 in
theorem e225_225 {d : Nat} {ls : am_L} {st : List Value} {m : am_M} {a : Nat} {i : Int32} (hK : (mK m a).1 = 6) (hi : am_ix i (mK m a).2.2 = true) : ev d 225 225 ls (.int i :: .ref a :: st) m = ev d 225 226 ls (.int (mI m a i.toNatClampNeg) :: st) m := q_sald (show am_row 225 225 = some (.iaload, 1, 0, 0, 0, 0) from rfl) hK hi
set_option maxRecDepth 20000 in
theorem e225_226 {d : Nat} {ls : am_L} {st : List Value} {m : am_M} {a : Nat} {v0 : Int32} {v1 : Int32} {v2 : Int32} {v3 : Int32} {v4 : Int32} (hK : mK m a = (1, 9, 0)) (hw : am_w st ≤ 8) : ev (d + 1) 225 226 ls (.int v4 :: .int v3 :: .int v2 :: .int v1 :: .int v0 :: .ref a :: st) m = am_k (cal d 90 [.ref a, .int v0, .int v1, .int v2, .int v3, .int v4] m) (fun v m'' => ev (d + 1) 225 229 ls (v.toList ++ st) m'') := q_cl (show am_row 225 226 = some (.invokevirtual 13, 3, 90, 0, 0, 473) from rfl) rfl (if_pos ⟨hK, (by show 5 ≤ _; simp only [List.length_cons]; omega), hw⟩)
set_option maxRecDepth 20000 in
theorem e225_229 {d : Nat} {ls : am_L} {st : List Value} {m : am_M} {l0 : Option Value} {l1 : Option Value} {x : Nat} : ev d 225 229 (l0 :: l1 :: some (.ref x) :: ls) st m = ev d 225 230 (l0 :: l1 :: some (.ref x) :: ls) (.ref x :: st) m := q_nx (show am_row 225 229 = some (.aload_n 2, 1, 0, 0, 0, 0) from rfl) rfl
set_option maxRecDepth 20000 in
theorem e225_230 {d : Nat} {ls : am_L} {st : List Value} {m : am_M} {x : Nat} : ev d 225 230 (some (.ref x) :: ls) st m = ev d 225 231 (some (.ref x) :: ls) (.ref x :: st) m := q_nx (show am_row 225 230 = some (.aload_n 0, 1, 0, 0, 0, 0) from rfl) rfl
set_option maxRecDepth 20000 in
theorem e225_231 {d : Nat} {ls : am_L} {st : List Value} {m : am_M} {l0 : Option Value} {l1 : Option Value} {l2 : Option Value} {x : Int32} : ev d 225 231 (l0 :: l1 :: l2 :: some (.int x) :: ls) st m = ev d 225 232 (l0 :: l1 :: l2 :: some (.int x) :: ls) (.int x :: st) m := q_nx (show am_row 225 231 = some (.iload_n 3, 1, 0, 0, 0, 0) from rfl) rfl
set_option maxRecDepth 20000 in
theorem e225_232 {d : Nat} {ls : am_L} {st : List Value} {m : am_M} : ev d 225 232 ls st m = ev d 225 233 ls (.int (nI 1) :: st) m := q_nx (show am_row 225 232 = some (.iconst 1, 1, 0, 0, 0, 0) from rfl) rfl
set_option maxRecDepth 20000 in
theorem e225_233 {d : Nat} {ls : am_L} {st : List Value} {m : am_M} {x y : Int32} : ev d 225 233 ls (.int y :: .int x :: st) m = ev d 225 234 ls (.int (x + y) :: st) m := q_nx (show am_row 225 233 = some (.iadd, 1, 0, 0, 0, 0) from rfl) rfl
set_option maxRecDepth 20000 in
theorem e225_234 {d : Nat} {ls : am_L} {st : List Value} {m : am_M} {a : Nat} {i : Int32} (hK : (mK m a).1 = 6) (hi : am_ix i (mK m a).2.2 = true) : ev d 225 234 ls (.int i :: .ref a :: st) m = ev d 225 235 ls (.int (mI m a i.toNatClampNeg) :: st) m := q_sald (show am_row 225 234 = some (.iaload, 1, 0, 0, 0, 0) from rfl) hK hi
set_option maxRecDepth 20000 in
theorem e225_235 {d : Nat} {ls : am_L} {st : List Value} {m : am_M} {x : Nat} : ev d 225 235 (some (.ref x) :: ls) st m = ev d 225 236 (some (.ref x) :: ls) (.ref x :: st) m := q_nx (show am_row 225 235 = some (.aload_n 0, 1, 0, 0, 0, 0) from rfl) rfl
set_option maxRecDepth 20000 in
theorem e225_236 {d : Nat} {ls : am_L} {st : List Value} {m : am_M} {l0 : Option Value} {l1 : Option Value} {l2 : Option Value} {x : Int32} : ev d 225 236 (l0 :: l1 :: l2 :: some (.int x) :: ls) st m = ev d 225 237 (l0 :: l1 :: l2 :: some (.int x) :: ls) (.int x :: st) m := q_nx (show am_row 225 236 = some (.iload_n 3, 1, 0, 0, 0, 0) from rfl) rfl
set_option maxRecDepth 20000 in
theorem e225_237 {d : Nat} {ls : am_L} {st : List Value} {m : am_M} : ev d 225 237 ls st m = ev d 225 238 ls (.int (nI 2) :: st) m := q_nx (show am_row 225 237 = some (.iconst 2, 1, 0, 0, 0, 0) from rfl) rfl
set_option maxRecDepth 20000 in
theorem e225_238 {d : Nat} {ls : am_L} {st : List Value} {m : am_M} {x y : Int32} : ev d 225 238 ls (.int y :: .int x :: st) m = ev d 225 239 ls (.int (x + y) :: st) m := q_nx (show am_row 225 238 = some (.iadd, 1, 0, 0, 0, 0) from rfl) rfl
set_option maxRecDepth 20000 in
theorem e225_239 {d : Nat} {ls : am_L} {st : List Value} {m : am_M} {a : Nat} {i : Int32} (hK : (mK m a).1 = 6) (hi : am_ix i (mK m a).2.2 = true) : ev d 225 239 ls (.int i :: .ref a :: st) m = ev d 225 240 ls (.int (mI m a i.toNatClampNeg) :: st) m := q_sald (show am_row 225 239 = some (.iaload, 1, 0, 0, 0, 0) from rfl) hK hi
set_option maxRecDepth 20000 in
theorem e225_240 {d : Nat} {ls : am_L} {st : List Value} {m : am_M} {x : Nat} : ev d 225 240 (some (.ref x) :: ls) st m = ev d 225 241 (some (.ref x) :: ls) (.ref x :: st) m := q_nx (show am_row 225 240 = some (.aload_n 0, 1, 0, 0, 0, 0) from rfl) rfl
set_option maxRecDepth 20000 in
theorem e225_241 {d : Nat} {ls : am_L} {st : List Value} {m : am_M} {l0 : Option Value} {l1 : Option Value} {l2 : Option Value} {x : Int32} : ev d 225 241 (l0 :: l1 :: l2 :: some (.int x) :: ls) st m = ev d 225 242 (l0 :: l1 :: l2 :: some (.int x) :: ls) (.int x :: st) m := q_nx (show am_row 225 241 = some (.iload_n 3, 1, 0, 0, 0, 0) from rfl) rfl
set_option maxRecDepth 20000 in
theorem e225_242 {d : Nat} {ls : am_L} {st : List Value} {m : am_M} : ev d 225 242 ls st m = ev d 225 243 ls (.int (nI 3) :: st) m := q_nx (show am_row 225 242 = some (.iconst 3, 1, 0, 0, 0, 0) from rfl) rfl
set_option maxRecDepth 20000 in
theorem e225_243 {d : Nat} {ls : am_L} {st : List Value} {m : am_M} {x y : Int32} : ev d 225 243 ls (.int y :: .int x :: st) m = ev d 225 244 ls (.int (x + y) :: st) m := q_nx (show am_row 225 243 = some (.iadd, 1, 0, 0, 0, 0) from rfl) rfl
set_option maxRecDepth 20000 in
theorem e225_244 {d : Nat} {ls : am_L} {st : List Value} {m : am_M} {a : Nat} {i : Int32} (hK : (mK m a).1 = 6) (hi : am_ix i (mK m a).2.2 = true) : ev d 225 244 ls (.int i :: .ref a :: st) m = ev d 225 245 ls (.int (mI m a i.toNatClampNeg) :: st) m := q_sald (show am_row 225 244 = some (.iaload, 1, 0, 0, 0, 0) from rfl) hK hi
set_option maxRecDepth 20000 in
theorem e225_245 {d : Nat} {ls : am_L} {st : List Value} {m : am_M} {x : Nat} : ev d 225 245 (some (.ref x) :: ls) st m = ev d 225 246 (some (.ref x) :: ls) (.ref x :: st) m := q_nx (show am_row 225 245 = some (.aload_n 0, 1, 0, 0, 0, 0) from rfl) rfl
set_option maxRecDepth 20000 in
theorem e225_246 {d : Nat} {ls : am_L} {st : List Value} {m : am_M} {l0 : Option Value} {l1 : Option Value} {l2 : Option Value} {x : Int32} : ev d 225 246 (l0 :: l1 :: l2 :: some (.int x) :: ls) st m = ev d 225 247 (l0 :: l1 :: l2 :: some (.int x) :: ls) (.int x :: st) m := q_nx (show am_row 225 246 = some (.iload_n 3, 1, 0, 0, 0, 0) from rfl) rfl
set_option maxRecDepth 20000 in
theorem e225_247 {d : Nat} {ls : am_L} {st : List Value} {m : am_M} : ev d 225 247 ls st m = ev d 225 248 ls (.int (nI 4) :: st) m := q_nx (show am_row 225 247 = some (.iconst 4, 1, 0, 0, 0, 0) from rfl) rfl
set_option maxRecDepth 20000 in
theorem e225_248 {d : Nat} {ls : am_L} {st : List Value} {m : am_M} {x y : Int32} : ev d 225 248 ls (.int y :: .int x :: st) m = ev d 225 249 ls (.int (x + y) :: st) m := q_nx (show am_row 225 248 = some (.iadd, 1, 0, 0, 0, 0) from rfl) rfl
set_option maxRecDepth 20000 in
theorem e225_249 {d : Nat} {ls : am_L} {st : List Value} {m : am_M} {a : Nat} {i : Int32} (hK : (mK m a).1 = 6) (hi : am_ix i (mK m a).2.2 = true) : ev d 225 249 ls (.int i :: .ref a :: st) m = ev d 225 250 ls (.int (mI m a i.toNatClampNeg) :: st) m := q_sald (show am_row 225 249 = some (.iaload, 1, 0, 0, 0, 0) from rfl) hK hi
set_option maxRecDepth 20000 in
theorem e225_250 {d : Nat} {ls : am_L} {st : List Value} {m : am_M} {x : Nat} : ev d 225 250 (some (.ref x) :: ls) st m = ev d 225 251 (some (.ref x) :: ls) (.ref x :: st) m := q_nx (show am_row 225 250 = some (.aload_n 0, 1, 0, 0, 0, 0) from rfl) rfl
set_option maxRecDepth 20000 in
theorem e225_251 {d : Nat} {ls : am_L} {st : List Value} {m : am_M} {l0 : Option Value} {l1 : Option Value} {l2 : Option Value} {x : Int32} : ev d 225 251 (l0 :: l1 :: l2 :: some (.int x) :: ls) st m = ev d 225 252 (l0 :: l1 :: l2 :: some (.int x) :: ls) (.int x :: st) m := q_nx (show am_row 225 251 = some (.iload_n 3, 1, 0, 0, 0, 0) from rfl) rfl
set_option maxRecDepth 20000 in
theorem e225_252 {d : Nat} {ls : am_L} {st : List Value} {m : am_M} : ev d 225 252 ls st m = ev d 225 253 ls (.int (nI 5) :: st) m := q_nx (show am_row 225 252 = some (.iconst 5, 1, 0, 0, 0, 0) from rfl) rfl
set_option maxRecDepth 20000 in
theorem e225_253 {d : Nat} {ls : am_L} {st : List Value} {m : am_M} {x y : Int32} : ev d 225 253 ls (.int y :: .int x :: st) m = ev d 225 254 ls (.int (x + y) :: st) m := q_nx (show am_row 225 253 = some (.iadd, 1, 0, 0, 0, 0) from rfl) rfl
set_option maxRecDepth 20000 in
theorem e225_254 {d : Nat} {ls : am_L} {st : List Value} {m : am_M} {a : Nat} {i : Int32} (hK : (mK m a).1 = 6) (hi : am_ix i (mK m a).2.2 = true) : ev d 225 254 ls (.int i :: .ref a :: st) m = ev d 225 255 ls (.int (mI m a i.toNatClampNeg) :: st) m := q_sald (show am_row 225 254 = some (.iaload, 1, 0, 0, 0, 0) from rfl) hK hi
set_option maxRecDepth 20000 in
theorem e225_255 {d : Nat} {ls : am_L} {st : List Value} {m : am_M} {a : Nat} {v0 : Int32} {v1 : Int32} {v2 : Int32} {v3 : Int32} {v4 : Int32} (hK : mK m a = (1, 10, 0)) (hw : am_w st ≤ 8) : ev (d + 1) 225 255 ls (.int v4 :: .int v3 :: .int v2 :: .int v1 :: .int v0 :: .ref a :: st) m = am_k (cal d 162 [.ref a, .int v0, .int v1, .int v2, .int v3, .int v4] m) (fun v m'' => ev (d + 1) 225 258 ls (v.toList ++ st) m'') := q_cl (show am_row 225 255 = some (.invokevirtual 17, 3, 162, 0, 0, 1115) from rfl) rfl (if_pos ⟨hK, (by show 5 ≤ _; simp only [List.length_cons]; omega), hw⟩)
set_option maxRecDepth 20000 in
theorem e225_258 {d : Nat} {ls : am_L} {st : List Value} {m : am_M} {x y : Int32} : ev d 225 258 ls (.int y :: .int x :: st) m = if x = y then ev d 225 1266 ls st m else ev d 225 261 ls st m := q_ite (a := (1266, ls, st, m)) (b := (261, ls, st, m)) (show am_row 225 258 = some (.if_icmp .eq 1008, 3, 0, 0, 0, 0) from rfl) rfl
set_option maxRecDepth 20000 in
theorem e225_261 {d : Nat} {ls : am_L} {st : List Value} {m : am_M} : ev d 225 261 ls st m = ev d 225 262 ls (.int (nI 0) :: st) m := q_nx (show am_row 225 261 = some (.iconst 0, 1, 0, 0, 0, 0) from rfl) rfl
set_option maxRecDepth 20000 in
theorem e225_262 {d : Nat} {ls : am_L} {m : am_M} {x : Int32} (hb : am_bb x = true) : ev d 225 262 ls [.int x] m = some (some (.int x), m) := q_zret (show am_row 225 262 = some (.ireturn, 1, 1, 0, 0, 0) from rfl) hb
set_option maxRecDepth 20000 in
theorem e225_263 {d : Nat} {ls : am_L} {st : List Value} {m : am_M} {l0 : Option Value} {x : Nat} : ev d 225 263 (l0 :: some (.ref x) :: ls) st m = ev d 225 264 (l0 :: some (.ref x) :: ls) (.ref x :: st) m := q_nx (show am_row 225 263 = some (.aload_n 1, 1, 0, 0, 0, 0) from rfl) rfl
set_option maxRecDepth 20000 in
theorem e225_264 {d : Nat} {ls : am_L} {st : List Value} {m : am_M} {x : Nat} : ev d 225 264 (some (.ref x) :: ls) st m = ev d 225 265 (some (.ref x) :: ls) (.ref x :: st) m := q_nx (show am_row 225 264 = some (.aload_n 0, 1, 0, 0, 0, 0) from rfl) rfl
set_option maxRecDepth 20000 in
theorem e225_265 {d : Nat} {ls : am_L} {st : List Value} {m : am_M} {l0 : Option Value} {l1 : Option Value} {l2 : Option Value} {x : Int32} : ev d 225 265 (l0 :: l1 :: l2 :: some (.int x) :: ls) st m = ev d 225 266 (l0 :: l1 :: l2 :: some (.int x) :: ls) (.int x :: st) m := q_nx (show am_row 225 265 = some (.iload_n 3, 1, 0, 0, 0, 0) from rfl) rfl
set_option maxRecDepth 20000 in
theorem e225_266 {d : Nat} {ls : am_L} {st : List Value} {m : am_M} : ev d 225 266 ls st m = ev d 225 267 ls (.int (nI 1) :: st) m := q_nx (show am_row 225 266 = some (.iconst 1, 1, 0, 0, 0, 0) from rfl) rfl
set_option maxRecDepth 20000 in
theorem e225_267 {d : Nat} {ls : am_L} {st : List Value} {m : am_M} {x y : Int32} : ev d 225 267 ls (.int y :: .int x :: st) m = ev d 225 268 ls (.int (x + y) :: st) m := q_nx (show am_row 225 267 = some (.iadd, 1, 0, 0, 0, 0) from rfl) rfl
set_option maxRecDepth 20000 in
theorem e225_268 {d : Nat} {ls : am_L} {st : List Value} {m : am_M} {a : Nat} {i : Int32} (hK : (mK m a).1 = 6) (hi : am_ix i (mK m a).2.2 = true) : ev d 225 268 ls (.int i :: .ref a :: st) m = ev d 225 269 ls (.int (mI m a i.toNatClampNeg) :: st) m := q_sald (show am_row 225 268 = some (.iaload, 1, 0, 0, 0, 0) from rfl) hK hi
set_option maxRecDepth 20000 in
theorem e225_269 {d : Nat} {ls : am_L} {st : List Value} {m : am_M} {a : Nat} {v0 : Int32} (hK : mK m a = (1, 9, 0)) (hw : am_w st ≤ 8) : ev (d + 1) 225 269 ls (.int v0 :: .ref a :: st) m = am_k (cal d 91 [.ref a, .int v0] m) (fun v m'' => ev (d + 1) 225 272 ls (v.toList ++ st) m'') := q_cl (show am_row 225 269 = some (.invokevirtual 18, 3, 91, 0, 0, 503) from rfl) rfl (if_pos ⟨hK, (by show 1 ≤ _; simp only [List.length_cons]; omega), hw⟩)
set_option maxRecDepth 20000 in
theorem e225_272 {d : Nat} {ls : am_L} {st : List Value} {m : am_M} {l0 : Option Value} {l1 : Option Value} {x : Nat} : ev d 225 272 (l0 :: l1 :: some (.ref x) :: ls) st m = ev d 225 273 (l0 :: l1 :: some (.ref x) :: ls) (.ref x :: st) m := q_nx (show am_row 225 272 = some (.aload_n 2, 1, 0, 0, 0, 0) from rfl) rfl
set_option maxRecDepth 20000 in
theorem e225_273 {d : Nat} {ls : am_L} {st : List Value} {m : am_M} {x : Nat} : ev d 225 273 (some (.ref x) :: ls) st m = ev d 225 274 (some (.ref x) :: ls) (.ref x :: st) m := q_nx (show am_row 225 273 = some (.aload_n 0, 1, 0, 0, 0, 0) from rfl) rfl
set_option maxRecDepth 20000 in
theorem e225_274 {d : Nat} {ls : am_L} {st : List Value} {m : am_M} {l0 : Option Value} {l1 : Option Value} {l2 : Option Value} {x : Int32} : ev d 225 274 (l0 :: l1 :: l2 :: some (.int x) :: ls) st m = ev d 225 275 (l0 :: l1 :: l2 :: some (.int x) :: ls) (.int x :: st) m := q_nx (show am_row 225 274 = some (.iload_n 3, 1, 0, 0, 0, 0) from rfl) rfl
set_option maxRecDepth 20000 in
theorem e225_275 {d : Nat} {ls : am_L} {st : List Value} {m : am_M} : ev d 225 275 ls st m = ev d 225 276 ls (.int (nI 1) :: st) m := q_nx (show am_row 225 275 = some (.iconst 1, 1, 0, 0, 0, 0) from rfl) rfl
set_option maxRecDepth 20000 in
theorem e225_276 {d : Nat} {ls : am_L} {st : List Value} {m : am_M} {x y : Int32} : ev d 225 276 ls (.int y :: .int x :: st) m = ev d 225 277 ls (.int (x + y) :: st) m := q_nx (show am_row 225 276 = some (.iadd, 1, 0, 0, 0, 0) from rfl) rfl
set_option maxRecDepth 20000 in
theorem e225_277 {d : Nat} {ls : am_L} {st : List Value} {m : am_M} {a : Nat} {i : Int32} (hK : (mK m a).1 = 6) (hi : am_ix i (mK m a).2.2 = true) : ev d 225 277 ls (.int i :: .ref a :: st) m = ev d 225 278 ls (.int (mI m a i.toNatClampNeg) :: st) m := q_sald (show am_row 225 277 = some (.iaload, 1, 0, 0, 0, 0) from rfl) hK hi
set_option maxRecDepth 20000 in
theorem e225_278 {d : Nat} {ls : am_L} {st : List Value} {m : am_M} {a : Nat} {v0 : Int32} (hK : mK m a = (1, 10, 0)) (hw : am_w st ≤ 8) : ev (d + 1) 225 278 ls (.int v0 :: .ref a :: st) m = am_k (cal d 163 [.ref a, .int v0] m) (fun v m'' => ev (d + 1) 225 281 ls (v.toList ++ st) m'') := q_cl (show am_row 225 278 = some (.invokevirtual 22, 3, 163, 0, 0, 1147) from rfl) rfl (if_pos ⟨hK, (by show 1 ≤ _; simp only [List.length_cons]; omega), hw⟩)
set_option maxRecDepth 20000 in
theorem e225_281 {d : Nat} {ls : am_L} {st : List Value} {m : am_M} {x y : Int32} : ev d 225 281 ls (.int y :: .int x :: st) m = if x = y then ev d 225 1266 ls st m else ev d 225 284 ls st m := q_ite (a := (1266, ls, st, m)) (b := (284, ls, st, m)) (show am_row 225 281 = some (.if_icmp .eq 985, 3, 0, 0, 0, 0) from rfl) rfl
set_option maxRecDepth 20000 in
theorem e225_284 {d : Nat} {ls : am_L} {st : List Value} {m : am_M} : ev d 225 284 ls st m = ev d 225 285 ls (.int (nI 0) :: st) m := q_nx (show am_row 225 284 = some (.iconst 0, 1, 0, 0, 0, 0) from rfl) rfl
set_option maxRecDepth 20000 in
theorem e225_285 {d : Nat} {ls : am_L} {m : am_M} {x : Int32} (hb : am_bb x = true) : ev d 225 285 ls [.int x] m = some (some (.int x), m) := q_zret (show am_row 225 285 = some (.ireturn, 1, 1, 0, 0, 0) from rfl) hb
set_option maxRecDepth 20000 in
theorem e225_286 {d : Nat} {ls : am_L} {st : List Value} {m : am_M} {l0 : Option Value} {x : Nat} : ev d 225 286 (l0 :: some (.ref x) :: ls) st m = ev d 225 287 (l0 :: some (.ref x) :: ls) (.ref x :: st) m := q_nx (show am_row 225 286 = some (.aload_n 1, 1, 0, 0, 0, 0) from rfl) rfl
set_option maxRecDepth 20000 in
theorem e225_287 {d : Nat} {ls : am_L} {st : List Value} {m : am_M} {x : Nat} : ev d 225 287 (some (.ref x) :: ls) st m = ev d 225 288 (some (.ref x) :: ls) (.ref x :: st) m := q_nx (show am_row 225 287 = some (.aload_n 0, 1, 0, 0, 0, 0) from rfl) rfl
set_option maxRecDepth 20000 in
theorem e225_288 {d : Nat} {ls : am_L} {st : List Value} {m : am_M} {l0 : Option Value} {l1 : Option Value} {l2 : Option Value} {x : Int32} : ev d 225 288 (l0 :: l1 :: l2 :: some (.int x) :: ls) st m = ev d 225 289 (l0 :: l1 :: l2 :: some (.int x) :: ls) (.int x :: st) m := q_nx (show am_row 225 288 = some (.iload_n 3, 1, 0, 0, 0, 0) from rfl) rfl
set_option maxRecDepth 20000 in
theorem e225_289 {d : Nat} {ls : am_L} {st : List Value} {m : am_M} : ev d 225 289 ls st m = ev d 225 290 ls (.int (nI 1) :: st) m := q_nx (show am_row 225 289 = some (.iconst 1, 1, 0, 0, 0, 0) from rfl) rfl
set_option maxRecDepth 20000 in
theorem e225_290 {d : Nat} {ls : am_L} {st : List Value} {m : am_M} {x y : Int32} : ev d 225 290 ls (.int y :: .int x :: st) m = ev d 225 291 ls (.int (x + y) :: st) m := q_nx (show am_row 225 290 = some (.iadd, 1, 0, 0, 0, 0) from rfl) rfl
set_option maxRecDepth 20000 in
theorem e225_291 {d : Nat} {ls : am_L} {st : List Value} {m : am_M} {a : Nat} {i : Int32} (hK : (mK m a).1 = 6) (hi : am_ix i (mK m a).2.2 = true) : ev d 225 291 ls (.int i :: .ref a :: st) m = ev d 225 292 ls (.int (mI m a i.toNatClampNeg) :: st) m := q_sald (show am_row 225 291 = some (.iaload, 1, 0, 0, 0, 0) from rfl) hK hi
set_option maxRecDepth 20000 in
theorem e225_292 {d : Nat} {ls : am_L} {st : List Value} {m : am_M} {x : Nat} : ev d 225 292 (some (.ref x) :: ls) st m = ev d 225 293 (some (.ref x) :: ls) (.ref x :: st) m := q_nx (show am_row 225 292 = some (.aload_n 0, 1, 0, 0, 0, 0) from rfl) rfl
set_option maxRecDepth 20000 in
theorem e225_293 {d : Nat} {ls : am_L} {st : List Value} {m : am_M} {l0 : Option Value} {l1 : Option Value} {l2 : Option Value} {x : Int32} : ev d 225 293 (l0 :: l1 :: l2 :: some (.int x) :: ls) st m = ev d 225 294 (l0 :: l1 :: l2 :: some (.int x) :: ls) (.int x :: st) m := q_nx (show am_row 225 293 = some (.iload_n 3, 1, 0, 0, 0, 0) from rfl) rfl
set_option maxRecDepth 20000 in
theorem e225_294 {d : Nat} {ls : am_L} {st : List Value} {m : am_M} : ev d 225 294 ls st m = ev d 225 295 ls (.int (nI 2) :: st) m := q_nx (show am_row 225 294 = some (.iconst 2, 1, 0, 0, 0, 0) from rfl) rfl
set_option maxRecDepth 20000 in
theorem e225_295 {d : Nat} {ls : am_L} {st : List Value} {m : am_M} {x y : Int32} : ev d 225 295 ls (.int y :: .int x :: st) m = ev d 225 296 ls (.int (x + y) :: st) m := q_nx (show am_row 225 295 = some (.iadd, 1, 0, 0, 0, 0) from rfl) rfl
set_option maxRecDepth 20000 in
theorem e225_296 {d : Nat} {ls : am_L} {st : List Value} {m : am_M} {a : Nat} {i : Int32} (hK : (mK m a).1 = 6) (hi : am_ix i (mK m a).2.2 = true) : ev d 225 296 ls (.int i :: .ref a :: st) m = ev d 225 297 ls (.int (mI m a i.toNatClampNeg) :: st) m := q_sald (show am_row 225 296 = some (.iaload, 1, 0, 0, 0, 0) from rfl) hK hi
set_option maxRecDepth 20000 in
theorem e225_297 {d : Nat} {ls : am_L} {st : List Value} {m : am_M} {a : Nat} {v0 : Int32} {v1 : Int32} (hK : mK m a = (1, 9, 0)) (hw : am_w st ≤ 8) : ev (d + 1) 225 297 ls (.int v1 :: .int v0 :: .ref a :: st) m = am_k (cal d 92 [.ref a, .int v0, .int v1] m) (fun v m'' => ev (d + 1) 225 300 ls (v.toList ++ st) m'') := q_cl (show am_row 225 297 = some (.invokevirtual 23, 3, 92, 0, 0, 511) from rfl) rfl (if_pos ⟨hK, (by show 2 ≤ _; simp only [List.length_cons]; omega), hw⟩)
set_option maxRecDepth 20000 in
theorem e225_300 {d : Nat} {ls : am_L} {st : List Value} {m : am_M} {l0 : Option Value} {l1 : Option Value} {x : Nat} : ev d 225 300 (l0 :: l1 :: some (.ref x) :: ls) st m = ev d 225 301 (l0 :: l1 :: some (.ref x) :: ls) (.ref x :: st) m := q_nx (show am_row 225 300 = some (.aload_n 2, 1, 0, 0, 0, 0) from rfl) rfl
set_option maxRecDepth 20000 in
theorem e225_301 {d : Nat} {ls : am_L} {st : List Value} {m : am_M} {x : Nat} : ev d 225 301 (some (.ref x) :: ls) st m = ev d 225 302 (some (.ref x) :: ls) (.ref x :: st) m := q_nx (show am_row 225 301 = some (.aload_n 0, 1, 0, 0, 0, 0) from rfl) rfl
set_option maxRecDepth 20000 in
theorem e225_302 {d : Nat} {ls : am_L} {st : List Value} {m : am_M} {l0 : Option Value} {l1 : Option Value} {l2 : Option Value} {x : Int32} : ev d 225 302 (l0 :: l1 :: l2 :: some (.int x) :: ls) st m = ev d 225 303 (l0 :: l1 :: l2 :: some (.int x) :: ls) (.int x :: st) m := q_nx (show am_row 225 302 = some (.iload_n 3, 1, 0, 0, 0, 0) from rfl) rfl
set_option maxRecDepth 20000 in
theorem e225_303 {d : Nat} {ls : am_L} {st : List Value} {m : am_M} : ev d 225 303 ls st m = ev d 225 304 ls (.int (nI 1) :: st) m := q_nx (show am_row 225 303 = some (.iconst 1, 1, 0, 0, 0, 0) from rfl) rfl
set_option maxRecDepth 20000 in
theorem e225_304 {d : Nat} {ls : am_L} {st : List Value} {m : am_M} {x y : Int32} : ev d 225 304 ls (.int y :: .int x :: st) m = ev d 225 305 ls (.int (x + y) :: st) m := q_nx (show am_row 225 304 = some (.iadd, 1, 0, 0, 0, 0) from rfl) rfl
set_option maxRecDepth 20000 in
theorem e225_305 {d : Nat} {ls : am_L} {st : List Value} {m : am_M} {a : Nat} {i : Int32} (hK : (mK m a).1 = 6) (hi : am_ix i (mK m a).2.2 = true) : ev d 225 305 ls (.int i :: .ref a :: st) m = ev d 225 306 ls (.int (mI m a i.toNatClampNeg) :: st) m := q_sald (show am_row 225 305 = some (.iaload, 1, 0, 0, 0, 0) from rfl) hK hi
set_option maxRecDepth 20000 in
theorem e225_306 {d : Nat} {ls : am_L} {st : List Value} {m : am_M} {x : Nat} : ev d 225 306 (some (.ref x) :: ls) st m = ev d 225 307 (some (.ref x) :: ls) (.ref x :: st) m := q_nx (show am_row 225 306 = some (.aload_n 0, 1, 0, 0, 0, 0) from rfl) rfl
set_option maxRecDepth 20000 in
theorem e225_307 {d : Nat} {ls : am_L} {st : List Value} {m : am_M} {l0 : Option Value} {l1 : Option Value} {l2 : Option Value} {x : Int32} : ev d 225 307 (l0 :: l1 :: l2 :: some (.int x) :: ls) st m = ev d 225 308 (l0 :: l1 :: l2 :: some (.int x) :: ls) (.int x :: st) m := q_nx (show am_row 225 307 = some (.iload_n 3, 1, 0, 0, 0, 0) from rfl) rfl
set_option maxRecDepth 20000 in
theorem e225_308 {d : Nat} {ls : am_L} {st : List Value} {m : am_M} : ev d 225 308 ls st m = ev d 225 309 ls (.int (nI 2) :: st) m := q_nx (show am_row 225 308 = some (.iconst 2, 1, 0, 0, 0, 0) from rfl) rfl
set_option maxRecDepth 20000 in
theorem e225_309 {d : Nat} {ls : am_L} {st : List Value} {m : am_M} {x y : Int32} : ev d 225 309 ls (.int y :: .int x :: st) m = ev d 225 310 ls (.int (x + y) :: st) m := q_nx (show am_row 225 309 = some (.iadd, 1, 0, 0, 0, 0) from rfl) rfl
set_option maxRecDepth 20000 in
theorem e225_310 {d : Nat} {ls : am_L} {st : List Value} {m : am_M} {a : Nat} {i : Int32} (hK : (mK m a).1 = 6) (hi : am_ix i (mK m a).2.2 = true) : ev d 225 310 ls (.int i :: .ref a :: st) m = ev d 225 311 ls (.int (mI m a i.toNatClampNeg) :: st) m := q_sald (show am_row 225 310 = some (.iaload, 1, 0, 0, 0, 0) from rfl) hK hi
set_option maxRecDepth 20000 in
theorem e225_311 {d : Nat} {ls : am_L} {st : List Value} {m : am_M} {a : Nat} {v0 : Int32} {v1 : Int32} (hK : mK m a = (1, 10, 0)) (hw : am_w st ≤ 8) : ev (d + 1) 225 311 ls (.int v1 :: .int v0 :: .ref a :: st) m = am_k (cal d 165 [.ref a, .int v0, .int v1] m) (fun v m'' => ev (d + 1) 225 314 ls (v.toList ++ st) m'') := q_cl (show am_row 225 311 = some (.invokevirtual 27, 3, 165, 0, 0, 1151) from rfl) rfl (if_pos ⟨hK, (by show 2 ≤ _; simp only [List.length_cons]; omega), hw⟩)
set_option maxRecDepth 20000 in
theorem e225_314 {d : Nat} {ls : am_L} {st : List Value} {m : am_M} {x y : Int32} : ev d 225 314 ls (.int y :: .int x :: st) m = if x = y then ev d 225 1266 ls st m else ev d 225 317 ls st m := q_ite (a := (1266, ls, st, m)) (b := (317, ls, st, m)) (show am_row 225 314 = some (.if_icmp .eq 952, 3, 0, 0, 0, 0) from rfl) rfl
set_option maxRecDepth 20000 in
theorem e225_317 {d : Nat} {ls : am_L} {st : List Value} {m : am_M} : ev d 225 317 ls st m = ev d 225 318 ls (.int (nI 0) :: st) m := q_nx (show am_row 225 317 = some (.iconst 0, 1, 0, 0, 0, 0) from rfl) rfl
set_option maxRecDepth 20000 in
theorem e225_318 {d : Nat} {ls : am_L} {m : am_M} {x : Int32} (hb : am_bb x = true) : ev d 225 318 ls [.int x] m = some (some (.int x), m) := q_zret (show am_row 225 318 = some (.ireturn, 1, 1, 0, 0, 0) from rfl) hb
set_option maxRecDepth 20000 in
theorem e225_319 {d : Nat} {ls : am_L} {st : List Value} {m : am_M} {l0 : Option Value} {x : Nat} : ev d 225 319 (l0 :: some (.ref x) :: ls) st m = ev d 225 320 (l0 :: some (.ref x) :: ls) (.ref x :: st) m := q_nx (show am_row 225 319 = some (.aload_n 1, 1, 0, 0, 0, 0) from rfl) rfl
set_option maxRecDepth 20000 in
theorem e225_320 {d : Nat} {ls : am_L} {st : List Value} {m : am_M} {x : Nat} : ev d 225 320 (some (.ref x) :: ls) st m = ev d 225 321 (some (.ref x) :: ls) (.ref x :: st) m := q_nx (show am_row 225 320 = some (.aload_n 0, 1, 0, 0, 0, 0) from rfl) rfl
set_option maxRecDepth 20000 in
theorem e225_321 {d : Nat} {ls : am_L} {st : List Value} {m : am_M} {l0 : Option Value} {l1 : Option Value} {l2 : Option Value} {x : Int32} : ev d 225 321 (l0 :: l1 :: l2 :: some (.int x) :: ls) st m = ev d 225 322 (l0 :: l1 :: l2 :: some (.int x) :: ls) (.int x :: st) m := q_nx (show am_row 225 321 = some (.iload_n 3, 1, 0, 0, 0, 0) from rfl) rfl
set_option maxRecDepth 20000 in
theorem e225_322 {d : Nat} {ls : am_L} {st : List Value} {m : am_M} : ev d 225 322 ls st m = ev d 225 323 ls (.int (nI 1) :: st) m := q_nx (show am_row 225 322 = some (.iconst 1, 1, 0, 0, 0, 0) from rfl) rfl
set_option maxRecDepth 20000 in
theorem e225_323 {d : Nat} {ls : am_L} {st : List Value} {m : am_M} {x y : Int32} : ev d 225 323 ls (.int y :: .int x :: st) m = ev d 225 324 ls (.int (x + y) :: st) m := q_nx (show am_row 225 323 = some (.iadd, 1, 0, 0, 0, 0) from rfl) rfl
set_option maxRecDepth 20000 in
theorem e225_324 {d : Nat} {ls : am_L} {st : List Value} {m : am_M} {a : Nat} {i : Int32} (hK : (mK m a).1 = 6) (hi : am_ix i (mK m a).2.2 = true) : ev d 225 324 ls (.int i :: .ref a :: st) m = ev d 225 325 ls (.int (mI m a i.toNatClampNeg) :: st) m := q_sald (show am_row 225 324 = some (.iaload, 1, 0, 0, 0, 0) from rfl) hK hi
set_option maxRecDepth 20000 in
theorem e225_325 {d : Nat} {ls : am_L} {st : List Value} {m : am_M} {x : Nat} : ev d 225 325 (some (.ref x) :: ls) st m = ev d 225 326 (some (.ref x) :: ls) (.ref x :: st) m := q_nx (show am_row 225 325 = some (.aload_n 0, 1, 0, 0, 0, 0) from rfl) rfl
set_option maxRecDepth 20000 in
theorem e225_326 {d : Nat} {ls : am_L} {st : List Value} {m : am_M} {l0 : Option Value} {l1 : Option Value} {l2 : Option Value} {x : Int32} : ev d 225 326 (l0 :: l1 :: l2 :: some (.int x) :: ls) st m = ev d 225 327 (l0 :: l1 :: l2 :: some (.int x) :: ls) (.int x :: st) m := q_nx (show am_row 225 326 = some (.iload_n 3, 1, 0, 0, 0, 0) from rfl) rfl
set_option maxRecDepth 20000 in
theorem e225_327 {d : Nat} {ls : am_L} {st : List Value} {m : am_M} : ev d 225 327 ls st m = ev d 225 328 ls (.int (nI 2) :: st) m := q_nx (show am_row 225 327 = some (.iconst 2, 1, 0, 0, 0, 0) from rfl) rfl
set_option maxRecDepth 20000 in
theorem e225_328 {d : Nat} {ls : am_L} {st : List Value} {m : am_M} {x y : Int32} : ev d 225 328 ls (.int y :: .int x :: st) m = ev d 225 329 ls (.int (x + y) :: st) m := q_nx (show am_row 225 328 = some (.iadd, 1, 0, 0, 0, 0) from rfl) rfl
set_option maxRecDepth 20000 in
theorem e225_329 {d : Nat} {ls : am_L} {st : List Value} {m : am_M} {a : Nat} {i : Int32} (hK : (mK m a).1 = 6) (hi : am_ix i (mK m a).2.2 = true) : ev d 225 329 ls (.int i :: .ref a :: st) m = ev d 225 330 ls (.int (mI m a i.toNatClampNeg) :: st) m := q_sald (show am_row 225 329 = some (.iaload, 1, 0, 0, 0, 0) from rfl) hK hi
set_option maxRecDepth 20000 in
theorem e225_330 {d : Nat} {ls : am_L} {st : List Value} {m : am_M} {a : Nat} {v0 : Int32} {v1 : Int32} (hK : mK m a = (1, 9, 0)) (hw : am_w st ≤ 8) : ev (d + 1) 225 330 ls (.int v1 :: .int v0 :: .ref a :: st) m = am_k (cal d 93 [.ref a, .int v0, .int v1] m) (fun v m'' => ev (d + 1) 225 333 ls (v.toList ++ st) m'') := q_cl (show am_row 225 330 = some (.invokevirtual 28, 3, 93, 0, 0, 515) from rfl) rfl (if_pos ⟨hK, (by show 2 ≤ _; simp only [List.length_cons]; omega), hw⟩)
set_option maxRecDepth 20000 in
theorem e225_333 {d : Nat} {ls : am_L} {st : List Value} {m : am_M} {l0 : Option Value} {l1 : Option Value} {x : Nat} : ev d 225 333 (l0 :: l1 :: some (.ref x) :: ls) st m = ev d 225 334 (l0 :: l1 :: some (.ref x) :: ls) (.ref x :: st) m := q_nx (show am_row 225 333 = some (.aload_n 2, 1, 0, 0, 0, 0) from rfl) rfl
set_option maxRecDepth 20000 in
theorem e225_334 {d : Nat} {ls : am_L} {st : List Value} {m : am_M} {x : Nat} : ev d 225 334 (some (.ref x) :: ls) st m = ev d 225 335 (some (.ref x) :: ls) (.ref x :: st) m := q_nx (show am_row 225 334 = some (.aload_n 0, 1, 0, 0, 0, 0) from rfl) rfl
set_option maxRecDepth 20000 in
theorem e225_335 {d : Nat} {ls : am_L} {st : List Value} {m : am_M} {l0 : Option Value} {l1 : Option Value} {l2 : Option Value} {x : Int32} : ev d 225 335 (l0 :: l1 :: l2 :: some (.int x) :: ls) st m = ev d 225 336 (l0 :: l1 :: l2 :: some (.int x) :: ls) (.int x :: st) m := q_nx (show am_row 225 335 = some (.iload_n 3, 1, 0, 0, 0, 0) from rfl) rfl
set_option maxRecDepth 20000 in
theorem e225_336 {d : Nat} {ls : am_L} {st : List Value} {m : am_M} : ev d 225 336 ls st m = ev d 225 337 ls (.int (nI 1) :: st) m := q_nx (show am_row 225 336 = some (.iconst 1, 1, 0, 0, 0, 0) from rfl) rfl
set_option maxRecDepth 20000 in
theorem e225_337 {d : Nat} {ls : am_L} {st : List Value} {m : am_M} {x y : Int32} : ev d 225 337 ls (.int y :: .int x :: st) m = ev d 225 338 ls (.int (x + y) :: st) m := q_nx (show am_row 225 337 = some (.iadd, 1, 0, 0, 0, 0) from rfl) rfl
set_option maxRecDepth 20000 in
theorem e225_338 {d : Nat} {ls : am_L} {st : List Value} {m : am_M} {a : Nat} {i : Int32} (hK : (mK m a).1 = 6) (hi : am_ix i (mK m a).2.2 = true) : ev d 225 338 ls (.int i :: .ref a :: st) m = ev d 225 339 ls (.int (mI m a i.toNatClampNeg) :: st) m := q_sald (show am_row 225 338 = some (.iaload, 1, 0, 0, 0, 0) from rfl) hK hi
set_option maxRecDepth 20000 in
theorem e225_339 {d : Nat} {ls : am_L} {st : List Value} {m : am_M} {x : Nat} : ev d 225 339 (some (.ref x) :: ls) st m = ev d 225 340 (some (.ref x) :: ls) (.ref x :: st) m := q_nx (show am_row 225 339 = some (.aload_n 0, 1, 0, 0, 0, 0) from rfl) rfl
set_option maxRecDepth 20000 in
theorem e225_340 {d : Nat} {ls : am_L} {st : List Value} {m : am_M} {l0 : Option Value} {l1 : Option Value} {l2 : Option Value} {x : Int32} : ev d 225 340 (l0 :: l1 :: l2 :: some (.int x) :: ls) st m = ev d 225 341 (l0 :: l1 :: l2 :: some (.int x) :: ls) (.int x :: st) m := q_nx (show am_row 225 340 = some (.iload_n 3, 1, 0, 0, 0, 0) from rfl) rfl
set_option maxRecDepth 20000 in
theorem e225_341 {d : Nat} {ls : am_L} {st : List Value} {m : am_M} : ev d 225 341 ls st m = ev d 225 342 ls (.int (nI 2) :: st) m := q_nx (show am_row 225 341 = some (.iconst 2, 1, 0, 0, 0, 0) from rfl) rfl
set_option maxRecDepth 20000 in
theorem e225_342 {d : Nat} {ls : am_L} {st : List Value} {m : am_M} {x y : Int32} : ev d 225 342 ls (.int y :: .int x :: st) m = ev d 225 343 ls (.int (x + y) :: st) m := q_nx (show am_row 225 342 = some (.iadd, 1, 0, 0, 0, 0) from rfl) rfl
set_option maxRecDepth 20000 in
theorem e225_343 {d : Nat} {ls : am_L} {st : List Value} {m : am_M} {a : Nat} {i : Int32} (hK : (mK m a).1 = 6) (hi : am_ix i (mK m a).2.2 = true) : ev d 225 343 ls (.int i :: .ref a :: st) m = ev d 225 344 ls (.int (mI m a i.toNatClampNeg) :: st) m := q_sald (show am_row 225 343 = some (.iaload, 1, 0, 0, 0, 0) from rfl) hK hi
set_option maxRecDepth 20000 in
theorem e225_344 {d : Nat} {ls : am_L} {st : List Value} {m : am_M} {a : Nat} {v0 : Int32} {v1 : Int32} (hK : mK m a = (1, 10, 0)) (hw : am_w st ≤ 8) : ev (d + 1) 225 344 ls (.int v1 :: .int v0 :: .ref a :: st) m = am_k (cal d 167 [.ref a, .int v0, .int v1] m) (fun v m'' => ev (d + 1) 225 347 ls (v.toList ++ st) m'') := q_cl (show am_row 225 344 = some (.invokevirtual 31, 3, 167, 0, 0, 1163) from rfl) rfl (if_pos ⟨hK, (by show 2 ≤ _; simp only [List.length_cons]; omega), hw⟩)
set_option maxRecDepth 20000 in
theorem e225_347 {d : Nat} {ls : am_L} {st : List Value} {m : am_M} {x y : Int32} : ev d 225 347 ls (.int y :: .int x :: st) m = if x = y then ev d 225 1266 ls st m else ev d 225 350 ls st m := q_ite (a := (1266, ls, st, m)) (b := (350, ls, st, m)) (show am_row 225 347 = some (.if_icmp .eq 919, 3, 0, 0, 0, 0) from rfl) rfl
set_option maxRecDepth 20000 in
theorem e225_350 {d : Nat} {ls : am_L} {st : List Value} {m : am_M} : ev d 225 350 ls st m = ev d 225 351 ls (.int (nI 0) :: st) m := q_nx (show am_row 225 350 = some (.iconst 0, 1, 0, 0, 0, 0) from rfl) rfl
set_option maxRecDepth 20000 in
theorem e225_351 {d : Nat} {ls : am_L} {m : am_M} {x : Int32} (hb : am_bb x = true) : ev d 225 351 ls [.int x] m = some (some (.int x), m) := q_zret (show am_row 225 351 = some (.ireturn, 1, 1, 0, 0, 0) from rfl) hb
set_option maxRecDepth 20000 in
theorem e225_352 {d : Nat} {ls : am_L} {st : List Value} {m : am_M} {l0 : Option Value} {x : Nat} : ev d 225 352 (l0 :: some (.ref x) :: ls) st m = ev d 225 353 (l0 :: some (.ref x) :: ls) (.ref x :: st) m := q_nx (show am_row 225 352 = some (.aload_n 1, 1, 0, 0, 0, 0) from rfl) rfl
set_option maxRecDepth 20000 in
theorem e225_353 {d : Nat} {ls : am_L} {st : List Value} {m : am_M} {x : Nat} : ev d 225 353 (some (.ref x) :: ls) st m = ev d 225 354 (some (.ref x) :: ls) (.ref x :: st) m := q_nx (show am_row 225 353 = some (.aload_n 0, 1, 0, 0, 0, 0) from rfl) rfl
set_option maxRecDepth 20000 in
theorem e225_354 {d : Nat} {ls : am_L} {st : List Value} {m : am_M} {l0 : Option Value} {l1 : Option Value} {l2 : Option Value} {x : Int32} : ev d 225 354 (l0 :: l1 :: l2 :: some (.int x) :: ls) st m = ev d 225 355 (l0 :: l1 :: l2 :: some (.int x) :: ls) (.int x :: st) m := q_nx (show am_row 225 354 = some (.iload_n 3, 1, 0, 0, 0, 0) from rfl) rfl
set_option maxRecDepth 20000 in
theorem e225_355 {d : Nat} {ls : am_L} {st : List Value} {m : am_M} : ev d 225 355 ls st m = ev d 225 356 ls (.int (nI 1) :: st) m := q_nx (show am_row 225 355 = some (.iconst 1, 1, 0, 0, 0, 0) from rfl) rfl
set_option maxRecDepth 20000 in
theorem e225_356 {d : Nat} {ls : am_L} {st : List Value} {m : am_M} {x y : Int32} : ev d 225 356 ls (.int y :: .int x :: st) m = ev d 225 357 ls (.int (x + y) :: st) m := q_nx (show am_row 225 356 = some (.iadd, 1, 0, 0, 0, 0) from rfl) rfl
set_option maxRecDepth 20000 in
theorem e225_357 {d : Nat} {ls : am_L} {st : List Value} {m : am_M} {a : Nat} {i : Int32} (hK : (mK m a).1 = 6) (hi : am_ix i (mK m a).2.2 = true) : ev d 225 357 ls (.int i :: .ref a :: st) m = ev d 225 358 ls (.int (mI m a i.toNatClampNeg) :: st) m := q_sald (show am_row 225 357 = some (.iaload, 1, 0, 0, 0, 0) from rfl) hK hi
set_option maxRecDepth 20000 in
theorem e225_358 {d : Nat} {ls : am_L} {st : List Value} {m : am_M} {x : Nat} : ev d 225 358 (some (.ref x) :: ls) st m = ev d 225 359 (some (.ref x) :: ls) (.ref x :: st) m := q_nx (show am_row 225 358 = some (.aload_n 0, 1, 0, 0, 0, 0) from rfl) rfl
set_option maxRecDepth 20000 in
theorem e225_359 {d : Nat} {ls : am_L} {st : List Value} {m : am_M} {l0 : Option Value} {l1 : Option Value} {l2 : Option Value} {x : Int32} : ev d 225 359 (l0 :: l1 :: l2 :: some (.int x) :: ls) st m = ev d 225 360 (l0 :: l1 :: l2 :: some (.int x) :: ls) (.int x :: st) m := q_nx (show am_row 225 359 = some (.iload_n 3, 1, 0, 0, 0, 0) from rfl) rfl
set_option maxRecDepth 20000 in
theorem e225_360 {d : Nat} {ls : am_L} {st : List Value} {m : am_M} : ev d 225 360 ls st m = ev d 225 361 ls (.int (nI 2) :: st) m := q_nx (show am_row 225 360 = some (.iconst 2, 1, 0, 0, 0, 0) from rfl) rfl
set_option maxRecDepth 20000 in
theorem e225_361 {d : Nat} {ls : am_L} {st : List Value} {m : am_M} {x y : Int32} : ev d 225 361 ls (.int y :: .int x :: st) m = ev d 225 362 ls (.int (x + y) :: st) m := q_nx (show am_row 225 361 = some (.iadd, 1, 0, 0, 0, 0) from rfl) rfl
set_option maxRecDepth 20000 in
theorem e225_362 {d : Nat} {ls : am_L} {st : List Value} {m : am_M} {a : Nat} {i : Int32} (hK : (mK m a).1 = 6) (hi : am_ix i (mK m a).2.2 = true) : ev d 225 362 ls (.int i :: .ref a :: st) m = ev d 225 363 ls (.int (mI m a i.toNatClampNeg) :: st) m := q_sald (show am_row 225 362 = some (.iaload, 1, 0, 0, 0, 0) from rfl) hK hi
set_option maxRecDepth 20000 in
theorem e225_363 {d : Nat} {ls : am_L} {st : List Value} {m : am_M} {a : Nat} {v0 : Int32} {v1 : Int32} (hK : mK m a = (1, 9, 0)) (hw : am_w st ≤ 8) : ev (d + 1) 225 363 ls (.int v1 :: .int v0 :: .ref a :: st) m = am_k (cal d 94 [.ref a, .int v0, .int v1] m) (fun v m'' => ev (d + 1) 225 366 ls (v.toList ++ st) m'') := q_cl (show am_row 225 363 = some (.invokevirtual 32, 3, 94, 0, 0, 552) from rfl) rfl (if_pos ⟨hK, (by show 2 ≤ _; simp only [List.length_cons]; omega), hw⟩)
set_option maxRecDepth 20000 in
theorem e225_366 {d : Nat} {ls : am_L} {st : List Value} {m : am_M} {l0 : Option Value} {l1 : Option Value} {x : Nat} : ev d 225 366 (l0 :: l1 :: some (.ref x) :: ls) st m = ev d 225 367 (l0 :: l1 :: some (.ref x) :: ls) (.ref x :: st) m := q_nx (show am_row 225 366 = some (.aload_n 2, 1, 0, 0, 0, 0) from rfl) rfl
set_option maxRecDepth 20000 in
theorem e225_367 {d : Nat} {ls : am_L} {st : List Value} {m : am_M} {x : Nat} : ev d 225 367 (some (.ref x) :: ls) st m = ev d 225 368 (some (.ref x) :: ls) (.ref x :: st) m := q_nx (show am_row 225 367 = some (.aload_n 0, 1, 0, 0, 0, 0) from rfl) rfl
set_option maxRecDepth 20000 in
theorem e225_368 {d : Nat} {ls : am_L} {st : List Value} {m : am_M} {l0 : Option Value} {l1 : Option Value} {l2 : Option Value} {x : Int32} : ev d 225 368 (l0 :: l1 :: l2 :: some (.int x) :: ls) st m = ev d 225 369 (l0 :: l1 :: l2 :: some (.int x) :: ls) (.int x :: st) m := q_nx (show am_row 225 368 = some (.iload_n 3, 1, 0, 0, 0, 0) from rfl) rfl
set_option maxRecDepth 20000 in
theorem e225_369 {d : Nat} {ls : am_L} {st : List Value} {m : am_M} : ev d 225 369 ls st m = ev d 225 370 ls (.int (nI 1) :: st) m := q_nx (show am_row 225 369 = some (.iconst 1, 1, 0, 0, 0, 0) from rfl) rfl
set_option maxRecDepth 20000 in
theorem e225_370 {d : Nat} {ls : am_L} {st : List Value} {m : am_M} {x y : Int32} : ev d 225 370 ls (.int y :: .int x :: st) m = ev d 225 371 ls (.int (x + y) :: st) m := q_nx (show am_row 225 370 = some (.iadd, 1, 0, 0, 0, 0) from rfl) rfl
set_option maxRecDepth 20000 in
theorem e225_371 {d : Nat} {ls : am_L} {st : List Value} {m : am_M} {a : Nat} {i : Int32} (hK : (mK m a).1 = 6) (hi : am_ix i (mK m a).2.2 = true) : ev d 225 371 ls (.int i :: .ref a :: st) m = ev d 225 372 ls (.int (mI m a i.toNatClampNeg) :: st) m := q_sald (show am_row 225 371 = some (.iaload, 1, 0, 0, 0, 0) from rfl) hK hi
set_option maxRecDepth 20000 in
theorem e225_372 {d : Nat} {ls : am_L} {st : List Value} {m : am_M} {x : Nat} : ev d 225 372 (some (.ref x) :: ls) st m = ev d 225 373 (some (.ref x) :: ls) (.ref x :: st) m := q_nx (show am_row 225 372 = some (.aload_n 0, 1, 0, 0, 0, 0) from rfl) rfl
set_option maxRecDepth 20000 in
theorem e225_373 {d : Nat} {ls : am_L} {st : List Value} {m : am_M} {l0 : Option Value} {l1 : Option Value} {l2 : Option Value} {x : Int32} : ev d 225 373 (l0 :: l1 :: l2 :: some (.int x) :: ls) st m = ev d 225 374 (l0 :: l1 :: l2 :: some (.int x) :: ls) (.int x :: st) m := q_nx (show am_row 225 373 = some (.iload_n 3, 1, 0, 0, 0, 0) from rfl) rfl
set_option maxRecDepth 20000 in
theorem e225_374 {d : Nat} {ls : am_L} {st : List Value} {m : am_M} : ev d 225 374 ls st m = ev d 225 375 ls (.int (nI 2) :: st) m := q_nx (show am_row 225 374 = some (.iconst 2, 1, 0, 0, 0, 0) from rfl) rfl
set_option maxRecDepth 20000 in
theorem e225_375 {d : Nat} {ls : am_L} {st : List Value} {m : am_M} {x y : Int32} : ev d 225 375 ls (.int y :: .int x :: st) m = ev d 225 376 ls (.int (x + y) :: st) m := q_nx (show am_row 225 375 = some (.iadd, 1, 0, 0, 0, 0) from rfl) rfl
set_option maxRecDepth 20000 in
theorem e225_376 {d : Nat} {ls : am_L} {st : List Value} {m : am_M} {a : Nat} {i : Int32} (hK : (mK m a).1 = 6) (hi : am_ix i (mK m a).2.2 = true) : ev d 225 376 ls (.int i :: .ref a :: st) m = ev d 225 377 ls (.int (mI m a i.toNatClampNeg) :: st) m := q_sald (show am_row 225 376 = some (.iaload, 1, 0, 0, 0, 0) from rfl) hK hi
set_option maxRecDepth 20000 in
theorem e225_377 {d : Nat} {ls : am_L} {st : List Value} {m : am_M} {a : Nat} {v0 : Int32} {v1 : Int32} (hK : mK m a = (1, 10, 0)) (hw : am_w st ≤ 8) : ev (d + 1) 225 377 ls (.int v1 :: .int v0 :: .ref a :: st) m = am_k (cal d 168 [.ref a, .int v0, .int v1] m) (fun v m'' => ev (d + 1) 225 380 ls (v.toList ++ st) m'') := q_cl (show am_row 225 377 = some (.invokevirtual 35, 3, 168, 0, 0, 1183) from rfl) rfl (if_pos ⟨hK, (by show 2 ≤ _; simp only [List.length_cons]; omega), hw⟩)
set_option maxRecDepth 20000 in
theorem e225_380 {d : Nat} {ls : am_L} {st : List Value} {m : am_M} {x y : Int32} : ev d 225 380 ls (.int y :: .int x :: st) m = if x = y then ev d 225 1266 ls st m else ev d 225 383 ls st m := q_ite (a := (1266, ls, st, m)) (b := (383, ls, st, m)) (show am_row 225 380 = some (.if_icmp .eq 886, 3, 0, 0, 0, 0) from rfl) rfl
set_option maxRecDepth 20000 in
theorem e225_383 {d : Nat} {ls : am_L} {st : List Value} {m : am_M} : ev d 225 383 ls st m = ev d 225 384 ls (.int (nI 0) :: st) m := q_nx (show am_row 225 383 = some (.iconst 0, 1, 0, 0, 0, 0) from rfl) rfl
set_option maxRecDepth 20000 in
theorem e225_384 {d : Nat} {ls : am_L} {m : am_M} {x : Int32} (hb : am_bb x = true) : ev d 225 384 ls [.int x] m = some (some (.int x), m) := q_zret (show am_row 225 384 = some (.ireturn, 1, 1, 0, 0, 0) from rfl) hb
set_option maxRecDepth 20000 in
theorem e225_385 {d : Nat} {ls : am_L} {st : List Value} {m : am_M} {l0 : Option Value} {x : Nat} : ev d 225 385 (l0 :: some (.ref x) :: ls) st m = ev d 225 386 (l0 :: some (.ref x) :: ls) (.ref x :: st) m := q_nx (show am_row 225 385 = some (.aload_n 1, 1, 0, 0, 0, 0) from rfl) rfl
set_option maxRecDepth 20000 in
theorem e225_386 {d : Nat} {ls : am_L} {st : List Value} {m : am_M} {x : Nat} : ev d 225 386 (some (.ref x) :: ls) st m = ev d 225 387 (some (.ref x) :: ls) (.ref x :: st) m := q_nx (show am_row 225 386 = some (.aload_n 0, 1, 0, 0, 0, 0) from rfl) rfl
set_option maxRecDepth 20000 in
theorem e225_387 {d : Nat} {ls : am_L} {st : List Value} {m : am_M} {l0 : Option Value} {l1 : Option Value} {l2 : Option Value} {x : Int32} : ev d 225 387 (l0 :: l1 :: l2 :: some (.int x) :: ls) st m = ev d 225 388 (l0 :: l1 :: l2 :: some (.int x) :: ls) (.int x :: st) m := q_nx (show am_row 225 387 = some (.iload_n 3, 1, 0, 0, 0, 0) from rfl) rfl
set_option maxRecDepth 20000 in
theorem e225_388 {d : Nat} {ls : am_L} {st : List Value} {m : am_M} : ev d 225 388 ls st m = ev d 225 389 ls (.int (nI 1) :: st) m := q_nx (show am_row 225 388 = some (.iconst 1, 1, 0, 0, 0, 0) from rfl) rfl
set_option maxRecDepth 20000 in
theorem e225_389 {d : Nat} {ls : am_L} {st : List Value} {m : am_M} {x y : Int32} : ev d 225 389 ls (.int y :: .int x :: st) m = ev d 225 390 ls (.int (x + y) :: st) m := q_nx (show am_row 225 389 = some (.iadd, 1, 0, 0, 0, 0) from rfl) rfl
set_option maxRecDepth 20000 in
theorem e225_390 {d : Nat} {ls : am_L} {st : List Value} {m : am_M} {a : Nat} {i : Int32} (hK : (mK m a).1 = 6) (hi : am_ix i (mK m a).2.2 = true) : ev d 225 390 ls (.int i :: .ref a :: st) m = ev d 225 391 ls (.int (mI m a i.toNatClampNeg) :: st) m := q_sald (show am_row 225 390 = some (.iaload, 1, 0, 0, 0, 0) from rfl) hK hi
set_option maxRecDepth 20000 in
theorem e225_391 {d : Nat} {ls : am_L} {st : List Value} {m : am_M} {x : Nat} : ev d 225 391 (some (.ref x) :: ls) st m = ev d 225 392 (some (.ref x) :: ls) (.ref x :: st) m := q_nx (show am_row 225 391 = some (.aload_n 0, 1, 0, 0, 0, 0) from rfl) rfl
set_option maxRecDepth 20000 in
theorem e225_392 {d : Nat} {ls : am_L} {st : List Value} {m : am_M} {l0 : Option Value} {l1 : Option Value} {l2 : Option Value} {x : Int32} : ev d 225 392 (l0 :: l1 :: l2 :: some (.int x) :: ls) st m = ev d 225 393 (l0 :: l1 :: l2 :: some (.int x) :: ls) (.int x :: st) m := q_nx (show am_row 225 392 = some (.iload_n 3, 1, 0, 0, 0, 0) from rfl) rfl
set_option maxRecDepth 20000 in
theorem e225_393 {d : Nat} {ls : am_L} {st : List Value} {m : am_M} : ev d 225 393 ls st m = ev d 225 394 ls (.int (nI 2) :: st) m := q_nx (show am_row 225 393 = some (.iconst 2, 1, 0, 0, 0, 0) from rfl) rfl
set_option maxRecDepth 20000 in
theorem e225_394 {d : Nat} {ls : am_L} {st : List Value} {m : am_M} {x y : Int32} : ev d 225 394 ls (.int y :: .int x :: st) m = ev d 225 395 ls (.int (x + y) :: st) m := q_nx (show am_row 225 394 = some (.iadd, 1, 0, 0, 0, 0) from rfl) rfl
set_option maxRecDepth 20000 in
theorem e225_395 {d : Nat} {ls : am_L} {st : List Value} {m : am_M} {a : Nat} {i : Int32} (hK : (mK m a).1 = 6) (hi : am_ix i (mK m a).2.2 = true) : ev d 225 395 ls (.int i :: .ref a :: st) m = ev d 225 396 ls (.int (mI m a i.toNatClampNeg) :: st) m := q_sald (show am_row 225 395 = some (.iaload, 1, 0, 0, 0, 0) from rfl) hK hi
set_option maxRecDepth 20000 in
theorem e225_396 {d : Nat} {ls : am_L} {st : List Value} {m : am_M} {a : Nat} {v0 : Int32} {v1 : Int32} (hK : mK m a = (1, 9, 0)) (hw : am_w st ≤ 8) : ev (d + 1) 225 396 ls (.int v1 :: .int v0 :: .ref a :: st) m = am_k (cal d 95 [.ref a, .int v0, .int v1] m) (fun v m'' => ev (d + 1) 225 399 ls (v.toList ++ st) m'') := q_cl (show am_row 225 396 = some (.invokevirtual 36, 3, 95, 0, 0, 556) from rfl) rfl (if_pos ⟨hK, (by show 2 ≤ _; simp only [List.length_cons]; omega), hw⟩)
set_option maxRecDepth 20000 in
theorem e225_399 {d : Nat} {ls : am_L} {st : List Value} {m : am_M} {l0 : Option Value} {l1 : Option Value} {x : Nat} : ev d 225 399 (l0 :: l1 :: some (.ref x) :: ls) st m = ev d 225 400 (l0 :: l1 :: some (.ref x) :: ls) (.ref x :: st) m := q_nx (show am_row 225 399 = some (.aload_n 2, 1, 0, 0, 0, 0) from rfl) rfl
set_option maxRecDepth 20000 in
theorem e225_400 {d : Nat} {ls : am_L} {st : List Value} {m : am_M} {x : Nat} : ev d 225 400 (some (.ref x) :: ls) st m = ev d 225 401 (some (.ref x) :: ls) (.ref x :: st) m := q_nx (show am_row 225 400 = some (.aload_n 0, 1, 0, 0, 0, 0) from rfl) rfl
set_option maxRecDepth 20000 in
theorem e225_401 {d : Nat} {ls : am_L} {st : List Value} {m : am_M} {l0 : Option Value} {l1 : Option Value} {l2 : Option Value} {x : Int32} : ev d 225 401 (l0 :: l1 :: l2 :: some (.int x) :: ls) st m = ev d 225 402 (l0 :: l1 :: l2 :: some (.int x) :: ls) (.int x :: st) m := q_nx (show am_row 225 401 = some (.iload_n 3, 1, 0, 0, 0, 0) from rfl) rfl
set_option maxRecDepth 20000 in
theorem e225_402 {d : Nat} {ls : am_L} {st : List Value} {m : am_M} : ev d 225 402 ls st m = ev d 225 403 ls (.int (nI 1) :: st) m := q_nx (show am_row 225 402 = some (.iconst 1, 1, 0, 0, 0, 0) from rfl) rfl
set_option maxRecDepth 20000 in
theorem e225_403 {d : Nat} {ls : am_L} {st : List Value} {m : am_M} {x y : Int32} : ev d 225 403 ls (.int y :: .int x :: st) m = ev d 225 404 ls (.int (x + y) :: st) m := q_nx (show am_row 225 403 = some (.iadd, 1, 0, 0, 0, 0) from rfl) rfl
set_option maxRecDepth 20000 in
theorem e225_404 {d : Nat} {ls : am_L} {st : List Value} {m : am_M} {a : Nat} {i : Int32} (hK : (mK m a).1 = 6) (hi : am_ix i (mK m a).2.2 = true) : ev d 225 404 ls (.int i :: .ref a :: st) m = ev d 225 405 ls (.int (mI m a i.toNatClampNeg) :: st) m := q_sald (show am_row 225 404 = some (.iaload, 1, 0, 0, 0, 0) from rfl) hK hi
set_option maxRecDepth 20000 in
theorem e225_405 {d : Nat} {ls : am_L} {st : List Value} {m : am_M} {x : Nat} : ev d 225 405 (some (.ref x) :: ls) st m = ev d 225 406 (some (.ref x) :: ls) (.ref x :: st) m := q_nx (show am_row 225 405 = some (.aload_n 0, 1, 0, 0, 0, 0) from rfl) rfl
set_option maxRecDepth 20000 in
theorem e225_406 {d : Nat} {ls : am_L} {st : List Value} {m : am_M} {l0 : Option Value} {l1 : Option Value} {l2 : Option Value} {x : Int32} : ev d 225 406 (l0 :: l1 :: l2 :: some (.int x) :: ls) st m = ev d 225 407 (l0 :: l1 :: l2 :: some (.int x) :: ls) (.int x :: st) m := q_nx (show am_row 225 406 = some (.iload_n 3, 1, 0, 0, 0, 0) from rfl) rfl
set_option maxRecDepth 20000 in
theorem e225_407 {d : Nat} {ls : am_L} {st : List Value} {m : am_M} : ev d 225 407 ls st m = ev d 225 408 ls (.int (nI 2) :: st) m := q_nx (show am_row 225 407 = some (.iconst 2, 1, 0, 0, 0, 0) from rfl) rfl
set_option maxRecDepth 20000 in
theorem e225_408 {d : Nat} {ls : am_L} {st : List Value} {m : am_M} {x y : Int32} : ev d 225 408 ls (.int y :: .int x :: st) m = ev d 225 409 ls (.int (x + y) :: st) m := q_nx (show am_row 225 408 = some (.iadd, 1, 0, 0, 0, 0) from rfl) rfl
set_option maxRecDepth 20000 in
theorem e225_409 {d : Nat} {ls : am_L} {st : List Value} {m : am_M} {a : Nat} {i : Int32} (hK : (mK m a).1 = 6) (hi : am_ix i (mK m a).2.2 = true) : ev d 225 409 ls (.int i :: .ref a :: st) m = ev d 225 410 ls (.int (mI m a i.toNatClampNeg) :: st) m := q_sald (show am_row 225 409 = some (.iaload, 1, 0, 0, 0, 0) from rfl) hK hi
set_option maxRecDepth 20000 in
theorem e225_410 {d : Nat} {ls : am_L} {st : List Value} {m : am_M} {a : Nat} {v0 : Int32} {v1 : Int32} (hK : mK m a = (1, 10, 0)) (hw : am_w st ≤ 8) : ev (d + 1) 225 410 ls (.int v1 :: .int v0 :: .ref a :: st) m = am_k (cal d 169 [.ref a, .int v0, .int v1] m) (fun v m'' => ev (d + 1) 225 413 ls (v.toList ++ st) m'') := q_cl (show am_row 225 410 = some (.invokevirtual 39, 3, 169, 0, 0, 1187) from rfl) rfl (if_pos ⟨hK, (by show 2 ≤ _; simp only [List.length_cons]; omega), hw⟩)
set_option maxRecDepth 20000 in
theorem e225_413 {d : Nat} {ls : am_L} {st : List Value} {m : am_M} {x y : Int32} : ev d 225 413 ls (.int y :: .int x :: st) m = if x = y then ev d 225 1266 ls st m else ev d 225 416 ls st m := q_ite (a := (1266, ls, st, m)) (b := (416, ls, st, m)) (show am_row 225 413 = some (.if_icmp .eq 853, 3, 0, 0, 0, 0) from rfl) rfl
set_option maxRecDepth 20000 in
theorem e225_416 {d : Nat} {ls : am_L} {st : List Value} {m : am_M} : ev d 225 416 ls st m = ev d 225 417 ls (.int (nI 0) :: st) m := q_nx (show am_row 225 416 = some (.iconst 0, 1, 0, 0, 0, 0) from rfl) rfl
set_option maxRecDepth 20000 in
theorem e225_417 {d : Nat} {ls : am_L} {m : am_M} {x : Int32} (hb : am_bb x = true) : ev d 225 417 ls [.int x] m = some (some (.int x), m) := q_zret (show am_row 225 417 = some (.ireturn, 1, 1, 0, 0, 0) from rfl) hb
set_option maxRecDepth 20000 in
theorem e225_418 {d : Nat} {ls : am_L} {st : List Value} {m : am_M} {l0 : Option Value} {x : Nat} : ev d 225 418 (l0 :: some (.ref x) :: ls) st m = ev d 225 419 (l0 :: some (.ref x) :: ls) (.ref x :: st) m := q_nx (show am_row 225 418 = some (.aload_n 1, 1, 0, 0, 0, 0) from rfl) rfl
set_option maxRecDepth 20000 in
theorem e225_419 {d : Nat} {ls : am_L} {st : List Value} {m : am_M} {x : Nat} : ev d 225 419 (some (.ref x) :: ls) st m = ev d 225 420 (some (.ref x) :: ls) (.ref x :: st) m := q_nx (show am_row 225 419 = some (.aload_n 0, 1, 0, 0, 0, 0) from rfl) rfl
set_option maxRecDepth 20000 in
theorem e225_420 {d : Nat} {ls : am_L} {st : List Value} {m : am_M} {l0 : Option Value} {l1 : Option Value} {l2 : Option Value} {x : Int32} : ev d 225 420 (l0 :: l1 :: l2 :: some (.int x) :: ls) st m = ev d 225 421 (l0 :: l1 :: l2 :: some (.int x) :: ls) (.int x :: st) m := q_nx (show am_row 225 420 = some (.iload_n 3, 1, 0, 0, 0, 0) from rfl) rfl
set_option maxRecDepth 20000 in
theorem e225_421 {d : Nat} {ls : am_L} {st : List Value} {m : am_M} : ev d 225 421 ls st m = ev d 225 422 ls (.int (nI 1) :: st) m := q_nx (show am_row 225 421 = some (.iconst 1, 1, 0, 0, 0, 0) from rfl) rfl
set_option maxRecDepth 20000 in
theorem e225_422 {d : Nat} {ls : am_L} {st : List Value} {m : am_M} {x y : Int32} : ev d 225 422 ls (.int y :: .int x :: st) m = ev d 225 423 ls (.int (x + y) :: st) m := q_nx (show am_row 225 422 = some (.iadd, 1, 0, 0, 0, 0) from rfl) rfl
set_option maxRecDepth 20000 in
theorem e225_423 {d : Nat} {ls : am_L} {st : List Value} {m : am_M} {a : Nat} {i : Int32} (hK : (mK m a).1 = 6) (hi : am_ix i (mK m a).2.2 = true) : ev d 225 423 ls (.int i :: .ref a :: st) m = ev d 225 424 ls (.int (mI m a i.toNatClampNeg) :: st) m := q_sald (show am_row 225 423 = some (.iaload, 1, 0, 0, 0, 0) from rfl) hK hi
set_option maxRecDepth 20000 in
theorem e225_424 {d : Nat} {ls : am_L} {st : List Value} {m : am_M} {x : Nat} : ev d 225 424 (some (.ref x) :: ls) st m = ev d 225 425 (some (.ref x) :: ls) (.ref x :: st) m := q_nx (show am_row 225 424 = some (.aload_n 0, 1, 0, 0, 0, 0) from rfl) rfl
set_option maxRecDepth 20000 in
theorem e225_425 {d : Nat} {ls : am_L} {st : List Value} {m : am_M} {l0 : Option Value} {l1 : Option Value} {l2 : Option Value} {x : Int32} : ev d 225 425 (l0 :: l1 :: l2 :: some (.int x) :: ls) st m = ev d 225 426 (l0 :: l1 :: l2 :: some (.int x) :: ls) (.int x :: st) m := q_nx (show am_row 225 425 = some (.iload_n 3, 1, 0, 0, 0, 0) from rfl) rfl
set_option maxRecDepth 20000 in
theorem e225_426 {d : Nat} {ls : am_L} {st : List Value} {m : am_M} : ev d 225 426 ls st m = ev d 225 427 ls (.int (nI 2) :: st) m := q_nx (show am_row 225 426 = some (.iconst 2, 1, 0, 0, 0, 0) from rfl) rfl
set_option maxRecDepth 20000 in
theorem e225_427 {d : Nat} {ls : am_L} {st : List Value} {m : am_M} {x y : Int32} : ev d 225 427 ls (.int y :: .int x :: st) m = ev d 225 428 ls (.int (x + y) :: st) m := q_nx (show am_row 225 427 = some (.iadd, 1, 0, 0, 0, 0) from rfl) rfl
set_option maxRecDepth 20000 in
theorem e225_428 {d : Nat} {ls : am_L} {st : List Value} {m : am_M} {a : Nat} {i : Int32} (hK : (mK m a).1 = 6) (hi : am_ix i (mK m a).2.2 = true) : ev d 225 428 ls (.int i :: .ref a :: st) m = ev d 225 429 ls (.int (mI m a i.toNatClampNeg) :: st) m := q_sald (show am_row 225 428 = some (.iaload, 1, 0, 0, 0, 0) from rfl) hK hi
set_option maxRecDepth 20000 in
theorem e225_429 {d : Nat} {ls : am_L} {st : List Value} {m : am_M} {a : Nat} {v0 : Int32} {v1 : Int32} (hK : mK m a = (1, 9, 0)) (hw : am_w st ≤ 8) : ev (d + 1) 225 429 ls (.int v1 :: .int v0 :: .ref a :: st) m = am_k (cal d 96 [.ref a, .int v0, .int v1] m) (fun v m'' => ev (d + 1) 225 432 ls (v.toList ++ st) m'') := q_cl (show am_row 225 429 = some (.invokevirtual 40, 3, 96, 0, 0, 561) from rfl) rfl (if_pos ⟨hK, (by show 2 ≤ _; simp only [List.length_cons]; omega), hw⟩)
set_option maxRecDepth 20000 in
theorem e225_432 {d : Nat} {ls : am_L} {st : List Value} {m : am_M} {l0 : Option Value} {l1 : Option Value} {x : Nat} : ev d 225 432 (l0 :: l1 :: some (.ref x) :: ls) st m = ev d 225 433 (l0 :: l1 :: some (.ref x) :: ls) (.ref x :: st) m := q_nx (show am_row 225 432 = some (.aload_n 2, 1, 0, 0, 0, 0) from rfl) rfl
set_option maxRecDepth 20000 in
theorem e225_433 {d : Nat} {ls : am_L} {st : List Value} {m : am_M} {x : Nat} : ev d 225 433 (some (.ref x) :: ls) st m = ev d 225 434 (some (.ref x) :: ls) (.ref x :: st) m := q_nx (show am_row 225 433 = some (.aload_n 0, 1, 0, 0, 0, 0) from rfl) rfl
set_option maxRecDepth 20000 in
theorem e225_434 {d : Nat} {ls : am_L} {st : List Value} {m : am_M} {l0 : Option Value} {l1 : Option Value} {l2 : Option Value} {x : Int32} : ev d 225 434 (l0 :: l1 :: l2 :: some (.int x) :: ls) st m = ev d 225 435 (l0 :: l1 :: l2 :: some (.int x) :: ls) (.int x :: st) m := q_nx (show am_row 225 434 = some (.iload_n 3, 1, 0, 0, 0, 0) from rfl) rfl
set_option maxRecDepth 20000 in
theorem e225_435 {d : Nat} {ls : am_L} {st : List Value} {m : am_M} : ev d 225 435 ls st m = ev d 225 436 ls (.int (nI 1) :: st) m := q_nx (show am_row 225 435 = some (.iconst 1, 1, 0, 0, 0, 0) from rfl) rfl
set_option maxRecDepth 20000 in
theorem e225_436 {d : Nat} {ls : am_L} {st : List Value} {m : am_M} {x y : Int32} : ev d 225 436 ls (.int y :: .int x :: st) m = ev d 225 437 ls (.int (x + y) :: st) m := q_nx (show am_row 225 436 = some (.iadd, 1, 0, 0, 0, 0) from rfl) rfl
set_option maxRecDepth 20000 in
theorem e225_437 {d : Nat} {ls : am_L} {st : List Value} {m : am_M} {a : Nat} {i : Int32} (hK : (mK m a).1 = 6) (hi : am_ix i (mK m a).2.2 = true) : ev d 225 437 ls (.int i :: .ref a :: st) m = ev d 225 438 ls (.int (mI m a i.toNatClampNeg) :: st) m := q_sald (show am_row 225 437 = some (.iaload, 1, 0, 0, 0, 0) from rfl) hK hi
set_option maxRecDepth 20000 in
theorem e225_438 {d : Nat} {ls : am_L} {st : List Value} {m : am_M} {x : Nat} : ev d 225 438 (some (.ref x) :: ls) st m = ev d 225 439 (some (.ref x) :: ls) (.ref x :: st) m := q_nx (show am_row 225 438 = some (.aload_n 0, 1, 0, 0, 0, 0) from rfl) rfl
set_option maxRecDepth 20000 in
theorem e225_439 {d : Nat} {ls : am_L} {st : List Value} {m : am_M} {l0 : Option Value} {l1 : Option Value} {l2 : Option Value} {x : Int32} : ev d 225 439 (l0 :: l1 :: l2 :: some (.int x) :: ls) st m = ev d 225 440 (l0 :: l1 :: l2 :: some (.int x) :: ls) (.int x :: st) m := q_nx (show am_row 225 439 = some (.iload_n 3, 1, 0, 0, 0, 0) from rfl) rfl
set_option maxRecDepth 20000 in
theorem e225_440 {d : Nat} {ls : am_L} {st : List Value} {m : am_M} : ev d 225 440 ls st m = ev d 225 441 ls (.int (nI 2) :: st) m := q_nx (show am_row 225 440 = some (.iconst 2, 1, 0, 0, 0, 0) from rfl) rfl
set_option maxRecDepth 20000 in
theorem e225_441 {d : Nat} {ls : am_L} {st : List Value} {m : am_M} {x y : Int32} : ev d 225 441 ls (.int y :: .int x :: st) m = ev d 225 442 ls (.int (x + y) :: st) m := q_nx (show am_row 225 441 = some (.iadd, 1, 0, 0, 0, 0) from rfl) rfl
set_option maxRecDepth 20000 in
theorem e225_442 {d : Nat} {ls : am_L} {st : List Value} {m : am_M} {a : Nat} {i : Int32} (hK : (mK m a).1 = 6) (hi : am_ix i (mK m a).2.2 = true) : ev d 225 442 ls (.int i :: .ref a :: st) m = ev d 225 443 ls (.int (mI m a i.toNatClampNeg) :: st) m := q_sald (show am_row 225 442 = some (.iaload, 1, 0, 0, 0, 0) from rfl) hK hi
set_option maxRecDepth 20000 in
theorem e225_443 {d : Nat} {ls : am_L} {st : List Value} {m : am_M} {a : Nat} {v0 : Int32} {v1 : Int32} (hK : mK m a = (1, 10, 0)) (hw : am_w st ≤ 8) : ev (d + 1) 225 443 ls (.int v1 :: .int v0 :: .ref a :: st) m = am_k (cal d 170 [.ref a, .int v0, .int v1] m) (fun v m'' => ev (d + 1) 225 446 ls (v.toList ++ st) m'') := q_cl (show am_row 225 443 = some (.invokevirtual 43, 3, 170, 0, 0, 1191) from rfl) rfl (if_pos ⟨hK, (by show 2 ≤ _; simp only [List.length_cons]; omega), hw⟩)
set_option maxRecDepth 20000 in
theorem e225_446 {d : Nat} {ls : am_L} {st : List Value} {m : am_M} {x y : Int32} : ev d 225 446 ls (.int y :: .int x :: st) m = if x = y then ev d 225 1266 ls st m else ev d 225 449 ls st m := q_ite (a := (1266, ls, st, m)) (b := (449, ls, st, m)) (show am_row 225 446 = some (.if_icmp .eq 820, 3, 0, 0, 0, 0) from rfl) rfl
set_option maxRecDepth 20000 in
theorem e225_449 {d : Nat} {ls : am_L} {st : List Value} {m : am_M} : ev d 225 449 ls st m = ev d 225 450 ls (.int (nI 0) :: st) m := q_nx (show am_row 225 449 = some (.iconst 0, 1, 0, 0, 0, 0) from rfl) rfl
set_option maxRecDepth 20000 in
theorem e225_450 {d : Nat} {ls : am_L} {m : am_M} {x : Int32} (hb : am_bb x = true) : ev d 225 450 ls [.int x] m = some (some (.int x), m) := q_zret (show am_row 225 450 = some (.ireturn, 1, 1, 0, 0, 0) from rfl) hb
set_option maxRecDepth 20000 in
theorem e225_451 {d : Nat} {ls : am_L} {st : List Value} {m : am_M} {l0 : Option Value} {x : Nat} : ev d 225 451 (l0 :: some (.ref x) :: ls) st m = ev d 225 452 (l0 :: some (.ref x) :: ls) (.ref x :: st) m := q_nx (show am_row 225 451 = some (.aload_n 1, 1, 0, 0, 0, 0) from rfl) rfl
set_option maxRecDepth 20000 in
theorem e225_452 {d : Nat} {ls : am_L} {st : List Value} {m : am_M} {x : Nat} : ev d 225 452 (some (.ref x) :: ls) st m = ev d 225 453 (some (.ref x) :: ls) (.ref x :: st) m := q_nx (show am_row 225 452 = some (.aload_n 0, 1, 0, 0, 0, 0) from rfl) rfl
set_option maxRecDepth 20000 in
theorem e225_453 {d : Nat} {ls : am_L} {st : List Value} {m : am_M} {l0 : Option Value} {l1 : Option Value} {l2 : Option Value} {x : Int32} : ev d 225 453 (l0 :: l1 :: l2 :: some (.int x) :: ls) st m = ev d 225 454 (l0 :: l1 :: l2 :: some (.int x) :: ls) (.int x :: st) m := q_nx (show am_row 225 453 = some (.iload_n 3, 1, 0, 0, 0, 0) from rfl) rfl
set_option maxRecDepth 20000 in
theorem e225_454 {d : Nat} {ls : am_L} {st : List Value} {m : am_M} : ev d 225 454 ls st m = ev d 225 455 ls (.int (nI 1) :: st) m := q_nx (show am_row 225 454 = some (.iconst 1, 1, 0, 0, 0, 0) from rfl) rfl
set_option maxRecDepth 20000 in
theorem e225_455 {d : Nat} {ls : am_L} {st : List Value} {m : am_M} {x y : Int32} : ev d 225 455 ls (.int y :: .int x :: st) m = ev d 225 456 ls (.int (x + y) :: st) m := q_nx (show am_row 225 455 = some (.iadd, 1, 0, 0, 0, 0) from rfl) rfl
set_option maxRecDepth 20000 in
theorem e225_456 {d : Nat} {ls : am_L} {st : List Value} {m : am_M} {a : Nat} {i : Int32} (hK : (mK m a).1 = 6) (hi : am_ix i (mK m a).2.2 = true) : ev d 225 456 ls (.int i :: .ref a :: st) m = ev d 225 457 ls (.int (mI m a i.toNatClampNeg) :: st) m := q_sald (show am_row 225 456 = some (.iaload, 1, 0, 0, 0, 0) from rfl) hK hi
set_option maxRecDepth 20000 in
theorem e225_457 {d : Nat} {ls : am_L} {st : List Value} {m : am_M} {x : Nat} : ev d 225 457 (some (.ref x) :: ls) st m = ev d 225 458 (some (.ref x) :: ls) (.ref x :: st) m := q_nx (show am_row 225 457 = some (.aload_n 0, 1, 0, 0, 0, 0) from rfl) rfl
set_option maxRecDepth 20000 in
theorem e225_458 {d : Nat} {ls : am_L} {st : List Value} {m : am_M} {l0 : Option Value} {l1 : Option Value} {l2 : Option Value} {x : Int32} : ev d 225 458 (l0 :: l1 :: l2 :: some (.int x) :: ls) st m = ev d 225 459 (l0 :: l1 :: l2 :: some (.int x) :: ls) (.int x :: st) m := q_nx (show am_row 225 458 = some (.iload_n 3, 1, 0, 0, 0, 0) from rfl) rfl
set_option maxRecDepth 20000 in
theorem e225_459 {d : Nat} {ls : am_L} {st : List Value} {m : am_M} : ev d 225 459 ls st m = ev d 225 460 ls (.int (nI 2) :: st) m := q_nx (show am_row 225 459 = some (.iconst 2, 1, 0, 0, 0, 0) from rfl) rfl
set_option maxRecDepth 20000 in
theorem e225_460 {d : Nat} {ls : am_L} {st : List Value} {m : am_M} {x y : Int32} : ev d 225 460 ls (.int y :: .int x :: st) m = ev d 225 461 ls (.int (x + y) :: st) m := q_nx (show am_row 225 460 = some (.iadd, 1, 0, 0, 0, 0) from rfl) rfl
set_option maxRecDepth 20000 in
theorem e225_461 {d : Nat} {ls : am_L} {st : List Value} {m : am_M} {a : Nat} {i : Int32} (hK : (mK m a).1 = 6) (hi : am_ix i (mK m a).2.2 = true) : ev d 225 461 ls (.int i :: .ref a :: st) m = ev d 225 462 ls (.int (mI m a i.toNatClampNeg) :: st) m := q_sald (show am_row 225 461 = some (.iaload, 1, 0, 0, 0, 0) from rfl) hK hi
set_option maxRecDepth 20000 in
theorem e225_462 {d : Nat} {ls : am_L} {st : List Value} {m : am_M} {x : Nat} : ev d 225 462 (some (.ref x) :: ls) st m = ev d 225 463 (some (.ref x) :: ls) (.ref x :: st) m := q_nx (show am_row 225 462 = some (.aload_n 0, 1, 0, 0, 0, 0) from rfl) rfl
set_option maxRecDepth 20000 in
theorem e225_463 {d : Nat} {ls : am_L} {st : List Value} {m : am_M} {l0 : Option Value} {l1 : Option Value} {l2 : Option Value} {x : Int32} : ev d 225 463 (l0 :: l1 :: l2 :: some (.int x) :: ls) st m = ev d 225 464 (l0 :: l1 :: l2 :: some (.int x) :: ls) (.int x :: st) m := q_nx (show am_row 225 463 = some (.iload_n 3, 1, 0, 0, 0, 0) from rfl) rfl
set_option maxRecDepth 20000 in
theorem e225_464 {d : Nat} {ls : am_L} {st : List Value} {m : am_M} : ev d 225 464 ls st m = ev d 225 465 ls (.int (nI 3) :: st) m := q_nx (show am_row 225 464 = some (.iconst 3, 1, 0, 0, 0, 0) from rfl) rfl
set_option maxRecDepth 20000 in
theorem e225_465 {d : Nat} {ls : am_L} {st : List Value} {m : am_M} {x y : Int32} : ev d 225 465 ls (.int y :: .int x :: st) m = ev d 225 466 ls (.int (x + y) :: st) m := q_nx (show am_row 225 465 = some (.iadd, 1, 0, 0, 0, 0) from rfl) rfl
set_option maxRecDepth 20000 in
theorem e225_466 {d : Nat} {ls : am_L} {st : List Value} {m : am_M} {a : Nat} {i : Int32} (hK : (mK m a).1 = 6) (hi : am_ix i (mK m a).2.2 = true) : ev d 225 466 ls (.int i :: .ref a :: st) m = ev d 225 467 ls (.int (mI m a i.toNatClampNeg) :: st) m := q_sald (show am_row 225 466 = some (.iaload, 1, 0, 0, 0, 0) from rfl) hK hi
set_option maxRecDepth 20000 in
theorem e225_467 {d : Nat} {ls : am_L} {st : List Value} {m : am_M} {a : Nat} {v0 : Int32} {v1 : Int32} {v2 : Int32} (hK : mK m a = (1, 9, 0)) (hw : am_w st ≤ 8) : ev (d + 1) 225 467 ls (.int v2 :: .int v1 :: .int v0 :: .ref a :: st) m = am_k (cal d 97 [.ref a, .int v0, .int v1, .int v2] m) (fun v m'' => ev (d + 1) 225 470 ls (v.toList ++ st) m'') := q_cl (show am_row 225 467 = some (.invokevirtual 44, 3, 97, 0, 0, 570) from rfl) rfl (if_pos ⟨hK, (by show 3 ≤ _; simp only [List.length_cons]; omega), hw⟩)
set_option maxRecDepth 20000 in
theorem e225_470 {d : Nat} {ls : am_L} {st : List Value} {m : am_M} {l0 : Option Value} {l1 : Option Value} {x : Nat} : ev d 225 470 (l0 :: l1 :: some (.ref x) :: ls) st m = ev d 225 471 (l0 :: l1 :: some (.ref x) :: ls) (.ref x :: st) m := q_nx (show am_row 225 470 = some (.aload_n 2, 1, 0, 0, 0, 0) from rfl) rfl
set_option maxRecDepth 20000 in
theorem e225_471 {d : Nat} {ls : am_L} {st : List Value} {m : am_M} {x : Nat} : ev d 225 471 (some (.ref x) :: ls) st m = ev d 225 472 (some (.ref x) :: ls) (.ref x :: st) m := q_nx (show am_row 225 471 = some (.aload_n 0, 1, 0, 0, 0, 0) from rfl) rfl
set_option maxRecDepth 20000 in
theorem e225_472 {d : Nat} {ls : am_L} {st : List Value} {m : am_M} {l0 : Option Value} {l1 : Option Value} {l2 : Option Value} {x : Int32} : ev d 225 472 (l0 :: l1 :: l2 :: some (.int x) :: ls) st m = ev d 225 473 (l0 :: l1 :: l2 :: some (.int x) :: ls) (.int x :: st) m := q_nx (show am_row 225 472 = some (.iload_n 3, 1, 0, 0, 0, 0) from rfl) rfl
set_option maxRecDepth 20000 in
theorem e225_473 {d : Nat} {ls : am_L} {st : List Value} {m : am_M} : ev d 225 473 ls st m = ev d 225 474 ls (.int (nI 1) :: st) m := q_nx (show am_row 225 473 = some (.iconst 1, 1, 0, 0, 0, 0) from rfl) rfl
set_option maxRecDepth 20000 in
theorem e225_474 {d : Nat} {ls : am_L} {st : List Value} {m : am_M} {x y : Int32} : ev d 225 474 ls (.int y :: .int x :: st) m = ev d 225 475 ls (.int (x + y) :: st) m := q_nx (show am_row 225 474 = some (.iadd, 1, 0, 0, 0, 0) from rfl) rfl
set_option maxRecDepth 20000 in
theorem e225_475 {d : Nat} {ls : am_L} {st : List Value} {m : am_M} {a : Nat} {i : Int32} (hK : (mK m a).1 = 6) (hi : am_ix i (mK m a).2.2 = true) : ev d 225 475 ls (.int i :: .ref a :: st) m = ev d 225 476 ls (.int (mI m a i.toNatClampNeg) :: st) m := q_sald (show am_row 225 475 = some (.iaload, 1, 0, 0, 0, 0) from rfl) hK hi
set_option maxRecDepth 20000 in
theorem e225_476 {d : Nat} {ls : am_L} {st : List Value} {m : am_M} {x : Nat} : ev d 225 476 (some (.ref x) :: ls) st m = ev d 225 477 (some (.ref x) :: ls) (.ref x :: st) m := q_nx (show am_row 225 476 = some (.aload_n 0, 1, 0, 0, 0, 0) from rfl) rfl
set_option maxRecDepth 20000 in
theorem e225_477 {d : Nat} {ls : am_L} {st : List Value} {m : am_M} {l0 : Option Value} {l1 : Option Value} {l2 : Option Value} {x : Int32} : ev d 225 477 (l0 :: l1 :: l2 :: some (.int x) :: ls) st m = ev d 225 478 (l0 :: l1 :: l2 :: some (.int x) :: ls) (.int x :: st) m := q_nx (show am_row 225 477 = some (.iload_n 3, 1, 0, 0, 0, 0) from rfl) rfl
set_option maxRecDepth 20000 in
theorem e225_478 {d : Nat} {ls : am_L} {st : List Value} {m : am_M} : ev d 225 478 ls st m = ev d 225 479 ls (.int (nI 2) :: st) m := q_nx (show am_row 225 478 = some (.iconst 2, 1, 0, 0, 0, 0) from rfl) rfl
set_option maxRecDepth 20000 in
theorem e225_479 {d : Nat} {ls : am_L} {st : List Value} {m : am_M} {x y : Int32} : ev d 225 479 ls (.int y :: .int x :: st) m = ev d 225 480 ls (.int (x + y) :: st) m := q_nx (show am_row 225 479 = some (.iadd, 1, 0, 0, 0, 0) from rfl) rfl
set_option maxRecDepth 20000 in
theorem e225_480 {d : Nat} {ls : am_L} {st : List Value} {m : am_M} {a : Nat} {i : Int32} (hK : (mK m a).1 = 6) (hi : am_ix i (mK m a).2.2 = true) : ev d 225 480 ls (.int i :: .ref a :: st) m = ev d 225 481 ls (.int (mI m a i.toNatClampNeg) :: st) m := q_sald (show am_row 225 480 = some (.iaload, 1, 0, 0, 0, 0) from rfl) hK hi
set_option maxRecDepth 20000 in
theorem e225_481 {d : Nat} {ls : am_L} {st : List Value} {m : am_M} {x : Nat} : ev d 225 481 (some (.ref x) :: ls) st m = ev d 225 482 (some (.ref x) :: ls) (.ref x :: st) m := q_nx (show am_row 225 481 = some (.aload_n 0, 1, 0, 0, 0, 0) from rfl) rfl
set_option maxRecDepth 20000 in
theorem e225_482 {d : Nat} {ls : am_L} {st : List Value} {m : am_M} {l0 : Option Value} {l1 : Option Value} {l2 : Option Value} {x : Int32} : ev d 225 482 (l0 :: l1 :: l2 :: some (.int x) :: ls) st m = ev d 225 483 (l0 :: l1 :: l2 :: some (.int x) :: ls) (.int x :: st) m := q_nx (show am_row 225 482 = some (.iload_n 3, 1, 0, 0, 0, 0) from rfl) rfl
set_option maxRecDepth 20000 in
theorem e225_483 {d : Nat} {ls : am_L} {st : List Value} {m : am_M} : ev d 225 483 ls st m = ev d 225 484 ls (.int (nI 3) :: st) m := q_nx (show am_row 225 483 = some (.iconst 3, 1, 0, 0, 0, 0) from rfl) rfl
set_option maxRecDepth 20000 in
theorem e225_484 {d : Nat} {ls : am_L} {st : List Value} {m : am_M} {x y : Int32} : ev d 225 484 ls (.int y :: .int x :: st) m = ev d 225 485 ls (.int (x + y) :: st) m := q_nx (show am_row 225 484 = some (.iadd, 1, 0, 0, 0, 0) from rfl) rfl
set_option maxRecDepth 20000 in
theorem e225_485 {d : Nat} {ls : am_L} {st : List Value} {m : am_M} {a : Nat} {i : Int32} (hK : (mK m a).1 = 6) (hi : am_ix i (mK m a).2.2 = true) : ev d 225 485 ls (.int i :: .ref a :: st) m = ev d 225 486 ls (.int (mI m a i.toNatClampNeg) :: st) m := q_sald (show am_row 225 485 = some (.iaload, 1, 0, 0, 0, 0) from rfl) hK hi
set_option maxRecDepth 20000 in
theorem e225_486 {d : Nat} {ls : am_L} {st : List Value} {m : am_M} {a : Nat} {v0 : Int32} {v1 : Int32} {v2 : Int32} (hK : mK m a = (1, 10, 0)) (hw : am_w st ≤ 8) : ev (d + 1) 225 486 ls (.int v2 :: .int v1 :: .int v0 :: .ref a :: st) m = am_k (cal d 171 [.ref a, .int v0, .int v1, .int v2] m) (fun v m'' => ev (d + 1) 225 489 ls (v.toList ++ st) m'') := q_cl (show am_row 225 486 = some (.invokevirtual 48, 3, 171, 0, 0, 1196) from rfl) rfl (if_pos ⟨hK, (by show 3 ≤ _; simp only [List.length_cons]; omega), hw⟩)
set_option maxRecDepth 20000 in
theorem e225_489 {d : Nat} {ls : am_L} {st : List Value} {m : am_M} {x y : Int32} : ev d 225 489 ls (.int y :: .int x :: st) m = if x = y then ev d 225 1266 ls st m else ev d 225 492 ls st m := q_ite (a := (1266, ls, st, m)) (b := (492, ls, st, m)) (show am_row 225 489 = some (.if_icmp .eq 777, 3, 0, 0, 0, 0) from rfl) rfl
set_option maxRecDepth 20000 in
theorem e225_492 {d : Nat} {ls : am_L} {st : List Value} {m : am_M} : ev d 225 492 ls st m = ev d 225 493 ls (.int (nI 0) :: st) m := q_nx (show am_row 225 492 = some (.iconst 0, 1, 0, 0, 0, 0) from rfl) rfl
set_option maxRecDepth 20000 in
theorem e225_493 {d : Nat} {ls : am_L} {m : am_M} {x : Int32} (hb : am_bb x = true) : ev d 225 493 ls [.int x] m = some (some (.int x), m) := q_zret (show am_row 225 493 = some (.ireturn, 1, 1, 0, 0, 0) from rfl) hb
set_option maxRecDepth 20000 in
theorem e225_494 {d : Nat} {ls : am_L} {st : List Value} {m : am_M} {l0 : Option Value} {x : Nat} : ev d 225 494 (l0 :: some (.ref x) :: ls) st m = ev d 225 495 (l0 :: some (.ref x) :: ls) (.ref x :: st) m := q_nx (show am_row 225 494 = some (.aload_n 1, 1, 0, 0, 0, 0) from rfl) rfl
set_option maxRecDepth 20000 in
theorem e225_495 {d : Nat} {ls : am_L} {st : List Value} {m : am_M} {x : Nat} : ev d 225 495 (some (.ref x) :: ls) st m = ev d 225 496 (some (.ref x) :: ls) (.ref x :: st) m := q_nx (show am_row 225 495 = some (.aload_n 0, 1, 0, 0, 0, 0) from rfl) rfl
set_option maxRecDepth 20000 in
theorem e225_496 {d : Nat} {ls : am_L} {st : List Value} {m : am_M} {l0 : Option Value} {l1 : Option Value} {l2 : Option Value} {x : Int32} : ev d 225 496 (l0 :: l1 :: l2 :: some (.int x) :: ls) st m = ev d 225 497 (l0 :: l1 :: l2 :: some (.int x) :: ls) (.int x :: st) m := q_nx (show am_row 225 496 = some (.iload_n 3, 1, 0, 0, 0, 0) from rfl) rfl
set_option maxRecDepth 20000 in
theorem e225_497 {d : Nat} {ls : am_L} {st : List Value} {m : am_M} : ev d 225 497 ls st m = ev d 225 498 ls (.int (nI 1) :: st) m := q_nx (show am_row 225 497 = some (.iconst 1, 1, 0, 0, 0, 0) from rfl) rfl
set_option maxRecDepth 20000 in
theorem e225_498 {d : Nat} {ls : am_L} {st : List Value} {m : am_M} {x y : Int32} : ev d 225 498 ls (.int y :: .int x :: st) m = ev d 225 499 ls (.int (x + y) :: st) m := q_nx (show am_row 225 498 = some (.iadd, 1, 0, 0, 0, 0) from rfl) rfl
set_option maxRecDepth 20000 in
theorem e225_499 {d : Nat} {ls : am_L} {st : List Value} {m : am_M} {a : Nat} {i : Int32} (hK : (mK m a).1 = 6) (hi : am_ix i (mK m a).2.2 = true) : ev d 225 499 ls (.int i :: .ref a :: st) m = ev d 225 500 ls (.int (mI m a i.toNatClampNeg) :: st) m := q_sald (show am_row 225 499 = some (.iaload, 1, 0, 0, 0, 0) from rfl) hK hi
set_option maxRecDepth 20000 in
theorem e225_500 {d : Nat} {ls : am_L} {st : List Value} {m : am_M} {a : Nat} {v0 : Int32} (hK : mK m a = (1, 9, 0)) (hw : am_w st ≤ 8) : ev (d + 1) 225 500 ls (.int v0 :: .ref a :: st) m = am_k (cal d 98 [.ref a, .int v0] m) (fun v m'' => ev (d + 1) 225 503 ls (v.toList ++ st) m'') := q_cl (show am_row 225 500 = some (.invokevirtual 49, 3, 98, 0, 0, 577) from rfl) rfl (if_pos ⟨hK, (by show 1 ≤ _; simp only [List.length_cons]; omega), hw⟩)
set_option maxRecDepth 20000 in
theorem e225_503 {d : Nat} {ls : am_L} {st : List Value} {m : am_M} {l0 : Option Value} {l1 : Option Value} {x : Nat} : ev d 225 503 (l0 :: l1 :: some (.ref x) :: ls) st m = ev d 225 504 (l0 :: l1 :: some (.ref x) :: ls) (.ref x :: st) m := q_nx (show am_row 225 503 = some (.aload_n 2, 1, 0, 0, 0, 0) from rfl) rfl
set_option maxRecDepth 20000 in
theorem e225_504 {d : Nat} {ls : am_L} {st : List Value} {m : am_M} {x : Nat} : ev d 225 504 (some (.ref x) :: ls) st m = ev d 225 505 (some (.ref x) :: ls) (.ref x :: st) m := q_nx (show am_row 225 504 = some (.aload_n 0, 1, 0, 0, 0, 0) from rfl) rfl
set_option maxRecDepth 20000 in
theorem e225_505 {d : Nat} {ls : am_L} {st : List Value} {m : am_M} {l0 : Option Value} {l1 : Option Value} {l2 : Option Value} {x : Int32} : ev d 225 505 (l0 :: l1 :: l2 :: some (.int x) :: ls) st m = ev d 225 506 (l0 :: l1 :: l2 :: some (.int x) :: ls) (.int x :: st) m := q_nx (show am_row 225 505 = some (.iload_n 3, 1, 0, 0, 0, 0) from rfl) rfl
set_option maxRecDepth 20000 in
theorem e225_506 {d : Nat} {ls : am_L} {st : List Value} {m : am_M} : ev d 225 506 ls st m = ev d 225 507 ls (.int (nI 1) :: st) m := q_nx (show am_row 225 506 = some (.iconst 1, 1, 0, 0, 0, 0) from rfl) rfl
set_option maxRecDepth 20000 in
theorem e225_507 {d : Nat} {ls : am_L} {st : List Value} {m : am_M} {x y : Int32} : ev d 225 507 ls (.int y :: .int x :: st) m = ev d 225 508 ls (.int (x + y) :: st) m := q_nx (show am_row 225 507 = some (.iadd, 1, 0, 0, 0, 0) from rfl) rfl
set_option maxRecDepth 20000 in
theorem e225_508 {d : Nat} {ls : am_L} {st : List Value} {m : am_M} {a : Nat} {i : Int32} (hK : (mK m a).1 = 6) (hi : am_ix i (mK m a).2.2 = true) : ev d 225 508 ls (.int i :: .ref a :: st) m = ev d 225 509 ls (.int (mI m a i.toNatClampNeg) :: st) m := q_sald (show am_row 225 508 = some (.iaload, 1, 0, 0, 0, 0) from rfl) hK hi
set_option maxRecDepth 20000 in
theorem e225_509 {d : Nat} {ls : am_L} {st : List Value} {m : am_M} {a : Nat} {v0 : Int32} (hK : mK m a = (1, 10, 0)) (hw : am_w st ≤ 8) : ev (d + 1) 225 509 ls (.int v0 :: .ref a :: st) m = am_k (cal d 172 [.ref a, .int v0] m) (fun v m'' => ev (d + 1) 225 512 ls (v.toList ++ st) m'') := q_cl (show am_row 225 509 = some (.invokevirtual 52, 3, 172, 0, 0, 1200) from rfl) rfl (if_pos ⟨hK, (by show 1 ≤ _; simp only [List.length_cons]; omega), hw⟩)
set_option maxRecDepth 20000 in
theorem e225_512 {d : Nat} {ls : am_L} {st : List Value} {m : am_M} {x y : Int32} : ev d 225 512 ls (.int y :: .int x :: st) m = if x = y then ev d 225 1266 ls st m else ev d 225 515 ls st m := q_ite (a := (1266, ls, st, m)) (b := (515, ls, st, m)) (show am_row 225 512 = some (.if_icmp .eq 754, 3, 0, 0, 0, 0) from rfl) rfl
set_option maxRecDepth 20000 in
theorem e225_515 {d : Nat} {ls : am_L} {st : List Value} {m : am_M} : ev d 225 515 ls st m = ev d 225 516 ls (.int (nI 0) :: st) m := q_nx (show am_row 225 515 = some (.iconst 0, 1, 0, 0, 0, 0) from rfl) rfl
set_option maxRecDepth 20000 in
theorem e225_516 {d : Nat} {ls : am_L} {m : am_M} {x : Int32} (hb : am_bb x = true) : ev d 225 516 ls [.int x] m = some (some (.int x), m) := q_zret (show am_row 225 516 = some (.ireturn, 1, 1, 0, 0, 0) from rfl) hb
set_option maxRecDepth 20000 in
theorem e225_517 {d : Nat} {ls : am_L} {st : List Value} {m : am_M} {l0 : Option Value} {x : Nat} : ev d 225 517 (l0 :: some (.ref x) :: ls) st m = ev d 225 518 (l0 :: some (.ref x) :: ls) (.ref x :: st) m := q_nx (show am_row 225 517 = some (.aload_n 1, 1, 0, 0, 0, 0) from rfl) rfl
set_option maxRecDepth 20000 in
theorem e225_518 {d : Nat} {ls : am_L} {st : List Value} {m : am_M} {x : Nat} : ev d 225 518 (some (.ref x) :: ls) st m = ev d 225 519 (some (.ref x) :: ls) (.ref x :: st) m := q_nx (show am_row 225 518 = some (.aload_n 0, 1, 0, 0, 0, 0) from rfl) rfl
set_option maxRecDepth 20000 in
theorem e225_519 {d : Nat} {ls : am_L} {st : List Value} {m : am_M} {l0 : Option Value} {l1 : Option Value} {l2 : Option Value} {x : Int32} : ev d 225 519 (l0 :: l1 :: l2 :: some (.int x) :: ls) st m = ev d 225 520 (l0 :: l1 :: l2 :: some (.int x) :: ls) (.int x :: st) m := q_nx (show am_row 225 519 = some (.iload_n 3, 1, 0, 0, 0, 0) from rfl) rfl
set_option maxRecDepth 20000 in
theorem e225_520 {d : Nat} {ls : am_L} {st : List Value} {m : am_M} : ev d 225 520 ls st m = ev d 225 521 ls (.int (nI 1) :: st) m := q_nx (show am_row 225 520 = some (.iconst 1, 1, 0, 0, 0, 0) from rfl) rfl
set_option maxRecDepth 20000 in
theorem e225_521 {d : Nat} {ls : am_L} {st : List Value} {m : am_M} {x y : Int32} : ev d 225 521 ls (.int y :: .int x :: st) m = ev d 225 522 ls (.int (x + y) :: st) m := q_nx (show am_row 225 521 = some (.iadd, 1, 0, 0, 0, 0) from rfl) rfl
set_option maxRecDepth 20000 in
theorem e225_522 {d : Nat} {ls : am_L} {st : List Value} {m : am_M} {a : Nat} {i : Int32} (hK : (mK m a).1 = 6) (hi : am_ix i (mK m a).2.2 = true) : ev d 225 522 ls (.int i :: .ref a :: st) m = ev d 225 523 ls (.int (mI m a i.toNatClampNeg) :: st) m := q_sald (show am_row 225 522 = some (.iaload, 1, 0, 0, 0, 0) from rfl) hK hi
set_option maxRecDepth 20000 in
theorem e225_523 {d : Nat} {ls : am_L} {st : List Value} {m : am_M} {x : Nat} : ev d 225 523 (some (.ref x) :: ls) st m = ev d 225 524 (some (.ref x) :: ls) (.ref x :: st) m := q_nx (show am_row 225 523 = some (.aload_n 0, 1, 0, 0, 0, 0) from rfl) rfl
set_option maxRecDepth 20000 in
theorem e225_524 {d : Nat} {ls : am_L} {st : List Value} {m : am_M} {l0 : Option Value} {l1 : Option Value} {l2 : Option Value} {x : Int32} : ev d 225 524 (l0 :: l1 :: l2 :: some (.int x) :: ls) st m = ev d 225 525 (l0 :: l1 :: l2 :: some (.int x) :: ls) (.int x :: st) m := q_nx (show am_row 225 524 = some (.iload_n 3, 1, 0, 0, 0, 0) from rfl) rfl
set_option maxRecDepth 20000 in
theorem e225_525 {d : Nat} {ls : am_L} {st : List Value} {m : am_M} : ev d 225 525 ls st m = ev d 225 526 ls (.int (nI 2) :: st) m := q_nx (show am_row 225 525 = some (.iconst 2, 1, 0, 0, 0, 0) from rfl) rfl
set_option maxRecDepth 20000 in
theorem e225_526 {d : Nat} {ls : am_L} {st : List Value} {m : am_M} {x y : Int32} : ev d 225 526 ls (.int y :: .int x :: st) m = ev d 225 527 ls (.int (x + y) :: st) m := q_nx (show am_row 225 526 = some (.iadd, 1, 0, 0, 0, 0) from rfl) rfl
set_option maxRecDepth 20000 in
theorem e225_527 {d : Nat} {ls : am_L} {st : List Value} {m : am_M} {a : Nat} {i : Int32} (hK : (mK m a).1 = 6) (hi : am_ix i (mK m a).2.2 = true) : ev d 225 527 ls (.int i :: .ref a :: st) m = ev d 225 528 ls (.int (mI m a i.toNatClampNeg) :: st) m := q_sald (show am_row 225 527 = some (.iaload, 1, 0, 0, 0, 0) from rfl) hK hi
set_option maxRecDepth 20000 in
theorem e225_528 {d : Nat} {ls : am_L} {st : List Value} {m : am_M} {a : Nat} {v0 : Int32} {v1 : Int32} (hK : mK m a = (1, 9, 0)) (hw : am_w st ≤ 8) : ev (d + 1) 225 528 ls (.int v1 :: .int v0 :: .ref a :: st) m = am_k (cal d 99 [.ref a, .int v0, .int v1] m) (fun v m'' => ev (d + 1) 225 531 ls (v.toList ++ st) m'') := q_cl (show am_row 225 528 = some (.invokevirtual 53, 3, 99, 0, 0, 581) from rfl) rfl (if_pos ⟨hK, (by show 2 ≤ _; simp only [List.length_cons]; omega), hw⟩)
set_option maxRecDepth 20000 in
theorem e225_531 {d : Nat} {ls : am_L} {st : List Value} {m : am_M} {l0 : Option Value} {l1 : Option Value} {x : Nat} : ev d 225 531 (l0 :: l1 :: some (.ref x) :: ls) st m = ev d 225 532 (l0 :: l1 :: some (.ref x) :: ls) (.ref x :: st) m := q_nx (show am_row 225 531 = some (.aload_n 2, 1, 0, 0, 0, 0) from rfl) rfl
set_option maxRecDepth 20000 in
theorem e225_532 {d : Nat} {ls : am_L} {st : List Value} {m : am_M} {x : Nat} : ev d 225 532 (some (.ref x) :: ls) st m = ev d 225 533 (some (.ref x) :: ls) (.ref x :: st) m := q_nx (show am_row 225 532 = some (.aload_n 0, 1, 0, 0, 0, 0) from rfl) rfl
set_option maxRecDepth 20000 in
theorem e225_533 {d : Nat} {ls : am_L} {st : List Value} {m : am_M} {l0 : Option Value} {l1 : Option Value} {l2 : Option Value} {x : Int32} : ev d 225 533 (l0 :: l1 :: l2 :: some (.int x) :: ls) st m = ev d 225 534 (l0 :: l1 :: l2 :: some (.int x) :: ls) (.int x :: st) m := q_nx (show am_row 225 533 = some (.iload_n 3, 1, 0, 0, 0, 0) from rfl) rfl
set_option maxRecDepth 20000 in
theorem e225_534 {d : Nat} {ls : am_L} {st : List Value} {m : am_M} : ev d 225 534 ls st m = ev d 225 535 ls (.int (nI 1) :: st) m := q_nx (show am_row 225 534 = some (.iconst 1, 1, 0, 0, 0, 0) from rfl) rfl
set_option maxRecDepth 20000 in
theorem e225_535 {d : Nat} {ls : am_L} {st : List Value} {m : am_M} {x y : Int32} : ev d 225 535 ls (.int y :: .int x :: st) m = ev d 225 536 ls (.int (x + y) :: st) m := q_nx (show am_row 225 535 = some (.iadd, 1, 0, 0, 0, 0) from rfl) rfl
set_option maxRecDepth 20000 in
theorem e225_536 {d : Nat} {ls : am_L} {st : List Value} {m : am_M} {a : Nat} {i : Int32} (hK : (mK m a).1 = 6) (hi : am_ix i (mK m a).2.2 = true) : ev d 225 536 ls (.int i :: .ref a :: st) m = ev d 225 537 ls (.int (mI m a i.toNatClampNeg) :: st) m := q_sald (show am_row 225 536 = some (.iaload, 1, 0, 0, 0, 0) from rfl) hK hi
set_option maxRecDepth 20000 in
theorem e225_537 {d : Nat} {ls : am_L} {st : List Value} {m : am_M} {x : Nat} : ev d 225 537 (some (.ref x) :: ls) st m = ev d 225 538 (some (.ref x) :: ls) (.ref x :: st) m := q_nx (show am_row 225 537 = some (.aload_n 0, 1, 0, 0, 0, 0) from rfl) rfl
set_option maxRecDepth 20000 in
theorem e225_538 {d : Nat} {ls : am_L} {st : List Value} {m : am_M} {l0 : Option Value} {l1 : Option Value} {l2 : Option Value} {x : Int32} : ev d 225 538 (l0 :: l1 :: l2 :: some (.int x) :: ls) st m = ev d 225 539 (l0 :: l1 :: l2 :: some (.int x) :: ls) (.int x :: st) m := q_nx (show am_row 225 538 = some (.iload_n 3, 1, 0, 0, 0, 0) from rfl) rfl
set_option maxRecDepth 20000 in
theorem e225_539 {d : Nat} {ls : am_L} {st : List Value} {m : am_M} : ev d 225 539 ls st m = ev d 225 540 ls (.int (nI 2) :: st) m := q_nx (show am_row 225 539 = some (.iconst 2, 1, 0, 0, 0, 0) from rfl) rfl
set_option maxRecDepth 20000 in
theorem e225_540 {d : Nat} {ls : am_L} {st : List Value} {m : am_M} {x y : Int32} : ev d 225 540 ls (.int y :: .int x :: st) m = ev d 225 541 ls (.int (x + y) :: st) m := q_nx (show am_row 225 540 = some (.iadd, 1, 0, 0, 0, 0) from rfl) rfl
set_option maxRecDepth 20000 in
theorem e225_541 {d : Nat} {ls : am_L} {st : List Value} {m : am_M} {a : Nat} {i : Int32} (hK : (mK m a).1 = 6) (hi : am_ix i (mK m a).2.2 = true) : ev d 225 541 ls (.int i :: .ref a :: st) m = ev d 225 542 ls (.int (mI m a i.toNatClampNeg) :: st) m := q_sald (show am_row 225 541 = some (.iaload, 1, 0, 0, 0, 0) from rfl) hK hi
set_option maxRecDepth 20000 in
theorem e225_542 {d : Nat} {ls : am_L} {st : List Value} {m : am_M} {a : Nat} {v0 : Int32} {v1 : Int32} (hK : mK m a = (1, 10, 0)) (hw : am_w st ≤ 8) : ev (d + 1) 225 542 ls (.int v1 :: .int v0 :: .ref a :: st) m = am_k (cal d 173 [.ref a, .int v0, .int v1] m) (fun v m'' => ev (d + 1) 225 545 ls (v.toList ++ st) m'') := q_cl (show am_row 225 542 = some (.invokevirtual 56, 3, 173, 0, 0, 1204) from rfl) rfl (if_pos ⟨hK, (by show 2 ≤ _; simp only [List.length_cons]; omega), hw⟩)
set_option maxRecDepth 20000 in
theorem e225_545 {d : Nat} {ls : am_L} {st : List Value} {m : am_M} {x y : Int32} : ev d 225 545 ls (.int y :: .int x :: st) m = if x = y then ev d 225 1266 ls st m else ev d 225 548 ls st m := q_ite (a := (1266, ls, st, m)) (b := (548, ls, st, m)) (show am_row 225 545 = some (.if_icmp .eq 721, 3, 0, 0, 0, 0) from rfl) rfl
set_option maxRecDepth 20000 in
theorem e225_548 {d : Nat} {ls : am_L} {st : List Value} {m : am_M} : ev d 225 548 ls st m = ev d 225 549 ls (.int (nI 0) :: st) m := q_nx (show am_row 225 548 = some (.iconst 0, 1, 0, 0, 0, 0) from rfl) rfl
set_option maxRecDepth 20000 in
theorem e225_549 {d : Nat} {ls : am_L} {m : am_M} {x : Int32} (hb : am_bb x = true) : ev d 225 549 ls [.int x] m = some (some (.int x), m) := q_zret (show am_row 225 549 = some (.ireturn, 1, 1, 0, 0, 0) from rfl) hb
set_option maxRecDepth 20000 in
theorem e225_550 {d : Nat} {ls : am_L} {st : List Value} {m : am_M} {l0 : Option Value} {x : Nat} : ev d 225 550 (l0 :: some (.ref x) :: ls) st m = ev d 225 551 (l0 :: some (.ref x) :: ls) (.ref x :: st) m := q_nx (show am_row 225 550 = some (.aload_n 1, 1, 0, 0, 0, 0) from rfl) rfl
set_option maxRecDepth 20000 in
theorem e225_551 {d : Nat} {ls : am_L} {st : List Value} {m : am_M} {x : Nat} : ev d 225 551 (some (.ref x) :: ls) st m = ev d 225 552 (some (.ref x) :: ls) (.ref x :: st) m := q_nx (show am_row 225 551 = some (.aload_n 0, 1, 0, 0, 0, 0) from rfl) rfl
set_option maxRecDepth 20000 in
theorem e225_552 {d : Nat} {ls : am_L} {st : List Value} {m : am_M} {l0 : Option Value} {l1 : Option Value} {l2 : Option Value} {x : Int32} : ev d 225 552 (l0 :: l1 :: l2 :: some (.int x) :: ls) st m = ev d 225 553 (l0 :: l1 :: l2 :: some (.int x) :: ls) (.int x :: st) m := q_nx (show am_row 225 552 = some (.iload_n 3, 1, 0, 0, 0, 0) from rfl) rfl
set_option maxRecDepth 20000 in
theorem e225_553 {d : Nat} {ls : am_L} {st : List Value} {m : am_M} : ev d 225 553 ls st m = ev d 225 554 ls (.int (nI 1) :: st) m := q_nx (show am_row 225 553 = some (.iconst 1, 1, 0, 0, 0, 0) from rfl) rfl
set_option maxRecDepth 20000 in
theorem e225_554 {d : Nat} {ls : am_L} {st : List Value} {m : am_M} {x y : Int32} : ev d 225 554 ls (.int y :: .int x :: st) m = ev d 225 555 ls (.int (x + y) :: st) m := q_nx (show am_row 225 554 = some (.iadd, 1, 0, 0, 0, 0) from rfl) rfl
set_option maxRecDepth 20000 in
theorem e225_555 {d : Nat} {ls : am_L} {st : List Value} {m : am_M} {a : Nat} {i : Int32} (hK : (mK m a).1 = 6) (hi : am_ix i (mK m a).2.2 = true) : ev d 225 555 ls (.int i :: .ref a :: st) m = ev d 225 556 ls (.int (mI m a i.toNatClampNeg) :: st) m := q_sald (show am_row 225 555 = some (.iaload, 1, 0, 0, 0, 0) from rfl) hK hi
set_option maxRecDepth 20000 in
theorem e225_556 {d : Nat} {ls : am_L} {st : List Value} {m : am_M} {x : Nat} : ev d 225 556 (some (.ref x) :: ls) st m = ev d 225 557 (some (.ref x) :: ls) (.ref x :: st) m := q_nx (show am_row 225 556 = some (.aload_n 0, 1, 0, 0, 0, 0) from rfl) rfl
set_option maxRecDepth 20000 in
theorem e225_557 {d : Nat} {ls : am_L} {st : List Value} {m : am_M} {l0 : Option Value} {l1 : Option Value} {l2 : Option Value} {x : Int32} : ev d 225 557 (l0 :: l1 :: l2 :: some (.int x) :: ls) st m = ev d 225 558 (l0 :: l1 :: l2 :: some (.int x) :: ls) (.int x :: st) m := q_nx (show am_row 225 557 = some (.iload_n 3, 1, 0, 0, 0, 0) from rfl) rfl
set_option maxRecDepth 20000 in
theorem e225_558 {d : Nat} {ls : am_L} {st : List Value} {m : am_M} : ev d 225 558 ls st m = ev d 225 559 ls (.int (nI 2) :: st) m := q_nx (show am_row 225 558 = some (.iconst 2, 1, 0, 0, 0, 0) from rfl) rfl
set_option maxRecDepth 20000 in
theorem e225_559 {d : Nat} {ls : am_L} {st : List Value} {m : am_M} {x y : Int32} : ev d 225 559 ls (.int y :: .int x :: st) m = ev d 225 560 ls (.int (x + y) :: st) m := q_nx (show am_row 225 559 = some (.iadd, 1, 0, 0, 0, 0) from rfl) rfl
set_option maxRecDepth 20000 in
theorem e225_560 {d : Nat} {ls : am_L} {st : List Value} {m : am_M} {a : Nat} {i : Int32} (hK : (mK m a).1 = 6) (hi : am_ix i (mK m a).2.2 = true) : ev d 225 560 ls (.int i :: .ref a :: st) m = ev d 225 561 ls (.int (mI m a i.toNatClampNeg) :: st) m := q_sald (show am_row 225 560 = some (.iaload, 1, 0, 0, 0, 0) from rfl) hK hi
set_option maxRecDepth 20000 in
theorem e225_561 {d : Nat} {ls : am_L} {st : List Value} {m : am_M} {x : Nat} : ev d 225 561 (some (.ref x) :: ls) st m = ev d 225 562 (some (.ref x) :: ls) (.ref x :: st) m := q_nx (show am_row 225 561 = some (.aload_n 0, 1, 0, 0, 0, 0) from rfl) rfl
set_option maxRecDepth 20000 in
theorem e225_562 {d : Nat} {ls : am_L} {st : List Value} {m : am_M} {l0 : Option Value} {l1 : Option Value} {l2 : Option Value} {x : Int32} : ev d 225 562 (l0 :: l1 :: l2 :: some (.int x) :: ls) st m = ev d 225 563 (l0 :: l1 :: l2 :: some (.int x) :: ls) (.int x :: st) m := q_nx (show am_row 225 562 = some (.iload_n 3, 1, 0, 0, 0, 0) from rfl) rfl
set_option maxRecDepth 20000 in
theorem e225_563 {d : Nat} {ls : am_L} {st : List Value} {m : am_M} : ev d 225 563 ls st m = ev d 225 564 ls (.int (nI 3) :: st) m := q_nx (show am_row 225 563 = some (.iconst 3, 1, 0, 0, 0, 0) from rfl) rfl
set_option maxRecDepth 20000 in
theorem e225_564 {d : Nat} {ls : am_L} {st : List Value} {m : am_M} {x y : Int32} : ev d 225 564 ls (.int y :: .int x :: st) m = ev d 225 565 ls (.int (x + y) :: st) m := q_nx (show am_row 225 564 = some (.iadd, 1, 0, 0, 0, 0) from rfl) rfl
set_option maxRecDepth 20000 in
theorem e225_565 {d : Nat} {ls : am_L} {st : List Value} {m : am_M} {a : Nat} {i : Int32} (hK : (mK m a).1 = 6) (hi : am_ix i (mK m a).2.2 = true) : ev d 225 565 ls (.int i :: .ref a :: st) m = ev d 225 566 ls (.int (mI m a i.toNatClampNeg) :: st) m := q_sald (show am_row 225 565 = some (.iaload, 1, 0, 0, 0, 0) from rfl) hK hi
set_option maxRecDepth 20000 in
theorem e225_566 {d : Nat} {ls : am_L} {st : List Value} {m : am_M} {x : Nat} : ev d 225 566 (some (.ref x) :: ls) st m = ev d 225 567 (some (.ref x) :: ls) (.ref x :: st) m := q_nx (show am_row 225 566 = some (.aload_n 0, 1, 0, 0, 0, 0) from rfl) rfl
set_option maxRecDepth 20000 in
theorem e225_567 {d : Nat} {ls : am_L} {st : List Value} {m : am_M} {l0 : Option Value} {l1 : Option Value} {l2 : Option Value} {x : Int32} : ev d 225 567 (l0 :: l1 :: l2 :: some (.int x) :: ls) st m = ev d 225 568 (l0 :: l1 :: l2 :: some (.int x) :: ls) (.int x :: st) m := q_nx (show am_row 225 567 = some (.iload_n 3, 1, 0, 0, 0, 0) from rfl) rfl
set_option maxRecDepth 20000 in
theorem e225_568 {d : Nat} {ls : am_L} {st : List Value} {m : am_M} : ev d 225 568 ls st m = ev d 225 569 ls (.int (nI 4) :: st) m := q_nx (show am_row 225 568 = some (.iconst 4, 1, 0, 0, 0, 0) from rfl) rfl
set_option maxRecDepth 20000 in
theorem e225_569 {d : Nat} {ls : am_L} {st : List Value} {m : am_M} {x y : Int32} : ev d 225 569 ls (.int y :: .int x :: st) m = ev d 225 570 ls (.int (x + y) :: st) m := q_nx (show am_row 225 569 = some (.iadd, 1, 0, 0, 0, 0) from rfl) rfl
set_option maxRecDepth 20000 in
theorem e225_570 {d : Nat} {ls : am_L} {st : List Value} {m : am_M} {a : Nat} {i : Int32} (hK : (mK m a).1 = 6) (hi : am_ix i (mK m a).2.2 = true) : ev d 225 570 ls (.int i :: .ref a :: st) m = ev d 225 571 ls (.int (mI m a i.toNatClampNeg) :: st) m := q_sald (show am_row 225 570 = some (.iaload, 1, 0, 0, 0, 0) from rfl) hK hi
set_option maxRecDepth 20000 in
theorem e225_571 {d : Nat} {ls : am_L} {st : List Value} {m : am_M} {x : Nat} : ev d 225 571 (some (.ref x) :: ls) st m = ev d 225 572 (some (.ref x) :: ls) (.ref x :: st) m := q_nx (show am_row 225 571 = some (.aload_n 0, 1, 0, 0, 0, 0) from rfl) rfl
set_option maxRecDepth 20000 in
theorem e225_572 {d : Nat} {ls : am_L} {st : List Value} {m : am_M} {l0 : Option Value} {l1 : Option Value} {l2 : Option Value} {x : Int32} : ev d 225 572 (l0 :: l1 :: l2 :: some (.int x) :: ls) st m = ev d 225 573 (l0 :: l1 :: l2 :: some (.int x) :: ls) (.int x :: st) m := q_nx (show am_row 225 572 = some (.iload_n 3, 1, 0, 0, 0, 0) from rfl) rfl
set_option maxRecDepth 20000 in
theorem e225_573 {d : Nat} {ls : am_L} {st : List Value} {m : am_M} : ev d 225 573 ls st m = ev d 225 574 ls (.int (nI 5) :: st) m := q_nx (show am_row 225 573 = some (.iconst 5, 1, 0, 0, 0, 0) from rfl) rfl
set_option maxRecDepth 20000 in
theorem e225_574 {d : Nat} {ls : am_L} {st : List Value} {m : am_M} {x y : Int32} : ev d 225 574 ls (.int y :: .int x :: st) m = ev d 225 575 ls (.int (x + y) :: st) m := q_nx (show am_row 225 574 = some (.iadd, 1, 0, 0, 0, 0) from rfl) rfl
set_option maxRecDepth 20000 in
theorem e225_575 {d : Nat} {ls : am_L} {st : List Value} {m : am_M} {a : Nat} {i : Int32} (hK : (mK m a).1 = 6) (hi : am_ix i (mK m a).2.2 = true) : ev d 225 575 ls (.int i :: .ref a :: st) m = ev d 225 576 ls (.int (mI m a i.toNatClampNeg) :: st) m := q_sald (show am_row 225 575 = some (.iaload, 1, 0, 0, 0, 0) from rfl) hK hi
set_option maxRecDepth 20000 in
theorem e225_576 {d : Nat} {ls : am_L} {st : List Value} {m : am_M} {a : Nat} {v0 : Int32} {v1 : Int32} {v2 : Int32} {v3 : Int32} {v4 : Int32} (hK : mK m a = (1, 9, 0)) (hw : am_w st ≤ 8) : ev (d + 1) 225 576 ls (.int v4 :: .int v3 :: .int v2 :: .int v1 :: .int v0 :: .ref a :: st) m = am_k (cal d 100 [.ref a, .int v0, .int v1, .int v2, .int v3, .int v4] m) (fun v m'' => ev (d + 1) 225 579 ls (v.toList ++ st) m'') := q_cl (show am_row 225 576 = some (.invokevirtual 57, 3, 100, 0, 0, 600) from rfl) rfl (if_pos ⟨hK, (by show 5 ≤ _; simp only [List.length_cons]; omega), hw⟩)
set_option maxRecDepth 20000 in
theorem e225_579 {d : Nat} {ls : am_L} {st : List Value} {m : am_M} {l0 : Option Value} {l1 : Option Value} {x : Nat} : ev d 225 579 (l0 :: l1 :: some (.ref x) :: ls) st m = ev d 225 580 (l0 :: l1 :: some (.ref x) :: ls) (.ref x :: st) m := q_nx (show am_row 225 579 = some (.aload_n 2, 1, 0, 0, 0, 0) from rfl) rfl
set_option maxRecDepth 20000 in
theorem e225_580 {d : Nat} {ls : am_L} {st : List Value} {m : am_M} {x : Nat} : ev d 225 580 (some (.ref x) :: ls) st m = ev d 225 581 (some (.ref x) :: ls) (.ref x :: st) m := q_nx (show am_row 225 580 = some (.aload_n 0, 1, 0, 0, 0, 0) from rfl) rfl
set_option maxRecDepth 20000 in
theorem e225_581 {d : Nat} {ls : am_L} {st : List Value} {m : am_M} {l0 : Option Value} {l1 : Option Value} {l2 : Option Value} {x : Int32} : ev d 225 581 (l0 :: l1 :: l2 :: some (.int x) :: ls) st m = ev d 225 582 (l0 :: l1 :: l2 :: some (.int x) :: ls) (.int x :: st) m := q_nx (show am_row 225 581 = some (.iload_n 3, 1, 0, 0, 0, 0) from rfl) rfl
set_option maxRecDepth 20000 in
theorem e225_582 {d : Nat} {ls : am_L} {st : List Value} {m : am_M} : ev d 225 582 ls st m = ev d 225 583 ls (.int (nI 1) :: st) m := q_nx (show am_row 225 582 = some (.iconst 1, 1, 0, 0, 0, 0) from rfl) rfl
set_option maxRecDepth 20000 in
theorem e225_583 {d : Nat} {ls : am_L} {st : List Value} {m : am_M} {x y : Int32} : ev d 225 583 ls (.int y :: .int x :: st) m = ev d 225 584 ls (.int (x + y) :: st) m := q_nx (show am_row 225 583 = some (.iadd, 1, 0, 0, 0, 0) from rfl) rfl
set_option maxRecDepth 20000 in
theorem e225_584 {d : Nat} {ls : am_L} {st : List Value} {m : am_M} {a : Nat} {i : Int32} (hK : (mK m a).1 = 6) (hi : am_ix i (mK m a).2.2 = true) : ev d 225 584 ls (.int i :: .ref a :: st) m = ev d 225 585 ls (.int (mI m a i.toNatClampNeg) :: st) m := q_sald (show am_row 225 584 = some (.iaload, 1, 0, 0, 0, 0) from rfl) hK hi
set_option maxRecDepth 20000 in
theorem e225_585 {d : Nat} {ls : am_L} {st : List Value} {m : am_M} {x : Nat} : ev d 225 585 (some (.ref x) :: ls) st m = ev d 225 586 (some (.ref x) :: ls) (.ref x :: st) m := q_nx (show am_row 225 585 = some (.aload_n 0, 1, 0, 0, 0, 0) from rfl) rfl
set_option maxRecDepth 20000 in
theorem e225_586 {d : Nat} {ls : am_L} {st : List Value} {m : am_M} {l0 : Option Value} {l1 : Option Value} {l2 : Option Value} {x : Int32} : ev d 225 586 (l0 :: l1 :: l2 :: some (.int x) :: ls) st m = ev d 225 587 (l0 :: l1 :: l2 :: some (.int x) :: ls) (.int x :: st) m := q_nx (show am_row 225 586 = some (.iload_n 3, 1, 0, 0, 0, 0) from rfl) rfl
set_option maxRecDepth 20000 in
theorem e225_587 {d : Nat} {ls : am_L} {st : List Value} {m : am_M} : ev d 225 587 ls st m = ev d 225 588 ls (.int (nI 2) :: st) m := q_nx (show am_row 225 587 = some (.iconst 2, 1, 0, 0, 0, 0) from rfl) rfl
set_option maxRecDepth 20000 in
theorem e225_588 {d : Nat} {ls : am_L} {st : List Value} {m : am_M} {x y : Int32} : ev d 225 588 ls (.int y :: .int x :: st) m = ev d 225 589 ls (.int (x + y) :: st) m := q_nx (show am_row 225 588 = some (.iadd, 1, 0, 0, 0, 0) from rfl) rfl
set_option maxRecDepth 20000 in
theorem e225_589 {d : Nat} {ls : am_L} {st : List Value} {m : am_M} {a : Nat} {i : Int32} (hK : (mK m a).1 = 6) (hi : am_ix i (mK m a).2.2 = true) : ev d 225 589 ls (.int i :: .ref a :: st) m = ev d 225 590 ls (.int (mI m a i.toNatClampNeg) :: st) m := q_sald (show am_row 225 589 = some (.iaload, 1, 0, 0, 0, 0) from rfl) hK hi
set_option maxRecDepth 20000 in
theorem e225_590 {d : Nat} {ls : am_L} {st : List Value} {m : am_M} {x : Nat} : ev d 225 590 (some (.ref x) :: ls) st m = ev d 225 591 (some (.ref x) :: ls) (.ref x :: st) m := q_nx (show am_row 225 590 = some (.aload_n 0, 1, 0, 0, 0, 0) from rfl) rfl
set_option maxRecDepth 20000 in
theorem e225_591 {d : Nat} {ls : am_L} {st : List Value} {m : am_M} {l0 : Option Value} {l1 : Option Value} {l2 : Option Value} {x : Int32} : ev d 225 591 (l0 :: l1 :: l2 :: some (.int x) :: ls) st m = ev d 225 592 (l0 :: l1 :: l2 :: some (.int x) :: ls) (.int x :: st) m := q_nx (show am_row 225 591 = some (.iload_n 3, 1, 0, 0, 0, 0) from rfl) rfl
set_option maxRecDepth 20000 in
theorem e225_592 {d : Nat} {ls : am_L} {st : List Value} {m : am_M} : ev d 225 592 ls st m = ev d 225 593 ls (.int (nI 3) :: st) m := q_nx (show am_row 225 592 = some (.iconst 3, 1, 0, 0, 0, 0) from rfl) rfl
set_option maxRecDepth 20000 in
theorem e225_593 {d : Nat} {ls : am_L} {st : List Value} {m : am_M} {x y : Int32} : ev d 225 593 ls (.int y :: .int x :: st) m = ev d 225 594 ls (.int (x + y) :: st) m := q_nx (show am_row 225 593 = some (.iadd, 1, 0, 0, 0, 0) from rfl) rfl
set_option maxRecDepth 20000 in
theorem e225_594 {d : Nat} {ls : am_L} {st : List Value} {m : am_M} {a : Nat} {i : Int32} (hK : (mK m a).1 = 6) (hi : am_ix i (mK m a).2.2 = true) : ev d 225 594 ls (.int i :: .ref a :: st) m = ev d 225 595 ls (.int (mI m a i.toNatClampNeg) :: st) m := q_sald (show am_row 225 594 = some (.iaload, 1, 0, 0, 0, 0) from rfl) hK hi
set_option maxRecDepth 20000 in
theorem e225_595 {d : Nat} {ls : am_L} {st : List Value} {m : am_M} {x : Nat} : ev d 225 595 (some (.ref x) :: ls) st m = ev d 225 596 (some (.ref x) :: ls) (.ref x :: st) m := q_nx (show am_row 225 595 = some (.aload_n 0, 1, 0, 0, 0, 0) from rfl) rfl
set_option maxRecDepth 20000 in
theorem e225_596 {d : Nat} {ls : am_L} {st : List Value} {m : am_M} {l0 : Option Value} {l1 : Option Value} {l2 : Option Value} {x : Int32} : ev d 225 596 (l0 :: l1 :: l2 :: some (.int x) :: ls) st m = ev d 225 597 (l0 :: l1 :: l2 :: some (.int x) :: ls) (.int x :: st) m := q_nx (show am_row 225 596 = some (.iload_n 3, 1, 0, 0, 0, 0) from rfl) rfl
set_option maxRecDepth 20000 in
theorem e225_597 {d : Nat} {ls : am_L} {st : List Value} {m : am_M} : ev d 225 597 ls st m = ev d 225 598 ls (.int (nI 4) :: st) m := q_nx (show am_row 225 597 = some (.iconst 4, 1, 0, 0, 0, 0) from rfl) rfl
set_option maxRecDepth 20000 in
theorem e225_598 {d : Nat} {ls : am_L} {st : List Value} {m : am_M} {x y : Int32} : ev d 225 598 ls (.int y :: .int x :: st) m = ev d 225 599 ls (.int (x + y) :: st) m := q_nx (show am_row 225 598 = some (.iadd, 1, 0, 0, 0, 0) from rfl) rfl
set_option maxRecDepth 20000 in
theorem e225_599 {d : Nat} {ls : am_L} {st : List Value} {m : am_M} {a : Nat} {i : Int32} (hK : (mK m a).1 = 6) (hi : am_ix i (mK m a).2.2 = true) : ev d 225 599 ls (.int i :: .ref a :: st) m = ev d 225 600 ls (.int (mI m a i.toNatClampNeg) :: st) m := q_sald (show am_row 225 599 = some (.iaload, 1, 0, 0, 0, 0) from rfl) hK hi
set_option maxRecDepth 20000 in
theorem e225_600 {d : Nat} {ls : am_L} {st : List Value} {m : am_M} {x : Nat} : ev d 225 600 (some (.ref x) :: ls) st m = ev d 225 601 (some (.ref x) :: ls) (.ref x :: st) m := q_nx (show am_row 225 600 = some (.aload_n 0, 1, 0, 0, 0, 0) from rfl) rfl
set_option maxRecDepth 20000 in
theorem e225_601 {d : Nat} {ls : am_L} {st : List Value} {m : am_M} {l0 : Option Value} {l1 : Option Value} {l2 : Option Value} {x : Int32} : ev d 225 601 (l0 :: l1 :: l2 :: some (.int x) :: ls) st m = ev d 225 602 (l0 :: l1 :: l2 :: some (.int x) :: ls) (.int x :: st) m := q_nx (show am_row 225 601 = some (.iload_n 3, 1, 0, 0, 0, 0) from rfl) rfl
set_option maxRecDepth 20000 in
theorem e225_602 {d : Nat} {ls : am_L} {st : List Value} {m : am_M} : ev d 225 602 ls st m = ev d 225 603 ls (.int (nI 5) :: st) m := q_nx (show am_row 225 602 = some (.iconst 5, 1, 0, 0, 0, 0) from rfl) rfl
set_option maxRecDepth 20000 in
theorem e225_603 {d : Nat} {ls : am_L} {st : List Value} {m : am_M} {x y : Int32} : ev d 225 603 ls (.int y :: .int x :: st) m = ev d 225 604 ls (.int (x + y) :: st) m := q_nx (show am_row 225 603 = some (.iadd, 1, 0, 0, 0, 0) from rfl) rfl
set_option maxRecDepth 20000 in
theorem e225_604 {d : Nat} {ls : am_L} {st : List Value} {m : am_M} {a : Nat} {i : Int32} (hK : (mK m a).1 = 6) (hi : am_ix i (mK m a).2.2 = true) : ev d 225 604 ls (.int i :: .ref a :: st) m = ev d 225 605 ls (.int (mI m a i.toNatClampNeg) :: st) m := q_sald (show am_row 225 604 = some (.iaload, 1, 0, 0, 0, 0) from rfl) hK hi
set_option maxRecDepth 20000 in
theorem e225_605 {d : Nat} {ls : am_L} {st : List Value} {m : am_M} {a : Nat} {v0 : Int32} {v1 : Int32} {v2 : Int32} {v3 : Int32} {v4 : Int32} (hK : mK m a = (1, 10, 0)) (hw : am_w st ≤ 8) : ev (d + 1) 225 605 ls (.int v4 :: .int v3 :: .int v2 :: .int v1 :: .int v0 :: .ref a :: st) m = am_k (cal d 174 [.ref a, .int v0, .int v1, .int v2, .int v3, .int v4] m) (fun v m'' => ev (d + 1) 225 608 ls (v.toList ++ st) m'') := q_cl (show am_row 225 605 = some (.invokevirtual 60, 3, 174, 0, 0, 1220) from rfl) rfl (if_pos ⟨hK, (by show 5 ≤ _; simp only [List.length_cons]; omega), hw⟩)
set_option maxRecDepth 20000 in
theorem e225_608 {d : Nat} {ls : am_L} {st : List Value} {m : am_M} {x y : Int32} : ev d 225 608 ls (.int y :: .int x :: st) m = if x = y then ev d 225 1266 ls st m else ev d 225 611 ls st m := q_ite (a := (1266, ls, st, m)) (b := (611, ls, st, m)) (show am_row 225 608 = some (.if_icmp .eq 658, 3, 0, 0, 0, 0) from rfl) rfl
set_option maxRecDepth 20000 in
theorem e225_611 {d : Nat} {ls : am_L} {st : List Value} {m : am_M} : ev d 225 611 ls st m = ev d 225 612 ls (.int (nI 0) :: st) m := q_nx (show am_row 225 611 = some (.iconst 0, 1, 0, 0, 0, 0) from rfl) rfl
set_option maxRecDepth 20000 in
theorem e225_612 {d : Nat} {ls : am_L} {m : am_M} {x : Int32} (hb : am_bb x = true) : ev d 225 612 ls [.int x] m = some (some (.int x), m) := q_zret (show am_row 225 612 = some (.ireturn, 1, 1, 0, 0, 0) from rfl) hb
set_option maxRecDepth 20000 in
theorem e225_613 {d : Nat} {ls : am_L} {st : List Value} {m : am_M} {l0 : Option Value} {x : Nat} : ev d 225 613 (l0 :: some (.ref x) :: ls) st m = ev d 225 614 (l0 :: some (.ref x) :: ls) (.ref x :: st) m := q_nx (show am_row 225 613 = some (.aload_n 1, 1, 0, 0, 0, 0) from rfl) rfl
set_option maxRecDepth 20000 in
theorem e225_614 {d : Nat} {ls : am_L} {st : List Value} {m : am_M} {x : Nat} : ev d 225 614 (some (.ref x) :: ls) st m = ev d 225 615 (some (.ref x) :: ls) (.ref x :: st) m := q_nx (show am_row 225 614 = some (.aload_n 0, 1, 0, 0, 0, 0) from rfl) rfl
set_option maxRecDepth 20000 in
theorem e225_615 {d : Nat} {ls : am_L} {st : List Value} {m : am_M} {l0 : Option Value} {l1 : Option Value} {l2 : Option Value} {x : Int32} : ev d 225 615 (l0 :: l1 :: l2 :: some (.int x) :: ls) st m = ev d 225 616 (l0 :: l1 :: l2 :: some (.int x) :: ls) (.int x :: st) m := q_nx (show am_row 225 615 = some (.iload_n 3, 1, 0, 0, 0, 0) from rfl) rfl
set_option maxRecDepth 20000 in
theorem e225_616 {d : Nat} {ls : am_L} {st : List Value} {m : am_M} : ev d 225 616 ls st m = ev d 225 617 ls (.int (nI 1) :: st) m := q_nx (show am_row 225 616 = some (.iconst 1, 1, 0, 0, 0, 0) from rfl) rfl
set_option maxRecDepth 20000 in
theorem e225_617 {d : Nat} {ls : am_L} {st : List Value} {m : am_M} {x y : Int32} : ev d 225 617 ls (.int y :: .int x :: st) m = ev d 225 618 ls (.int (x + y) :: st) m := q_nx (show am_row 225 617 = some (.iadd, 1, 0, 0, 0, 0) from rfl) rfl
set_option maxRecDepth 20000 in
theorem e225_618 {d : Nat} {ls : am_L} {st : List Value} {m : am_M} {a : Nat} {i : Int32} (hK : (mK m a).1 = 6) (hi : am_ix i (mK m a).2.2 = true) : ev d 225 618 ls (.int i :: .ref a :: st) m = ev d 225 619 ls (.int (mI m a i.toNatClampNeg) :: st) m := q_sald (show am_row 225 618 = some (.iaload, 1, 0, 0, 0, 0) from rfl) hK hi
set_option maxRecDepth 20000 in
theorem e225_619 {d : Nat} {ls : am_L} {st : List Value} {m : am_M} {x : Nat} : ev d 225 619 (some (.ref x) :: ls) st m = ev d 225 620 (some (.ref x) :: ls) (.ref x :: st) m := q_nx (show am_row 225 619 = some (.aload_n 0, 1, 0, 0, 0, 0) from rfl) rfl
set_option maxRecDepth 20000 in
theorem e225_620 {d : Nat} {ls : am_L} {st : List Value} {m : am_M} {l0 : Option Value} {l1 : Option Value} {l2 : Option Value} {x : Int32} : ev d 225 620 (l0 :: l1 :: l2 :: some (.int x) :: ls) st m = ev d 225 621 (l0 :: l1 :: l2 :: some (.int x) :: ls) (.int x :: st) m := q_nx (show am_row 225 620 = some (.iload_n 3, 1, 0, 0, 0, 0) from rfl) rfl
set_option maxRecDepth 20000 in
theorem e225_621 {d : Nat} {ls : am_L} {st : List Value} {m : am_M} : ev d 225 621 ls st m = ev d 225 622 ls (.int (nI 2) :: st) m := q_nx (show am_row 225 621 = some (.iconst 2, 1, 0, 0, 0, 0) from rfl) rfl
set_option maxRecDepth 20000 in
theorem e225_622 {d : Nat} {ls : am_L} {st : List Value} {m : am_M} {x y : Int32} : ev d 225 622 ls (.int y :: .int x :: st) m = ev d 225 623 ls (.int (x + y) :: st) m := q_nx (show am_row 225 622 = some (.iadd, 1, 0, 0, 0, 0) from rfl) rfl
set_option maxRecDepth 20000 in
theorem e225_623 {d : Nat} {ls : am_L} {st : List Value} {m : am_M} {a : Nat} {i : Int32} (hK : (mK m a).1 = 6) (hi : am_ix i (mK m a).2.2 = true) : ev d 225 623 ls (.int i :: .ref a :: st) m = ev d 225 624 ls (.int (mI m a i.toNatClampNeg) :: st) m := q_sald (show am_row 225 623 = some (.iaload, 1, 0, 0, 0, 0) from rfl) hK hi
set_option maxRecDepth 20000 in
theorem e225_624 {d : Nat} {ls : am_L} {st : List Value} {m : am_M} {a : Nat} {v0 : Int32} {v1 : Int32} (hK : mK m a = (1, 9, 0)) (hw : am_w st ≤ 8) : ev (d + 1) 225 624 ls (.int v1 :: .int v0 :: .ref a :: st) m = am_k (cal d 101 [.ref a, .int v0, .int v1] m) (fun v m'' => ev (d + 1) 225 627 ls (v.toList ++ st) m'') := q_cl (show am_row 225 624 = some (.invokevirtual 61, 3, 101, 0, 0, 618) from rfl) rfl (if_pos ⟨hK, (by show 2 ≤ _; simp only [List.length_cons]; omega), hw⟩)
set_option maxRecDepth 20000 in
theorem e225_627 {d : Nat} {ls : am_L} {st : List Value} {m : am_M} {l0 : Option Value} {l1 : Option Value} {x : Nat} : ev d 225 627 (l0 :: l1 :: some (.ref x) :: ls) st m = ev d 225 628 (l0 :: l1 :: some (.ref x) :: ls) (.ref x :: st) m := q_nx (show am_row 225 627 = some (.aload_n 2, 1, 0, 0, 0, 0) from rfl) rfl
set_option maxRecDepth 20000 in
theorem e225_628 {d : Nat} {ls : am_L} {st : List Value} {m : am_M} {x : Nat} : ev d 225 628 (some (.ref x) :: ls) st m = ev d 225 629 (some (.ref x) :: ls) (.ref x :: st) m := q_nx (show am_row 225 628 = some (.aload_n 0, 1, 0, 0, 0, 0) from rfl) rfl
set_option maxRecDepth 20000 in
theorem e225_629 {d : Nat} {ls : am_L} {st : List Value} {m : am_M} {l0 : Option Value} {l1 : Option Value} {l2 : Option Value} {x : Int32} : ev d 225 629 (l0 :: l1 :: l2 :: some (.int x) :: ls) st m = ev d 225 630 (l0 :: l1 :: l2 :: some (.int x) :: ls) (.int x :: st) m := q_nx (show am_row 225 629 = some (.iload_n 3, 1, 0, 0, 0, 0) from rfl) rfl
set_option maxRecDepth 20000 in
theorem e225_630 {d : Nat} {ls : am_L} {st : List Value} {m : am_M} : ev d 225 630 ls st m = ev d 225 631 ls (.int (nI 1) :: st) m := q_nx (show am_row 225 630 = some (.iconst 1, 1, 0, 0, 0, 0) from rfl) rfl
set_option maxRecDepth 20000 in
theorem e225_631 {d : Nat} {ls : am_L} {st : List Value} {m : am_M} {x y : Int32} : ev d 225 631 ls (.int y :: .int x :: st) m = ev d 225 632 ls (.int (x + y) :: st) m := q_nx (show am_row 225 631 = some (.iadd, 1, 0, 0, 0, 0) from rfl) rfl
set_option maxRecDepth 20000 in
theorem e225_632 {d : Nat} {ls : am_L} {st : List Value} {m : am_M} {a : Nat} {i : Int32} (hK : (mK m a).1 = 6) (hi : am_ix i (mK m a).2.2 = true) : ev d 225 632 ls (.int i :: .ref a :: st) m = ev d 225 633 ls (.int (mI m a i.toNatClampNeg) :: st) m := q_sald (show am_row 225 632 = some (.iaload, 1, 0, 0, 0, 0) from rfl) hK hi
set_option maxRecDepth 20000 in
theorem e225_633 {d : Nat} {ls : am_L} {st : List Value} {m : am_M} {x : Nat} : ev d 225 633 (some (.ref x) :: ls) st m = ev d 225 634 (some (.ref x) :: ls) (.ref x :: st) m := q_nx (show am_row 225 633 = some (.aload_n 0, 1, 0, 0, 0, 0) from rfl) rfl
set_option maxRecDepth 20000 in
theorem e225_634 {d : Nat} {ls : am_L} {st : List Value} {m : am_M} {l0 : Option Value} {l1 : Option Value} {l2 : Option Value} {x : Int32} : ev d 225 634 (l0 :: l1 :: l2 :: some (.int x) :: ls) st m = ev d 225 635 (l0 :: l1 :: l2 :: some (.int x) :: ls) (.int x :: st) m := q_nx (show am_row 225 634 = some (.iload_n 3, 1, 0, 0, 0, 0) from rfl) rfl
set_option maxRecDepth 20000 in
theorem e225_635 {d : Nat} {ls : am_L} {st : List Value} {m : am_M} : ev d 225 635 ls st m = ev d 225 636 ls (.int (nI 2) :: st) m := q_nx (show am_row 225 635 = some (.iconst 2, 1, 0, 0, 0, 0) from rfl) rfl
set_option maxRecDepth 20000 in
theorem e225_636 {d : Nat} {ls : am_L} {st : List Value} {m : am_M} {x y : Int32} : ev d 225 636 ls (.int y :: .int x :: st) m = ev d 225 637 ls (.int (x + y) :: st) m := q_nx (show am_row 225 636 = some (.iadd, 1, 0, 0, 0, 0) from rfl) rfl
set_option maxRecDepth 20000 in
theorem e225_637 {d : Nat} {ls : am_L} {st : List Value} {m : am_M} {a : Nat} {i : Int32} (hK : (mK m a).1 = 6) (hi : am_ix i (mK m a).2.2 = true) : ev d 225 637 ls (.int i :: .ref a :: st) m = ev d 225 638 ls (.int (mI m a i.toNatClampNeg) :: st) m := q_sald (show am_row 225 637 = some (.iaload, 1, 0, 0, 0, 0) from rfl) hK hi
set_option maxRecDepth 20000 in
theorem e225_638 {d : Nat} {ls : am_L} {st : List Value} {m : am_M} {a : Nat} {v0 : Int32} {v1 : Int32} (hK : mK m a = (1, 10, 0)) (hw : am_w st ≤ 8) : ev (d + 1) 225 638 ls (.int v1 :: .int v0 :: .ref a :: st) m = am_k (cal d 175 [.ref a, .int v0, .int v1] m) (fun v m'' => ev (d + 1) 225 641 ls (v.toList ++ st) m'') := q_cl (show am_row 225 638 = some (.invokevirtual 64, 3, 175, 0, 0, 1233) from rfl) rfl (if_pos ⟨hK, (by show 2 ≤ _; simp only [List.length_cons]; omega), hw⟩)
set_option maxRecDepth 20000 in
theorem e225_641 {d : Nat} {ls : am_L} {st : List Value} {m : am_M} {x y : Int32} : ev d 225 641 ls (.int y :: .int x :: st) m = if x = y then ev d 225 1266 ls st m else ev d 225 644 ls st m := q_ite (a := (1266, ls, st, m)) (b := (644, ls, st, m)) (show am_row 225 641 = some (.if_icmp .eq 625, 3, 0, 0, 0, 0) from rfl) rfl
set_option maxRecDepth 20000 in
theorem e225_644 {d : Nat} {ls : am_L} {st : List Value} {m : am_M} : ev d 225 644 ls st m = ev d 225 645 ls (.int (nI 0) :: st) m := q_nx (show am_row 225 644 = some (.iconst 0, 1, 0, 0, 0, 0) from rfl) rfl
set_option maxRecDepth 20000 in
theorem e225_645 {d : Nat} {ls : am_L} {m : am_M} {x : Int32} (hb : am_bb x = true) : ev d 225 645 ls [.int x] m = some (some (.int x), m) := q_zret (show am_row 225 645 = some (.ireturn, 1, 1, 0, 0, 0) from rfl) hb
set_option maxRecDepth 20000 in
theorem e225_646 {d : Nat} {ls : am_L} {st : List Value} {m : am_M} {l0 : Option Value} {x : Nat} : ev d 225 646 (l0 :: some (.ref x) :: ls) st m = ev d 225 647 (l0 :: some (.ref x) :: ls) (.ref x :: st) m := q_nx (show am_row 225 646 = some (.aload_n 1, 1, 0, 0, 0, 0) from rfl) rfl
set_option maxRecDepth 20000 in
theorem e225_647 {d : Nat} {ls : am_L} {st : List Value} {m : am_M} {x : Nat} : ev d 225 647 (some (.ref x) :: ls) st m = ev d 225 648 (some (.ref x) :: ls) (.ref x :: st) m := q_nx (show am_row 225 647 = some (.aload_n 0, 1, 0, 0, 0, 0) from rfl) rfl
set_option maxRecDepth 20000 in
theorem e225_648 {d : Nat} {ls : am_L} {st : List Value} {m : am_M} {l0 : Option Value} {l1 : Option Value} {l2 : Option Value} {x : Int32} : ev d 225 648 (l0 :: l1 :: l2 :: some (.int x) :: ls) st m = ev d 225 649 (l0 :: l1 :: l2 :: some (.int x) :: ls) (.int x :: st) m := q_nx (show am_row 225 648 = some (.iload_n 3, 1, 0, 0, 0, 0) from rfl) rfl
set_option maxRecDepth 20000 in
theorem e225_649 {d : Nat} {ls : am_L} {st : List Value} {m : am_M} : ev d 225 649 ls st m = ev d 225 650 ls (.int (nI 1) :: st) m := q_nx (show am_row 225 649 = some (.iconst 1, 1, 0, 0, 0, 0) from rfl) rfl
set_option maxRecDepth 20000 in
theorem e225_650 {d : Nat} {ls : am_L} {st : List Value} {m : am_M} {x y : Int32} : ev d 225 650 ls (.int y :: .int x :: st) m = ev d 225 651 ls (.int (x + y) :: st) m := q_nx (show am_row 225 650 = some (.iadd, 1, 0, 0, 0, 0) from rfl) rfl
set_option maxRecDepth 20000 in
theorem e225_651 {d : Nat} {ls : am_L} {st : List Value} {m : am_M} {a : Nat} {i : Int32} (hK : (mK m a).1 = 6) (hi : am_ix i (mK m a).2.2 = true) : ev d 225 651 ls (.int i :: .ref a :: st) m = ev d 225 652 ls (.int (mI m a i.toNatClampNeg) :: st) m := q_sald (show am_row 225 651 = some (.iaload, 1, 0, 0, 0, 0) from rfl) hK hi
set_option maxRecDepth 20000 in
theorem e225_652 {d : Nat} {ls : am_L} {st : List Value} {m : am_M} {a : Nat} {v0 : Int32} (hK : mK m a = (1, 9, 0)) (hw : am_w st ≤ 8) : ev (d + 1) 225 652 ls (.int v0 :: .ref a :: st) m = am_k (cal d 102 [.ref a, .int v0] m) (fun v m'' => ev (d + 1) 225 655 ls (v.toList ++ st) m'') := q_cl (show am_row 225 652 = some (.invokevirtual 65, 3, 102, 0, 0, 625) from rfl) rfl (if_pos ⟨hK, (by show 1 ≤ _; simp only [List.length_cons]; omega), hw⟩)
set_option maxRecDepth 20000 in
theorem e225_655 {d : Nat} {ls : am_L} {st : List Value} {m : am_M} {l0 : Option Value} {l1 : Option Value} {x : Nat} : ev d 225 655 (l0 :: l1 :: some (.ref x) :: ls) st m = ev d 225 656 (l0 :: l1 :: some (.ref x) :: ls) (.ref x :: st) m := q_nx (show am_row 225 655 = some (.aload_n 2, 1, 0, 0, 0, 0) from rfl) rfl
set_option maxRecDepth 20000 in
theorem e225_656 {d : Nat} {ls : am_L} {st : List Value} {m : am_M} {x : Nat} : ev d 225 656 (some (.ref x) :: ls) st m = ev d 225 657 (some (.ref x) :: ls) (.ref x :: st) m := q_nx (show am_row 225 656 = some (.aload_n 0, 1, 0, 0, 0, 0) from rfl) rfl
set_option maxRecDepth 20000 in
theorem e225_657 {d : Nat} {ls : am_L} {st : List Value} {m : am_M} {l0 : Option Value} {l1 : Option Value} {l2 : Option Value} {x : Int32} : ev d 225 657 (l0 :: l1 :: l2 :: some (.int x) :: ls) st m = ev d 225 658 (l0 :: l1 :: l2 :: some (.int x) :: ls) (.int x :: st) m := q_nx (show am_row 225 657 = some (.iload_n 3, 1, 0, 0, 0, 0) from rfl) rfl
set_option maxRecDepth 20000 in
theorem e225_658 {d : Nat} {ls : am_L} {st : List Value} {m : am_M} : ev d 225 658 ls st m = ev d 225 659 ls (.int (nI 1) :: st) m := q_nx (show am_row 225 658 = some (.iconst 1, 1, 0, 0, 0, 0) from rfl) rfl
set_option maxRecDepth 20000 in
theorem e225_659 {d : Nat} {ls : am_L} {st : List Value} {m : am_M} {x y : Int32} : ev d 225 659 ls (.int y :: .int x :: st) m = ev d 225 660 ls (.int (x + y) :: st) m := q_nx (show am_row 225 659 = some (.iadd, 1, 0, 0, 0, 0) from rfl) rfl
set_option maxRecDepth 20000 in
theorem e225_660 {d : Nat} {ls : am_L} {st : List Value} {m : am_M} {a : Nat} {i : Int32} (hK : (mK m a).1 = 6) (hi : am_ix i (mK m a).2.2 = true) : ev d 225 660 ls (.int i :: .ref a :: st) m = ev d 225 661 ls (.int (mI m a i.toNatClampNeg) :: st) m := q_sald (show am_row 225 660 = some (.iaload, 1, 0, 0, 0, 0) from rfl) hK hi
set_option maxRecDepth 20000 in
theorem e225_661 {d : Nat} {ls : am_L} {st : List Value} {m : am_M} {a : Nat} {v0 : Int32} (hK : mK m a = (1, 10, 0)) (hw : am_w st ≤ 8) : ev (d + 1) 225 661 ls (.int v0 :: .ref a :: st) m = am_k (cal d 176 [.ref a, .int v0] m) (fun v m'' => ev (d + 1) 225 664 ls (v.toList ++ st) m'') := q_cl (show am_row 225 661 = some (.invokevirtual 68, 3, 176, 0, 0, 1249) from rfl) rfl (if_pos ⟨hK, (by show 1 ≤ _; simp only [List.length_cons]; omega), hw⟩)
set_option maxRecDepth 20000 in
theorem e225_664 {d : Nat} {ls : am_L} {st : List Value} {m : am_M} {x y : Int32} : ev d 225 664 ls (.int y :: .int x :: st) m = if x = y then ev d 225 1266 ls st m else ev d 225 667 ls st m := q_ite (a := (1266, ls, st, m)) (b := (667, ls, st, m)) (show am_row 225 664 = some (.if_icmp .eq 602, 3, 0, 0, 0, 0) from rfl) rfl
set_option maxRecDepth 20000 in
theorem e225_667 {d : Nat} {ls : am_L} {st : List Value} {m : am_M} : ev d 225 667 ls st m = ev d 225 668 ls (.int (nI 0) :: st) m := q_nx (show am_row 225 667 = some (.iconst 0, 1, 0, 0, 0, 0) from rfl) rfl
set_option maxRecDepth 20000 in
theorem e225_668 {d : Nat} {ls : am_L} {m : am_M} {x : Int32} (hb : am_bb x = true) : ev d 225 668 ls [.int x] m = some (some (.int x), m) := q_zret (show am_row 225 668 = some (.ireturn, 1, 1, 0, 0, 0) from rfl) hb
set_option maxRecDepth 20000 in
theorem e225_669 {d : Nat} {ls : am_L} {st : List Value} {m : am_M} {l0 : Option Value} {x : Nat} : ev d 225 669 (l0 :: some (.ref x) :: ls) st m = ev d 225 670 (l0 :: some (.ref x) :: ls) (.ref x :: st) m := q_nx (show am_row 225 669 = some (.aload_n 1, 1, 0, 0, 0, 0) from rfl) rfl
set_option maxRecDepth 20000 in
theorem e225_670 {d : Nat} {ls : am_L} {st : List Value} {m : am_M} {x : Nat} : ev d 225 670 (some (.ref x) :: ls) st m = ev d 225 671 (some (.ref x) :: ls) (.ref x :: st) m := q_nx (show am_row 225 670 = some (.aload_n 0, 1, 0, 0, 0, 0) from rfl) rfl
set_option maxRecDepth 20000 in
theorem e225_671 {d : Nat} {ls : am_L} {st : List Value} {m : am_M} {l0 : Option Value} {l1 : Option Value} {l2 : Option Value} {x : Int32} : ev d 225 671 (l0 :: l1 :: l2 :: some (.int x) :: ls) st m = ev d 225 672 (l0 :: l1 :: l2 :: some (.int x) :: ls) (.int x :: st) m := q_nx (show am_row 225 671 = some (.iload_n 3, 1, 0, 0, 0, 0) from rfl) rfl
set_option maxRecDepth 20000 in
theorem e225_672 {d : Nat} {ls : am_L} {st : List Value} {m : am_M} : ev d 225 672 ls st m = ev d 225 673 ls (.int (nI 1) :: st) m := q_nx (show am_row 225 672 = some (.iconst 1, 1, 0, 0, 0, 0) from rfl) rfl
set_option maxRecDepth 20000 in
theorem e225_673 {d : Nat} {ls : am_L} {st : List Value} {m : am_M} {x y : Int32} : ev d 225 673 ls (.int y :: .int x :: st) m = ev d 225 674 ls (.int (x + y) :: st) m := q_nx (show am_row 225 673 = some (.iadd, 1, 0, 0, 0, 0) from rfl) rfl
set_option maxRecDepth 20000 in
theorem e225_674 {d : Nat} {ls : am_L} {st : List Value} {m : am_M} {a : Nat} {i : Int32} (hK : (mK m a).1 = 6) (hi : am_ix i (mK m a).2.2 = true) : ev d 225 674 ls (.int i :: .ref a :: st) m = ev d 225 675 ls (.int (mI m a i.toNatClampNeg) :: st) m := q_sald (show am_row 225 674 = some (.iaload, 1, 0, 0, 0, 0) from rfl) hK hi
set_option maxRecDepth 20000 in
theorem e225_675 {d : Nat} {ls : am_L} {st : List Value} {m : am_M} {a : Nat} {v0 : Int32} (hK : mK m a = (1, 9, 0)) (hw : am_w st ≤ 8) : ev (d + 1) 225 675 ls (.int v0 :: .ref a :: st) m = am_k (cal d 103 [.ref a, .int v0] m) (fun v m'' => ev (d + 1) 225 678 ls (v.toList ++ st) m'') := q_cl (show am_row 225 675 = some (.invokevirtual 69, 3, 103, 0, 0, 630) from rfl) rfl (if_pos ⟨hK, (by show 1 ≤ _; simp only [List.length_cons]; omega), hw⟩)
set_option maxRecDepth 20000 in
theorem e225_678 {d : Nat} {ls : am_L} {st : List Value} {m : am_M} {l0 : Option Value} {l1 : Option Value} {x : Nat} : ev d 225 678 (l0 :: l1 :: some (.ref x) :: ls) st m = ev d 225 679 (l0 :: l1 :: some (.ref x) :: ls) (.ref x :: st) m := q_nx (show am_row 225 678 = some (.aload_n 2, 1, 0, 0, 0, 0) from rfl) rfl
set_option maxRecDepth 20000 in
theorem e225_679 {d : Nat} {ls : am_L} {st : List Value} {m : am_M} {x : Nat} : ev d 225 679 (some (.ref x) :: ls) st m = ev d 225 680 (some (.ref x) :: ls) (.ref x :: st) m := q_nx (show am_row 225 679 = some (.aload_n 0, 1, 0, 0, 0, 0) from rfl) rfl
set_option maxRecDepth 20000 in
theorem e225_680 {d : Nat} {ls : am_L} {st : List Value} {m : am_M} {l0 : Option Value} {l1 : Option Value} {l2 : Option Value} {x : Int32} : ev d 225 680 (l0 :: l1 :: l2 :: some (.int x) :: ls) st m = ev d 225 681 (l0 :: l1 :: l2 :: some (.int x) :: ls) (.int x :: st) m := q_nx (show am_row 225 680 = some (.iload_n 3, 1, 0, 0, 0, 0) from rfl) rfl
set_option maxRecDepth 20000 in
theorem e225_681 {d : Nat} {ls : am_L} {st : List Value} {m : am_M} : ev d 225 681 ls st m = ev d 225 682 ls (.int (nI 1) :: st) m := q_nx (show am_row 225 681 = some (.iconst 1, 1, 0, 0, 0, 0) from rfl) rfl
set_option maxRecDepth 20000 in
theorem e225_682 {d : Nat} {ls : am_L} {st : List Value} {m : am_M} {x y : Int32} : ev d 225 682 ls (.int y :: .int x :: st) m = ev d 225 683 ls (.int (x + y) :: st) m := q_nx (show am_row 225 682 = some (.iadd, 1, 0, 0, 0, 0) from rfl) rfl
set_option maxRecDepth 20000 in
theorem e225_683 {d : Nat} {ls : am_L} {st : List Value} {m : am_M} {a : Nat} {i : Int32} (hK : (mK m a).1 = 6) (hi : am_ix i (mK m a).2.2 = true) : ev d 225 683 ls (.int i :: .ref a :: st) m = ev d 225 684 ls (.int (mI m a i.toNatClampNeg) :: st) m := q_sald (show am_row 225 683 = some (.iaload, 1, 0, 0, 0, 0) from rfl) hK hi
set_option maxRecDepth 20000 in
theorem e225_684 {d : Nat} {ls : am_L} {st : List Value} {m : am_M} {a : Nat} {v0 : Int32} (hK : mK m a = (1, 10, 0)) (hw : am_w st ≤ 8) : ev (d + 1) 225 684 ls (.int v0 :: .ref a :: st) m = am_k (cal d 177 [.ref a, .int v0] m) (fun v m'' => ev (d + 1) 225 687 ls (v.toList ++ st) m'') := q_cl (show am_row 225 684 = some (.invokevirtual 72, 3, 177, 0, 0, 1253) from rfl) rfl (if_pos ⟨hK, (by show 1 ≤ _; simp only [List.length_cons]; omega), hw⟩)
set_option maxRecDepth 20000 in
theorem e225_687 {d : Nat} {ls : am_L} {st : List Value} {m : am_M} {x y : Int32} : ev d 225 687 ls (.int y :: .int x :: st) m = if x = y then ev d 225 1266 ls st m else ev d 225 690 ls st m := q_ite (a := (1266, ls, st, m)) (b := (690, ls, st, m)) (show am_row 225 687 = some (.if_icmp .eq 579, 3, 0, 0, 0, 0) from rfl) rfl
set_option maxRecDepth 20000 in
theorem e225_690 {d : Nat} {ls : am_L} {st : List Value} {m : am_M} : ev d 225 690 ls st m = ev d 225 691 ls (.int (nI 0) :: st) m := q_nx (show am_row 225 690 = some (.iconst 0, 1, 0, 0, 0, 0) from rfl) rfl
set_option maxRecDepth 20000 in
theorem e225_691 {d : Nat} {ls : am_L} {m : am_M} {x : Int32} (hb : am_bb x = true) : ev d 225 691 ls [.int x] m = some (some (.int x), m) := q_zret (show am_row 225 691 = some (.ireturn, 1, 1, 0, 0, 0) from rfl) hb
set_option maxRecDepth 20000 in
theorem e225_692 {d : Nat} {ls : am_L} {st : List Value} {m : am_M} {l0 : Option Value} {x : Nat} : ev d 225 692 (l0 :: some (.ref x) :: ls) st m = ev d 225 693 (l0 :: some (.ref x) :: ls) (.ref x :: st) m := q_nx (show am_row 225 692 = some (.aload_n 1, 1, 0, 0, 0, 0) from rfl) rfl
set_option maxRecDepth 20000 in
theorem e225_693 {d : Nat} {ls : am_L} {st : List Value} {m : am_M} {a : Nat} (hK : mK m a = (1, 9, 0)) (hw : am_w st ≤ 8) : ev (d + 1) 225 693 ls (.ref a :: st) m = am_k (cal d 104 [.ref a] m) (fun v m'' => ev (d + 1) 225 696 ls (v.toList ++ st) m'') := q_cl (show am_row 225 693 = some (.invokevirtual 73, 3, 104, 0, 0, 634) from rfl) rfl (if_pos ⟨hK, (Nat.zero_le _), hw⟩)
set_option maxRecDepth 20000 in
theorem e225_696 {d : Nat} {ls : am_L} {st : List Value} {m : am_M} {l0 : Option Value} {l1 : Option Value} {x : Nat} : ev d 225 696 (l0 :: l1 :: some (.ref x) :: ls) st m = ev d 225 697 (l0 :: l1 :: some (.ref x) :: ls) (.ref x :: st) m := q_nx (show am_row 225 696 = some (.aload_n 2, 1, 0, 0, 0, 0) from rfl) rfl
set_option maxRecDepth 20000 in
theorem e225_697 {d : Nat} {ls : am_L} {st : List Value} {m : am_M} {a : Nat} (hK : mK m a = (1, 10, 0)) (hw : am_w st ≤ 8) : ev (d + 1) 225 697 ls (.ref a :: st) m = am_k (cal d 178 [.ref a] m) (fun v m'' => ev (d + 1) 225 700 ls (v.toList ++ st) m'') := q_cl (show am_row 225 697 = some (.invokevirtual 77, 3, 178, 0, 0, 1261) from rfl) rfl (if_pos ⟨hK, (Nat.zero_le _), hw⟩)
set_option maxRecDepth 20000 in
theorem e225_700 {d : Nat} {ls : am_L} {st : List Value} {m : am_M} {x y : Int32} : ev d 225 700 ls (.int y :: .int x :: st) m = if x = y then ev d 225 1266 ls st m else ev d 225 703 ls st m := q_ite (a := (1266, ls, st, m)) (b := (703, ls, st, m)) (show am_row 225 700 = some (.if_icmp .eq 566, 3, 0, 0, 0, 0) from rfl) rfl
set_option maxRecDepth 20000 in
theorem e225_703 {d : Nat} {ls : am_L} {st : List Value} {m : am_M} : ev d 225 703 ls st m = ev d 225 704 ls (.int (nI 0) :: st) m := q_nx (show am_row 225 703 = some (.iconst 0, 1, 0, 0, 0, 0) from rfl) rfl
set_option maxRecDepth 20000 in
theorem e225_704 {d : Nat} {ls : am_L} {m : am_M} {x : Int32} (hb : am_bb x = true) : ev d 225 704 ls [.int x] m = some (some (.int x), m) := q_zret (show am_row 225 704 = some (.ireturn, 1, 1, 0, 0, 0) from rfl) hb
set_option maxRecDepth 20000 in
theorem e225_705 {d : Nat} {ls : am_L} {st : List Value} {m : am_M} {l0 : Option Value} {x : Nat} : ev d 225 705 (l0 :: some (.ref x) :: ls) st m = ev d 225 706 (l0 :: some (.ref x) :: ls) (.ref x :: st) m := q_nx (show am_row 225 705 = some (.aload_n 1, 1, 0, 0, 0, 0) from rfl) rfl
set_option maxRecDepth 20000 in
theorem e225_706 {d : Nat} {ls : am_L} {st : List Value} {m : am_M} {x : Nat} : ev d 225 706 (some (.ref x) :: ls) st m = ev d 225 707 (some (.ref x) :: ls) (.ref x :: st) m := q_nx (show am_row 225 706 = some (.aload_n 0, 1, 0, 0, 0, 0) from rfl) rfl
set_option maxRecDepth 20000 in
theorem e225_707 {d : Nat} {ls : am_L} {st : List Value} {m : am_M} {l0 : Option Value} {l1 : Option Value} {l2 : Option Value} {x : Int32} : ev d 225 707 (l0 :: l1 :: l2 :: some (.int x) :: ls) st m = ev d 225 708 (l0 :: l1 :: l2 :: some (.int x) :: ls) (.int x :: st) m := q_nx (show am_row 225 707 = some (.iload_n 3, 1, 0, 0, 0, 0) from rfl) rfl
set_option maxRecDepth 20000 in
theorem e225_708 {d : Nat} {ls : am_L} {st : List Value} {m : am_M} : ev d 225 708 ls st m = ev d 225 709 ls (.int (nI 1) :: st) m := q_nx (show am_row 225 708 = some (.iconst 1, 1, 0, 0, 0, 0) from rfl) rfl
set_option maxRecDepth 20000 in
theorem e225_709 {d : Nat} {ls : am_L} {st : List Value} {m : am_M} {x y : Int32} : ev d 225 709 ls (.int y :: .int x :: st) m = ev d 225 710 ls (.int (x + y) :: st) m := q_nx (show am_row 225 709 = some (.iadd, 1, 0, 0, 0, 0) from rfl) rfl
set_option maxRecDepth 20000 in
theorem e225_710 {d : Nat} {ls : am_L} {st : List Value} {m : am_M} {a : Nat} {i : Int32} (hK : (mK m a).1 = 6) (hi : am_ix i (mK m a).2.2 = true) : ev d 225 710 ls (.int i :: .ref a :: st) m = ev d 225 711 ls (.int (mI m a i.toNatClampNeg) :: st) m := q_sald (show am_row 225 710 = some (.iaload, 1, 0, 0, 0, 0) from rfl) hK hi
set_option maxRecDepth 20000 in
theorem e225_711 {d : Nat} {ls : am_L} {st : List Value} {m : am_M} {x : Nat} : ev d 225 711 (some (.ref x) :: ls) st m = ev d 225 712 (some (.ref x) :: ls) (.ref x :: st) m := q_nx (show am_row 225 711 = some (.aload_n 0, 1, 0, 0, 0, 0) from rfl) rfl
set_option maxRecDepth 20000 in
theorem e225_712 {d : Nat} {ls : am_L} {st : List Value} {m : am_M} {l0 : Option Value} {l1 : Option Value} {l2 : Option Value} {x : Int32} : ev d 225 712 (l0 :: l1 :: l2 :: some (.int x) :: ls) st m = ev d 225 713 (l0 :: l1 :: l2 :: some (.int x) :: ls) (.int x :: st) m := q_nx (show am_row 225 712 = some (.iload_n 3, 1, 0, 0, 0, 0) from rfl) rfl
set_option maxRecDepth 20000 in
theorem e225_713 {d : Nat} {ls : am_L} {st : List Value} {m : am_M} : ev d 225 713 ls st m = ev d 225 714 ls (.int (nI 2) :: st) m := q_nx (show am_row 225 713 = some (.iconst 2, 1, 0, 0, 0, 0) from rfl) rfl
set_option maxRecDepth 20000 in
theorem e225_714 {d : Nat} {ls : am_L} {st : List Value} {m : am_M} {x y : Int32} : ev d 225 714 ls (.int y :: .int x :: st) m = ev d 225 715 ls (.int (x + y) :: st) m := q_nx (show am_row 225 714 = some (.iadd, 1, 0, 0, 0, 0) from rfl) rfl
set_option maxRecDepth 20000 in
theorem e225_715 {d : Nat} {ls : am_L} {st : List Value} {m : am_M} {a : Nat} {i : Int32} (hK : (mK m a).1 = 6) (hi : am_ix i (mK m a).2.2 = true) : ev d 225 715 ls (.int i :: .ref a :: st) m = ev d 225 716 ls (.int (mI m a i.toNatClampNeg) :: st) m := q_sald (show am_row 225 715 = some (.iaload, 1, 0, 0, 0, 0) from rfl) hK hi
set_option maxRecDepth 20000 in
theorem e225_716 {d : Nat} {ls : am_L} {st : List Value} {m : am_M} {a : Nat} {v0 : Int32} {v1 : Int32} (hK : mK m a = (1, 9, 0)) (hw : am_w st ≤ 8) : ev (d + 1) 225 716 ls (.int v1 :: .int v0 :: .ref a :: st) m = am_k (cal d 105 [.ref a, .int v0, .int v1] m) (fun v m'' => ev (d + 1) 225 719 ls (v.toList ++ st) m'') := q_cl (show am_row 225 716 = some (.invokevirtual 78, 3, 105, 0, 0, 638) from rfl) rfl (if_pos ⟨hK, (by show 2 ≤ _; simp only [List.length_cons]; omega), hw⟩)
set_option maxRecDepth 20000 in
theorem e225_719 {d : Nat} {ls : am_L} {st : List Value} {m : am_M} {l0 : Option Value} {l1 : Option Value} {x : Nat} : ev d 225 719 (l0 :: l1 :: some (.ref x) :: ls) st m = ev d 225 720 (l0 :: l1 :: some (.ref x) :: ls) (.ref x :: st) m := q_nx (show am_row 225 719 = some (.aload_n 2, 1, 0, 0, 0, 0) from rfl) rfl
set_option maxRecDepth 20000 in
theorem e225_720 {d : Nat} {ls : am_L} {st : List Value} {m : am_M} {x : Nat} : ev d 225 720 (some (.ref x) :: ls) st m = ev d 225 721 (some (.ref x) :: ls) (.ref x :: st) m := q_nx (show am_row 225 720 = some (.aload_n 0, 1, 0, 0, 0, 0) from rfl) rfl
set_option maxRecDepth 20000 in
theorem e225_721 {d : Nat} {ls : am_L} {st : List Value} {m : am_M} {l0 : Option Value} {l1 : Option Value} {l2 : Option Value} {x : Int32} : ev d 225 721 (l0 :: l1 :: l2 :: some (.int x) :: ls) st m = ev d 225 722 (l0 :: l1 :: l2 :: some (.int x) :: ls) (.int x :: st) m := q_nx (show am_row 225 721 = some (.iload_n 3, 1, 0, 0, 0, 0) from rfl) rfl
set_option maxRecDepth 20000 in
theorem e225_722 {d : Nat} {ls : am_L} {st : List Value} {m : am_M} : ev d 225 722 ls st m = ev d 225 723 ls (.int (nI 1) :: st) m := q_nx (show am_row 225 722 = some (.iconst 1, 1, 0, 0, 0, 0) from rfl) rfl
set_option maxRecDepth 20000 in
theorem e225_723 {d : Nat} {ls : am_L} {st : List Value} {m : am_M} {x y : Int32} : ev d 225 723 ls (.int y :: .int x :: st) m = ev d 225 724 ls (.int (x + y) :: st) m := q_nx (show am_row 225 723 = some (.iadd, 1, 0, 0, 0, 0) from rfl) rfl
set_option maxRecDepth 20000 in
theorem e225_724 {d : Nat} {ls : am_L} {st : List Value} {m : am_M} {a : Nat} {i : Int32} (hK : (mK m a).1 = 6) (hi : am_ix i (mK m a).2.2 = true) : ev d 225 724 ls (.int i :: .ref a :: st) m = ev d 225 725 ls (.int (mI m a i.toNatClampNeg) :: st) m := q_sald (show am_row 225 724 = some (.iaload, 1, 0, 0, 0, 0) from rfl) hK hi
set_option maxRecDepth 20000 in
theorem e225_725 {d : Nat} {ls : am_L} {st : List Value} {m : am_M} {x : Nat} : ev d 225 725 (some (.ref x) :: ls) st m = ev d 225 726 (some (.ref x) :: ls) (.ref x :: st) m := q_nx (show am_row 225 725 = some (.aload_n 0, 1, 0, 0, 0, 0) from rfl) rfl
set_option maxRecDepth 20000 in
theorem e225_726 {d : Nat} {ls : am_L} {st : List Value} {m : am_M} {l0 : Option Value} {l1 : Option Value} {l2 : Option Value} {x : Int32} : ev d 225 726 (l0 :: l1 :: l2 :: some (.int x) :: ls) st m = ev d 225 727 (l0 :: l1 :: l2 :: some (.int x) :: ls) (.int x :: st) m := q_nx (show am_row 225 726 = some (.iload_n 3, 1, 0, 0, 0, 0) from rfl) rfl
set_option maxRecDepth 20000 in
theorem e225_727 {d : Nat} {ls : am_L} {st : List Value} {m : am_M} : ev d 225 727 ls st m = ev d 225 728 ls (.int (nI 2) :: st) m := q_nx (show am_row 225 727 = some (.iconst 2, 1, 0, 0, 0, 0) from rfl) rfl
set_option maxRecDepth 20000 in
theorem e225_728 {d : Nat} {ls : am_L} {st : List Value} {m : am_M} {x y : Int32} : ev d 225 728 ls (.int y :: .int x :: st) m = ev d 225 729 ls (.int (x + y) :: st) m := q_nx (show am_row 225 728 = some (.iadd, 1, 0, 0, 0, 0) from rfl) rfl
set_option maxRecDepth 20000 in
theorem e225_729 {d : Nat} {ls : am_L} {st : List Value} {m : am_M} {a : Nat} {i : Int32} (hK : (mK m a).1 = 6) (hi : am_ix i (mK m a).2.2 = true) : ev d 225 729 ls (.int i :: .ref a :: st) m = ev d 225 730 ls (.int (mI m a i.toNatClampNeg) :: st) m := q_sald (show am_row 225 729 = some (.iaload, 1, 0, 0, 0, 0) from rfl) hK hi
set_option maxRecDepth 20000 in
theorem e225_730 {d : Nat} {ls : am_L} {st : List Value} {m : am_M} {a : Nat} {v0 : Int32} {v1 : Int32} (hK : mK m a = (1, 10, 0)) (hw : am_w st ≤ 8) : ev (d + 1) 225 730 ls (.int v1 :: .int v0 :: .ref a :: st) m = am_k (cal d 180 [.ref a, .int v0, .int v1] m) (fun v m'' => ev (d + 1) 225 733 ls (v.toList ++ st) m'') := q_cl (show am_row 225 730 = some (.invokevirtual 82, 3, 180, 0, 0, 1265) from rfl) rfl (if_pos ⟨hK, (by show 2 ≤ _; simp only [List.length_cons]; omega), hw⟩)
set_option maxRecDepth 20000 in
theorem e225_733 {d : Nat} {ls : am_L} {st : List Value} {m : am_M} {x y : Int32} : ev d 225 733 ls (.int y :: .int x :: st) m = if x = y then ev d 225 1266 ls st m else ev d 225 736 ls st m := q_ite (a := (1266, ls, st, m)) (b := (736, ls, st, m)) (show am_row 225 733 = some (.if_icmp .eq 533, 3, 0, 0, 0, 0) from rfl) rfl
set_option maxRecDepth 20000 in
theorem e225_736 {d : Nat} {ls : am_L} {st : List Value} {m : am_M} : ev d 225 736 ls st m = ev d 225 737 ls (.int (nI 0) :: st) m := q_nx (show am_row 225 736 = some (.iconst 0, 1, 0, 0, 0, 0) from rfl) rfl
set_option maxRecDepth 20000 in
theorem e225_737 {d : Nat} {ls : am_L} {m : am_M} {x : Int32} (hb : am_bb x = true) : ev d 225 737 ls [.int x] m = some (some (.int x), m) := q_zret (show am_row 225 737 = some (.ireturn, 1, 1, 0, 0, 0) from rfl) hb
set_option maxRecDepth 20000 in
theorem e225_738 {d : Nat} {ls : am_L} {st : List Value} {m : am_M} {l0 : Option Value} {x : Nat} : ev d 225 738 (l0 :: some (.ref x) :: ls) st m = ev d 225 739 (l0 :: some (.ref x) :: ls) (.ref x :: st) m := q_nx (show am_row 225 738 = some (.aload_n 1, 1, 0, 0, 0, 0) from rfl) rfl
set_option maxRecDepth 20000 in
theorem e225_739 {d : Nat} {ls : am_L} {st : List Value} {m : am_M} {x : Nat} : ev d 225 739 (some (.ref x) :: ls) st m = ev d 225 740 (some (.ref x) :: ls) (.ref x :: st) m := q_nx (show am_row 225 739 = some (.aload_n 0, 1, 0, 0, 0, 0) from rfl) rfl
set_option maxRecDepth 20000 in
theorem e225_740 {d : Nat} {ls : am_L} {st : List Value} {m : am_M} {l0 : Option Value} {l1 : Option Value} {l2 : Option Value} {x : Int32} : ev d 225 740 (l0 :: l1 :: l2 :: some (.int x) :: ls) st m = ev d 225 741 (l0 :: l1 :: l2 :: some (.int x) :: ls) (.int x :: st) m := q_nx (show am_row 225 740 = some (.iload_n 3, 1, 0, 0, 0, 0) from rfl) rfl
set_option maxRecDepth 20000 in
theorem e225_741 {d : Nat} {ls : am_L} {st : List Value} {m : am_M} : ev d 225 741 ls st m = ev d 225 742 ls (.int (nI 1) :: st) m := q_nx (show am_row 225 741 = some (.iconst 1, 1, 0, 0, 0, 0) from rfl) rfl
set_option maxRecDepth 20000 in
theorem e225_742 {d : Nat} {ls : am_L} {st : List Value} {m : am_M} {x y : Int32} : ev d 225 742 ls (.int y :: .int x :: st) m = ev d 225 743 ls (.int (x + y) :: st) m := q_nx (show am_row 225 742 = some (.iadd, 1, 0, 0, 0, 0) from rfl) rfl
set_option maxRecDepth 20000 in
theorem e225_743 {d : Nat} {ls : am_L} {st : List Value} {m : am_M} {a : Nat} {i : Int32} (hK : (mK m a).1 = 6) (hi : am_ix i (mK m a).2.2 = true) : ev d 225 743 ls (.int i :: .ref a :: st) m = ev d 225 744 ls (.int (mI m a i.toNatClampNeg) :: st) m := q_sald (show am_row 225 743 = some (.iaload, 1, 0, 0, 0, 0) from rfl) hK hi
set_option maxRecDepth 20000 in
theorem e225_744 {d : Nat} {ls : am_L} {st : List Value} {m : am_M} {x : Nat} : ev d 225 744 (some (.ref x) :: ls) st m = ev d 225 745 (some (.ref x) :: ls) (.ref x :: st) m := q_nx (show am_row 225 744 = some (.aload_n 0, 1, 0, 0, 0, 0) from rfl) rfl
set_option maxRecDepth 20000 in
theorem e225_745 {d : Nat} {ls : am_L} {st : List Value} {m : am_M} {l0 : Option Value} {l1 : Option Value} {l2 : Option Value} {x : Int32} : ev d 225 745 (l0 :: l1 :: l2 :: some (.int x) :: ls) st m = ev d 225 746 (l0 :: l1 :: l2 :: some (.int x) :: ls) (.int x :: st) m := q_nx (show am_row 225 745 = some (.iload_n 3, 1, 0, 0, 0, 0) from rfl) rfl
set_option maxRecDepth 20000 in
theorem e225_746 {d : Nat} {ls : am_L} {st : List Value} {m : am_M} : ev d 225 746 ls st m = ev d 225 747 ls (.int (nI 2) :: st) m := q_nx (show am_row 225 746 = some (.iconst 2, 1, 0, 0, 0, 0) from rfl) rfl
set_option maxRecDepth 20000 in
theorem e225_747 {d : Nat} {ls : am_L} {st : List Value} {m : am_M} {x y : Int32} : ev d 225 747 ls (.int y :: .int x :: st) m = ev d 225 748 ls (.int (x + y) :: st) m := q_nx (show am_row 225 747 = some (.iadd, 1, 0, 0, 0, 0) from rfl) rfl
set_option maxRecDepth 20000 in
theorem e225_748 {d : Nat} {ls : am_L} {st : List Value} {m : am_M} {a : Nat} {i : Int32} (hK : (mK m a).1 = 6) (hi : am_ix i (mK m a).2.2 = true) : ev d 225 748 ls (.int i :: .ref a :: st) m = ev d 225 749 ls (.int (mI m a i.toNatClampNeg) :: st) m := q_sald (show am_row 225 748 = some (.iaload, 1, 0, 0, 0, 0) from rfl) hK hi
set_option maxRecDepth 20000 in
theorem e225_749 {d : Nat} {ls : am_L} {st : List Value} {m : am_M} {x : Nat} : ev d 225 749 (some (.ref x) :: ls) st m = ev d 225 750 (some (.ref x) :: ls) (.ref x :: st) m := q_nx (show am_row 225 749 = some (.aload_n 0, 1, 0, 0, 0, 0) from rfl) rfl
set_option maxRecDepth 20000 in
theorem e225_750 {d : Nat} {ls : am_L} {st : List Value} {m : am_M} {l0 : Option Value} {l1 : Option Value} {l2 : Option Value} {x : Int32} : ev d 225 750 (l0 :: l1 :: l2 :: some (.int x) :: ls) st m = ev d 225 751 (l0 :: l1 :: l2 :: some (.int x) :: ls) (.int x :: st) m := q_nx (show am_row 225 750 = some (.iload_n 3, 1, 0, 0, 0, 0) from rfl) rfl
set_option maxRecDepth 20000 in
theorem e225_751 {d : Nat} {ls : am_L} {st : List Value} {m : am_M} : ev d 225 751 ls st m = ev d 225 752 ls (.int (nI 3) :: st) m := q_nx (show am_row 225 751 = some (.iconst 3, 1, 0, 0, 0, 0) from rfl) rfl
set_option maxRecDepth 20000 in
theorem e225_752 {d : Nat} {ls : am_L} {st : List Value} {m : am_M} {x y : Int32} : ev d 225 752 ls (.int y :: .int x :: st) m = ev d 225 753 ls (.int (x + y) :: st) m := q_nx (show am_row 225 752 = some (.iadd, 1, 0, 0, 0, 0) from rfl) rfl
set_option maxRecDepth 20000 in
theorem e225_753 {d : Nat} {ls : am_L} {st : List Value} {m : am_M} {a : Nat} {i : Int32} (hK : (mK m a).1 = 6) (hi : am_ix i (mK m a).2.2 = true) : ev d 225 753 ls (.int i :: .ref a :: st) m = ev d 225 754 ls (.int (mI m a i.toNatClampNeg) :: st) m := q_sald (show am_row 225 753 = some (.iaload, 1, 0, 0, 0, 0) from rfl) hK hi
set_option maxRecDepth 20000 in
theorem e225_754 {d : Nat} {ls : am_L} {st : List Value} {m : am_M} {a : Nat} {v0 : Int32} {v1 : Int32} {v2 : Int32} (hK : mK m a = (1, 9, 0)) (hw : am_w st ≤ 8) : ev (d + 1) 225 754 ls (.int v2 :: .int v1 :: .int v0 :: .ref a :: st) m = am_k (cal d 106 [.ref a, .int v0, .int v1, .int v2] m) (fun v m'' => ev (d + 1) 225 757 ls (v.toList ++ st) m'') := q_cl (show am_row 225 754 = some (.invokevirtual 83, 3, 106, 0, 0, 656) from rfl) rfl (if_pos ⟨hK, (by show 3 ≤ _; simp only [List.length_cons]; omega), hw⟩)
set_option maxRecDepth 20000 in
theorem e225_757 {d : Nat} {ls : am_L} {st : List Value} {m : am_M} {l0 : Option Value} {l1 : Option Value} {x : Nat} : ev d 225 757 (l0 :: l1 :: some (.ref x) :: ls) st m = ev d 225 758 (l0 :: l1 :: some (.ref x) :: ls) (.ref x :: st) m := q_nx (show am_row 225 757 = some (.aload_n 2, 1, 0, 0, 0, 0) from rfl) rfl
set_option maxRecDepth 20000 in
theorem e225_758 {d : Nat} {ls : am_L} {st : List Value} {m : am_M} {x : Nat} : ev d 225 758 (some (.ref x) :: ls) st m = ev d 225 759 (some (.ref x) :: ls) (.ref x :: st) m := q_nx (show am_row 225 758 = some (.aload_n 0, 1, 0, 0, 0, 0) from rfl) rfl
set_option maxRecDepth 20000 in
theorem e225_759 {d : Nat} {ls : am_L} {st : List Value} {m : am_M} {l0 : Option Value} {l1 : Option Value} {l2 : Option Value} {x : Int32} : ev d 225 759 (l0 :: l1 :: l2 :: some (.int x) :: ls) st m = ev d 225 760 (l0 :: l1 :: l2 :: some (.int x) :: ls) (.int x :: st) m := q_nx (show am_row 225 759 = some (.iload_n 3, 1, 0, 0, 0, 0) from rfl) rfl
set_option maxRecDepth 20000 in
theorem e225_760 {d : Nat} {ls : am_L} {st : List Value} {m : am_M} : ev d 225 760 ls st m = ev d 225 761 ls (.int (nI 1) :: st) m := q_nx (show am_row 225 760 = some (.iconst 1, 1, 0, 0, 0, 0) from rfl) rfl
set_option maxRecDepth 20000 in
theorem e225_761 {d : Nat} {ls : am_L} {st : List Value} {m : am_M} {x y : Int32} : ev d 225 761 ls (.int y :: .int x :: st) m = ev d 225 762 ls (.int (x + y) :: st) m := q_nx (show am_row 225 761 = some (.iadd, 1, 0, 0, 0, 0) from rfl) rfl
set_option maxRecDepth 20000 in
theorem e225_762 {d : Nat} {ls : am_L} {st : List Value} {m : am_M} {a : Nat} {i : Int32} (hK : (mK m a).1 = 6) (hi : am_ix i (mK m a).2.2 = true) : ev d 225 762 ls (.int i :: .ref a :: st) m = ev d 225 763 ls (.int (mI m a i.toNatClampNeg) :: st) m := q_sald (show am_row 225 762 = some (.iaload, 1, 0, 0, 0, 0) from rfl) hK hi
set_option maxRecDepth 20000 in
theorem e225_763 {d : Nat} {ls : am_L} {st : List Value} {m : am_M} {x : Nat} : ev d 225 763 (some (.ref x) :: ls) st m = ev d 225 764 (some (.ref x) :: ls) (.ref x :: st) m := q_nx (show am_row 225 763 = some (.aload_n 0, 1, 0, 0, 0, 0) from rfl) rfl
set_option maxRecDepth 20000 in
theorem e225_764 {d : Nat} {ls : am_L} {st : List Value} {m : am_M} {l0 : Option Value} {l1 : Option Value} {l2 : Option Value} {x : Int32} : ev d 225 764 (l0 :: l1 :: l2 :: some (.int x) :: ls) st m = ev d 225 765 (l0 :: l1 :: l2 :: some (.int x) :: ls) (.int x :: st) m := q_nx (show am_row 225 764 = some (.iload_n 3, 1, 0, 0, 0, 0) from rfl) rfl
set_option maxRecDepth 20000 in
theorem e225_765 {d : Nat} {ls : am_L} {st : List Value} {m : am_M} : ev d 225 765 ls st m = ev d 225 766 ls (.int (nI 2) :: st) m := q_nx (show am_row 225 765 = some (.iconst 2, 1, 0, 0, 0, 0) from rfl) rfl
set_option maxRecDepth 20000 in
theorem e225_766 {d : Nat} {ls : am_L} {st : List Value} {m : am_M} {x y : Int32} : ev d 225 766 ls (.int y :: .int x :: st) m = ev d 225 767 ls (.int (x + y) :: st) m := q_nx (show am_row 225 766 = some (.iadd, 1, 0, 0, 0, 0) from rfl) rfl
set_option maxRecDepth 20000 in
theorem e225_767 {d : Nat} {ls : am_L} {st : List Value} {m : am_M} {a : Nat} {i : Int32} (hK : (mK m a).1 = 6) (hi : am_ix i (mK m a).2.2 = true) : ev d 225 767 ls (.int i :: .ref a :: st) m = ev d 225 768 ls (.int (mI m a i.toNatClampNeg) :: st) m := q_sald (show am_row 225 767 = some (.iaload, 1, 0, 0, 0, 0) from rfl) hK hi
set_option maxRecDepth 20000 in
theorem e225_768 {d : Nat} {ls : am_L} {st : List Value} {m : am_M} {x : Nat} : ev d 225 768 (some (.ref x) :: ls) st m = ev d 225 769 (some (.ref x) :: ls) (.ref x :: st) m := q_nx (show am_row 225 768 = some (.aload_n 0, 1, 0, 0, 0, 0) from rfl) rfl
set_option maxRecDepth 20000 in
theorem e225_769 {d : Nat} {ls : am_L} {st : List Value} {m : am_M} {l0 : Option Value} {l1 : Option Value} {l2 : Option Value} {x : Int32} : ev d 225 769 (l0 :: l1 :: l2 :: some (.int x) :: ls) st m = ev d 225 770 (l0 :: l1 :: l2 :: some (.int x) :: ls) (.int x :: st) m := q_nx (show am_row 225 769 = some (.iload_n 3, 1, 0, 0, 0, 0) from rfl) rfl
set_option maxRecDepth 20000 in
theorem e225_770 {d : Nat} {ls : am_L} {st : List Value} {m : am_M} : ev d 225 770 ls st m = ev d 225 771 ls (.int (nI 3) :: st) m := q_nx (show am_row 225 770 = some (.iconst 3, 1, 0, 0, 0, 0) from rfl) rfl
set_option maxRecDepth 20000 in
theorem e225_771 {d : Nat} {ls : am_L} {st : List Value} {m : am_M} {x y : Int32} : ev d 225 771 ls (.int y :: .int x :: st) m = ev d 225 772 ls (.int (x + y) :: st) m := q_nx (show am_row 225 771 = some (.iadd, 1, 0, 0, 0, 0) from rfl) rfl
set_option maxRecDepth 20000 in
theorem e225_772 {d : Nat} {ls : am_L} {st : List Value} {m : am_M} {a : Nat} {i : Int32} (hK : (mK m a).1 = 6) (hi : am_ix i (mK m a).2.2 = true) : ev d 225 772 ls (.int i :: .ref a :: st) m = ev d 225 773 ls (.int (mI m a i.toNatClampNeg) :: st) m := q_sald (show am_row 225 772 = some (.iaload, 1, 0, 0, 0, 0) from rfl) hK hi
set_option maxRecDepth 20000 in
theorem e225_773 {d : Nat} {ls : am_L} {st : List Value} {m : am_M} {a : Nat} {v0 : Int32} {v1 : Int32} {v2 : Int32} (hK : mK m a = (1, 10, 0)) (hw : am_w st ≤ 8) : ev (d + 1) 225 773 ls (.int v2 :: .int v1 :: .int v0 :: .ref a :: st) m = am_k (cal d 184 [.ref a, .int v0, .int v1, .int v2] m) (fun v m'' => ev (d + 1) 225 776 ls (v.toList ++ st) m'') := q_cl (show am_row 225 773 = some (.invokevirtual 86, 3, 184, 0, 0, 1272) from rfl) rfl (if_pos ⟨hK, (by show 3 ≤ _; simp only [List.length_cons]; omega), hw⟩)
set_option maxRecDepth 20000 in
theorem e225_776 {d : Nat} {ls : am_L} {st : List Value} {m : am_M} {x y : Int32} : ev d 225 776 ls (.int y :: .int x :: st) m = if x = y then ev d 225 1266 ls st m else ev d 225 779 ls st m := q_ite (a := (1266, ls, st, m)) (b := (779, ls, st, m)) (show am_row 225 776 = some (.if_icmp .eq 490, 3, 0, 0, 0, 0) from rfl) rfl
set_option maxRecDepth 20000 in
theorem e225_779 {d : Nat} {ls : am_L} {st : List Value} {m : am_M} : ev d 225 779 ls st m = ev d 225 780 ls (.int (nI 0) :: st) m := q_nx (show am_row 225 779 = some (.iconst 0, 1, 0, 0, 0, 0) from rfl) rfl
set_option maxRecDepth 20000 in
theorem e225_780 {d : Nat} {ls : am_L} {m : am_M} {x : Int32} (hb : am_bb x = true) : ev d 225 780 ls [.int x] m = some (some (.int x), m) := q_zret (show am_row 225 780 = some (.ireturn, 1, 1, 0, 0, 0) from rfl) hb
set_option maxRecDepth 20000 in
theorem e225_781 {d : Nat} {ls : am_L} {st : List Value} {m : am_M} {l0 : Option Value} {x : Nat} : ev d 225 781 (l0 :: some (.ref x) :: ls) st m = ev d 225 782 (l0 :: some (.ref x) :: ls) (.ref x :: st) m := q_nx (show am_row 225 781 = some (.aload_n 1, 1, 0, 0, 0, 0) from rfl) rfl
set_option maxRecDepth 20000 in
theorem e225_782 {d : Nat} {ls : am_L} {st : List Value} {m : am_M} {x : Nat} : ev d 225 782 (some (.ref x) :: ls) st m = ev d 225 783 (some (.ref x) :: ls) (.ref x :: st) m := q_nx (show am_row 225 782 = some (.aload_n 0, 1, 0, 0, 0, 0) from rfl) rfl
set_option maxRecDepth 20000 in
theorem e225_783 {d : Nat} {ls : am_L} {st : List Value} {m : am_M} {l0 : Option Value} {l1 : Option Value} {l2 : Option Value} {x : Int32} : ev d 225 783 (l0 :: l1 :: l2 :: some (.int x) :: ls) st m = ev d 225 784 (l0 :: l1 :: l2 :: some (.int x) :: ls) (.int x :: st) m := q_nx (show am_row 225 783 = some (.iload_n 3, 1, 0, 0, 0, 0) from rfl) rfl
set_option maxRecDepth 20000 in
theorem e225_784 {d : Nat} {ls : am_L} {st : List Value} {m : am_M} : ev d 225 784 ls st m = ev d 225 785 ls (.int (nI 1) :: st) m := q_nx (show am_row 225 784 = some (.iconst 1, 1, 0, 0, 0, 0) from rfl) rfl
set_option maxRecDepth 20000 in
theorem e225_785 {d : Nat} {ls : am_L} {st : List Value} {m : am_M} {x y : Int32} : ev d 225 785 ls (.int y :: .int x :: st) m = ev d 225 786 ls (.int (x + y) :: st) m := q_nx (show am_row 225 785 = some (.iadd, 1, 0, 0, 0, 0) from rfl) rfl
set_option maxRecDepth 20000 in
theorem e225_786 {d : Nat} {ls : am_L} {st : List Value} {m : am_M} {a : Nat} {i : Int32} (hK : (mK m a).1 = 6) (hi : am_ix i (mK m a).2.2 = true) : ev d 225 786 ls (.int i :: .ref a :: st) m = ev d 225 787 ls (.int (mI m a i.toNatClampNeg) :: st) m := q_sald (show am_row 225 786 = some (.iaload, 1, 0, 0, 0, 0) from rfl) hK hi
set_option maxRecDepth 20000 in
theorem e225_787 {d : Nat} {ls : am_L} {st : List Value} {m : am_M} {x : Nat} : ev d 225 787 (some (.ref x) :: ls) st m = ev d 225 788 (some (.ref x) :: ls) (.ref x :: st) m := q_nx (show am_row 225 787 = some (.aload_n 0, 1, 0, 0, 0, 0) from rfl) rfl
set_option maxRecDepth 20000 in
theorem e225_788 {d : Nat} {ls : am_L} {st : List Value} {m : am_M} {l0 : Option Value} {l1 : Option Value} {l2 : Option Value} {x : Int32} : ev d 225 788 (l0 :: l1 :: l2 :: some (.int x) :: ls) st m = ev d 225 789 (l0 :: l1 :: l2 :: some (.int x) :: ls) (.int x :: st) m := q_nx (show am_row 225 788 = some (.iload_n 3, 1, 0, 0, 0, 0) from rfl) rfl
set_option maxRecDepth 20000 in
theorem e225_789 {d : Nat} {ls : am_L} {st : List Value} {m : am_M} : ev d 225 789 ls st m = ev d 225 790 ls (.int (nI 2) :: st) m := q_nx (show am_row 225 789 = some (.iconst 2, 1, 0, 0, 0, 0) from rfl) rfl
set_option maxRecDepth 20000 in
theorem e225_790 {d : Nat} {ls : am_L} {st : List Value} {m : am_M} {x y : Int32} : ev d 225 790 ls (.int y :: .int x :: st) m = ev d 225 791 ls (.int (x + y) :: st) m := q_nx (show am_row 225 790 = some (.iadd, 1, 0, 0, 0, 0) from rfl) rfl
set_option maxRecDepth 20000 in
theorem e225_791 {d : Nat} {ls : am_L} {st : List Value} {m : am_M} {a : Nat} {i : Int32} (hK : (mK m a).1 = 6) (hi : am_ix i (mK m a).2.2 = true) : ev d 225 791 ls (.int i :: .ref a :: st) m = ev d 225 792 ls (.int (mI m a i.toNatClampNeg) :: st) m := q_sald (show am_row 225 791 = some (.iaload, 1, 0, 0, 0, 0) from rfl) hK hi
set_option maxRecDepth 20000 in
theorem e225_792 {d : Nat} {ls : am_L} {st : List Value} {m : am_M} {a : Nat} {v0 : Int32} {v1 : Int32} (hK : mK m a = (1, 9, 0)) (hw : am_w st ≤ 8) : ev (d + 1) 225 792 ls (.int v1 :: .int v0 :: .ref a :: st) m = am_k (cal d 107 [.ref a, .int v0, .int v1] m) (fun v m'' => ev (d + 1) 225 795 ls (v.toList ++ st) m'') := q_cl (show am_row 225 792 = some (.invokevirtual 87, 3, 107, 0, 0, 703) from rfl) rfl (if_pos ⟨hK, (by show 2 ≤ _; simp only [List.length_cons]; omega), hw⟩)
set_option maxRecDepth 20000 in
theorem e225_795 {d : Nat} {ls : am_L} {st : List Value} {m : am_M} {l0 : Option Value} {l1 : Option Value} {x : Nat} : ev d 225 795 (l0 :: l1 :: some (.ref x) :: ls) st m = ev d 225 796 (l0 :: l1 :: some (.ref x) :: ls) (.ref x :: st) m := q_nx (show am_row 225 795 = some (.aload_n 2, 1, 0, 0, 0, 0) from rfl) rfl
set_option maxRecDepth 20000 in
theorem e225_796 {d : Nat} {ls : am_L} {st : List Value} {m : am_M} {x : Nat} : ev d 225 796 (some (.ref x) :: ls) st m = ev d 225 797 (some (.ref x) :: ls) (.ref x :: st) m := q_nx (show am_row 225 796 = some (.aload_n 0, 1, 0, 0, 0, 0) from rfl) rfl
set_option maxRecDepth 20000 in
theorem e225_797 {d : Nat} {ls : am_L} {st : List Value} {m : am_M} {l0 : Option Value} {l1 : Option Value} {l2 : Option Value} {x : Int32} : ev d 225 797 (l0 :: l1 :: l2 :: some (.int x) :: ls) st m = ev d 225 798 (l0 :: l1 :: l2 :: some (.int x) :: ls) (.int x :: st) m := q_nx (show am_row 225 797 = some (.iload_n 3, 1, 0, 0, 0, 0) from rfl) rfl
set_option maxRecDepth 20000 in
theorem e225_798 {d : Nat} {ls : am_L} {st : List Value} {m : am_M} : ev d 225 798 ls st m = ev d 225 799 ls (.int (nI 1) :: st) m := q_nx (show am_row 225 798 = some (.iconst 1, 1, 0, 0, 0, 0) from rfl) rfl
set_option maxRecDepth 20000 in
theorem e225_799 {d : Nat} {ls : am_L} {st : List Value} {m : am_M} {x y : Int32} : ev d 225 799 ls (.int y :: .int x :: st) m = ev d 225 800 ls (.int (x + y) :: st) m := q_nx (show am_row 225 799 = some (.iadd, 1, 0, 0, 0, 0) from rfl) rfl
set_option maxRecDepth 20000 in
theorem e225_800 {d : Nat} {ls : am_L} {st : List Value} {m : am_M} {a : Nat} {i : Int32} (hK : (mK m a).1 = 6) (hi : am_ix i (mK m a).2.2 = true) : ev d 225 800 ls (.int i :: .ref a :: st) m = ev d 225 801 ls (.int (mI m a i.toNatClampNeg) :: st) m := q_sald (show am_row 225 800 = some (.iaload, 1, 0, 0, 0, 0) from rfl) hK hi
set_option maxRecDepth 20000 in
theorem e225_801 {d : Nat} {ls : am_L} {st : List Value} {m : am_M} {x : Nat} : ev d 225 801 (some (.ref x) :: ls) st m = ev d 225 802 (some (.ref x) :: ls) (.ref x :: st) m := q_nx (show am_row 225 801 = some (.aload_n 0, 1, 0, 0, 0, 0) from rfl) rfl
set_option maxRecDepth 20000 in
theorem e225_802 {d : Nat} {ls : am_L} {st : List Value} {m : am_M} {l0 : Option Value} {l1 : Option Value} {l2 : Option Value} {x : Int32} : ev d 225 802 (l0 :: l1 :: l2 :: some (.int x) :: ls) st m = ev d 225 803 (l0 :: l1 :: l2 :: some (.int x) :: ls) (.int x :: st) m := q_nx (show am_row 225 802 = some (.iload_n 3, 1, 0, 0, 0, 0) from rfl) rfl
set_option maxRecDepth 20000 in
theorem e225_803 {d : Nat} {ls : am_L} {st : List Value} {m : am_M} : ev d 225 803 ls st m = ev d 225 804 ls (.int (nI 2) :: st) m := q_nx (show am_row 225 803 = some (.iconst 2, 1, 0, 0, 0, 0) from rfl) rfl
set_option maxRecDepth 20000 in
theorem e225_804 {d : Nat} {ls : am_L} {st : List Value} {m : am_M} {x y : Int32} : ev d 225 804 ls (.int y :: .int x :: st) m = ev d 225 805 ls (.int (x + y) :: st) m := q_nx (show am_row 225 804 = some (.iadd, 1, 0, 0, 0, 0) from rfl) rfl
set_option maxRecDepth 20000 in
theorem e225_805 {d : Nat} {ls : am_L} {st : List Value} {m : am_M} {a : Nat} {i : Int32} (hK : (mK m a).1 = 6) (hi : am_ix i (mK m a).2.2 = true) : ev d 225 805 ls (.int i :: .ref a :: st) m = ev d 225 806 ls (.int (mI m a i.toNatClampNeg) :: st) m := q_sald (show am_row 225 805 = some (.iaload, 1, 0, 0, 0, 0) from rfl) hK hi
set_option maxRecDepth 20000 in
theorem e225_806 {d : Nat} {ls : am_L} {st : List Value} {m : am_M} {a : Nat} {v0 : Int32} {v1 : Int32} (hK : mK m a = (1, 10, 0)) (hw : am_w st ≤ 8) : ev (d + 1) 225 806 ls (.int v1 :: .int v0 :: .ref a :: st) m = am_k (cal d 185 [.ref a, .int v0, .int v1] m) (fun v m'' => ev (d + 1) 225 809 ls (v.toList ++ st) m'') := q_cl (show am_row 225 806 = some (.invokevirtual 90, 3, 185, 0, 0, 1292) from rfl) rfl (if_pos ⟨hK, (by show 2 ≤ _; simp only [List.length_cons]; omega), hw⟩)
set_option maxRecDepth 20000 in
theorem e225_809 {d : Nat} {ls : am_L} {st : List Value} {m : am_M} {x y : Int32} : ev d 225 809 ls (.int y :: .int x :: st) m = if x = y then ev d 225 1266 ls st m else ev d 225 812 ls st m := q_ite (a := (1266, ls, st, m)) (b := (812, ls, st, m)) (show am_row 225 809 = some (.if_icmp .eq 457, 3, 0, 0, 0, 0) from rfl) rfl
set_option maxRecDepth 20000 in
theorem e225_812 {d : Nat} {ls : am_L} {st : List Value} {m : am_M} : ev d 225 812 ls st m = ev d 225 813 ls (.int (nI 0) :: st) m := q_nx (show am_row 225 812 = some (.iconst 0, 1, 0, 0, 0, 0) from rfl) rfl
set_option maxRecDepth 20000 in
theorem e225_813 {d : Nat} {ls : am_L} {m : am_M} {x : Int32} (hb : am_bb x = true) : ev d 225 813 ls [.int x] m = some (some (.int x), m) := q_zret (show am_row 225 813 = some (.ireturn, 1, 1, 0, 0, 0) from rfl) hb
set_option maxRecDepth 20000 in
theorem e225_814 {d : Nat} {ls : am_L} {st : List Value} {m : am_M} {l0 : Option Value} {x : Nat} : ev d 225 814 (l0 :: some (.ref x) :: ls) st m = ev d 225 815 (l0 :: some (.ref x) :: ls) (.ref x :: st) m := q_nx (show am_row 225 814 = some (.aload_n 1, 1, 0, 0, 0, 0) from rfl) rfl
set_option maxRecDepth 20000 in
theorem e225_815 {d : Nat} {ls : am_L} {st : List Value} {m : am_M} {a : Nat} (hK : mK m a = (1, 9, 0)) (hw : am_w st ≤ 8) : ev (d + 1) 225 815 ls (.ref a :: st) m = am_k (cal d 108 [.ref a] m) (fun v m'' => ev (d + 1) 225 818 ls (v.toList ++ st) m'') := q_cl (show am_row 225 815 = some (.invokevirtual 91, 3, 108, 0, 0, 717) from rfl) rfl (if_pos ⟨hK, (Nat.zero_le _), hw⟩)
set_option maxRecDepth 20000 in
theorem e225_818 {d : Nat} {ls : am_L} {st : List Value} {m : am_M} {l0 : Option Value} {l1 : Option Value} {x : Nat} : ev d 225 818 (l0 :: l1 :: some (.ref x) :: ls) st m = ev d 225 819 (l0 :: l1 :: some (.ref x) :: ls) (.ref x :: st) m := q_nx (show am_row 225 818 = some (.aload_n 2, 1, 0, 0, 0, 0) from rfl) rfl
set_option maxRecDepth 20000 in
theorem e225_819 {d : Nat} {ls : am_L} {st : List Value} {m : am_M} {a : Nat} (hK : mK m a = (1, 10, 0)) (hw : am_w st ≤ 8) : ev (d + 1) 225 819 ls (.ref a :: st) m = am_k (cal d 186 [.ref a] m) (fun v m'' => ev (d + 1) 225 822 ls (v.toList ++ st) m'') := q_cl (show am_row 225 819 = some (.invokevirtual 94, 3, 186, 0, 0, 1300) from rfl) rfl (if_pos ⟨hK, (Nat.zero_le _), hw⟩)
set_option maxRecDepth 20000 in
theorem e225_822 {d : Nat} {ls : am_L} {st : List Value} {m : am_M} {x y : Int32} : ev d 225 822 ls (.int y :: .int x :: st) m = if x = y then ev d 225 1266 ls st m else ev d 225 825 ls st m := q_ite (a := (1266, ls, st, m)) (b := (825, ls, st, m)) (show am_row 225 822 = some (.if_icmp .eq 444, 3, 0, 0, 0, 0) from rfl) rfl
set_option maxRecDepth 20000 in
theorem e225_825 {d : Nat} {ls : am_L} {st : List Value} {m : am_M} : ev d 225 825 ls st m = ev d 225 826 ls (.int (nI 0) :: st) m := q_nx (show am_row 225 825 = some (.iconst 0, 1, 0, 0, 0, 0) from rfl) rfl
set_option maxRecDepth 20000 in
theorem e225_826 {d : Nat} {ls : am_L} {m : am_M} {x : Int32} (hb : am_bb x = true) : ev d 225 826 ls [.int x] m = some (some (.int x), m) := q_zret (show am_row 225 826 = some (.ireturn, 1, 1, 0, 0, 0) from rfl) hb
set_option maxRecDepth 20000 in
theorem e225_827 {d : Nat} {ls : am_L} {st : List Value} {m : am_M} {l0 : Option Value} {x : Nat} : ev d 225 827 (l0 :: some (.ref x) :: ls) st m = ev d 225 828 (l0 :: some (.ref x) :: ls) (.ref x :: st) m := q_nx (show am_row 225 827 = some (.aload_n 1, 1, 0, 0, 0, 0) from rfl) rfl
set_option maxRecDepth 20000 in
theorem e225_828 {d : Nat} {ls : am_L} {st : List Value} {m : am_M} {a : Nat} (hK : mK m a = (1, 9, 0)) (hw : am_w st ≤ 8) : ev (d + 1) 225 828 ls (.ref a :: st) m = am_k (cal d 109 [.ref a] m) (fun v m'' => ev (d + 1) 225 831 ls (v.toList ++ st) m'') := q_cl (show am_row 225 828 = some (.invokevirtual 95, 3, 109, 0, 0, 729) from rfl) rfl (if_pos ⟨hK, (Nat.zero_le _), hw⟩)
set_option maxRecDepth 20000 in
theorem e225_831 {d : Nat} {ls : am_L} {st : List Value} {m : am_M} {l0 : Option Value} {l1 : Option Value} {x : Nat} : ev d 225 831 (l0 :: l1 :: some (.ref x) :: ls) st m = ev d 225 832 (l0 :: l1 :: some (.ref x) :: ls) (.ref x :: st) m := q_nx (show am_row 225 831 = some (.aload_n 2, 1, 0, 0, 0, 0) from rfl) rfl
set_option maxRecDepth 20000 in
theorem e225_832 {d : Nat} {ls : am_L} {st : List Value} {m : am_M} {a : Nat} (hK : mK m a = (1, 10, 0)) (hw : am_w st ≤ 8) : ev (d + 1) 225 832 ls (.ref a :: st) m = am_k (cal d 187 [.ref a] m) (fun v m'' => ev (d + 1) 225 835 ls (v.toList ++ st) m'') := q_cl (show am_row 225 832 = some (.invokevirtual 98, 3, 187, 0, 0, 1304) from rfl) rfl (if_pos ⟨hK, (Nat.zero_le _), hw⟩)
set_option maxRecDepth 20000 in
theorem e225_835 {d : Nat} {ls : am_L} {st : List Value} {m : am_M} {x y : Int32} : ev d 225 835 ls (.int y :: .int x :: st) m = if x = y then ev d 225 1266 ls st m else ev d 225 838 ls st m := q_ite (a := (1266, ls, st, m)) (b := (838, ls, st, m)) (show am_row 225 835 = some (.if_icmp .eq 431, 3, 0, 0, 0, 0) from rfl) rfl
set_option maxRecDepth 20000 in
theorem e225_838 {d : Nat} {ls : am_L} {st : List Value} {m : am_M} : ev d 225 838 ls st m = ev d 225 839 ls (.int (nI 0) :: st) m := q_nx (show am_row 225 838 = some (.iconst 0, 1, 0, 0, 0, 0) from rfl) rfl
set_option maxRecDepth 20000 in
theorem e225_839 {d : Nat} {ls : am_L} {m : am_M} {x : Int32} (hb : am_bb x = true) : ev d 225 839 ls [.int x] m = some (some (.int x), m) := q_zret (show am_row 225 839 = some (.ireturn, 1, 1, 0, 0, 0) from rfl) hb
set_option maxRecDepth 20000 in
theorem e225_840 {d : Nat} {ls : am_L} {st : List Value} {m : am_M} {l0 : Option Value} {x : Nat} : ev d 225 840 (l0 :: some (.ref x) :: ls) st m = ev d 225 841 (l0 :: some (.ref x) :: ls) (.ref x :: st) m := q_nx (show am_row 225 840 = some (.aload_n 1, 1, 0, 0, 0, 0) from rfl) rfl
set_option maxRecDepth 20000 in
theorem e225_841 {d : Nat} {ls : am_L} {st : List Value} {m : am_M} {x : Nat} : ev d 225 841 (some (.ref x) :: ls) st m = ev d 225 842 (some (.ref x) :: ls) (.ref x :: st) m := q_nx (show am_row 225 841 = some (.aload_n 0, 1, 0, 0, 0, 0) from rfl) rfl
set_option maxRecDepth 20000 in
theorem e225_842 {d : Nat} {ls : am_L} {st : List Value} {m : am_M} {l0 : Option Value} {l1 : Option Value} {l2 : Option Value} {x : Int32} : ev d 225 842 (l0 :: l1 :: l2 :: some (.int x) :: ls) st m = ev d 225 843 (l0 :: l1 :: l2 :: some (.int x) :: ls) (.int x :: st) m := q_nx (show am_row 225 842 = some (.iload_n 3, 1, 0, 0, 0, 0) from rfl) rfl
set_option maxRecDepth 20000 in
theorem e225_843 {d : Nat} {ls : am_L} {st : List Value} {m : am_M} : ev d 225 843 ls st m = ev d 225 844 ls (.int (nI 1) :: st) m := q_nx (show am_row 225 843 = some (.iconst 1, 1, 0, 0, 0, 0) from rfl) rfl
set_option maxRecDepth 20000 in
theorem e225_844 {d : Nat} {ls : am_L} {st : List Value} {m : am_M} {x y : Int32} : ev d 225 844 ls (.int y :: .int x :: st) m = ev d 225 845 ls (.int (x + y) :: st) m := q_nx (show am_row 225 844 = some (.iadd, 1, 0, 0, 0, 0) from rfl) rfl
set_option maxRecDepth 20000 in
theorem e225_845 {d : Nat} {ls : am_L} {st : List Value} {m : am_M} {a : Nat} {i : Int32} (hK : (mK m a).1 = 6) (hi : am_ix i (mK m a).2.2 = true) : ev d 225 845 ls (.int i :: .ref a :: st) m = ev d 225 846 ls (.int (mI m a i.toNatClampNeg) :: st) m := q_sald (show am_row 225 845 = some (.iaload, 1, 0, 0, 0, 0) from rfl) hK hi
set_option maxRecDepth 20000 in
theorem e225_846 {d : Nat} {ls : am_L} {st : List Value} {m : am_M} {x : Nat} : ev d 225 846 (some (.ref x) :: ls) st m = ev d 225 847 (some (.ref x) :: ls) (.ref x :: st) m := q_nx (show am_row 225 846 = some (.aload_n 0, 1, 0, 0, 0, 0) from rfl) rfl
set_option maxRecDepth 20000 in
theorem e225_847 {d : Nat} {ls : am_L} {st : List Value} {m : am_M} {l0 : Option Value} {l1 : Option Value} {l2 : Option Value} {x : Int32} : ev d 225 847 (l0 :: l1 :: l2 :: some (.int x) :: ls) st m = ev d 225 848 (l0 :: l1 :: l2 :: some (.int x) :: ls) (.int x :: st) m := q_nx (show am_row 225 847 = some (.iload_n 3, 1, 0, 0, 0, 0) from rfl) rfl
set_option maxRecDepth 20000 in
theorem e225_848 {d : Nat} {ls : am_L} {st : List Value} {m : am_M} : ev d 225 848 ls st m = ev d 225 849 ls (.int (nI 2) :: st) m := q_nx (show am_row 225 848 = some (.iconst 2, 1, 0, 0, 0, 0) from rfl) rfl
set_option maxRecDepth 20000 in
theorem e225_849 {d : Nat} {ls : am_L} {st : List Value} {m : am_M} {x y : Int32} : ev d 225 849 ls (.int y :: .int x :: st) m = ev d 225 850 ls (.int (x + y) :: st) m := q_nx (show am_row 225 849 = some (.iadd, 1, 0, 0, 0, 0) from rfl) rfl
set_option maxRecDepth 20000 in
theorem e225_850 {d : Nat} {ls : am_L} {st : List Value} {m : am_M} {a : Nat} {i : Int32} (hK : (mK m a).1 = 6) (hi : am_ix i (mK m a).2.2 = true) : ev d 225 850 ls (.int i :: .ref a :: st) m = ev d 225 851 ls (.int (mI m a i.toNatClampNeg) :: st) m := q_sald (show am_row 225 850 = some (.iaload, 1, 0, 0, 0, 0) from rfl) hK hi
set_option maxRecDepth 20000 in
theorem e225_851 {d : Nat} {ls : am_L} {st : List Value} {m : am_M} {x : Int32} : ev d 225 851 ls (.int x :: st) m = ev d 225 852 ls (.long x.toInt64 :: st) m := q_nx (show am_row 225 851 = some (.i2l, 1, 0, 0, 0, 0) from rfl) rfl
set_option maxRecDepth 20000 in
theorem e225_852 {d : Nat} {ls : am_L} {st : List Value} {m : am_M} : ev d 225 852 ls st m = ev d 225 854 ls (.int (nI 32) :: st) m := q_nx (show am_row 225 852 = some (.bipush 32, 2, 0, 0, 0, 0) from rfl) rfl
set_option maxRecDepth 20000 in
theorem e225_854 {d : Nat} {ls : am_L} {st : List Value} {m : am_M} {x : Int64} {y : Int32} : ev d 225 854 ls (.int y :: .long x :: st) m = ev d 225 855 ls (.long (x <<< (y.toInt64 &&& 63)) :: st) m := q_nx (show am_row 225 854 = some (.lshl, 1, 0, 0, 0, 0) from rfl) rfl
set_option maxRecDepth 20000 in
theorem e225_855 {d : Nat} {ls : am_L} {st : List Value} {m : am_M} {x : Nat} : ev d 225 855 (some (.ref x) :: ls) st m = ev d 225 856 (some (.ref x) :: ls) (.ref x :: st) m := q_nx (show am_row 225 855 = some (.aload_n 0, 1, 0, 0, 0, 0) from rfl) rfl
set_option maxRecDepth 20000 in
theorem e225_856 {d : Nat} {ls : am_L} {st : List Value} {m : am_M} {l0 : Option Value} {l1 : Option Value} {l2 : Option Value} {x : Int32} : ev d 225 856 (l0 :: l1 :: l2 :: some (.int x) :: ls) st m = ev d 225 857 (l0 :: l1 :: l2 :: some (.int x) :: ls) (.int x :: st) m := q_nx (show am_row 225 856 = some (.iload_n 3, 1, 0, 0, 0, 0) from rfl) rfl
set_option maxRecDepth 20000 in
theorem e225_857 {d : Nat} {ls : am_L} {st : List Value} {m : am_M} : ev d 225 857 ls st m = ev d 225 858 ls (.int (nI 3) :: st) m := q_nx (show am_row 225 857 = some (.iconst 3, 1, 0, 0, 0, 0) from rfl) rfl
set_option maxRecDepth 20000 in
theorem e225_858 {d : Nat} {ls : am_L} {st : List Value} {m : am_M} {x y : Int32} : ev d 225 858 ls (.int y :: .int x :: st) m = ev d 225 859 ls (.int (x + y) :: st) m := q_nx (show am_row 225 858 = some (.iadd, 1, 0, 0, 0, 0) from rfl) rfl
set_option maxRecDepth 20000 in
theorem e225_859 {d : Nat} {ls : am_L} {st : List Value} {m : am_M} {a : Nat} {i : Int32} (hK : (mK m a).1 = 6) (hi : am_ix i (mK m a).2.2 = true) : ev d 225 859 ls (.int i :: .ref a :: st) m = ev d 225 860 ls (.int (mI m a i.toNatClampNeg) :: st) m := q_sald (show am_row 225 859 = some (.iaload, 1, 0, 0, 0, 0) from rfl) hK hi
set_option maxRecDepth 20000 in
theorem e225_860 {d : Nat} {ls : am_L} {st : List Value} {m : am_M} {x : Int32} : ev d 225 860 ls (.int x :: st) m = ev d 225 861 ls (.long x.toInt64 :: st) m := q_nx (show am_row 225 860 = some (.i2l, 1, 0, 0, 0, 0) from rfl) rfl
set_option maxRecDepth 20000 in
theorem e225_861 {d : Nat} {ls : am_L} {st : List Value} {m : am_M} : ev d 225 861 ls st m = ev d 225 864 ls (.long 4294967295 :: st) m := q_nx (show am_row 225 861 = some (.ldc2_w 99, 3, 0, 0, 4294967295, 1468) from rfl) rfl
set_option maxRecDepth 20000 in
theorem e225_864 {d : Nat} {ls : am_L} {st : List Value} {m : am_M} {x y : Int64} : ev d 225 864 ls (.long y :: .long x :: st) m = ev d 225 865 ls (.long (x &&& y) :: st) m := q_nx (show am_row 225 864 = some (.land, 1, 0, 0, 0, 0) from rfl) rfl
set_option maxRecDepth 20000 in
theorem e225_865 {d : Nat} {ls : am_L} {st : List Value} {m : am_M} {x y : Int64} : ev d 225 865 ls (.long y :: .long x :: st) m = ev d 225 866 ls (.long (x ||| y) :: st) m := q_nx (show am_row 225 865 = some (.lor, 1, 0, 0, 0, 0) from rfl) rfl
set_option maxRecDepth 20000 in
theorem e225_866 {d : Nat} {ls : am_L} {st : List Value} {m : am_M} {a : Nat} {v0 : Int32} {v1 : Int64} (hK : mK m a = (1, 9, 0)) (hw : am_w st ≤ 8) : ev (d + 1) 225 866 ls (.long v1 :: .int v0 :: .ref a :: st) m = am_k (cal d 110 [.ref a, .int v0, .long v1] m) (fun v m'' => ev (d + 1) 225 869 ls (v.toList ++ st) m'') := q_cl (show am_row 225 866 = some (.invokevirtual 101, 3, 110, 0, 0, 733) from rfl) rfl (if_pos ⟨hK, (by show 2 ≤ _; simp only [List.length_cons]; omega), hw⟩)
set_option maxRecDepth 20000 in
theorem e225_869 {d : Nat} {ls : am_L} {st : List Value} {m : am_M} {l0 : Option Value} {l1 : Option Value} {x : Nat} : ev d 225 869 (l0 :: l1 :: some (.ref x) :: ls) st m = ev d 225 870 (l0 :: l1 :: some (.ref x) :: ls) (.ref x :: st) m := q_nx (show am_row 225 869 = some (.aload_n 2, 1, 0, 0, 0, 0) from rfl) rfl
set_option maxRecDepth 20000 in
theorem e225_870 {d : Nat} {ls : am_L} {st : List Value} {m : am_M} {x : Nat} : ev d 225 870 (some (.ref x) :: ls) st m = ev d 225 871 (some (.ref x) :: ls) (.ref x :: st) m := q_nx (show am_row 225 870 = some (.aload_n 0, 1, 0, 0, 0, 0) from rfl) rfl
set_option maxRecDepth 20000 in
theorem e225_871 {d : Nat} {ls : am_L} {st : List Value} {m : am_M} {l0 : Option Value} {l1 : Option Value} {l2 : Option Value} {x : Int32} : ev d 225 871 (l0 :: l1 :: l2 :: some (.int x) :: ls) st m = ev d 225 872 (l0 :: l1 :: l2 :: some (.int x) :: ls) (.int x :: st) m := q_nx (show am_row 225 871 = some (.iload_n 3, 1, 0, 0, 0, 0) from rfl) rfl
set_option maxRecDepth 20000 in
theorem e225_872 {d : Nat} {ls : am_L} {st : List Value} {m : am_M} : ev d 225 872 ls st m = ev d 225 873 ls (.int (nI 1) :: st) m := q_nx (show am_row 225 872 = some (.iconst 1, 1, 0, 0, 0, 0) from rfl) rfl
set_option maxRecDepth 20000 in
theorem e225_873 {d : Nat} {ls : am_L} {st : List Value} {m : am_M} {x y : Int32} : ev d 225 873 ls (.int y :: .int x :: st) m = ev d 225 874 ls (.int (x + y) :: st) m := q_nx (show am_row 225 873 = some (.iadd, 1, 0, 0, 0, 0) from rfl) rfl
set_option maxRecDepth 20000 in
theorem e225_874 {d : Nat} {ls : am_L} {st : List Value} {m : am_M} {a : Nat} {i : Int32} (hK : (mK m a).1 = 6) (hi : am_ix i (mK m a).2.2 = true) : ev d 225 874 ls (.int i :: .ref a :: st) m = ev d 225 875 ls (.int (mI m a i.toNatClampNeg) :: st) m := q_sald (show am_row 225 874 = some (.iaload, 1, 0, 0, 0, 0) from rfl) hK hi
set_option maxRecDepth 20000 in
theorem e225_875 {d : Nat} {ls : am_L} {st : List Value} {m : am_M} {x : Nat} : ev d 225 875 (some (.ref x) :: ls) st m = ev d 225 876 (some (.ref x) :: ls) (.ref x :: st) m := q_nx (show am_row 225 875 = some (.aload_n 0, 1, 0, 0, 0, 0) from rfl) rfl
set_option maxRecDepth 20000 in
theorem e225_876 {d : Nat} {ls : am_L} {st : List Value} {m : am_M} {l0 : Option Value} {l1 : Option Value} {l2 : Option Value} {x : Int32} : ev d 225 876 (l0 :: l1 :: l2 :: some (.int x) :: ls) st m = ev d 225 877 (l0 :: l1 :: l2 :: some (.int x) :: ls) (.int x :: st) m := q_nx (show am_row 225 876 = some (.iload_n 3, 1, 0, 0, 0, 0) from rfl) rfl
set_option maxRecDepth 20000 in
theorem e225_877 {d : Nat} {ls : am_L} {st : List Value} {m : am_M} : ev d 225 877 ls st m = ev d 225 878 ls (.int (nI 2) :: st) m := q_nx (show am_row 225 877 = some (.iconst 2, 1, 0, 0, 0, 0) from rfl) rfl
set_option maxRecDepth 20000 in
theorem e225_878 {d : Nat} {ls : am_L} {st : List Value} {m : am_M} {x y : Int32} : ev d 225 878 ls (.int y :: .int x :: st) m = ev d 225 879 ls (.int (x + y) :: st) m := q_nx (show am_row 225 878 = some (.iadd, 1, 0, 0, 0, 0) from rfl) rfl
set_option maxRecDepth 20000 in
theorem e225_879 {d : Nat} {ls : am_L} {st : List Value} {m : am_M} {a : Nat} {i : Int32} (hK : (mK m a).1 = 6) (hi : am_ix i (mK m a).2.2 = true) : ev d 225 879 ls (.int i :: .ref a :: st) m = ev d 225 880 ls (.int (mI m a i.toNatClampNeg) :: st) m := q_sald (show am_row 225 879 = some (.iaload, 1, 0, 0, 0, 0) from rfl) hK hi
set_option maxRecDepth 20000 in
theorem e225_880 {d : Nat} {ls : am_L} {st : List Value} {m : am_M} {x : Int32} : ev d 225 880 ls (.int x :: st) m = ev d 225 881 ls (.long x.toInt64 :: st) m := q_nx (show am_row 225 880 = some (.i2l, 1, 0, 0, 0, 0) from rfl) rfl
set_option maxRecDepth 20000 in
theorem e225_881 {d : Nat} {ls : am_L} {st : List Value} {m : am_M} : ev d 225 881 ls st m = ev d 225 883 ls (.int (nI 32) :: st) m := q_nx (show am_row 225 881 = some (.bipush 32, 2, 0, 0, 0, 0) from rfl) rfl
set_option maxRecDepth 20000 in
theorem e225_883 {d : Nat} {ls : am_L} {st : List Value} {m : am_M} {x : Int64} {y : Int32} : ev d 225 883 ls (.int y :: .long x :: st) m = ev d 225 884 ls (.long (x <<< (y.toInt64 &&& 63)) :: st) m := q_nx (show am_row 225 883 = some (.lshl, 1, 0, 0, 0, 0) from rfl) rfl
set_option maxRecDepth 20000 in
theorem e225_884 {d : Nat} {ls : am_L} {st : List Value} {m : am_M} {x : Nat} : ev d 225 884 (some (.ref x) :: ls) st m = ev d 225 885 (some (.ref x) :: ls) (.ref x :: st) m := q_nx (show am_row 225 884 = some (.aload_n 0, 1, 0, 0, 0, 0) from rfl) rfl
set_option maxRecDepth 20000 in
theorem e225_885 {d : Nat} {ls : am_L} {st : List Value} {m : am_M} {l0 : Option Value} {l1 : Option Value} {l2 : Option Value} {x : Int32} : ev d 225 885 (l0 :: l1 :: l2 :: some (.int x) :: ls) st m = ev d 225 886 (l0 :: l1 :: l2 :: some (.int x) :: ls) (.int x :: st) m := q_nx (show am_row 225 885 = some (.iload_n 3, 1, 0, 0, 0, 0) from rfl) rfl
set_option maxRecDepth 20000 in
theorem e225_886 {d : Nat} {ls : am_L} {st : List Value} {m : am_M} : ev d 225 886 ls st m = ev d 225 887 ls (.int (nI 3) :: st) m := q_nx (show am_row 225 886 = some (.iconst 3, 1, 0, 0, 0, 0) from rfl) rfl
set_option maxRecDepth 20000 in
theorem e225_887 {d : Nat} {ls : am_L} {st : List Value} {m : am_M} {x y : Int32} : ev d 225 887 ls (.int y :: .int x :: st) m = ev d 225 888 ls (.int (x + y) :: st) m := q_nx (show am_row 225 887 = some (.iadd, 1, 0, 0, 0, 0) from rfl) rfl
set_option maxRecDepth 20000 in
theorem e225_888 {d : Nat} {ls : am_L} {st : List Value} {m : am_M} {a : Nat} {i : Int32} (hK : (mK m a).1 = 6) (hi : am_ix i (mK m a).2.2 = true) : ev d 225 888 ls (.int i :: .ref a :: st) m = ev d 225 889 ls (.int (mI m a i.toNatClampNeg) :: st) m := q_sald (show am_row 225 888 = some (.iaload, 1, 0, 0, 0, 0) from rfl) hK hi
set_option maxRecDepth 20000 in
theorem e225_889 {d : Nat} {ls : am_L} {st : List Value} {m : am_M} {x : Int32} : ev d 225 889 ls (.int x :: st) m = ev d 225 890 ls (.long x.toInt64 :: st) m := q_nx (show am_row 225 889 = some (.i2l, 1, 0, 0, 0, 0) from rfl) rfl
set_option maxRecDepth 20000 in
theorem e225_890 {d : Nat} {ls : am_L} {st : List Value} {m : am_M} : ev d 225 890 ls st m = ev d 225 893 ls (.long 4294967295 :: st) m := q_nx (show am_row 225 890 = some (.ldc2_w 99, 3, 0, 0, 4294967295, 1468) from rfl) rfl
set_option maxRecDepth 20000 in
theorem e225_893 {d : Nat} {ls : am_L} {st : List Value} {m : am_M} {x y : Int64} : ev d 225 893 ls (.long y :: .long x :: st) m = ev d 225 894 ls (.long (x &&& y) :: st) m := q_nx (show am_row 225 893 = some (.land, 1, 0, 0, 0, 0) from rfl) rfl
set_option maxRecDepth 20000 in
theorem e225_894 {d : Nat} {ls : am_L} {st : List Value} {m : am_M} {x y : Int64} : ev d 225 894 ls (.long y :: .long x :: st) m = ev d 225 895 ls (.long (x ||| y) :: st) m := q_nx (show am_row 225 894 = some (.lor, 1, 0, 0, 0, 0) from rfl) rfl
set_option maxRecDepth 20000 in
theorem e225_895 {d : Nat} {ls : am_L} {st : List Value} {m : am_M} {a : Nat} {v0 : Int32} {v1 : Int64} (hK : mK m a = (1, 10, 0)) (hw : am_w st ≤ 8) : ev (d + 1) 225 895 ls (.long v1 :: .int v0 :: .ref a :: st) m = am_k (cal d 188 [.ref a, .int v0, .long v1] m) (fun v m'' => ev (d + 1) 225 898 ls (v.toList ++ st) m'') := q_cl (show am_row 225 895 = some (.invokevirtual 105, 3, 188, 0, 0, 1308) from rfl) rfl (if_pos ⟨hK, (by show 2 ≤ _; simp only [List.length_cons]; omega), hw⟩)
set_option maxRecDepth 20000 in
theorem e225_898 {d : Nat} {ls : am_L} {st : List Value} {m : am_M} {x y : Int32} : ev d 225 898 ls (.int y :: .int x :: st) m = if x = y then ev d 225 1266 ls st m else ev d 225 901 ls st m := q_ite (a := (1266, ls, st, m)) (b := (901, ls, st, m)) (show am_row 225 898 = some (.if_icmp .eq 368, 3, 0, 0, 0, 0) from rfl) rfl
set_option maxRecDepth 20000 in
theorem e225_901 {d : Nat} {ls : am_L} {st : List Value} {m : am_M} : ev d 225 901 ls st m = ev d 225 902 ls (.int (nI 0) :: st) m := q_nx (show am_row 225 901 = some (.iconst 0, 1, 0, 0, 0, 0) from rfl) rfl
set_option maxRecDepth 20000 in
theorem e225_902 {d : Nat} {ls : am_L} {m : am_M} {x : Int32} (hb : am_bb x = true) : ev d 225 902 ls [.int x] m = some (some (.int x), m) := q_zret (show am_row 225 902 = some (.ireturn, 1, 1, 0, 0, 0) from rfl) hb
set_option maxRecDepth 20000 in
theorem e225_903 {d : Nat} {ls : am_L} {st : List Value} {m : am_M} {l0 : Option Value} {x : Nat} : ev d 225 903 (l0 :: some (.ref x) :: ls) st m = ev d 225 904 (l0 :: some (.ref x) :: ls) (.ref x :: st) m := q_nx (show am_row 225 903 = some (.aload_n 1, 1, 0, 0, 0, 0) from rfl) rfl
set_option maxRecDepth 20000 in
theorem e225_904 {d : Nat} {ls : am_L} {st : List Value} {m : am_M} {x : Nat} : ev d 225 904 (some (.ref x) :: ls) st m = ev d 225 905 (some (.ref x) :: ls) (.ref x :: st) m := q_nx (show am_row 225 904 = some (.aload_n 0, 1, 0, 0, 0, 0) from rfl) rfl
set_option maxRecDepth 20000 in
theorem e225_905 {d : Nat} {ls : am_L} {st : List Value} {m : am_M} {l0 : Option Value} {l1 : Option Value} {l2 : Option Value} {x : Int32} : ev d 225 905 (l0 :: l1 :: l2 :: some (.int x) :: ls) st m = ev d 225 906 (l0 :: l1 :: l2 :: some (.int x) :: ls) (.int x :: st) m := q_nx (show am_row 225 905 = some (.iload_n 3, 1, 0, 0, 0, 0) from rfl) rfl
set_option maxRecDepth 20000 in
theorem e225_906 {d : Nat} {ls : am_L} {st : List Value} {m : am_M} : ev d 225 906 ls st m = ev d 225 907 ls (.int (nI 1) :: st) m := q_nx (show am_row 225 906 = some (.iconst 1, 1, 0, 0, 0, 0) from rfl) rfl
set_option maxRecDepth 20000 in
theorem e225_907 {d : Nat} {ls : am_L} {st : List Value} {m : am_M} {x y : Int32} : ev d 225 907 ls (.int y :: .int x :: st) m = ev d 225 908 ls (.int (x + y) :: st) m := q_nx (show am_row 225 907 = some (.iadd, 1, 0, 0, 0, 0) from rfl) rfl
set_option maxRecDepth 20000 in
theorem e225_908 {d : Nat} {ls : am_L} {st : List Value} {m : am_M} {a : Nat} {i : Int32} (hK : (mK m a).1 = 6) (hi : am_ix i (mK m a).2.2 = true) : ev d 225 908 ls (.int i :: .ref a :: st) m = ev d 225 909 ls (.int (mI m a i.toNatClampNeg) :: st) m := q_sald (show am_row 225 908 = some (.iaload, 1, 0, 0, 0, 0) from rfl) hK hi
set_option maxRecDepth 20000 in
theorem e225_909 {d : Nat} {ls : am_L} {st : List Value} {m : am_M} {a : Nat} {v0 : Int32} (hK : mK m a = (1, 9, 0)) (hw : am_w st ≤ 8) : ev (d + 1) 225 909 ls (.int v0 :: .ref a :: st) m = am_k (cal d 111 [.ref a, .int v0] m) (fun v m'' => ev (d + 1) 225 912 ls (v.toList ++ st) m'') := q_cl (show am_row 225 909 = some (.invokevirtual 106, 3, 111, 0, 0, 742) from rfl) rfl (if_pos ⟨hK, (by show 1 ≤ _; simp only [List.length_cons]; omega), hw⟩)
set_option maxRecDepth 20000 in
theorem e225_912 {d : Nat} {ls : am_L} {st : List Value} {m : am_M} {l0 : Option Value} {l1 : Option Value} {x : Nat} : ev d 225 912 (l0 :: l1 :: some (.ref x) :: ls) st m = ev d 225 913 (l0 :: l1 :: some (.ref x) :: ls) (.ref x :: st) m := q_nx (show am_row 225 912 = some (.aload_n 2, 1, 0, 0, 0, 0) from rfl) rfl
set_option maxRecDepth 20000 in
theorem e225_913 {d : Nat} {ls : am_L} {st : List Value} {m : am_M} {x : Nat} : ev d 225 913 (some (.ref x) :: ls) st m = ev d 225 914 (some (.ref x) :: ls) (.ref x :: st) m := q_nx (show am_row 225 913 = some (.aload_n 0, 1, 0, 0, 0, 0) from rfl) rfl
set_option maxRecDepth 20000 in
theorem e225_914 {d : Nat} {ls : am_L} {st : List Value} {m : am_M} {l0 : Option Value} {l1 : Option Value} {l2 : Option Value} {x : Int32} : ev d 225 914 (l0 :: l1 :: l2 :: some (.int x) :: ls) st m = ev d 225 915 (l0 :: l1 :: l2 :: some (.int x) :: ls) (.int x :: st) m := q_nx (show am_row 225 914 = some (.iload_n 3, 1, 0, 0, 0, 0) from rfl) rfl
set_option maxRecDepth 20000 in
theorem e225_915 {d : Nat} {ls : am_L} {st : List Value} {m : am_M} : ev d 225 915 ls st m = ev d 225 916 ls (.int (nI 1) :: st) m := q_nx (show am_row 225 915 = some (.iconst 1, 1, 0, 0, 0, 0) from rfl) rfl
set_option maxRecDepth 20000 in
theorem e225_916 {d : Nat} {ls : am_L} {st : List Value} {m : am_M} {x y : Int32} : ev d 225 916 ls (.int y :: .int x :: st) m = ev d 225 917 ls (.int (x + y) :: st) m := q_nx (show am_row 225 916 = some (.iadd, 1, 0, 0, 0, 0) from rfl) rfl
set_option maxRecDepth 20000 in
theorem e225_917 {d : Nat} {ls : am_L} {st : List Value} {m : am_M} {a : Nat} {i : Int32} (hK : (mK m a).1 = 6) (hi : am_ix i (mK m a).2.2 = true) : ev d 225 917 ls (.int i :: .ref a :: st) m = ev d 225 918 ls (.int (mI m a i.toNatClampNeg) :: st) m := q_sald (show am_row 225 917 = some (.iaload, 1, 0, 0, 0, 0) from rfl) hK hi
set_option maxRecDepth 20000 in
theorem e225_918 {d : Nat} {ls : am_L} {st : List Value} {m : am_M} {a : Nat} {v0 : Int32} (hK : mK m a = (1, 10, 0)) (hw : am_w st ≤ 8) : ev (d + 1) 225 918 ls (.int v0 :: .ref a :: st) m = am_k (cal d 189 [.ref a, .int v0] m) (fun v m'' => ev (d + 1) 225 921 ls (v.toList ++ st) m'') := q_cl (show am_row 225 918 = some (.invokevirtual 110, 3, 189, 0, 0, 1317) from rfl) rfl (if_pos ⟨hK, (by show 1 ≤ _; simp only [List.length_cons]; omega), hw⟩)
set_option maxRecDepth 20000 in
theorem e225_921 {d : Nat} {ls : am_L} {st : List Value} {m : am_M} {x y : Int64} : ev d 225 921 ls (.long y :: .long x :: st) m = ev d 225 922 ls (.int (lg_cmp x y) :: st) m := q_nx (show am_row 225 921 = some (.lcmp, 1, 0, 0, 0, 0) from rfl) rfl
set_option maxRecDepth 20000 in
theorem e225_922 {d : Nat} {ls : am_L} {st : List Value} {m : am_M} {x : Int32} : ev d 225 922 ls (.int x :: st) m = if x = nI 0 then ev d 225 1266 ls st m else ev d 225 925 ls st m := q_ite (a := (1266, ls, st, m)) (b := (925, ls, st, m)) (show am_row 225 922 = some (.ifCond .eq 344, 3, 0, 0, 0, 0) from rfl) rfl
set_option maxRecDepth 20000 in
theorem e225_925 {d : Nat} {ls : am_L} {st : List Value} {m : am_M} : ev d 225 925 ls st m = ev d 225 926 ls (.int (nI 0) :: st) m := q_nx (show am_row 225 925 = some (.iconst 0, 1, 0, 0, 0, 0) from rfl) rfl
set_option maxRecDepth 20000 in
theorem e225_926 {d : Nat} {ls : am_L} {m : am_M} {x : Int32} (hb : am_bb x = true) : ev d 225 926 ls [.int x] m = some (some (.int x), m) := q_zret (show am_row 225 926 = some (.ireturn, 1, 1, 0, 0, 0) from rfl) hb
set_option maxRecDepth 20000 in
theorem e225_927 {d : Nat} {ls : am_L} {st : List Value} {m : am_M} {l0 : Option Value} {x : Nat} : ev d 225 927 (l0 :: some (.ref x) :: ls) st m = ev d 225 928 (l0 :: some (.ref x) :: ls) (.ref x :: st) m := q_nx (show am_row 225 927 = some (.aload_n 1, 1, 0, 0, 0, 0) from rfl) rfl
set_option maxRecDepth 20000 in
theorem e225_928 {d : Nat} {ls : am_L} {st : List Value} {m : am_M} {a : Nat} (hK : mK m a = (1, 9, 0)) (hw : am_w st ≤ 8) : ev (d + 1) 225 928 ls (.ref a :: st) m = am_k (cal d 112 [.ref a] m) (fun v m'' => ev (d + 1) 225 931 ls (v.toList ++ st) m'') := q_cl (show am_row 225 928 = some (.invokevirtual 111, 3, 112, 0, 0, 755) from rfl) rfl (if_pos ⟨hK, (Nat.zero_le _), hw⟩)
set_option maxRecDepth 20000 in
theorem e225_931 {d : Nat} {ls : am_L} {st : List Value} {m : am_M} {l0 : Option Value} {l1 : Option Value} {x : Nat} : ev d 225 931 (l0 :: l1 :: some (.ref x) :: ls) st m = ev d 225 932 (l0 :: l1 :: some (.ref x) :: ls) (.ref x :: st) m := q_nx (show am_row 225 931 = some (.aload_n 2, 1, 0, 0, 0, 0) from rfl) rfl
set_option maxRecDepth 20000 in
theorem e225_932 {d : Nat} {ls : am_L} {st : List Value} {m : am_M} {a : Nat} (hK : mK m a = (1, 10, 0)) (hw : am_w st ≤ 8) : ev (d + 1) 225 932 ls (.ref a :: st) m = am_k (cal d 199 [.ref a] m) (fun v m'' => ev (d + 1) 225 935 ls (v.toList ++ st) m'') := q_cl (show am_row 225 932 = some (.invokevirtual 114, 3, 199, 0, 0, 1321) from rfl) rfl (if_pos ⟨hK, (Nat.zero_le _), hw⟩)
set_option maxRecDepth 20000 in
theorem e225_935 {d : Nat} {ls : am_L} {st : List Value} {m : am_M} {x y : Int32} : ev d 225 935 ls (.int y :: .int x :: st) m = if x = y then ev d 225 1266 ls st m else ev d 225 938 ls st m := q_ite (a := (1266, ls, st, m)) (b := (938, ls, st, m)) (show am_row 225 935 = some (.if_icmp .eq 331, 3, 0, 0, 0, 0) from rfl) rfl
set_option maxRecDepth 20000 in
theorem e225_938 {d : Nat} {ls : am_L} {st : List Value} {m : am_M} : ev d 225 938 ls st m = ev d 225 939 ls (.int (nI 0) :: st) m := q_nx (show am_row 225 938 = some (.iconst 0, 1, 0, 0, 0, 0) from rfl) rfl
set_option maxRecDepth 20000 in
theorem e225_939 {d : Nat} {ls : am_L} {m : am_M} {x : Int32} (hb : am_bb x = true) : ev d 225 939 ls [.int x] m = some (some (.int x), m) := q_zret (show am_row 225 939 = some (.ireturn, 1, 1, 0, 0, 0) from rfl) hb
set_option maxRecDepth 20000 in
theorem e225_940 {d : Nat} {ls : am_L} {st : List Value} {m : am_M} {l0 : Option Value} {x : Nat} : ev d 225 940 (l0 :: some (.ref x) :: ls) st m = ev d 225 941 (l0 :: some (.ref x) :: ls) (.ref x :: st) m := q_nx (show am_row 225 940 = some (.aload_n 1, 1, 0, 0, 0, 0) from rfl) rfl
set_option maxRecDepth 20000 in
theorem e225_941 {d : Nat} {ls : am_L} {st : List Value} {m : am_M} {x : Nat} : ev d 225 941 (some (.ref x) :: ls) st m = ev d 225 942 (some (.ref x) :: ls) (.ref x :: st) m := q_nx (show am_row 225 941 = some (.aload_n 0, 1, 0, 0, 0, 0) from rfl) rfl
set_option maxRecDepth 20000 in
theorem e225_942 {d : Nat} {ls : am_L} {st : List Value} {m : am_M} {l0 : Option Value} {l1 : Option Value} {l2 : Option Value} {x : Int32} : ev d 225 942 (l0 :: l1 :: l2 :: some (.int x) :: ls) st m = ev d 225 943 (l0 :: l1 :: l2 :: some (.int x) :: ls) (.int x :: st) m := q_nx (show am_row 225 942 = some (.iload_n 3, 1, 0, 0, 0, 0) from rfl) rfl
set_option maxRecDepth 20000 in
theorem e225_943 {d : Nat} {ls : am_L} {st : List Value} {m : am_M} : ev d 225 943 ls st m = ev d 225 944 ls (.int (nI 1) :: st) m := q_nx (show am_row 225 943 = some (.iconst 1, 1, 0, 0, 0, 0) from rfl) rfl
set_option maxRecDepth 20000 in
theorem e225_944 {d : Nat} {ls : am_L} {st : List Value} {m : am_M} {x y : Int32} : ev d 225 944 ls (.int y :: .int x :: st) m = ev d 225 945 ls (.int (x + y) :: st) m := q_nx (show am_row 225 944 = some (.iadd, 1, 0, 0, 0, 0) from rfl) rfl
set_option maxRecDepth 20000 in
theorem e225_945 {d : Nat} {ls : am_L} {st : List Value} {m : am_M} {a : Nat} {i : Int32} (hK : (mK m a).1 = 6) (hi : am_ix i (mK m a).2.2 = true) : ev d 225 945 ls (.int i :: .ref a :: st) m = ev d 225 946 ls (.int (mI m a i.toNatClampNeg) :: st) m := q_sald (show am_row 225 945 = some (.iaload, 1, 0, 0, 0, 0) from rfl) hK hi
set_option maxRecDepth 20000 in
theorem e225_946 {d : Nat} {ls : am_L} {st : List Value} {m : am_M} {a : Nat} {v0 : Int32} (hK : mK m a = (1, 9, 0)) (hw : am_w st ≤ 8) : ev (d + 1) 225 946 ls (.int v0 :: .ref a :: st) m = am_k (cal d 113 [.ref a, .int v0] m) (fun v m'' => ev (d + 1) 225 949 ls (v.toList ++ st) m'') := q_cl (show am_row 225 946 = some (.invokevirtual 115, 3, 113, 0, 0, 798) from rfl) rfl (if_pos ⟨hK, (by show 1 ≤ _; simp only [List.length_cons]; omega), hw⟩)
set_option maxRecDepth 20000 in
theorem e225_949 {d : Nat} {ls : am_L} {st : List Value} {m : am_M} {l0 : Option Value} {l1 : Option Value} {x : Nat} : ev d 225 949 (l0 :: l1 :: some (.ref x) :: ls) st m = ev d 225 950 (l0 :: l1 :: some (.ref x) :: ls) (.ref x :: st) m := q_nx (show am_row 225 949 = some (.aload_n 2, 1, 0, 0, 0, 0) from rfl) rfl
set_option maxRecDepth 20000 in
theorem e225_950 {d : Nat} {ls : am_L} {st : List Value} {m : am_M} {x : Nat} : ev d 225 950 (some (.ref x) :: ls) st m = ev d 225 951 (some (.ref x) :: ls) (.ref x :: st) m := q_nx (show am_row 225 950 = some (.aload_n 0, 1, 0, 0, 0, 0) from rfl) rfl
set_option maxRecDepth 20000 in
theorem e225_951 {d : Nat} {ls : am_L} {st : List Value} {m : am_M} {l0 : Option Value} {l1 : Option Value} {l2 : Option Value} {x : Int32} : ev d 225 951 (l0 :: l1 :: l2 :: some (.int x) :: ls) st m = ev d 225 952 (l0 :: l1 :: l2 :: some (.int x) :: ls) (.int x :: st) m := q_nx (show am_row 225 951 = some (.iload_n 3, 1, 0, 0, 0, 0) from rfl) rfl
set_option maxRecDepth 20000 in
theorem e225_952 {d : Nat} {ls : am_L} {st : List Value} {m : am_M} : ev d 225 952 ls st m = ev d 225 953 ls (.int (nI 1) :: st) m := q_nx (show am_row 225 952 = some (.iconst 1, 1, 0, 0, 0, 0) from rfl) rfl
set_option maxRecDepth 20000 in
theorem e225_953 {d : Nat} {ls : am_L} {st : List Value} {m : am_M} {x y : Int32} : ev d 225 953 ls (.int y :: .int x :: st) m = ev d 225 954 ls (.int (x + y) :: st) m := q_nx (show am_row 225 953 = some (.iadd, 1, 0, 0, 0, 0) from rfl) rfl
set_option maxRecDepth 20000 in
theorem e225_954 {d : Nat} {ls : am_L} {st : List Value} {m : am_M} {a : Nat} {i : Int32} (hK : (mK m a).1 = 6) (hi : am_ix i (mK m a).2.2 = true) : ev d 225 954 ls (.int i :: .ref a :: st) m = ev d 225 955 ls (.int (mI m a i.toNatClampNeg) :: st) m := q_sald (show am_row 225 954 = some (.iaload, 1, 0, 0, 0, 0) from rfl) hK hi
set_option maxRecDepth 20000 in
theorem e225_955 {d : Nat} {ls : am_L} {st : List Value} {m : am_M} {a : Nat} {v0 : Int32} (hK : mK m a = (1, 10, 0)) (hw : am_w st ≤ 8) : ev (d + 1) 225 955 ls (.int v0 :: .ref a :: st) m = am_k (cal d 200 [.ref a, .int v0] m) (fun v m'' => ev (d + 1) 225 958 ls (v.toList ++ st) m'') := q_cl (show am_row 225 955 = some (.invokevirtual 118, 3, 200, 0, 0, 1358) from rfl) rfl (if_pos ⟨hK, (by show 1 ≤ _; simp only [List.length_cons]; omega), hw⟩)
set_option maxRecDepth 20000 in
theorem e225_958 {d : Nat} {ls : am_L} {st : List Value} {m : am_M} {x y : Int64} : ev d 225 958 ls (.long y :: .long x :: st) m = ev d 225 959 ls (.int (lg_cmp x y) :: st) m := q_nx (show am_row 225 958 = some (.lcmp, 1, 0, 0, 0, 0) from rfl) rfl
set_option maxRecDepth 20000 in
theorem e225_959 {d : Nat} {ls : am_L} {st : List Value} {m : am_M} {x : Int32} : ev d 225 959 ls (.int x :: st) m = if x = nI 0 then ev d 225 1266 ls st m else ev d 225 962 ls st m := q_ite (a := (1266, ls, st, m)) (b := (962, ls, st, m)) (show am_row 225 959 = some (.ifCond .eq 307, 3, 0, 0, 0, 0) from rfl) rfl
set_option maxRecDepth 20000 in
theorem e225_962 {d : Nat} {ls : am_L} {st : List Value} {m : am_M} : ev d 225 962 ls st m = ev d 225 963 ls (.int (nI 0) :: st) m := q_nx (show am_row 225 962 = some (.iconst 0, 1, 0, 0, 0, 0) from rfl) rfl
set_option maxRecDepth 20000 in
theorem e225_963 {d : Nat} {ls : am_L} {m : am_M} {x : Int32} (hb : am_bb x = true) : ev d 225 963 ls [.int x] m = some (some (.int x), m) := q_zret (show am_row 225 963 = some (.ireturn, 1, 1, 0, 0, 0) from rfl) hb
set_option maxRecDepth 20000 in
theorem e225_964 {d : Nat} {ls : am_L} {st : List Value} {m : am_M} {l0 : Option Value} {x : Nat} : ev d 225 964 (l0 :: some (.ref x) :: ls) st m = ev d 225 965 (l0 :: some (.ref x) :: ls) (.ref x :: st) m := q_nx (show am_row 225 964 = some (.aload_n 1, 1, 0, 0, 0, 0) from rfl) rfl
set_option maxRecDepth 20000 in
theorem e225_965 {d : Nat} {ls : am_L} {st : List Value} {m : am_M} {a : Nat} (hK : mK m a = (1, 9, 0)) (hw : am_w st ≤ 8) : ev (d + 1) 225 965 ls (.ref a :: st) m = am_k (cal d 114 [.ref a] m) (fun v m'' => ev (d + 1) 225 968 ls (v.toList ++ st) m'') := q_cl (show am_row 225 965 = some (.invokevirtual 119, 3, 114, 0, 0, 803) from rfl) rfl (if_pos ⟨hK, (Nat.zero_le _), hw⟩)
set_option maxRecDepth 20000 in
theorem e225_968 {d : Nat} {ls : am_L} {st : List Value} {m : am_M} {l0 : Option Value} {l1 : Option Value} {x : Nat} : ev d 225 968 (l0 :: l1 :: some (.ref x) :: ls) st m = ev d 225 969 (l0 :: l1 :: some (.ref x) :: ls) (.ref x :: st) m := q_nx (show am_row 225 968 = some (.aload_n 2, 1, 0, 0, 0, 0) from rfl) rfl
set_option maxRecDepth 20000 in
theorem e225_969 {d : Nat} {ls : am_L} {st : List Value} {m : am_M} {a : Nat} (hK : mK m a = (1, 10, 0)) (hw : am_w st ≤ 8) : ev (d + 1) 225 969 ls (.ref a :: st) m = am_k (cal d 202 [.ref a] m) (fun v m'' => ev (d + 1) 225 972 ls (v.toList ++ st) m'') := q_cl (show am_row 225 969 = some (.invokevirtual 122, 3, 202, 0, 0, 1363) from rfl) rfl (if_pos ⟨hK, (Nat.zero_le _), hw⟩)
set_option maxRecDepth 20000 in
theorem e225_972 {d : Nat} {ls : am_L} {st : List Value} {m : am_M} {x y : Int32} : ev d 225 972 ls (.int y :: .int x :: st) m = if x = y then ev d 225 1266 ls st m else ev d 225 975 ls st m := q_ite (a := (1266, ls, st, m)) (b := (975, ls, st, m)) (show am_row 225 972 = some (.if_icmp .eq 294, 3, 0, 0, 0, 0) from rfl) rfl
set_option maxRecDepth 20000 in
theorem e225_975 {d : Nat} {ls : am_L} {st : List Value} {m : am_M} : ev d 225 975 ls st m = ev d 225 976 ls (.int (nI 0) :: st) m := q_nx (show am_row 225 975 = some (.iconst 0, 1, 0, 0, 0, 0) from rfl) rfl
set_option maxRecDepth 20000 in
theorem e225_976 {d : Nat} {ls : am_L} {m : am_M} {x : Int32} (hb : am_bb x = true) : ev d 225 976 ls [.int x] m = some (some (.int x), m) := q_zret (show am_row 225 976 = some (.ireturn, 1, 1, 0, 0, 0) from rfl) hb
set_option maxRecDepth 20000 in
theorem e225_977 {d : Nat} {ls : am_L} {st : List Value} {m : am_M} {l0 : Option Value} {x : Nat} : ev d 225 977 (l0 :: some (.ref x) :: ls) st m = ev d 225 978 (l0 :: some (.ref x) :: ls) (.ref x :: st) m := q_nx (show am_row 225 977 = some (.aload_n 1, 1, 0, 0, 0, 0) from rfl) rfl
set_option maxRecDepth 20000 in
theorem e225_978 {d : Nat} {ls : am_L} {st : List Value} {m : am_M} {x : Nat} : ev d 225 978 (some (.ref x) :: ls) st m = ev d 225 979 (some (.ref x) :: ls) (.ref x :: st) m := q_nx (show am_row 225 978 = some (.aload_n 0, 1, 0, 0, 0, 0) from rfl) rfl
set_option maxRecDepth 20000 in
theorem e225_979 {d : Nat} {ls : am_L} {st : List Value} {m : am_M} {l0 : Option Value} {l1 : Option Value} {l2 : Option Value} {x : Int32} : ev d 225 979 (l0 :: l1 :: l2 :: some (.int x) :: ls) st m = ev d 225 980 (l0 :: l1 :: l2 :: some (.int x) :: ls) (.int x :: st) m := q_nx (show am_row 225 979 = some (.iload_n 3, 1, 0, 0, 0, 0) from rfl) rfl
set_option maxRecDepth 20000 in
theorem e225_980 {d : Nat} {ls : am_L} {st : List Value} {m : am_M} : ev d 225 980 ls st m = ev d 225 981 ls (.int (nI 1) :: st) m := q_nx (show am_row 225 980 = some (.iconst 1, 1, 0, 0, 0, 0) from rfl) rfl
set_option maxRecDepth 20000 in
theorem e225_981 {d : Nat} {ls : am_L} {st : List Value} {m : am_M} {x y : Int32} : ev d 225 981 ls (.int y :: .int x :: st) m = ev d 225 982 ls (.int (x + y) :: st) m := q_nx (show am_row 225 981 = some (.iadd, 1, 0, 0, 0, 0) from rfl) rfl
set_option maxRecDepth 20000 in
theorem e225_982 {d : Nat} {ls : am_L} {st : List Value} {m : am_M} {a : Nat} {i : Int32} (hK : (mK m a).1 = 6) (hi : am_ix i (mK m a).2.2 = true) : ev d 225 982 ls (.int i :: .ref a :: st) m = ev d 225 983 ls (.int (mI m a i.toNatClampNeg) :: st) m := q_sald (show am_row 225 982 = some (.iaload, 1, 0, 0, 0, 0) from rfl) hK hi
set_option maxRecDepth 20000 in
theorem e225_983 {d : Nat} {ls : am_L} {st : List Value} {m : am_M} {a : Nat} {v0 : Int32} (hK : mK m a = (1, 9, 0)) (hw : am_w st ≤ 8) : ev (d + 1) 225 983 ls (.int v0 :: .ref a :: st) m = am_k (cal d 115 [.ref a, .int v0] m) (fun v m'' => ev (d + 1) 225 986 ls (v.toList ++ st) m'') := q_cl (show am_row 225 983 = some (.invokevirtual 123, 3, 115, 0, 0, 831) from rfl) rfl (if_pos ⟨hK, (by show 1 ≤ _; simp only [List.length_cons]; omega), hw⟩)
set_option maxRecDepth 20000 in
theorem e225_986 {d : Nat} {ls : am_L} {st : List Value} {m : am_M} {l0 : Option Value} {l1 : Option Value} {x : Nat} : ev d 225 986 (l0 :: l1 :: some (.ref x) :: ls) st m = ev d 225 987 (l0 :: l1 :: some (.ref x) :: ls) (.ref x :: st) m := q_nx (show am_row 225 986 = some (.aload_n 2, 1, 0, 0, 0, 0) from rfl) rfl
set_option maxRecDepth 20000 in
theorem e225_987 {d : Nat} {ls : am_L} {st : List Value} {m : am_M} {x : Nat} : ev d 225 987 (some (.ref x) :: ls) st m = ev d 225 988 (some (.ref x) :: ls) (.ref x :: st) m := q_nx (show am_row 225 987 = some (.aload_n 0, 1, 0, 0, 0, 0) from rfl) rfl
set_option maxRecDepth 20000 in
theorem e225_988 {d : Nat} {ls : am_L} {st : List Value} {m : am_M} {l0 : Option Value} {l1 : Option Value} {l2 : Option Value} {x : Int32} : ev d 225 988 (l0 :: l1 :: l2 :: some (.int x) :: ls) st m = ev d 225 989 (l0 :: l1 :: l2 :: some (.int x) :: ls) (.int x :: st) m := q_nx (show am_row 225 988 = some (.iload_n 3, 1, 0, 0, 0, 0) from rfl) rfl
set_option maxRecDepth 20000 in
theorem e225_989 {d : Nat} {ls : am_L} {st : List Value} {m : am_M} : ev d 225 989 ls st m = ev d 225 990 ls (.int (nI 1) :: st) m := q_nx (show am_row 225 989 = some (.iconst 1, 1, 0, 0, 0, 0) from rfl) rfl
set_option maxRecDepth 20000 in
theorem e225_990 {d : Nat} {ls : am_L} {st : List Value} {m : am_M} {x y : Int32} : ev d 225 990 ls (.int y :: .int x :: st) m = ev d 225 991 ls (.int (x + y) :: st) m := q_nx (show am_row 225 990 = some (.iadd, 1, 0, 0, 0, 0) from rfl) rfl
set_option maxRecDepth 20000 in
theorem e225_991 {d : Nat} {ls : am_L} {st : List Value} {m : am_M} {a : Nat} {i : Int32} (hK : (mK m a).1 = 6) (hi : am_ix i (mK m a).2.2 = true) : ev d 225 991 ls (.int i :: .ref a :: st) m = ev d 225 992 ls (.int (mI m a i.toNatClampNeg) :: st) m := q_sald (show am_row 225 991 = some (.iaload, 1, 0, 0, 0, 0) from rfl) hK hi
set_option maxRecDepth 20000 in
theorem e225_992 {d : Nat} {ls : am_L} {st : List Value} {m : am_M} {a : Nat} {v0 : Int32} (hK : mK m a = (1, 10, 0)) (hw : am_w st ≤ 8) : ev (d + 1) 225 992 ls (.int v0 :: .ref a :: st) m = am_k (cal d 203 [.ref a, .int v0] m) (fun v m'' => ev (d + 1) 225 995 ls (v.toList ++ st) m'') := q_cl (show am_row 225 992 = some (.invokevirtual 126, 3, 203, 0, 0, 1371) from rfl) rfl (if_pos ⟨hK, (by show 1 ≤ _; simp only [List.length_cons]; omega), hw⟩)
set_option maxRecDepth 20000 in
theorem e225_995 {d : Nat} {ls : am_L} {st : List Value} {m : am_M} {x y : Int32} : ev d 225 995 ls (.int y :: .int x :: st) m = if x = y then ev d 225 1266 ls st m else ev d 225 998 ls st m := q_ite (a := (1266, ls, st, m)) (b := (998, ls, st, m)) (show am_row 225 995 = some (.if_icmp .eq 271, 3, 0, 0, 0, 0) from rfl) rfl
set_option maxRecDepth 20000 in
theorem e225_998 {d : Nat} {ls : am_L} {st : List Value} {m : am_M} : ev d 225 998 ls st m = ev d 225 999 ls (.int (nI 0) :: st) m := q_nx (show am_row 225 998 = some (.iconst 0, 1, 0, 0, 0, 0) from rfl) rfl
set_option maxRecDepth 20000 in
theorem e225_999 {d : Nat} {ls : am_L} {m : am_M} {x : Int32} (hb : am_bb x = true) : ev d 225 999 ls [.int x] m = some (some (.int x), m) := q_zret (show am_row 225 999 = some (.ireturn, 1, 1, 0, 0, 0) from rfl) hb
set_option maxRecDepth 20000 in
theorem e225_1000 {d : Nat} {ls : am_L} {st : List Value} {m : am_M} {l0 : Option Value} {x : Nat} : ev d 225 1000 (l0 :: some (.ref x) :: ls) st m = ev d 225 1001 (l0 :: some (.ref x) :: ls) (.ref x :: st) m := q_nx (show am_row 225 1000 = some (.aload_n 1, 1, 0, 0, 0, 0) from rfl) rfl
set_option maxRecDepth 20000 in
theorem e225_1001 {d : Nat} {ls : am_L} {st : List Value} {m : am_M} {x : Nat} : ev d 225 1001 (some (.ref x) :: ls) st m = ev d 225 1002 (some (.ref x) :: ls) (.ref x :: st) m := q_nx (show am_row 225 1001 = some (.aload_n 0, 1, 0, 0, 0, 0) from rfl) rfl
set_option maxRecDepth 20000 in
theorem e225_1002 {d : Nat} {ls : am_L} {st : List Value} {m : am_M} {l0 : Option Value} {l1 : Option Value} {l2 : Option Value} {x : Int32} : ev d 225 1002 (l0 :: l1 :: l2 :: some (.int x) :: ls) st m = ev d 225 1003 (l0 :: l1 :: l2 :: some (.int x) :: ls) (.int x :: st) m := q_nx (show am_row 225 1002 = some (.iload_n 3, 1, 0, 0, 0, 0) from rfl) rfl
set_option maxRecDepth 20000 in
theorem e225_1003 {d : Nat} {ls : am_L} {st : List Value} {m : am_M} : ev d 225 1003 ls st m = ev d 225 1004 ls (.int (nI 1) :: st) m := q_nx (show am_row 225 1003 = some (.iconst 1, 1, 0, 0, 0, 0) from rfl) rfl
set_option maxRecDepth 20000 in
theorem e225_1004 {d : Nat} {ls : am_L} {st : List Value} {m : am_M} {x y : Int32} : ev d 225 1004 ls (.int y :: .int x :: st) m = ev d 225 1005 ls (.int (x + y) :: st) m := q_nx (show am_row 225 1004 = some (.iadd, 1, 0, 0, 0, 0) from rfl) rfl
set_option maxRecDepth 20000 in
theorem e225_1005 {d : Nat} {ls : am_L} {st : List Value} {m : am_M} {a : Nat} {i : Int32} (hK : (mK m a).1 = 6) (hi : am_ix i (mK m a).2.2 = true) : ev d 225 1005 ls (.int i :: .ref a :: st) m = ev d 225 1006 ls (.int (mI m a i.toNatClampNeg) :: st) m := q_sald (show am_row 225 1005 = some (.iaload, 1, 0, 0, 0, 0) from rfl) hK hi
set_option maxRecDepth 20000 in
theorem e225_1006 {d : Nat} {ls : am_L} {st : List Value} {m : am_M} {a : Nat} {v0 : Int32} (hK : mK m a = (1, 9, 0)) (hw : am_w st ≤ 8) : ev (d + 1) 225 1006 ls (.int v0 :: .ref a :: st) m = am_k (cal d 116 [.ref a, .int v0] m) (fun v m'' => ev (d + 1) 225 1009 ls (v.toList ++ st) m'') := q_cl (show am_row 225 1006 = some (.invokevirtual 127, 3, 116, 0, 0, 839) from rfl) rfl (if_pos ⟨hK, (by show 1 ≤ _; simp only [List.length_cons]; omega), hw⟩)
set_option maxRecDepth 20000 in
theorem e225_1009 {d : Nat} {ls : am_L} {st : List Value} {m : am_M} {l0 : Option Value} {l1 : Option Value} {x : Nat} : ev d 225 1009 (l0 :: l1 :: some (.ref x) :: ls) st m = ev d 225 1010 (l0 :: l1 :: some (.ref x) :: ls) (.ref x :: st) m := q_nx (show am_row 225 1009 = some (.aload_n 2, 1, 0, 0, 0, 0) from rfl) rfl
set_option maxRecDepth 20000 in
theorem e225_1010 {d : Nat} {ls : am_L} {st : List Value} {m : am_M} {x : Nat} : ev d 225 1010 (some (.ref x) :: ls) st m = ev d 225 1011 (some (.ref x) :: ls) (.ref x :: st) m := q_nx (show am_row 225 1010 = some (.aload_n 0, 1, 0, 0, 0, 0) from rfl) rfl
set_option maxRecDepth 20000 in
theorem e225_1011 {d : Nat} {ls : am_L} {st : List Value} {m : am_M} {l0 : Option Value} {l1 : Option Value} {l2 : Option Value} {x : Int32} : ev d 225 1011 (l0 :: l1 :: l2 :: some (.int x) :: ls) st m = ev d 225 1012 (l0 :: l1 :: l2 :: some (.int x) :: ls) (.int x :: st) m := q_nx (show am_row 225 1011 = some (.iload_n 3, 1, 0, 0, 0, 0) from rfl) rfl
set_option maxRecDepth 20000 in
theorem e225_1012 {d : Nat} {ls : am_L} {st : List Value} {m : am_M} : ev d 225 1012 ls st m = ev d 225 1013 ls (.int (nI 1) :: st) m := q_nx (show am_row 225 1012 = some (.iconst 1, 1, 0, 0, 0, 0) from rfl) rfl
set_option maxRecDepth 20000 in
theorem e225_1013 {d : Nat} {ls : am_L} {st : List Value} {m : am_M} {x y : Int32} : ev d 225 1013 ls (.int y :: .int x :: st) m = ev d 225 1014 ls (.int (x + y) :: st) m := q_nx (show am_row 225 1013 = some (.iadd, 1, 0, 0, 0, 0) from rfl) rfl
set_option maxRecDepth 20000 in
theorem e225_1014 {d : Nat} {ls : am_L} {st : List Value} {m : am_M} {a : Nat} {i : Int32} (hK : (mK m a).1 = 6) (hi : am_ix i (mK m a).2.2 = true) : ev d 225 1014 ls (.int i :: .ref a :: st) m = ev d 225 1015 ls (.int (mI m a i.toNatClampNeg) :: st) m := q_sald (show am_row 225 1014 = some (.iaload, 1, 0, 0, 0, 0) from rfl) hK hi
set_option maxRecDepth 20000 in
theorem e225_1015 {d : Nat} {ls : am_L} {st : List Value} {m : am_M} {a : Nat} {v0 : Int32} (hK : mK m a = (1, 10, 0)) (hw : am_w st ≤ 8) : ev (d + 1) 225 1015 ls (.int v0 :: .ref a :: st) m = am_k (cal d 204 [.ref a, .int v0] m) (fun v m'' => ev (d + 1) 225 1018 ls (v.toList ++ st) m'') := q_cl (show am_row 225 1015 = some (.invokevirtual 130, 3, 204, 0, 0, 1375) from rfl) rfl (if_pos ⟨hK, (by show 1 ≤ _; simp only [List.length_cons]; omega), hw⟩)
set_option maxRecDepth 20000 in
theorem e225_1018 {d : Nat} {ls : am_L} {st : List Value} {m : am_M} {x y : Int32} : ev d 225 1018 ls (.int y :: .int x :: st) m = if x = y then ev d 225 1266 ls st m else ev d 225 1021 ls st m := q_ite (a := (1266, ls, st, m)) (b := (1021, ls, st, m)) (show am_row 225 1018 = some (.if_icmp .eq 248, 3, 0, 0, 0, 0) from rfl) rfl
set_option maxRecDepth 20000 in
theorem e225_1021 {d : Nat} {ls : am_L} {st : List Value} {m : am_M} : ev d 225 1021 ls st m = ev d 225 1022 ls (.int (nI 0) :: st) m := q_nx (show am_row 225 1021 = some (.iconst 0, 1, 0, 0, 0, 0) from rfl) rfl
set_option maxRecDepth 20000 in
theorem e225_1022 {d : Nat} {ls : am_L} {m : am_M} {x : Int32} (hb : am_bb x = true) : ev d 225 1022 ls [.int x] m = some (some (.int x), m) := q_zret (show am_row 225 1022 = some (.ireturn, 1, 1, 0, 0, 0) from rfl) hb
set_option maxRecDepth 20000 in
theorem e225_1023 {d : Nat} {ls : am_L} {st : List Value} {m : am_M} {l0 : Option Value} {x : Nat} : ev d 225 1023 (l0 :: some (.ref x) :: ls) st m = ev d 225 1024 (l0 :: some (.ref x) :: ls) (.ref x :: st) m := q_nx (show am_row 225 1023 = some (.aload_n 1, 1, 0, 0, 0, 0) from rfl) rfl
set_option maxRecDepth 20000 in
theorem e225_1024 {d : Nat} {ls : am_L} {st : List Value} {m : am_M} {a : Nat} (hK : mK m a = (1, 9, 0)) (hw : am_w st ≤ 8) : ev (d + 1) 225 1024 ls (.ref a :: st) m = am_k (cal d 117 [.ref a] m) (fun v m'' => ev (d + 1) 225 1027 ls (v.toList ++ st) m'') := q_cl (show am_row 225 1024 = some (.invokevirtual 131, 3, 117, 0, 0, 843) from rfl) rfl (if_pos ⟨hK, (Nat.zero_le _), hw⟩)
set_option maxRecDepth 20000 in
theorem e225_1027 {d : Nat} {ls : am_L} {st : List Value} {m : am_M} {l0 : Option Value} {l1 : Option Value} {x : Nat} : ev d 225 1027 (l0 :: l1 :: some (.ref x) :: ls) st m = ev d 225 1028 (l0 :: l1 :: some (.ref x) :: ls) (.ref x :: st) m := q_nx (show am_row 225 1027 = some (.aload_n 2, 1, 0, 0, 0, 0) from rfl) rfl
set_option maxRecDepth 20000 in
theorem e225_1028 {d : Nat} {ls : am_L} {st : List Value} {m : am_M} {a : Nat} (hK : mK m a = (1, 10, 0)) (hw : am_w st ≤ 8) : ev (d + 1) 225 1028 ls (.ref a :: st) m = am_k (cal d 205 [.ref a] m) (fun v m'' => ev (d + 1) 225 1031 ls (v.toList ++ st) m'') := q_cl (show am_row 225 1028 = some (.invokevirtual 134, 3, 205, 0, 0, 1379) from rfl) rfl (if_pos ⟨hK, (Nat.zero_le _), hw⟩)
set_option maxRecDepth 20000 in
theorem e225_1031 {d : Nat} {ls : am_L} {st : List Value} {m : am_M} {x y : Int32} : ev d 225 1031 ls (.int y :: .int x :: st) m = if x = y then ev d 225 1266 ls st m else ev d 225 1034 ls st m := q_ite (a := (1266, ls, st, m)) (b := (1034, ls, st, m)) (show am_row 225 1031 = some (.if_icmp .eq 235, 3, 0, 0, 0, 0) from rfl) rfl
set_option maxRecDepth 20000 in
theorem e225_1034 {d : Nat} {ls : am_L} {st : List Value} {m : am_M} : ev d 225 1034 ls st m = ev d 225 1035 ls (.int (nI 0) :: st) m := q_nx (show am_row 225 1034 = some (.iconst 0, 1, 0, 0, 0, 0) from rfl) rfl
set_option maxRecDepth 20000 in
theorem e225_1035 {d : Nat} {ls : am_L} {m : am_M} {x : Int32} (hb : am_bb x = true) : ev d 225 1035 ls [.int x] m = some (some (.int x), m) := q_zret (show am_row 225 1035 = some (.ireturn, 1, 1, 0, 0, 0) from rfl) hb
set_option maxRecDepth 20000 in
theorem e225_1036 {d : Nat} {ls : am_L} {st : List Value} {m : am_M} {l0 : Option Value} {x : Nat} : ev d 225 1036 (l0 :: some (.ref x) :: ls) st m = ev d 225 1037 (l0 :: some (.ref x) :: ls) (.ref x :: st) m := q_nx (show am_row 225 1036 = some (.aload_n 1, 1, 0, 0, 0, 0) from rfl) rfl
set_option maxRecDepth 20000 in
theorem e225_1037 {d : Nat} {ls : am_L} {st : List Value} {m : am_M} {x : Nat} : ev d 225 1037 (some (.ref x) :: ls) st m = ev d 225 1038 (some (.ref x) :: ls) (.ref x :: st) m := q_nx (show am_row 225 1037 = some (.aload_n 0, 1, 0, 0, 0, 0) from rfl) rfl
set_option maxRecDepth 20000 in
theorem e225_1038 {d : Nat} {ls : am_L} {st : List Value} {m : am_M} {l0 : Option Value} {l1 : Option Value} {l2 : Option Value} {x : Int32} : ev d 225 1038 (l0 :: l1 :: l2 :: some (.int x) :: ls) st m = ev d 225 1039 (l0 :: l1 :: l2 :: some (.int x) :: ls) (.int x :: st) m := q_nx (show am_row 225 1038 = some (.iload_n 3, 1, 0, 0, 0, 0) from rfl) rfl
set_option maxRecDepth 20000 in
theorem e225_1039 {d : Nat} {ls : am_L} {st : List Value} {m : am_M} : ev d 225 1039 ls st m = ev d 225 1040 ls (.int (nI 1) :: st) m := q_nx (show am_row 225 1039 = some (.iconst 1, 1, 0, 0, 0, 0) from rfl) rfl
set_option maxRecDepth 20000 in
theorem e225_1040 {d : Nat} {ls : am_L} {st : List Value} {m : am_M} {x y : Int32} : ev d 225 1040 ls (.int y :: .int x :: st) m = ev d 225 1041 ls (.int (x + y) :: st) m := q_nx (show am_row 225 1040 = some (.iadd, 1, 0, 0, 0, 0) from rfl) rfl
set_option maxRecDepth 20000 in
theorem e225_1041 {d : Nat} {ls : am_L} {st : List Value} {m : am_M} {a : Nat} {i : Int32} (hK : (mK m a).1 = 6) (hi : am_ix i (mK m a).2.2 = true) : ev d 225 1041 ls (.int i :: .ref a :: st) m = ev d 225 1042 ls (.int (mI m a i.toNatClampNeg) :: st) m := q_sald (show am_row 225 1041 = some (.iaload, 1, 0, 0, 0, 0) from rfl) hK hi
set_option maxRecDepth 20000 in
theorem e225_1042 {d : Nat} {ls : am_L} {st : List Value} {m : am_M} {a : Nat} {v0 : Int32} (hK : mK m a = (1, 9, 0)) (hw : am_w st ≤ 8) : ev (d + 1) 225 1042 ls (.int v0 :: .ref a :: st) m = am_k (cal d 118 [.ref a, .int v0] m) (fun v m'' => ev (d + 1) 225 1045 ls (v.toList ++ st) m'') := q_cl (show am_row 225 1042 = some (.invokevirtual 135, 3, 118, 0, 0, 852) from rfl) rfl (if_pos ⟨hK, (by show 1 ≤ _; simp only [List.length_cons]; omega), hw⟩)
set_option maxRecDepth 20000 in
theorem e225_1045 {d : Nat} {ls : am_L} {st : List Value} {m : am_M} {l0 : Option Value} {l1 : Option Value} {x : Nat} : ev d 225 1045 (l0 :: l1 :: some (.ref x) :: ls) st m = ev d 225 1046 (l0 :: l1 :: some (.ref x) :: ls) (.ref x :: st) m := q_nx (show am_row 225 1045 = some (.aload_n 2, 1, 0, 0, 0, 0) from rfl) rfl
set_option maxRecDepth 20000 in
theorem e225_1046 {d : Nat} {ls : am_L} {st : List Value} {m : am_M} {x : Nat} : ev d 225 1046 (some (.ref x) :: ls) st m = ev d 225 1047 (some (.ref x) :: ls) (.ref x :: st) m := q_nx (show am_row 225 1046 = some (.aload_n 0, 1, 0, 0, 0, 0) from rfl) rfl
set_option maxRecDepth 20000 in
theorem e225_1047 {d : Nat} {ls : am_L} {st : List Value} {m : am_M} {l0 : Option Value} {l1 : Option Value} {l2 : Option Value} {x : Int32} : ev d 225 1047 (l0 :: l1 :: l2 :: some (.int x) :: ls) st m = ev d 225 1048 (l0 :: l1 :: l2 :: some (.int x) :: ls) (.int x :: st) m := q_nx (show am_row 225 1047 = some (.iload_n 3, 1, 0, 0, 0, 0) from rfl) rfl
set_option maxRecDepth 20000 in
theorem e225_1048 {d : Nat} {ls : am_L} {st : List Value} {m : am_M} : ev d 225 1048 ls st m = ev d 225 1049 ls (.int (nI 1) :: st) m := q_nx (show am_row 225 1048 = some (.iconst 1, 1, 0, 0, 0, 0) from rfl) rfl
set_option maxRecDepth 20000 in
theorem e225_1049 {d : Nat} {ls : am_L} {st : List Value} {m : am_M} {x y : Int32} : ev d 225 1049 ls (.int y :: .int x :: st) m = ev d 225 1050 ls (.int (x + y) :: st) m := q_nx (show am_row 225 1049 = some (.iadd, 1, 0, 0, 0, 0) from rfl) rfl
set_option maxRecDepth 20000 in
theorem e225_1050 {d : Nat} {ls : am_L} {st : List Value} {m : am_M} {a : Nat} {i : Int32} (hK : (mK m a).1 = 6) (hi : am_ix i (mK m a).2.2 = true) : ev d 225 1050 ls (.int i :: .ref a :: st) m = ev d 225 1051 ls (.int (mI m a i.toNatClampNeg) :: st) m := q_sald (show am_row 225 1050 = some (.iaload, 1, 0, 0, 0, 0) from rfl) hK hi
set_option maxRecDepth 20000 in
theorem e225_1051 {d : Nat} {ls : am_L} {st : List Value} {m : am_M} {a : Nat} {v0 : Int32} (hK : mK m a = (1, 10, 0)) (hw : am_w st ≤ 8) : ev (d + 1) 225 1051 ls (.int v0 :: .ref a :: st) m = am_k (cal d 206 [.ref a, .int v0] m) (fun v m'' => ev (d + 1) 225 1054 ls (v.toList ++ st) m'') := q_cl (show am_row 225 1051 = some (.invokevirtual 138, 3, 206, 0, 0, 1387) from rfl) rfl (if_pos ⟨hK, (by show 1 ≤ _; simp only [List.length_cons]; omega), hw⟩)
set_option maxRecDepth 20000 in
theorem e225_1054 {d : Nat} {ls : am_L} {st : List Value} {m : am_M} {x y : Int32} : ev d 225 1054 ls (.int y :: .int x :: st) m = if x = y then ev d 225 1266 ls st m else ev d 225 1057 ls st m := q_ite (a := (1266, ls, st, m)) (b := (1057, ls, st, m)) (show am_row 225 1054 = some (.if_icmp .eq 212, 3, 0, 0, 0, 0) from rfl) rfl
set_option maxRecDepth 20000 in
theorem e225_1057 {d : Nat} {ls : am_L} {st : List Value} {m : am_M} : ev d 225 1057 ls st m = ev d 225 1058 ls (.int (nI 0) :: st) m := q_nx (show am_row 225 1057 = some (.iconst 0, 1, 0, 0, 0, 0) from rfl) rfl
set_option maxRecDepth 20000 in
theorem e225_1058 {d : Nat} {ls : am_L} {m : am_M} {x : Int32} (hb : am_bb x = true) : ev d 225 1058 ls [.int x] m = some (some (.int x), m) := q_zret (show am_row 225 1058 = some (.ireturn, 1, 1, 0, 0, 0) from rfl) hb
set_option maxRecDepth 20000 in
theorem e225_1059 {d : Nat} {ls : am_L} {st : List Value} {m : am_M} {l0 : Option Value} {x : Nat} : ev d 225 1059 (l0 :: some (.ref x) :: ls) st m = ev d 225 1060 (l0 :: some (.ref x) :: ls) (.ref x :: st) m := q_nx (show am_row 225 1059 = some (.aload_n 1, 1, 0, 0, 0, 0) from rfl) rfl
set_option maxRecDepth 20000 in
theorem e225_1060 {d : Nat} {ls : am_L} {st : List Value} {m : am_M} {a : Nat} (hK : mK m a = (1, 9, 0)) (hw : am_w st ≤ 8) : ev (d + 1) 225 1060 ls (.ref a :: st) m = am_k (cal d 119 [.ref a] m) (fun v m'' => ev (d + 1) 225 1063 ls (v.toList ++ st) m'') := q_cl (show am_row 225 1060 = some (.invokevirtual 139, 3, 119, 0, 0, 860) from rfl) rfl (if_pos ⟨hK, (Nat.zero_le _), hw⟩)
set_option maxRecDepth 20000 in
theorem e225_1063 {d : Nat} {ls : am_L} {st : List Value} {m : am_M} {l0 : Option Value} {l1 : Option Value} {x : Nat} : ev d 225 1063 (l0 :: l1 :: some (.ref x) :: ls) st m = ev d 225 1064 (l0 :: l1 :: some (.ref x) :: ls) (.ref x :: st) m := q_nx (show am_row 225 1063 = some (.aload_n 2, 1, 0, 0, 0, 0) from rfl) rfl
set_option maxRecDepth 20000 in
theorem e225_1064 {d : Nat} {ls : am_L} {st : List Value} {m : am_M} {a : Nat} (hK : mK m a = (1, 10, 0)) (hw : am_w st ≤ 8) : ev (d + 1) 225 1064 ls (.ref a :: st) m = am_k (cal d 214 [.ref a] m) (fun v m'' => ev (d + 1) 225 1067 ls (v.toList ++ st) m'') := q_cl (show am_row 225 1064 = some (.invokevirtual 142, 3, 214, 0, 0, 1391) from rfl) rfl (if_pos ⟨hK, (Nat.zero_le _), hw⟩)
set_option maxRecDepth 20000 in
theorem e225_1067 {d : Nat} {ls : am_L} {st : List Value} {m : am_M} {x y : Int32} : ev d 225 1067 ls (.int y :: .int x :: st) m = if x = y then ev d 225 1266 ls st m else ev d 225 1070 ls st m := q_ite (a := (1266, ls, st, m)) (b := (1070, ls, st, m)) (show am_row 225 1067 = some (.if_icmp .eq 199, 3, 0, 0, 0, 0) from rfl) rfl
set_option maxRecDepth 20000 in
theorem e225_1070 {d : Nat} {ls : am_L} {st : List Value} {m : am_M} : ev d 225 1070 ls st m = ev d 225 1071 ls (.int (nI 0) :: st) m := q_nx (show am_row 225 1070 = some (.iconst 0, 1, 0, 0, 0, 0) from rfl) rfl
set_option maxRecDepth 20000 in
theorem e225_1071 {d : Nat} {ls : am_L} {m : am_M} {x : Int32} (hb : am_bb x = true) : ev d 225 1071 ls [.int x] m = some (some (.int x), m) := q_zret (show am_row 225 1071 = some (.ireturn, 1, 1, 0, 0, 0) from rfl) hb
set_option maxRecDepth 20000 in
theorem e225_1072 {d : Nat} {ls : am_L} {st : List Value} {m : am_M} {l0 : Option Value} {x : Nat} : ev d 225 1072 (l0 :: some (.ref x) :: ls) st m = ev d 225 1073 (l0 :: some (.ref x) :: ls) (.ref x :: st) m := q_nx (show am_row 225 1072 = some (.aload_n 1, 1, 0, 0, 0, 0) from rfl) rfl
set_option maxRecDepth 20000 in
theorem e225_1073 {d : Nat} {ls : am_L} {st : List Value} {m : am_M} {x : Nat} : ev d 225 1073 (some (.ref x) :: ls) st m = ev d 225 1074 (some (.ref x) :: ls) (.ref x :: st) m := q_nx (show am_row 225 1073 = some (.aload_n 0, 1, 0, 0, 0, 0) from rfl) rfl
set_option maxRecDepth 20000 in
theorem e225_1074 {d : Nat} {ls : am_L} {st : List Value} {m : am_M} {l0 : Option Value} {l1 : Option Value} {l2 : Option Value} {x : Int32} : ev d 225 1074 (l0 :: l1 :: l2 :: some (.int x) :: ls) st m = ev d 225 1075 (l0 :: l1 :: l2 :: some (.int x) :: ls) (.int x :: st) m := q_nx (show am_row 225 1074 = some (.iload_n 3, 1, 0, 0, 0, 0) from rfl) rfl
set_option maxRecDepth 20000 in
theorem e225_1075 {d : Nat} {ls : am_L} {st : List Value} {m : am_M} : ev d 225 1075 ls st m = ev d 225 1076 ls (.int (nI 1) :: st) m := q_nx (show am_row 225 1075 = some (.iconst 1, 1, 0, 0, 0, 0) from rfl) rfl
set_option maxRecDepth 20000 in
theorem e225_1076 {d : Nat} {ls : am_L} {st : List Value} {m : am_M} {x y : Int32} : ev d 225 1076 ls (.int y :: .int x :: st) m = ev d 225 1077 ls (.int (x + y) :: st) m := q_nx (show am_row 225 1076 = some (.iadd, 1, 0, 0, 0, 0) from rfl) rfl
set_option maxRecDepth 20000 in
theorem e225_1077 {d : Nat} {ls : am_L} {st : List Value} {m : am_M} {a : Nat} {i : Int32} (hK : (mK m a).1 = 6) (hi : am_ix i (mK m a).2.2 = true) : ev d 225 1077 ls (.int i :: .ref a :: st) m = ev d 225 1078 ls (.int (mI m a i.toNatClampNeg) :: st) m := q_sald (show am_row 225 1077 = some (.iaload, 1, 0, 0, 0, 0) from rfl) hK hi
set_option maxRecDepth 20000 in
theorem e225_1078 {d : Nat} {ls : am_L} {st : List Value} {m : am_M} {x : Nat} : ev d 225 1078 (some (.ref x) :: ls) st m = ev d 225 1079 (some (.ref x) :: ls) (.ref x :: st) m := q_nx (show am_row 225 1078 = some (.aload_n 0, 1, 0, 0, 0, 0) from rfl) rfl
set_option maxRecDepth 20000 in
theorem e225_1079 {d : Nat} {ls : am_L} {st : List Value} {m : am_M} {l0 : Option Value} {l1 : Option Value} {l2 : Option Value} {x : Int32} : ev d 225 1079 (l0 :: l1 :: l2 :: some (.int x) :: ls) st m = ev d 225 1080 (l0 :: l1 :: l2 :: some (.int x) :: ls) (.int x :: st) m := q_nx (show am_row 225 1079 = some (.iload_n 3, 1, 0, 0, 0, 0) from rfl) rfl
set_option maxRecDepth 20000 in
theorem e225_1080 {d : Nat} {ls : am_L} {st : List Value} {m : am_M} : ev d 225 1080 ls st m = ev d 225 1081 ls (.int (nI 2) :: st) m := q_nx (show am_row 225 1080 = some (.iconst 2, 1, 0, 0, 0, 0) from rfl) rfl
set_option maxRecDepth 20000 in
theorem e225_1081 {d : Nat} {ls : am_L} {st : List Value} {m : am_M} {x y : Int32} : ev d 225 1081 ls (.int y :: .int x :: st) m = ev d 225 1082 ls (.int (x + y) :: st) m := q_nx (show am_row 225 1081 = some (.iadd, 1, 0, 0, 0, 0) from rfl) rfl
set_option maxRecDepth 20000 in
theorem e225_1082 {d : Nat} {ls : am_L} {st : List Value} {m : am_M} {a : Nat} {i : Int32} (hK : (mK m a).1 = 6) (hi : am_ix i (mK m a).2.2 = true) : ev d 225 1082 ls (.int i :: .ref a :: st) m = ev d 225 1083 ls (.int (mI m a i.toNatClampNeg) :: st) m := q_sald (show am_row 225 1082 = some (.iaload, 1, 0, 0, 0, 0) from rfl) hK hi
set_option maxRecDepth 20000 in
theorem e225_1083 {d : Nat} {ls : am_L} {st : List Value} {m : am_M} {a : Nat} {v0 : Int32} {v1 : Int32} (hK : mK m a = (1, 9, 0)) (hw : am_w st ≤ 8) : ev (d + 1) 225 1083 ls (.int v1 :: .int v0 :: .ref a :: st) m = am_k (cal d 120 [.ref a, .int v0, .int v1] m) (fun v m'' => ev (d + 1) 225 1086 ls (v.toList ++ st) m'') := q_cl (show am_row 225 1083 = some (.invokevirtual 143, 3, 120, 0, 0, 959) from rfl) rfl (if_pos ⟨hK, (by show 2 ≤ _; simp only [List.length_cons]; omega), hw⟩)
set_option maxRecDepth 20000 in
theorem e225_1086 {d : Nat} {ls : am_L} {st : List Value} {m : am_M} {l0 : Option Value} {l1 : Option Value} {x : Nat} : ev d 225 1086 (l0 :: l1 :: some (.ref x) :: ls) st m = ev d 225 1087 (l0 :: l1 :: some (.ref x) :: ls) (.ref x :: st) m := q_nx (show am_row 225 1086 = some (.aload_n 2, 1, 0, 0, 0, 0) from rfl) rfl
set_option maxRecDepth 20000 in
theorem e225_1087 {d : Nat} {ls : am_L} {st : List Value} {m : am_M} {x : Nat} : ev d 225 1087 (some (.ref x) :: ls) st m = ev d 225 1088 (some (.ref x) :: ls) (.ref x :: st) m := q_nx (show am_row 225 1087 = some (.aload_n 0, 1, 0, 0, 0, 0) from rfl) rfl
set_option maxRecDepth 20000 in
theorem e225_1088 {d : Nat} {ls : am_L} {st : List Value} {m : am_M} {l0 : Option Value} {l1 : Option Value} {l2 : Option Value} {x : Int32} : ev d 225 1088 (l0 :: l1 :: l2 :: some (.int x) :: ls) st m = ev d 225 1089 (l0 :: l1 :: l2 :: some (.int x) :: ls) (.int x :: st) m := q_nx (show am_row 225 1088 = some (.iload_n 3, 1, 0, 0, 0, 0) from rfl) rfl
set_option maxRecDepth 20000 in
theorem e225_1089 {d : Nat} {ls : am_L} {st : List Value} {m : am_M} : ev d 225 1089 ls st m = ev d 225 1090 ls (.int (nI 1) :: st) m := q_nx (show am_row 225 1089 = some (.iconst 1, 1, 0, 0, 0, 0) from rfl) rfl
set_option maxRecDepth 20000 in
theorem e225_1090 {d : Nat} {ls : am_L} {st : List Value} {m : am_M} {x y : Int32} : ev d 225 1090 ls (.int y :: .int x :: st) m = ev d 225 1091 ls (.int (x + y) :: st) m := q_nx (show am_row 225 1090 = some (.iadd, 1, 0, 0, 0, 0) from rfl) rfl
set_option maxRecDepth 20000 in
theorem e225_1091 {d : Nat} {ls : am_L} {st : List Value} {m : am_M} {a : Nat} {i : Int32} (hK : (mK m a).1 = 6) (hi : am_ix i (mK m a).2.2 = true) : ev d 225 1091 ls (.int i :: .ref a :: st) m = ev d 225 1092 ls (.int (mI m a i.toNatClampNeg) :: st) m := q_sald (show am_row 225 1091 = some (.iaload, 1, 0, 0, 0, 0) from rfl) hK hi
set_option maxRecDepth 20000 in
theorem e225_1092 {d : Nat} {ls : am_L} {st : List Value} {m : am_M} {x : Nat} : ev d 225 1092 (some (.ref x) :: ls) st m = ev d 225 1093 (some (.ref x) :: ls) (.ref x :: st) m := q_nx (show am_row 225 1092 = some (.aload_n 0, 1, 0, 0, 0, 0) from rfl) rfl
set_option maxRecDepth 20000 in
theorem e225_1093 {d : Nat} {ls : am_L} {st : List Value} {m : am_M} {l0 : Option Value} {l1 : Option Value} {l2 : Option Value} {x : Int32} : ev d 225 1093 (l0 :: l1 :: l2 :: some (.int x) :: ls) st m = ev d 225 1094 (l0 :: l1 :: l2 :: some (.int x) :: ls) (.int x :: st) m := q_nx (show am_row 225 1093 = some (.iload_n 3, 1, 0, 0, 0, 0) from rfl) rfl
set_option maxRecDepth 20000 in
theorem e225_1094 {d : Nat} {ls : am_L} {st : List Value} {m : am_M} : ev d 225 1094 ls st m = ev d 225 1095 ls (.int (nI 2) :: st) m := q_nx (show am_row 225 1094 = some (.iconst 2, 1, 0, 0, 0, 0) from rfl) rfl
set_option maxRecDepth 20000 in
theorem e225_1095 {d : Nat} {ls : am_L} {st : List Value} {m : am_M} {x y : Int32} : ev d 225 1095 ls (.int y :: .int x :: st) m = ev d 225 1096 ls (.int (x + y) :: st) m := q_nx (show am_row 225 1095 = some (.iadd, 1, 0, 0, 0, 0) from rfl) rfl
set_option maxRecDepth 20000 in
theorem e225_1096 {d : Nat} {ls : am_L} {st : List Value} {m : am_M} {a : Nat} {i : Int32} (hK : (mK m a).1 = 6) (hi : am_ix i (mK m a).2.2 = true) : ev d 225 1096 ls (.int i :: .ref a :: st) m = ev d 225 1097 ls (.int (mI m a i.toNatClampNeg) :: st) m := q_sald (show am_row 225 1096 = some (.iaload, 1, 0, 0, 0, 0) from rfl) hK hi
set_option maxRecDepth 20000 in
theorem e225_1097 {d : Nat} {ls : am_L} {st : List Value} {m : am_M} {a : Nat} {v0 : Int32} {v1 : Int32} (hK : mK m a = (1, 10, 0)) (hw : am_w st ≤ 8) : ev (d + 1) 225 1097 ls (.int v1 :: .int v0 :: .ref a :: st) m = am_k (cal d 215 [.ref a, .int v0, .int v1] m) (fun v m'' => ev (d + 1) 225 1100 ls (v.toList ++ st) m'') := q_cl (show am_row 225 1097 = some (.invokevirtual 146, 3, 215, 0, 0, 1423) from rfl) rfl (if_pos ⟨hK, (by show 2 ≤ _; simp only [List.length_cons]; omega), hw⟩)
set_option maxRecDepth 20000 in
theorem e225_1100 {d : Nat} {ls : am_L} {st : List Value} {m : am_M} {x y : Int32} : ev d 225 1100 ls (.int y :: .int x :: st) m = if x = y then ev d 225 1266 ls st m else ev d 225 1103 ls st m := q_ite (a := (1266, ls, st, m)) (b := (1103, ls, st, m)) (show am_row 225 1100 = some (.if_icmp .eq 166, 3, 0, 0, 0, 0) from rfl) rfl
set_option maxRecDepth 20000 in
theorem e225_1103 {d : Nat} {ls : am_L} {st : List Value} {m : am_M} : ev d 225 1103 ls st m = ev d 225 1104 ls (.int (nI 0) :: st) m := q_nx (show am_row 225 1103 = some (.iconst 0, 1, 0, 0, 0, 0) from rfl) rfl
set_option maxRecDepth 20000 in
theorem e225_1104 {d : Nat} {ls : am_L} {m : am_M} {x : Int32} (hb : am_bb x = true) : ev d 225 1104 ls [.int x] m = some (some (.int x), m) := q_zret (show am_row 225 1104 = some (.ireturn, 1, 1, 0, 0, 0) from rfl) hb
set_option maxRecDepth 20000 in
theorem e225_1105 {d : Nat} {ls : am_L} {st : List Value} {m : am_M} {l0 : Option Value} {x : Nat} : ev d 225 1105 (l0 :: some (.ref x) :: ls) st m = ev d 225 1106 (l0 :: some (.ref x) :: ls) (.ref x :: st) m := q_nx (show am_row 225 1105 = some (.aload_n 1, 1, 0, 0, 0, 0) from rfl) rfl
set_option maxRecDepth 20000 in
theorem e225_1106 {d : Nat} {ls : am_L} {st : List Value} {m : am_M} {a : Nat} (hK : mK m a = (1, 9, 0)) (hw : am_w st ≤ 8) : ev (d + 1) 225 1106 ls (.ref a :: st) m = am_k (cal d 121 [.ref a] m) (fun v m'' => ev (d + 1) 225 1109 ls (v.toList ++ st) m'') := q_cl (show am_row 225 1106 = some (.invokevirtual 147, 3, 121, 0, 0, 967) from rfl) rfl (if_pos ⟨hK, (Nat.zero_le _), hw⟩)
set_option maxRecDepth 20000 in
theorem e225_1109 {d : Nat} {ls : am_L} {st : List Value} {m : am_M} {l0 : Option Value} {l1 : Option Value} {x : Nat} : ev d 225 1109 (l0 :: l1 :: some (.ref x) :: ls) st m = ev d 225 1110 (l0 :: l1 :: some (.ref x) :: ls) (.ref x :: st) m := q_nx (show am_row 225 1109 = some (.aload_n 2, 1, 0, 0, 0, 0) from rfl) rfl
set_option maxRecDepth 20000 in
theorem e225_1110 {d : Nat} {ls : am_L} {st : List Value} {m : am_M} {a : Nat} (hK : mK m a = (1, 10, 0)) (hw : am_w st ≤ 8) : ev (d + 1) 225 1110 ls (.ref a :: st) m = am_k (cal d 216 [.ref a] m) (fun v m'' => ev (d + 1) 225 1113 ls (v.toList ++ st) m'') := q_cl (show am_row 225 1110 = some (.invokevirtual 150, 3, 216, 0, 0, 1427) from rfl) rfl (if_pos ⟨hK, (Nat.zero_le _), hw⟩)
set_option maxRecDepth 20000 in
theorem e225_1113 {d : Nat} {ls : am_L} {st : List Value} {m : am_M} {x y : Int32} : ev d 225 1113 ls (.int y :: .int x :: st) m = if x = y then ev d 225 1266 ls st m else ev d 225 1116 ls st m := q_ite (a := (1266, ls, st, m)) (b := (1116, ls, st, m)) (show am_row 225 1113 = some (.if_icmp .eq 153, 3, 0, 0, 0, 0) from rfl) rfl
set_option maxRecDepth 20000 in
theorem e225_1116 {d : Nat} {ls : am_L} {st : List Value} {m : am_M} : ev d 225 1116 ls st m = ev d 225 1117 ls (.int (nI 0) :: st) m := q_nx (show am_row 225 1116 = some (.iconst 0, 1, 0, 0, 0, 0) from rfl) rfl
set_option maxRecDepth 20000 in
theorem e225_1117 {d : Nat} {ls : am_L} {m : am_M} {x : Int32} (hb : am_bb x = true) : ev d 225 1117 ls [.int x] m = some (some (.int x), m) := q_zret (show am_row 225 1117 = some (.ireturn, 1, 1, 0, 0, 0) from rfl) hb
set_option maxRecDepth 20000 in
theorem e225_1118 {d : Nat} {ls : am_L} {st : List Value} {m : am_M} {l0 : Option Value} {x : Nat} : ev d 225 1118 (l0 :: some (.ref x) :: ls) st m = ev d 225 1119 (l0 :: some (.ref x) :: ls) (.ref x :: st) m := q_nx (show am_row 225 1118 = some (.aload_n 1, 1, 0, 0, 0, 0) from rfl) rfl
set_option maxRecDepth 20000 in
theorem e225_1119 {d : Nat} {ls : am_L} {st : List Value} {m : am_M} {x : Nat} : ev d 225 1119 (some (.ref x) :: ls) st m = ev d 225 1120 (some (.ref x) :: ls) (.ref x :: st) m := q_nx (show am_row 225 1119 = some (.aload_n 0, 1, 0, 0, 0, 0) from rfl) rfl
set_option maxRecDepth 20000 in
theorem e225_1120 {d : Nat} {ls : am_L} {st : List Value} {m : am_M} {l0 : Option Value} {l1 : Option Value} {l2 : Option Value} {x : Int32} : ev d 225 1120 (l0 :: l1 :: l2 :: some (.int x) :: ls) st m = ev d 225 1121 (l0 :: l1 :: l2 :: some (.int x) :: ls) (.int x :: st) m := q_nx (show am_row 225 1120 = some (.iload_n 3, 1, 0, 0, 0, 0) from rfl) rfl
set_option maxRecDepth 20000 in
theorem e225_1121 {d : Nat} {ls : am_L} {st : List Value} {m : am_M} : ev d 225 1121 ls st m = ev d 225 1122 ls (.int (nI 1) :: st) m := q_nx (show am_row 225 1121 = some (.iconst 1, 1, 0, 0, 0, 0) from rfl) rfl
set_option maxRecDepth 20000 in
theorem e225_1122 {d : Nat} {ls : am_L} {st : List Value} {m : am_M} {x y : Int32} : ev d 225 1122 ls (.int y :: .int x :: st) m = ev d 225 1123 ls (.int (x + y) :: st) m := q_nx (show am_row 225 1122 = some (.iadd, 1, 0, 0, 0, 0) from rfl) rfl
set_option maxRecDepth 20000 in
theorem e225_1123 {d : Nat} {ls : am_L} {st : List Value} {m : am_M} {a : Nat} {i : Int32} (hK : (mK m a).1 = 6) (hi : am_ix i (mK m a).2.2 = true) : ev d 225 1123 ls (.int i :: .ref a :: st) m = ev d 225 1124 ls (.int (mI m a i.toNatClampNeg) :: st) m := q_sald (show am_row 225 1123 = some (.iaload, 1, 0, 0, 0, 0) from rfl) hK hi
set_option maxRecDepth 20000 in
theorem e225_1124 {d : Nat} {ls : am_L} {st : List Value} {m : am_M} {x : Nat} : ev d 225 1124 (some (.ref x) :: ls) st m = ev d 225 1125 (some (.ref x) :: ls) (.ref x :: st) m := q_nx (show am_row 225 1124 = some (.aload_n 0, 1, 0, 0, 0, 0) from rfl) rfl
set_option maxRecDepth 20000 in
theorem e225_1125 {d : Nat} {ls : am_L} {st : List Value} {m : am_M} {l0 : Option Value} {l1 : Option Value} {l2 : Option Value} {x : Int32} : ev d 225 1125 (l0 :: l1 :: l2 :: some (.int x) :: ls) st m = ev d 225 1126 (l0 :: l1 :: l2 :: some (.int x) :: ls) (.int x :: st) m := q_nx (show am_row 225 1125 = some (.iload_n 3, 1, 0, 0, 0, 0) from rfl) rfl
set_option maxRecDepth 20000 in
theorem e225_1126 {d : Nat} {ls : am_L} {st : List Value} {m : am_M} : ev d 225 1126 ls st m = ev d 225 1127 ls (.int (nI 2) :: st) m := q_nx (show am_row 225 1126 = some (.iconst 2, 1, 0, 0, 0, 0) from rfl) rfl
set_option maxRecDepth 20000 in
theorem e225_1127 {d : Nat} {ls : am_L} {st : List Value} {m : am_M} {x y : Int32} : ev d 225 1127 ls (.int y :: .int x :: st) m = ev d 225 1128 ls (.int (x + y) :: st) m := q_nx (show am_row 225 1127 = some (.iadd, 1, 0, 0, 0, 0) from rfl) rfl
set_option maxRecDepth 20000 in
theorem e225_1128 {d : Nat} {ls : am_L} {st : List Value} {m : am_M} {a : Nat} {i : Int32} (hK : (mK m a).1 = 6) (hi : am_ix i (mK m a).2.2 = true) : ev d 225 1128 ls (.int i :: .ref a :: st) m = ev d 225 1129 ls (.int (mI m a i.toNatClampNeg) :: st) m := q_sald (show am_row 225 1128 = some (.iaload, 1, 0, 0, 0, 0) from rfl) hK hi
set_option maxRecDepth 20000 in
theorem e225_1129 {d : Nat} {ls : am_L} {st : List Value} {m : am_M} {x : Nat} : ev d 225 1129 (some (.ref x) :: ls) st m = ev d 225 1130 (some (.ref x) :: ls) (.ref x :: st) m := q_nx (show am_row 225 1129 = some (.aload_n 0, 1, 0, 0, 0, 0) from rfl) rfl
set_option maxRecDepth 20000 in
theorem e225_1130 {d : Nat} {ls : am_L} {st : List Value} {m : am_M} {l0 : Option Value} {l1 : Option Value} {l2 : Option Value} {x : Int32} : ev d 225 1130 (l0 :: l1 :: l2 :: some (.int x) :: ls) st m = ev d 225 1131 (l0 :: l1 :: l2 :: some (.int x) :: ls) (.int x :: st) m := q_nx (show am_row 225 1130 = some (.iload_n 3, 1, 0, 0, 0, 0) from rfl) rfl
set_option maxRecDepth 20000 in
theorem e225_1131 {d : Nat} {ls : am_L} {st : List Value} {m : am_M} : ev d 225 1131 ls st m = ev d 225 1132 ls (.int (nI 3) :: st) m := q_nx (show am_row 225 1131 = some (.iconst 3, 1, 0, 0, 0, 0) from rfl) rfl
set_option maxRecDepth 20000 in
theorem e225_1132 {d : Nat} {ls : am_L} {st : List Value} {m : am_M} {x y : Int32} : ev d 225 1132 ls (.int y :: .int x :: st) m = ev d 225 1133 ls (.int (x + y) :: st) m := q_nx (show am_row 225 1132 = some (.iadd, 1, 0, 0, 0, 0) from rfl) rfl
set_option maxRecDepth 20000 in
theorem e225_1133 {d : Nat} {ls : am_L} {st : List Value} {m : am_M} {a : Nat} {i : Int32} (hK : (mK m a).1 = 6) (hi : am_ix i (mK m a).2.2 = true) : ev d 225 1133 ls (.int i :: .ref a :: st) m = ev d 225 1134 ls (.int (mI m a i.toNatClampNeg) :: st) m := q_sald (show am_row 225 1133 = some (.iaload, 1, 0, 0, 0, 0) from rfl) hK hi
set_option maxRecDepth 20000 in
theorem e225_1134 {d : Nat} {ls : am_L} {st : List Value} {m : am_M} {x : Nat} : ev d 225 1134 (some (.ref x) :: ls) st m = ev d 225 1135 (some (.ref x) :: ls) (.ref x :: st) m := q_nx (show am_row 225 1134 = some (.aload_n 0, 1, 0, 0, 0, 0) from rfl) rfl
set_option maxRecDepth 20000 in
theorem e225_1135 {d : Nat} {ls : am_L} {st : List Value} {m : am_M} {l0 : Option Value} {l1 : Option Value} {l2 : Option Value} {x : Int32} : ev d 225 1135 (l0 :: l1 :: l2 :: some (.int x) :: ls) st m = ev d 225 1136 (l0 :: l1 :: l2 :: some (.int x) :: ls) (.int x :: st) m := q_nx (show am_row 225 1135 = some (.iload_n 3, 1, 0, 0, 0, 0) from rfl) rfl
set_option maxRecDepth 20000 in
theorem e225_1136 {d : Nat} {ls : am_L} {st : List Value} {m : am_M} : ev d 225 1136 ls st m = ev d 225 1137 ls (.int (nI 4) :: st) m := q_nx (show am_row 225 1136 = some (.iconst 4, 1, 0, 0, 0, 0) from rfl) rfl
set_option maxRecDepth 20000 in
theorem e225_1137 {d : Nat} {ls : am_L} {st : List Value} {m : am_M} {x y : Int32} : ev d 225 1137 ls (.int y :: .int x :: st) m = ev d 225 1138 ls (.int (x + y) :: st) m := q_nx (show am_row 225 1137 = some (.iadd, 1, 0, 0, 0, 0) from rfl) rfl
set_option maxRecDepth 20000 in
theorem e225_1138 {d : Nat} {ls : am_L} {st : List Value} {m : am_M} {a : Nat} {i : Int32} (hK : (mK m a).1 = 6) (hi : am_ix i (mK m a).2.2 = true) : ev d 225 1138 ls (.int i :: .ref a :: st) m = ev d 225 1139 ls (.int (mI m a i.toNatClampNeg) :: st) m := q_sald (show am_row 225 1138 = some (.iaload, 1, 0, 0, 0, 0) from rfl) hK hi
set_option maxRecDepth 20000 in
theorem e225_1139 {d : Nat} {ls : am_L} {st : List Value} {m : am_M} {a : Nat} {v0 : Int32} {v1 : Int32} {v2 : Int32} {v3 : Int32} (hK : mK m a = (1, 9, 0)) (hw : am_w st ≤ 8) : ev (d + 1) 225 1139 ls (.int v3 :: .int v2 :: .int v1 :: .int v0 :: .ref a :: st) m = am_k (cal d 122 [.ref a, .int v0, .int v1, .int v2, .int v3] m) (fun v m'' => ev (d + 1) 225 1142 ls (v.toList ++ st) m'') := q_cl (show am_row 225 1139 = some (.invokevirtual 151, 3, 122, 0, 0, 976) from rfl) rfl (if_pos ⟨hK, (by show 4 ≤ _; simp only [List.length_cons]; omega), hw⟩)
set_option maxRecDepth 20000 in
theorem e225_1142 {d : Nat} {ls : am_L} {st : List Value} {m : am_M} {l0 : Option Value} {l1 : Option Value} {x : Nat} : ev d 225 1142 (l0 :: l1 :: some (.ref x) :: ls) st m = ev d 225 1143 (l0 :: l1 :: some (.ref x) :: ls) (.ref x :: st) m := q_nx (show am_row 225 1142 = some (.aload_n 2, 1, 0, 0, 0, 0) from rfl) rfl
set_option maxRecDepth 20000 in
theorem e225_1143 {d : Nat} {ls : am_L} {st : List Value} {m : am_M} {x : Nat} : ev d 225 1143 (some (.ref x) :: ls) st m = ev d 225 1144 (some (.ref x) :: ls) (.ref x :: st) m := q_nx (show am_row 225 1143 = some (.aload_n 0, 1, 0, 0, 0, 0) from rfl) rfl
set_option maxRecDepth 20000 in
theorem e225_1144 {d : Nat} {ls : am_L} {st : List Value} {m : am_M} {l0 : Option Value} {l1 : Option Value} {l2 : Option Value} {x : Int32} : ev d 225 1144 (l0 :: l1 :: l2 :: some (.int x) :: ls) st m = ev d 225 1145 (l0 :: l1 :: l2 :: some (.int x) :: ls) (.int x :: st) m := q_nx (show am_row 225 1144 = some (.iload_n 3, 1, 0, 0, 0, 0) from rfl) rfl
set_option maxRecDepth 20000 in
theorem e225_1145 {d : Nat} {ls : am_L} {st : List Value} {m : am_M} : ev d 225 1145 ls st m = ev d 225 1146 ls (.int (nI 1) :: st) m := q_nx (show am_row 225 1145 = some (.iconst 1, 1, 0, 0, 0, 0) from rfl) rfl
set_option maxRecDepth 20000 in
theorem e225_1146 {d : Nat} {ls : am_L} {st : List Value} {m : am_M} {x y : Int32} : ev d 225 1146 ls (.int y :: .int x :: st) m = ev d 225 1147 ls (.int (x + y) :: st) m := q_nx (show am_row 225 1146 = some (.iadd, 1, 0, 0, 0, 0) from rfl) rfl
set_option maxRecDepth 20000 in
theorem e225_1147 {d : Nat} {ls : am_L} {st : List Value} {m : am_M} {a : Nat} {i : Int32} (hK : (mK m a).1 = 6) (hi : am_ix i (mK m a).2.2 = true) : ev d 225 1147 ls (.int i :: .ref a :: st) m = ev d 225 1148 ls (.int (mI m a i.toNatClampNeg) :: st) m := q_sald (show am_row 225 1147 = some (.iaload, 1, 0, 0, 0, 0) from rfl) hK hi
set_option maxRecDepth 20000 in
theorem e225_1148 {d : Nat} {ls : am_L} {st : List Value} {m : am_M} {x : Nat} : ev d 225 1148 (some (.ref x) :: ls) st m = ev d 225 1149 (some (.ref x) :: ls) (.ref x :: st) m := q_nx (show am_row 225 1148 = some (.aload_n 0, 1, 0, 0, 0, 0) from rfl) rfl
set_option maxRecDepth 20000 in
theorem e225_1149 {d : Nat} {ls : am_L} {st : List Value} {m : am_M} {l0 : Option Value} {l1 : Option Value} {l2 : Option Value} {x : Int32} : ev d 225 1149 (l0 :: l1 :: l2 :: some (.int x) :: ls) st m = ev d 225 1150 (l0 :: l1 :: l2 :: some (.int x) :: ls) (.int x :: st) m := q_nx (show am_row 225 1149 = some (.iload_n 3, 1, 0, 0, 0, 0) from rfl) rfl
set_option maxRecDepth 20000 in
theorem e225_1150 {d : Nat} {ls : am_L} {st : List Value} {m : am_M} : ev d 225 1150 ls st m = ev d 225 1151 ls (.int (nI 2) :: st) m := q_nx (show am_row 225 1150 = some (.iconst 2, 1, 0, 0, 0, 0) from rfl) rfl
set_option maxRecDepth 20000 in
theorem e225_1151 {d : Nat} {ls : am_L} {st : List Value} {m : am_M} {x y : Int32} : ev d 225 1151 ls (.int y :: .int x :: st) m = ev d 225 1152 ls (.int (x + y) :: st) m := q_nx (show am_row 225 1151 = some (.iadd, 1, 0, 0, 0, 0) from rfl) rfl
set_option maxRecDepth 20000 in
theorem e225_1152 {d : Nat} {ls : am_L} {st : List Value} {m : am_M} {a : Nat} {i : Int32} (hK : (mK m a).1 = 6) (hi : am_ix i (mK m a).2.2 = true) : ev d 225 1152 ls (.int i :: .ref a :: st) m = ev d 225 1153 ls (.int (mI m a i.toNatClampNeg) :: st) m := q_sald (show am_row 225 1152 = some (.iaload, 1, 0, 0, 0, 0) from rfl) hK hi
set_option maxRecDepth 20000 in
theorem e225_1153 {d : Nat} {ls : am_L} {st : List Value} {m : am_M} {x : Nat} : ev d 225 1153 (some (.ref x) :: ls) st m = ev d 225 1154 (some (.ref x) :: ls) (.ref x :: st) m := q_nx (show am_row 225 1153 = some (.aload_n 0, 1, 0, 0, 0, 0) from rfl) rfl
set_option maxRecDepth 20000 in
theorem e225_1154 {d : Nat} {ls : am_L} {st : List Value} {m : am_M} {l0 : Option Value} {l1 : Option Value} {l2 : Option Value} {x : Int32} : ev d 225 1154 (l0 :: l1 :: l2 :: some (.int x) :: ls) st m = ev d 225 1155 (l0 :: l1 :: l2 :: some (.int x) :: ls) (.int x :: st) m := q_nx (show am_row 225 1154 = some (.iload_n 3, 1, 0, 0, 0, 0) from rfl) rfl
set_option maxRecDepth 20000 in
theorem e225_1155 {d : Nat} {ls : am_L} {st : List Value} {m : am_M} : ev d 225 1155 ls st m = ev d 225 1156 ls (.int (nI 3) :: st) m := q_nx (show am_row 225 1155 = some (.iconst 3, 1, 0, 0, 0, 0) from rfl) rfl
set_option maxRecDepth 20000 in
theorem e225_1156 {d : Nat} {ls : am_L} {st : List Value} {m : am_M} {x y : Int32} : ev d 225 1156 ls (.int y :: .int x :: st) m = ev d 225 1157 ls (.int (x + y) :: st) m := q_nx (show am_row 225 1156 = some (.iadd, 1, 0, 0, 0, 0) from rfl) rfl
set_option maxRecDepth 20000 in
theorem e225_1157 {d : Nat} {ls : am_L} {st : List Value} {m : am_M} {a : Nat} {i : Int32} (hK : (mK m a).1 = 6) (hi : am_ix i (mK m a).2.2 = true) : ev d 225 1157 ls (.int i :: .ref a :: st) m = ev d 225 1158 ls (.int (mI m a i.toNatClampNeg) :: st) m := q_sald (show am_row 225 1157 = some (.iaload, 1, 0, 0, 0, 0) from rfl) hK hi
set_option maxRecDepth 20000 in
theorem e225_1158 {d : Nat} {ls : am_L} {st : List Value} {m : am_M} {x : Nat} : ev d 225 1158 (some (.ref x) :: ls) st m = ev d 225 1159 (some (.ref x) :: ls) (.ref x :: st) m := q_nx (show am_row 225 1158 = some (.aload_n 0, 1, 0, 0, 0, 0) from rfl) rfl
set_option maxRecDepth 20000 in
theorem e225_1159 {d : Nat} {ls : am_L} {st : List Value} {m : am_M} {l0 : Option Value} {l1 : Option Value} {l2 : Option Value} {x : Int32} : ev d 225 1159 (l0 :: l1 :: l2 :: some (.int x) :: ls) st m = ev d 225 1160 (l0 :: l1 :: l2 :: some (.int x) :: ls) (.int x :: st) m := q_nx (show am_row 225 1159 = some (.iload_n 3, 1, 0, 0, 0, 0) from rfl) rfl
set_option maxRecDepth 20000 in
theorem e225_1160 {d : Nat} {ls : am_L} {st : List Value} {m : am_M} : ev d 225 1160 ls st m = ev d 225 1161 ls (.int (nI 4) :: st) m := q_nx (show am_row 225 1160 = some (.iconst 4, 1, 0, 0, 0, 0) from rfl) rfl
set_option maxRecDepth 20000 in
theorem e225_1161 {d : Nat} {ls : am_L} {st : List Value} {m : am_M} {x y : Int32} : ev d 225 1161 ls (.int y :: .int x :: st) m = ev d 225 1162 ls (.int (x + y) :: st) m := q_nx (show am_row 225 1161 = some (.iadd, 1, 0, 0, 0, 0) from rfl) rfl
set_option maxRecDepth 20000 in
theorem e225_1162 {d : Nat} {ls : am_L} {st : List Value} {m : am_M} {a : Nat} {i : Int32} (hK : (mK m a).1 = 6) (hi : am_ix i (mK m a).2.2 = true) : ev d 225 1162 ls (.int i :: .ref a :: st) m = ev d 225 1163 ls (.int (mI m a i.toNatClampNeg) :: st) m := q_sald (show am_row 225 1162 = some (.iaload, 1, 0, 0, 0, 0) from rfl) hK hi
set_option maxRecDepth 20000 in
theorem e225_1163 {d : Nat} {ls : am_L} {st : List Value} {m : am_M} {a : Nat} {v0 : Int32} {v1 : Int32} {v2 : Int32} {v3 : Int32} (hK : mK m a = (1, 10, 0)) (hw : am_w st ≤ 8) : ev (d + 1) 225 1163 ls (.int v3 :: .int v2 :: .int v1 :: .int v0 :: .ref a :: st) m = am_k (cal d 217 [.ref a, .int v0, .int v1, .int v2, .int v3] m) (fun v m'' => ev (d + 1) 225 1166 ls (v.toList ++ st) m'') := q_cl (show am_row 225 1163 = some (.invokevirtual 155, 3, 217, 0, 0, 1432) from rfl) rfl (if_pos ⟨hK, (by show 4 ≤ _; simp only [List.length_cons]; omega), hw⟩)
set_option maxRecDepth 20000 in
theorem e225_1166 {d : Nat} {ls : am_L} {st : List Value} {m : am_M} {x y : Int32} : ev d 225 1166 ls (.int y :: .int x :: st) m = if x = y then ev d 225 1266 ls st m else ev d 225 1169 ls st m := q_ite (a := (1266, ls, st, m)) (b := (1169, ls, st, m)) (show am_row 225 1166 = some (.if_icmp .eq 100, 3, 0, 0, 0, 0) from rfl) rfl
set_option maxRecDepth 20000 in
theorem e225_1169 {d : Nat} {ls : am_L} {st : List Value} {m : am_M} : ev d 225 1169 ls st m = ev d 225 1170 ls (.int (nI 0) :: st) m := q_nx (show am_row 225 1169 = some (.iconst 0, 1, 0, 0, 0, 0) from rfl) rfl
set_option maxRecDepth 20000 in
theorem e225_1170 {d : Nat} {ls : am_L} {m : am_M} {x : Int32} (hb : am_bb x = true) : ev d 225 1170 ls [.int x] m = some (some (.int x), m) := q_zret (show am_row 225 1170 = some (.ireturn, 1, 1, 0, 0, 0) from rfl) hb
set_option maxRecDepth 20000 in
theorem e225_1171 {d : Nat} {ls : am_L} {st : List Value} {m : am_M} {l0 : Option Value} {x : Nat} : ev d 225 1171 (l0 :: some (.ref x) :: ls) st m = ev d 225 1172 (l0 :: some (.ref x) :: ls) (.ref x :: st) m := q_nx (show am_row 225 1171 = some (.aload_n 1, 1, 0, 0, 0, 0) from rfl) rfl
set_option maxRecDepth 20000 in
theorem e225_1172 {d : Nat} {ls : am_L} {st : List Value} {m : am_M} {a : Nat} (hK : mK m a = (1, 9, 0)) (hw : am_w st ≤ 8) : ev (d + 1) 225 1172 ls (.ref a :: st) m = am_k (cal d 123 [.ref a] m) (fun v m'' => ev (d + 1) 225 1175 ls (v.toList ++ st) m'') := q_cl (show am_row 225 1172 = some (.invokevirtual 156, 3, 123, 0, 0, 980) from rfl) rfl (if_pos ⟨hK, (Nat.zero_le _), hw⟩)
set_option maxRecDepth 20000 in
theorem e225_1175 {d : Nat} {ls : am_L} {st : List Value} {m : am_M} {l0 : Option Value} {l1 : Option Value} {x : Nat} : ev d 225 1175 (l0 :: l1 :: some (.ref x) :: ls) st m = ev d 225 1176 (l0 :: l1 :: some (.ref x) :: ls) (.ref x :: st) m := q_nx (show am_row 225 1175 = some (.aload_n 2, 1, 0, 0, 0, 0) from rfl) rfl
set_option maxRecDepth 20000 in
theorem e225_1176 {d : Nat} {ls : am_L} {st : List Value} {m : am_M} {a : Nat} (hK : mK m a = (1, 10, 0)) (hw : am_w st ≤ 8) : ev (d + 1) 225 1176 ls (.ref a :: st) m = am_k (cal d 218 [.ref a] m) (fun v m'' => ev (d + 1) 225 1179 ls (v.toList ++ st) m'') := q_cl (show am_row 225 1176 = some (.invokevirtual 159, 3, 218, 0, 0, 1436) from rfl) rfl (if_pos ⟨hK, (Nat.zero_le _), hw⟩)
set_option maxRecDepth 20000 in
theorem e225_1179 {d : Nat} {ls : am_L} {st : List Value} {m : am_M} {x y : Int32} : ev d 225 1179 ls (.int y :: .int x :: st) m = if x = y then ev d 225 1266 ls st m else ev d 225 1182 ls st m := q_ite (a := (1266, ls, st, m)) (b := (1182, ls, st, m)) (show am_row 225 1179 = some (.if_icmp .eq 87, 3, 0, 0, 0, 0) from rfl) rfl
set_option maxRecDepth 20000 in
theorem e225_1182 {d : Nat} {ls : am_L} {st : List Value} {m : am_M} : ev d 225 1182 ls st m = ev d 225 1183 ls (.int (nI 0) :: st) m := q_nx (show am_row 225 1182 = some (.iconst 0, 1, 0, 0, 0, 0) from rfl) rfl
set_option maxRecDepth 20000 in
theorem e225_1183 {d : Nat} {ls : am_L} {m : am_M} {x : Int32} (hb : am_bb x = true) : ev d 225 1183 ls [.int x] m = some (some (.int x), m) := q_zret (show am_row 225 1183 = some (.ireturn, 1, 1, 0, 0, 0) from rfl) hb
set_option maxRecDepth 20000 in
theorem e225_1184 {d : Nat} {ls : am_L} {st : List Value} {m : am_M} {l0 : Option Value} {x : Nat} : ev d 225 1184 (l0 :: some (.ref x) :: ls) st m = ev d 225 1185 (l0 :: some (.ref x) :: ls) (.ref x :: st) m := q_nx (show am_row 225 1184 = some (.aload_n 1, 1, 0, 0, 0, 0) from rfl) rfl
set_option maxRecDepth 20000 in
theorem e225_1185 {d : Nat} {ls : am_L} {st : List Value} {m : am_M} {a : Nat} (hK : mK m a = (1, 9, 0)) (hw : am_w st ≤ 8) : ev (d + 1) 225 1185 ls (.ref a :: st) m = am_k (cal d 124 [.ref a] m) (fun v m'' => ev (d + 1) 225 1188 ls (v.toList ++ st) m'') := q_cl (show am_row 225 1185 = some (.invokevirtual 160, 3, 124, 0, 0, 984) from rfl) rfl (if_pos ⟨hK, (Nat.zero_le _), hw⟩)
set_option maxRecDepth 20000 in
theorem e225_1188 {d : Nat} {ls : am_L} {st : List Value} {m : am_M} {l0 : Option Value} {l1 : Option Value} {x : Nat} : ev d 225 1188 (l0 :: l1 :: some (.ref x) :: ls) st m = ev d 225 1189 (l0 :: l1 :: some (.ref x) :: ls) (.ref x :: st) m := q_nx (show am_row 225 1188 = some (.aload_n 2, 1, 0, 0, 0, 0) from rfl) rfl
set_option maxRecDepth 20000 in
theorem e225_1189 {d : Nat} {ls : am_L} {st : List Value} {m : am_M} {a : Nat} (hK : mK m a = (1, 10, 0)) (hw : am_w st ≤ 8) : ev (d + 1) 225 1189 ls (.ref a :: st) m = am_k (cal d 221 [.ref a] m) (fun v m'' => ev (d + 1) 225 1192 ls (v.toList ++ st) m'') := q_cl (show am_row 225 1189 = some (.invokevirtual 163, 3, 221, 0, 0, 1440) from rfl) rfl (if_pos ⟨hK, (Nat.zero_le _), hw⟩)
set_option maxRecDepth 20000 in
theorem e225_1192 {d : Nat} {ls : am_L} {st : List Value} {m : am_M} {x y : Int32} : ev d 225 1192 ls (.int y :: .int x :: st) m = if x = y then ev d 225 1266 ls st m else ev d 225 1195 ls st m := q_ite (a := (1266, ls, st, m)) (b := (1195, ls, st, m)) (show am_row 225 1192 = some (.if_icmp .eq 74, 3, 0, 0, 0, 0) from rfl) rfl
set_option maxRecDepth 20000 in
theorem e225_1195 {d : Nat} {ls : am_L} {st : List Value} {m : am_M} : ev d 225 1195 ls st m = ev d 225 1196 ls (.int (nI 0) :: st) m := q_nx (show am_row 225 1195 = some (.iconst 0, 1, 0, 0, 0, 0) from rfl) rfl
set_option maxRecDepth 20000 in
theorem e225_1196 {d : Nat} {ls : am_L} {m : am_M} {x : Int32} (hb : am_bb x = true) : ev d 225 1196 ls [.int x] m = some (some (.int x), m) := q_zret (show am_row 225 1196 = some (.ireturn, 1, 1, 0, 0, 0) from rfl) hb
set_option maxRecDepth 20000 in
theorem e225_1197 {d : Nat} {ls : am_L} {st : List Value} {m : am_M} {l0 : Option Value} {x : Nat} : ev d 225 1197 (l0 :: some (.ref x) :: ls) st m = ev d 225 1198 (l0 :: some (.ref x) :: ls) (.ref x :: st) m := q_nx (show am_row 225 1197 = some (.aload_n 1, 1, 0, 0, 0, 0) from rfl) rfl
set_option maxRecDepth 20000 in
theorem e225_1198 {d : Nat} {ls : am_L} {st : List Value} {m : am_M} {x : Nat} : ev d 225 1198 (some (.ref x) :: ls) st m = ev d 225 1199 (some (.ref x) :: ls) (.ref x :: st) m := q_nx (show am_row 225 1198 = some (.aload_n 0, 1, 0, 0, 0, 0) from rfl) rfl
set_option maxRecDepth 20000 in
theorem e225_1199 {d : Nat} {ls : am_L} {st : List Value} {m : am_M} {l0 : Option Value} {l1 : Option Value} {l2 : Option Value} {x : Int32} : ev d 225 1199 (l0 :: l1 :: l2 :: some (.int x) :: ls) st m = ev d 225 1200 (l0 :: l1 :: l2 :: some (.int x) :: ls) (.int x :: st) m := q_nx (show am_row 225 1199 = some (.iload_n 3, 1, 0, 0, 0, 0) from rfl) rfl
set_option maxRecDepth 20000 in
theorem e225_1200 {d : Nat} {ls : am_L} {st : List Value} {m : am_M} : ev d 225 1200 ls st m = ev d 225 1201 ls (.int (nI 1) :: st) m := q_nx (show am_row 225 1200 = some (.iconst 1, 1, 0, 0, 0, 0) from rfl) rfl
set_option maxRecDepth 20000 in
theorem e225_1201 {d : Nat} {ls : am_L} {st : List Value} {m : am_M} {x y : Int32} : ev d 225 1201 ls (.int y :: .int x :: st) m = ev d 225 1202 ls (.int (x + y) :: st) m := q_nx (show am_row 225 1201 = some (.iadd, 1, 0, 0, 0, 0) from rfl) rfl
set_option maxRecDepth 20000 in
theorem e225_1202 {d : Nat} {ls : am_L} {st : List Value} {m : am_M} {a : Nat} {i : Int32} (hK : (mK m a).1 = 6) (hi : am_ix i (mK m a).2.2 = true) : ev d 225 1202 ls (.int i :: .ref a :: st) m = ev d 225 1203 ls (.int (mI m a i.toNatClampNeg) :: st) m := q_sald (show am_row 225 1202 = some (.iaload, 1, 0, 0, 0, 0) from rfl) hK hi
set_option maxRecDepth 20000 in
theorem e225_1203 {d : Nat} {ls : am_L} {st : List Value} {m : am_M} {a : Nat} {v0 : Int32} (hK : mK m a = (1, 9, 0)) (hw : am_w st ≤ 8) : ev (d + 1) 225 1203 ls (.int v0 :: .ref a :: st) m = am_k (cal d 125 [.ref a, .int v0] m) (fun v m'' => ev (d + 1) 225 1206 ls (v.toList ++ st) m'') := q_cl (show am_row 225 1203 = some (.invokevirtual 164, 3, 125, 0, 0, 1021) from rfl) rfl (if_pos ⟨hK, (by show 1 ≤ _; simp only [List.length_cons]; omega), hw⟩)
set_option maxRecDepth 20000 in
theorem e225_1206 {d : Nat} {ls : am_L} {st : List Value} {m : am_M} {l0 : Option Value} {l1 : Option Value} {x : Nat} : ev d 225 1206 (l0 :: l1 :: some (.ref x) :: ls) st m = ev d 225 1207 (l0 :: l1 :: some (.ref x) :: ls) (.ref x :: st) m := q_nx (show am_row 225 1206 = some (.aload_n 2, 1, 0, 0, 0, 0) from rfl) rfl
set_option maxRecDepth 20000 in
theorem e225_1207 {d : Nat} {ls : am_L} {st : List Value} {m : am_M} {x : Nat} : ev d 225 1207 (some (.ref x) :: ls) st m = ev d 225 1208 (some (.ref x) :: ls) (.ref x :: st) m := q_nx (show am_row 225 1207 = some (.aload_n 0, 1, 0, 0, 0, 0) from rfl) rfl
set_option maxRecDepth 20000 in
theorem e225_1208 {d : Nat} {ls : am_L} {st : List Value} {m : am_M} {l0 : Option Value} {l1 : Option Value} {l2 : Option Value} {x : Int32} : ev d 225 1208 (l0 :: l1 :: l2 :: some (.int x) :: ls) st m = ev d 225 1209 (l0 :: l1 :: l2 :: some (.int x) :: ls) (.int x :: st) m := q_nx (show am_row 225 1208 = some (.iload_n 3, 1, 0, 0, 0, 0) from rfl) rfl
set_option maxRecDepth 20000 in
theorem e225_1209 {d : Nat} {ls : am_L} {st : List Value} {m : am_M} : ev d 225 1209 ls st m = ev d 225 1210 ls (.int (nI 1) :: st) m := q_nx (show am_row 225 1209 = some (.iconst 1, 1, 0, 0, 0, 0) from rfl) rfl
set_option maxRecDepth 20000 in
theorem e225_1210 {d : Nat} {ls : am_L} {st : List Value} {m : am_M} {x y : Int32} : ev d 225 1210 ls (.int y :: .int x :: st) m = ev d 225 1211 ls (.int (x + y) :: st) m := q_nx (show am_row 225 1210 = some (.iadd, 1, 0, 0, 0, 0) from rfl) rfl
set_option maxRecDepth 20000 in
theorem e225_1211 {d : Nat} {ls : am_L} {st : List Value} {m : am_M} {a : Nat} {i : Int32} (hK : (mK m a).1 = 6) (hi : am_ix i (mK m a).2.2 = true) : ev d 225 1211 ls (.int i :: .ref a :: st) m = ev d 225 1212 ls (.int (mI m a i.toNatClampNeg) :: st) m := q_sald (show am_row 225 1211 = some (.iaload, 1, 0, 0, 0, 0) from rfl) hK hi
set_option maxRecDepth 20000 in
theorem e225_1212 {d : Nat} {ls : am_L} {st : List Value} {m : am_M} {a : Nat} {v0 : Int32} (hK : mK m a = (1, 10, 0)) (hw : am_w st ≤ 8) : ev (d + 1) 225 1212 ls (.int v0 :: .ref a :: st) m = am_k (cal d 222 [.ref a, .int v0] m) (fun v m'' => ev (d + 1) 225 1215 ls (v.toList ++ st) m'') := q_cl (show am_row 225 1212 = some (.invokevirtual 168, 3, 222, 0, 0, 1456) from rfl) rfl (if_pos ⟨hK, (by show 1 ≤ _; simp only [List.length_cons]; omega), hw⟩)
set_option maxRecDepth 20000 in
theorem e225_1215 {d : Nat} {ls : am_L} {st : List Value} {m : am_M} {x y : Int32} : ev d 225 1215 ls (.int y :: .int x :: st) m = if x = y then ev d 225 1266 ls st m else ev d 225 1218 ls st m := q_ite (a := (1266, ls, st, m)) (b := (1218, ls, st, m)) (show am_row 225 1215 = some (.if_icmp .eq 51, 3, 0, 0, 0, 0) from rfl) rfl
set_option maxRecDepth 20000 in
theorem e225_1218 {d : Nat} {ls : am_L} {st : List Value} {m : am_M} : ev d 225 1218 ls st m = ev d 225 1219 ls (.int (nI 0) :: st) m := q_nx (show am_row 225 1218 = some (.iconst 0, 1, 0, 0, 0, 0) from rfl) rfl
set_option maxRecDepth 20000 in
theorem e225_1219 {d : Nat} {ls : am_L} {m : am_M} {x : Int32} (hb : am_bb x = true) : ev d 225 1219 ls [.int x] m = some (some (.int x), m) := q_zret (show am_row 225 1219 = some (.ireturn, 1, 1, 0, 0, 0) from rfl) hb
set_option maxRecDepth 20000 in
theorem e225_1220 {d : Nat} {ls : am_L} {st : List Value} {m : am_M} {l0 : Option Value} {x : Nat} : ev d 225 1220 (l0 :: some (.ref x) :: ls) st m = ev d 225 1221 (l0 :: some (.ref x) :: ls) (.ref x :: st) m := q_nx (show am_row 225 1220 = some (.aload_n 1, 1, 0, 0, 0, 0) from rfl) rfl
set_option maxRecDepth 20000 in
theorem e225_1221 {d : Nat} {ls : am_L} {st : List Value} {m : am_M} {x : Nat} : ev d 225 1221 (some (.ref x) :: ls) st m = ev d 225 1222 (some (.ref x) :: ls) (.ref x :: st) m := q_nx (show am_row 225 1221 = some (.aload_n 0, 1, 0, 0, 0, 0) from rfl) rfl
set_option maxRecDepth 20000 in
theorem e225_1222 {d : Nat} {ls : am_L} {st : List Value} {m : am_M} {l0 : Option Value} {l1 : Option Value} {l2 : Option Value} {x : Int32} : ev d 225 1222 (l0 :: l1 :: l2 :: some (.int x) :: ls) st m = ev d 225 1223 (l0 :: l1 :: l2 :: some (.int x) :: ls) (.int x :: st) m := q_nx (show am_row 225 1222 = some (.iload_n 3, 1, 0, 0, 0, 0) from rfl) rfl
set_option maxRecDepth 20000 in
theorem e225_1223 {d : Nat} {ls : am_L} {st : List Value} {m : am_M} : ev d 225 1223 ls st m = ev d 225 1224 ls (.int (nI 1) :: st) m := q_nx (show am_row 225 1223 = some (.iconst 1, 1, 0, 0, 0, 0) from rfl) rfl
set_option maxRecDepth 20000 in
theorem e225_1224 {d : Nat} {ls : am_L} {st : List Value} {m : am_M} {x y : Int32} : ev d 225 1224 ls (.int y :: .int x :: st) m = ev d 225 1225 ls (.int (x + y) :: st) m := q_nx (show am_row 225 1224 = some (.iadd, 1, 0, 0, 0, 0) from rfl) rfl
set_option maxRecDepth 20000 in
theorem e225_1225 {d : Nat} {ls : am_L} {st : List Value} {m : am_M} {a : Nat} {i : Int32} (hK : (mK m a).1 = 6) (hi : am_ix i (mK m a).2.2 = true) : ev d 225 1225 ls (.int i :: .ref a :: st) m = ev d 225 1226 ls (.int (mI m a i.toNatClampNeg) :: st) m := q_sald (show am_row 225 1225 = some (.iaload, 1, 0, 0, 0, 0) from rfl) hK hi
set_option maxRecDepth 20000 in
theorem e225_1226 {d : Nat} {ls : am_L} {st : List Value} {m : am_M} {a : Nat} {v0 : Int32} (hK : mK m a = (1, 9, 0)) (hw : am_w st ≤ 8) : ev (d + 1) 225 1226 ls (.int v0 :: .ref a :: st) m = am_k (cal d 126 [.ref a, .int v0] m) (fun v m'' => ev (d + 1) 225 1229 ls (v.toList ++ st) m'') := q_cl (show am_row 225 1226 = some (.invokevirtual 169, 3, 126, 0, 0, 1025) from rfl) rfl (if_pos ⟨hK, (by show 1 ≤ _; simp only [List.length_cons]; omega), hw⟩)
set_option maxRecDepth 20000 in
theorem e225_1229 {d : Nat} {ls : am_L} {st : List Value} {m : am_M} {l0 : Option Value} {l1 : Option Value} {x : Nat} : ev d 225 1229 (l0 :: l1 :: some (.ref x) :: ls) st m = ev d 225 1230 (l0 :: l1 :: some (.ref x) :: ls) (.ref x :: st) m := q_nx (show am_row 225 1229 = some (.aload_n 2, 1, 0, 0, 0, 0) from rfl) rfl
set_option maxRecDepth 20000 in
theorem e225_1230 {d : Nat} {ls : am_L} {st : List Value} {m : am_M} {x : Nat} : ev d 225 1230 (some (.ref x) :: ls) st m = ev d 225 1231 (some (.ref x) :: ls) (.ref x :: st) m := q_nx (show am_row 225 1230 = some (.aload_n 0, 1, 0, 0, 0, 0) from rfl) rfl
set_option maxRecDepth 20000 in
theorem e225_1231 {d : Nat} {ls : am_L} {st : List Value} {m : am_M} {l0 : Option Value} {l1 : Option Value} {l2 : Option Value} {x : Int32} : ev d 225 1231 (l0 :: l1 :: l2 :: some (.int x) :: ls) st m = ev d 225 1232 (l0 :: l1 :: l2 :: some (.int x) :: ls) (.int x :: st) m := q_nx (show am_row 225 1231 = some (.iload_n 3, 1, 0, 0, 0, 0) from rfl) rfl
set_option maxRecDepth 20000 in
theorem e225_1232 {d : Nat} {ls : am_L} {st : List Value} {m : am_M} : ev d 225 1232 ls st m = ev d 225 1233 ls (.int (nI 1) :: st) m := q_nx (show am_row 225 1232 = some (.iconst 1, 1, 0, 0, 0, 0) from rfl) rfl
set_option maxRecDepth 20000 in
theorem e225_1233 {d : Nat} {ls : am_L} {st : List Value} {m : am_M} {x y : Int32} : ev d 225 1233 ls (.int y :: .int x :: st) m = ev d 225 1234 ls (.int (x + y) :: st) m := q_nx (show am_row 225 1233 = some (.iadd, 1, 0, 0, 0, 0) from rfl) rfl
set_option maxRecDepth 20000 in
theorem e225_1234 {d : Nat} {ls : am_L} {st : List Value} {m : am_M} {a : Nat} {i : Int32} (hK : (mK m a).1 = 6) (hi : am_ix i (mK m a).2.2 = true) : ev d 225 1234 ls (.int i :: .ref a :: st) m = ev d 225 1235 ls (.int (mI m a i.toNatClampNeg) :: st) m := q_sald (show am_row 225 1234 = some (.iaload, 1, 0, 0, 0, 0) from rfl) hK hi
set_option maxRecDepth 20000 in
theorem e225_1235 {d : Nat} {ls : am_L} {st : List Value} {m : am_M} {a : Nat} {v0 : Int32} (hK : mK m a = (1, 10, 0)) (hw : am_w st ≤ 8) : ev (d + 1) 225 1235 ls (.int v0 :: .ref a :: st) m = am_k (cal d 223 [.ref a, .int v0] m) (fun v m'' => ev (d + 1) 225 1238 ls (v.toList ++ st) m'') := q_cl (show am_row 225 1235 = some (.invokevirtual 172, 3, 223, 0, 0, 1460) from rfl) rfl (if_pos ⟨hK, (by show 1 ≤ _; simp only [List.length_cons]; omega), hw⟩)
set_option maxRecDepth 20000 in
theorem e225_1238 {d : Nat} {ls : am_L} {st : List Value} {m : am_M} {x y : Int32} : ev d 225 1238 ls (.int y :: .int x :: st) m = if x = y then ev d 225 1266 ls st m else ev d 225 1241 ls st m := q_ite (a := (1266, ls, st, m)) (b := (1241, ls, st, m)) (show am_row 225 1238 = some (.if_icmp .eq 28, 3, 0, 0, 0, 0) from rfl) rfl
set_option maxRecDepth 20000 in
theorem e225_1241 {d : Nat} {ls : am_L} {st : List Value} {m : am_M} : ev d 225 1241 ls st m = ev d 225 1242 ls (.int (nI 0) :: st) m := q_nx (show am_row 225 1241 = some (.iconst 0, 1, 0, 0, 0, 0) from rfl) rfl
set_option maxRecDepth 20000 in
theorem e225_1242 {d : Nat} {ls : am_L} {m : am_M} {x : Int32} (hb : am_bb x = true) : ev d 225 1242 ls [.int x] m = some (some (.int x), m) := q_zret (show am_row 225 1242 = some (.ireturn, 1, 1, 0, 0, 0) from rfl) hb
set_option maxRecDepth 20000 in
theorem e225_1243 {d : Nat} {ls : am_L} {st : List Value} {m : am_M} {l0 : Option Value} {x : Nat} : ev d 225 1243 (l0 :: some (.ref x) :: ls) st m = ev d 225 1244 (l0 :: some (.ref x) :: ls) (.ref x :: st) m := q_nx (show am_row 225 1243 = some (.aload_n 1, 1, 0, 0, 0, 0) from rfl) rfl
set_option maxRecDepth 20000 in
theorem e225_1244 {d : Nat} {ls : am_L} {st : List Value} {m : am_M} {x : Nat} : ev d 225 1244 (some (.ref x) :: ls) st m = ev d 225 1245 (some (.ref x) :: ls) (.ref x :: st) m := q_nx (show am_row 225 1244 = some (.aload_n 0, 1, 0, 0, 0, 0) from rfl) rfl
set_option maxRecDepth 20000 in
theorem e225_1245 {d : Nat} {ls : am_L} {st : List Value} {m : am_M} {l0 : Option Value} {l1 : Option Value} {l2 : Option Value} {x : Int32} : ev d 225 1245 (l0 :: l1 :: l2 :: some (.int x) :: ls) st m = ev d 225 1246 (l0 :: l1 :: l2 :: some (.int x) :: ls) (.int x :: st) m := q_nx (show am_row 225 1245 = some (.iload_n 3, 1, 0, 0, 0, 0) from rfl) rfl
set_option maxRecDepth 20000 in
theorem e225_1246 {d : Nat} {ls : am_L} {st : List Value} {m : am_M} : ev d 225 1246 ls st m = ev d 225 1247 ls (.int (nI 1) :: st) m := q_nx (show am_row 225 1246 = some (.iconst 1, 1, 0, 0, 0, 0) from rfl) rfl
set_option maxRecDepth 20000 in
theorem e225_1247 {d : Nat} {ls : am_L} {st : List Value} {m : am_M} {x y : Int32} : ev d 225 1247 ls (.int y :: .int x :: st) m = ev d 225 1248 ls (.int (x + y) :: st) m := q_nx (show am_row 225 1247 = some (.iadd, 1, 0, 0, 0, 0) from rfl) rfl
set_option maxRecDepth 20000 in
theorem e225_1248 {d : Nat} {ls : am_L} {st : List Value} {m : am_M} {a : Nat} {i : Int32} (hK : (mK m a).1 = 6) (hi : am_ix i (mK m a).2.2 = true) : ev d 225 1248 ls (.int i :: .ref a :: st) m = ev d 225 1249 ls (.int (mI m a i.toNatClampNeg) :: st) m := q_sald (show am_row 225 1248 = some (.iaload, 1, 0, 0, 0, 0) from rfl) hK hi
set_option maxRecDepth 20000 in
theorem e225_1249 {d : Nat} {ls : am_L} {st : List Value} {m : am_M} {a : Nat} {v0 : Int32} (hK : mK m a = (1, 9, 0)) (hw : am_w st ≤ 8) : ev (d + 1) 225 1249 ls (.int v0 :: .ref a :: st) m = am_k (cal d 127 [.ref a, .int v0] m) (fun v m'' => ev (d + 1) 225 1252 ls (v.toList ++ st) m'') := q_cl (show am_row 225 1249 = some (.invokevirtual 173, 3, 127, 0, 0, 1029) from rfl) rfl (if_pos ⟨hK, (by show 1 ≤ _; simp only [List.length_cons]; omega), hw⟩)
set_option maxRecDepth 20000 in
theorem e225_1252 {d : Nat} {ls : am_L} {st : List Value} {m : am_M} {l0 : Option Value} {l1 : Option Value} {x : Nat} : ev d 225 1252 (l0 :: l1 :: some (.ref x) :: ls) st m = ev d 225 1253 (l0 :: l1 :: some (.ref x) :: ls) (.ref x :: st) m := q_nx (show am_row 225 1252 = some (.aload_n 2, 1, 0, 0, 0, 0) from rfl) rfl
set_option maxRecDepth 20000 in
theorem e225_1253 {d : Nat} {ls : am_L} {st : List Value} {m : am_M} {x : Nat} : ev d 225 1253 (some (.ref x) :: ls) st m = ev d 225 1254 (some (.ref x) :: ls) (.ref x :: st) m := q_nx (show am_row 225 1253 = some (.aload_n 0, 1, 0, 0, 0, 0) from rfl) rfl
set_option maxRecDepth 20000 in
theorem e225_1254 {d : Nat} {ls : am_L} {st : List Value} {m : am_M} {l0 : Option Value} {l1 : Option Value} {l2 : Option Value} {x : Int32} : ev d 225 1254 (l0 :: l1 :: l2 :: some (.int x) :: ls) st m = ev d 225 1255 (l0 :: l1 :: l2 :: some (.int x) :: ls) (.int x :: st) m := q_nx (show am_row 225 1254 = some (.iload_n 3, 1, 0, 0, 0, 0) from rfl) rfl
set_option maxRecDepth 20000 in
theorem e225_1255 {d : Nat} {ls : am_L} {st : List Value} {m : am_M} : ev d 225 1255 ls st m = ev d 225 1256 ls (.int (nI 1) :: st) m := q_nx (show am_row 225 1255 = some (.iconst 1, 1, 0, 0, 0, 0) from rfl) rfl
set_option maxRecDepth 20000 in
theorem e225_1256 {d : Nat} {ls : am_L} {st : List Value} {m : am_M} {x y : Int32} : ev d 225 1256 ls (.int y :: .int x :: st) m = ev d 225 1257 ls (.int (x + y) :: st) m := q_nx (show am_row 225 1256 = some (.iadd, 1, 0, 0, 0, 0) from rfl) rfl
set_option maxRecDepth 20000 in
theorem e225_1257 {d : Nat} {ls : am_L} {st : List Value} {m : am_M} {a : Nat} {i : Int32} (hK : (mK m a).1 = 6) (hi : am_ix i (mK m a).2.2 = true) : ev d 225 1257 ls (.int i :: .ref a :: st) m = ev d 225 1258 ls (.int (mI m a i.toNatClampNeg) :: st) m := q_sald (show am_row 225 1257 = some (.iaload, 1, 0, 0, 0, 0) from rfl) hK hi
set_option maxRecDepth 20000 in
theorem e225_1258 {d : Nat} {ls : am_L} {st : List Value} {m : am_M} {a : Nat} {v0 : Int32} (hK : mK m a = (1, 10, 0)) (hw : am_w st ≤ 8) : ev (d + 1) 225 1258 ls (.int v0 :: .ref a :: st) m = am_k (cal d 224 [.ref a, .int v0] m) (fun v m'' => ev (d + 1) 225 1261 ls (v.toList ++ st) m'') := q_cl (show am_row 225 1258 = some (.invokevirtual 176, 3, 224, 0, 0, 1464) from rfl) rfl (if_pos ⟨hK, (by show 1 ≤ _; simp only [List.length_cons]; omega), hw⟩)
set_option maxRecDepth 20000 in
theorem e225_1261 {d : Nat} {ls : am_L} {st : List Value} {m : am_M} {x y : Int32} : ev d 225 1261 ls (.int y :: .int x :: st) m = if x = y then ev d 225 1266 ls st m else ev d 225 1264 ls st m := q_ite (a := (1266, ls, st, m)) (b := (1264, ls, st, m)) (show am_row 225 1261 = some (.if_icmp .eq 5, 3, 0, 0, 0, 0) from rfl) rfl
set_option maxRecDepth 20000 in
theorem e225_1264 {d : Nat} {ls : am_L} {st : List Value} {m : am_M} : ev d 225 1264 ls st m = ev d 225 1265 ls (.int (nI 0) :: st) m := q_nx (show am_row 225 1264 = some (.iconst 0, 1, 0, 0, 0, 0) from rfl) rfl
set_option maxRecDepth 20000 in
theorem e225_1265 {d : Nat} {ls : am_L} {m : am_M} {x : Int32} (hb : am_bb x = true) : ev d 225 1265 ls [.int x] m = some (some (.int x), m) := q_zret (show am_row 225 1265 = some (.ireturn, 1, 1, 0, 0, 0) from rfl) hb
set_option maxRecDepth 20000 in
theorem e225_1266 {d : Nat} {ls : am_L} {st : List Value} {m : am_M} {l0 : Option Value} {l1 : Option Value} {l2 : Option Value} {x : Int32} : ev d 225 1266 (l0 :: l1 :: l2 :: some (.int x) :: ls) st m = ev d 225 1269 (l0 :: l1 :: am_clr l2 :: some (.int (x + (nI 6))) :: ls) st m := q_nx (show am_row 225 1266 = some (.iinc 3 6, 3, 0, 0, 0, 0) from rfl) rfl
set_option maxRecDepth 20000 in
theorem e225_1269 {d : Nat} {ls : am_L} {st : List Value} {m : am_M} : ev d 225 1269 ls st m = ev d 225 18 ls st m := q_nx (show am_row 225 1269 = some (.goto (-1251), 3, 0, 0, 0, 0) from rfl) rfl
set_option maxRecDepth 20000 in
theorem e225_1272 {d : Nat} {ls : am_L} {st : List Value} {m : am_M} : ev d 225 1272 ls st m = ev d 225 1273 ls (.int (nI 1) :: st) m := q_nx (show am_row 225 1272 = some (.iconst 1, 1, 0, 0, 0, 0) from rfl) rfl
set_option maxRecDepth 20000 in
theorem e225_1273 {d : Nat} {ls : am_L} {m : am_M} {x : Int32} (hb : am_bb x = true) : ev d 225 1273 ls [.int x] m = some (some (.int x), m) := q_zret (show am_row 225 1273 = some (.ireturn, 1, 1, 0, 0, 0) from rfl) hb
