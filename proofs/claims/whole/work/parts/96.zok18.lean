theorem tb_1 {w : Cond} (h : w ∈ tables_1_1) : w ∈ lw_tbl := List.mem_append_right _ (List.mem_append_left _ h)
theorem tb_2 {w : Cond} (h : w ∈ tables_1_2) : w ∈ lw_tbl := List.mem_append_right _ (List.mem_append_right _ (List.mem_append_left _ h))
theorem tb_3 {w : Cond} (h : w ∈ tables_1_3) : w ∈ lw_tbl := List.mem_append_right _ (List.mem_append_right _ (List.mem_append_right _ (List.mem_append_left _ h)))
theorem tb_4 {w : Cond} (h : w ∈ tables_1_4) : w ∈ lw_tbl := List.mem_append_right _ (List.mem_append_right _ (List.mem_append_right _ (List.mem_append_right _ (List.mem_append_left _ h))))
theorem tb_5 {w : Cond} (h : w ∈ tables_1_5) : w ∈ lw_tbl := List.mem_append_right _ (List.mem_append_right _ (List.mem_append_right _ (List.mem_append_right _ (List.mem_append_right _ (List.mem_append_left _ h)))))
theorem tb_6 {w : Cond} (h : w ∈ tables_1_6) : w ∈ lw_tbl := List.mem_append_right _ (List.mem_append_right _ (List.mem_append_right _ (List.mem_append_right _ (List.mem_append_right _ (List.mem_append_right _ h)))))
set_option maxRecDepth 100000 in
theorem okc_0 : Cond.code (am_mi 0).1 (am_mi 0).2.1 (am_mi 0).2.2.1 (am_mi 0).2.2.2 ∈ lw_tbl := tb_1 (List.mem_of_getElem? (i := 101) rfl)
set_option maxRecDepth 100000 in
theorem okc_1 : Cond.code (am_mi 1).1 (am_mi 1).2.1 (am_mi 1).2.2.1 (am_mi 1).2.2.2 ∈ lw_tbl := tb_2 (List.mem_of_getElem? (i := 184) rfl)
set_option maxRecDepth 100000 in
theorem okc_2 : Cond.code (am_mi 2).1 (am_mi 2).2.1 (am_mi 2).2.2.1 (am_mi 2).2.2.2 ∈ lw_tbl := tb_2 (List.mem_of_getElem? (i := 230) rfl)
set_option maxRecDepth 100000 in
theorem okc_3 : Cond.code (am_mi 3).1 (am_mi 3).2.1 (am_mi 3).2.2.1 (am_mi 3).2.2.2 ∈ lw_tbl := tb_3 (List.mem_of_getElem? (i := 170) rfl)
set_option maxRecDepth 100000 in
theorem okc_4 : Cond.code (am_mi 4).1 (am_mi 4).2.1 (am_mi 4).2.2.1 (am_mi 4).2.2.2 ∈ lw_tbl := tb_4 (List.mem_of_getElem? (i := 207) rfl)
set_option maxRecDepth 100000 in
theorem okc_5 : Cond.code (am_mi 5).1 (am_mi 5).2.1 (am_mi 5).2.2.1 (am_mi 5).2.2.2 ∈ lw_tbl := tb_1 (List.mem_of_getElem? (i := 176) rfl)
set_option maxRecDepth 100000 in
theorem okc_6 : Cond.code (am_mi 6).1 (am_mi 6).2.1 (am_mi 6).2.2.1 (am_mi 6).2.2.2 ∈ lw_tbl := tb_3 (List.mem_of_getElem? (i := 226) rfl)
set_option maxRecDepth 100000 in
theorem okc_7 : Cond.code (am_mi 7).1 (am_mi 7).2.1 (am_mi 7).2.2.1 (am_mi 7).2.2.2 ∈ lw_tbl := tb_4 (List.mem_of_getElem? (i := 24) rfl)
set_option maxRecDepth 100000 in
theorem okc_8 : Cond.code (am_mi 8).1 (am_mi 8).2.1 (am_mi 8).2.2.1 (am_mi 8).2.2.2 ∈ lw_tbl := tb_3 (List.mem_of_getElem? (i := 230) rfl)
set_option maxRecDepth 100000 in
theorem okc_9 : Cond.code (am_mi 9).1 (am_mi 9).2.1 (am_mi 9).2.2.1 (am_mi 9).2.2.2 ∈ lw_tbl := tb_3 (List.mem_of_getElem? (i := 237) rfl)
set_option maxRecDepth 100000 in
theorem okc_10 : Cond.code (am_mi 10).1 (am_mi 10).2.1 (am_mi 10).2.2.1 (am_mi 10).2.2.2 ∈ lw_tbl := tb_1 (List.mem_of_getElem? (i := 202) rfl)
set_option maxRecDepth 100000 in
theorem okc_11 : Cond.code (am_mi 11).1 (am_mi 11).2.1 (am_mi 11).2.2.1 (am_mi 11).2.2.2 ∈ lw_tbl := tb_2 (List.mem_of_getElem? (i := 180) rfl)
set_option maxRecDepth 100000 in
theorem okc_12 : Cond.code (am_mi 12).1 (am_mi 12).2.1 (am_mi 12).2.2.1 (am_mi 12).2.2.2 ∈ lw_tbl := tb_4 (List.mem_of_getElem? (i := 197) rfl)
set_option maxRecDepth 100000 in
theorem okc_13 : Cond.code (am_mi 13).1 (am_mi 13).2.1 (am_mi 13).2.2.1 (am_mi 13).2.2.2 ∈ lw_tbl := tb_2 (List.mem_of_getElem? (i := 192) rfl)
set_option maxRecDepth 100000 in
theorem okc_14 : Cond.code (am_mi 14).1 (am_mi 14).2.1 (am_mi 14).2.2.1 (am_mi 14).2.2.2 ∈ lw_tbl := tb_2 (List.mem_of_getElem? (i := 176) rfl)
set_option maxRecDepth 100000 in
theorem okc_15 : Cond.code (am_mi 15).1 (am_mi 15).2.1 (am_mi 15).2.2.1 (am_mi 15).2.2.2 ∈ lw_tbl := tb_2 (List.mem_of_getElem? (i := 211) rfl)
set_option maxRecDepth 100000 in
theorem okc_16 : Cond.code (am_mi 16).1 (am_mi 16).2.1 (am_mi 16).2.2.1 (am_mi 16).2.2.2 ∈ lw_tbl := tb_3 (List.mem_of_getElem? (i := 33) rfl)
set_option maxRecDepth 100000 in
theorem okc_17 : Cond.code (am_mi 17).1 (am_mi 17).2.1 (am_mi 17).2.2.1 (am_mi 17).2.2.2 ∈ lw_tbl := tb_4 (List.mem_of_getElem? (i := 125) rfl)
set_option maxRecDepth 100000 in
theorem okc_18 : Cond.code (am_mi 18).1 (am_mi 18).2.1 (am_mi 18).2.2.1 (am_mi 18).2.2.2 ∈ lw_tbl := tb_3 (List.mem_of_getElem? (i := 41) rfl)
set_option maxRecDepth 100000 in
theorem okc_19 : Cond.code (am_mi 19).1 (am_mi 19).2.1 (am_mi 19).2.2.1 (am_mi 19).2.2.2 ∈ lw_tbl := tb_3 (List.mem_of_getElem? (i := 120) rfl)
set_option maxRecDepth 100000 in
theorem okc_20 : Cond.code (am_mi 20).1 (am_mi 20).2.1 (am_mi 20).2.2.1 (am_mi 20).2.2.2 ∈ lw_tbl := tb_3 (List.mem_of_getElem? (i := 37) rfl)
set_option maxRecDepth 100000 in
theorem okc_21 : Cond.code (am_mi 21).1 (am_mi 21).2.1 (am_mi 21).2.2.1 (am_mi 21).2.2.2 ∈ lw_tbl := tb_3 (List.mem_of_getElem? (i := 124) rfl)
set_option maxRecDepth 100000 in
theorem okc_22 : Cond.code (am_mi 22).1 (am_mi 22).2.1 (am_mi 22).2.2.1 (am_mi 22).2.2.2 ∈ lw_tbl := tb_2 (List.mem_of_getElem? (i := 219) rfl)
set_option maxRecDepth 100000 in
theorem okc_23 : Cond.code (am_mi 23).1 (am_mi 23).2.1 (am_mi 23).2.2.1 (am_mi 23).2.2.2 ∈ lw_tbl := tb_2 (List.mem_of_getElem? (i := 215) rfl)
set_option maxRecDepth 100000 in
theorem okc_24 : Cond.code (am_mi 24).1 (am_mi 24).2.1 (am_mi 24).2.2.1 (am_mi 24).2.2.2 ∈ lw_tbl := tb_2 (List.mem_of_getElem? (i := 226) rfl)
set_option maxRecDepth 100000 in
theorem okc_25 : Cond.code (am_mi 25).1 (am_mi 25).2.1 (am_mi 25).2.2.1 (am_mi 25).2.2.2 ∈ lw_tbl := tb_1 (List.mem_of_getElem? (i := 34) rfl)
set_option maxRecDepth 100000 in
theorem okc_26 : Cond.code (am_mi 26).1 (am_mi 26).2.1 (am_mi 26).2.2.1 (am_mi 26).2.2.2 ∈ lw_tbl := tb_3 (List.mem_of_getElem? (i := 11) rfl)
set_option maxRecDepth 100000 in
theorem okc_27 : Cond.code (am_mi 27).1 (am_mi 27).2.1 (am_mi 27).2.2.1 (am_mi 27).2.2.2 ∈ lw_tbl := tb_3 (List.mem_of_getElem? (i := 53) rfl)
set_option maxRecDepth 100000 in
theorem okc_28 : Cond.code (am_mi 28).1 (am_mi 28).2.1 (am_mi 28).2.2.1 (am_mi 28).2.2.2 ∈ lw_tbl := tb_3 (List.mem_of_getElem? (i := 144) rfl)
set_option maxRecDepth 100000 in
theorem okc_29 : Cond.code (am_mi 29).1 (am_mi 29).2.1 (am_mi 29).2.2.1 (am_mi 29).2.2.2 ∈ lw_tbl := tb_4 (List.mem_of_getElem? (i := 202) rfl)
set_option maxRecDepth 100000 in
theorem okc_30 : Cond.code (am_mi 30).1 (am_mi 30).2.1 (am_mi 30).2.2.1 (am_mi 30).2.2.2 ∈ lw_tbl := tb_3 (List.mem_of_getElem? (i := 87) rfl)
set_option maxRecDepth 100000 in
theorem okc_31 : Cond.code (am_mi 31).1 (am_mi 31).2.1 (am_mi 31).2.2.1 (am_mi 31).2.2.2 ∈ lw_tbl := tb_3 (List.mem_of_getElem? (i := 183) rfl)
set_option maxRecDepth 100000 in
theorem okc_32 : Cond.code (am_mi 32).1 (am_mi 32).2.1 (am_mi 32).2.2.1 (am_mi 32).2.2.2 ∈ lw_tbl := tb_3 (List.mem_of_getElem? (i := 96) rfl)
set_option maxRecDepth 100000 in
theorem okc_33 : Cond.code (am_mi 33).1 (am_mi 33).2.1 (am_mi 33).2.2.1 (am_mi 33).2.2.2 ∈ lw_tbl := tb_3 (List.mem_of_getElem? (i := 92) rfl)
set_option maxRecDepth 100000 in
theorem okc_34 : Cond.code (am_mi 34).1 (am_mi 34).2.1 (am_mi 34).2.2.1 (am_mi 34).2.2.2 ∈ lw_tbl := tb_1 (List.mem_of_getElem? (i := 132) rfl)
set_option maxRecDepth 100000 in
theorem okc_35 : Cond.code (am_mi 35).1 (am_mi 35).2.1 (am_mi 35).2.2.1 (am_mi 35).2.2.2 ∈ lw_tbl := tb_4 (List.mem_of_getElem? (i := 168) rfl)
set_option maxRecDepth 100000 in
theorem okc_36 : Cond.code (am_mi 36).1 (am_mi 36).2.1 (am_mi 36).2.2.1 (am_mi 36).2.2.2 ∈ lw_tbl := tb_4 (List.mem_of_getElem? (i := 212) rfl)
set_option maxRecDepth 100000 in
theorem okc_37 : Cond.code (am_mi 37).1 (am_mi 37).2.1 (am_mi 37).2.2.1 (am_mi 37).2.2.2 ∈ lw_tbl := tb_2 (List.mem_of_getElem? (i := 57) rfl)
set_option maxRecDepth 100000 in
theorem okc_38 : Cond.code (am_mi 38).1 (am_mi 38).2.1 (am_mi 38).2.2.1 (am_mi 38).2.2.2 ∈ lw_tbl := tb_4 (List.mem_of_getElem? (i := 80) rfl)
set_option maxRecDepth 100000 in
theorem okc_39 : Cond.code (am_mi 39).1 (am_mi 39).2.1 (am_mi 39).2.2.1 (am_mi 39).2.2.2 ∈ lw_tbl := tb_4 (List.mem_of_getElem? (i := 84) rfl)
set_option maxRecDepth 100000 in
theorem okc_40 : Cond.code (am_mi 40).1 (am_mi 40).2.1 (am_mi 40).2.2.1 (am_mi 40).2.2.2 ∈ lw_tbl := tb_4 (List.mem_of_getElem? (i := 89) rfl)
set_option maxRecDepth 100000 in
theorem okc_41 : Cond.code (am_mi 41).1 (am_mi 41).2.1 (am_mi 41).2.2.1 (am_mi 41).2.2.2 ∈ lw_tbl := tb_4 (List.mem_of_getElem? (i := 93) rfl)
set_option maxRecDepth 100000 in
theorem okc_42 : Cond.code (am_mi 42).1 (am_mi 42).2.1 (am_mi 42).2.2.1 (am_mi 42).2.2.2 ∈ lw_tbl := tb_4 (List.mem_of_getElem? (i := 97) rfl)
set_option maxRecDepth 100000 in
theorem okc_43 : Cond.code (am_mi 43).1 (am_mi 43).2.1 (am_mi 43).2.2.1 (am_mi 43).2.2.2 ∈ lw_tbl := tb_4 (List.mem_of_getElem? (i := 114) rfl)
set_option maxRecDepth 100000 in
theorem okc_44 : Cond.code (am_mi 44).1 (am_mi 44).2.1 (am_mi 44).2.2.1 (am_mi 44).2.2.2 ∈ lw_tbl := tb_4 (List.mem_of_getElem? (i := 102) rfl)
set_option maxRecDepth 100000 in
theorem okc_45 : Cond.code (am_mi 45).1 (am_mi 45).2.1 (am_mi 45).2.2.1 (am_mi 45).2.2.2 ∈ lw_tbl := tb_4 (List.mem_of_getElem? (i := 110) rfl)
set_option maxRecDepth 100000 in
theorem okc_46 : Cond.code (am_mi 46).1 (am_mi 46).2.1 (am_mi 46).2.2.1 (am_mi 46).2.2.2 ∈ lw_tbl := tb_4 (List.mem_of_getElem? (i := 121) rfl)
set_option maxRecDepth 100000 in
theorem okc_47 : Cond.code (am_mi 47).1 (am_mi 47).2.1 (am_mi 47).2.2.1 (am_mi 47).2.2.2 ∈ lw_tbl := tb_4 (List.mem_of_getElem? (i := 131) rfl)
set_option maxRecDepth 100000 in
theorem okc_48 : Cond.code (am_mi 48).1 (am_mi 48).2.1 (am_mi 48).2.2.1 (am_mi 48).2.2.2 ∈ lw_tbl := tb_4 (List.mem_of_getElem? (i := 135) rfl)
set_option maxRecDepth 100000 in
theorem okc_49 : Cond.code (am_mi 49).1 (am_mi 49).2.1 (am_mi 49).2.2.1 (am_mi 49).2.2.2 ∈ lw_tbl := tb_4 (List.mem_of_getElem? (i := 139) rfl)
set_option maxRecDepth 100000 in
theorem okc_50 : Cond.code (am_mi 50).1 (am_mi 50).2.1 (am_mi 50).2.2.1 (am_mi 50).2.2.2 ∈ lw_tbl := tb_4 (List.mem_of_getElem? (i := 143) rfl)
set_option maxRecDepth 100000 in
theorem okc_51 : Cond.code (am_mi 51).1 (am_mi 51).2.1 (am_mi 51).2.2.1 (am_mi 51).2.2.2 ∈ lw_tbl := tb_4 (List.mem_of_getElem? (i := 147) rfl)
set_option maxRecDepth 100000 in
theorem okc_52 : Cond.code (am_mi 52).1 (am_mi 52).2.1 (am_mi 52).2.2.1 (am_mi 52).2.2.2 ∈ lw_tbl := tb_4 (List.mem_of_getElem? (i := 151) rfl)
set_option maxRecDepth 100000 in
theorem okc_53 : Cond.code (am_mi 53).1 (am_mi 53).2.1 (am_mi 53).2.2.1 (am_mi 53).2.2.2 ∈ lw_tbl := tb_4 (List.mem_of_getElem? (i := 156) rfl)
set_option maxRecDepth 100000 in
theorem okc_54 : Cond.code (am_mi 54).1 (am_mi 54).2.1 (am_mi 54).2.2.1 (am_mi 54).2.2.2 ∈ lw_tbl := tb_4 (List.mem_of_getElem? (i := 106) rfl)
set_option maxRecDepth 100000 in
theorem okc_55 : Cond.code (am_mi 55).1 (am_mi 55).2.1 (am_mi 55).2.2.1 (am_mi 55).2.2.2 ∈ lw_tbl := tb_4 (List.mem_of_getElem? (i := 160) rfl)
set_option maxRecDepth 100000 in
theorem okc_56 : Cond.code (am_mi 56).1 (am_mi 56).2.1 (am_mi 56).2.2.1 (am_mi 56).2.2.2 ∈ lw_tbl := tb_2 (List.mem_of_getElem? (i := 101) rfl)
set_option maxRecDepth 100000 in
theorem okc_57 : Cond.code (am_mi 57).1 (am_mi 57).2.1 (am_mi 57).2.2.1 (am_mi 57).2.2.2 ∈ lw_tbl := tb_3 (List.mem_of_getElem? (i := 209) rfl)
set_option maxRecDepth 100000 in
theorem okc_58 : Cond.code (am_mi 58).1 (am_mi 58).2.1 (am_mi 58).2.2.1 (am_mi 58).2.2.2 ∈ lw_tbl := tb_1 (List.mem_of_getElem? (i := 161) rfl)
set_option maxRecDepth 100000 in
theorem okc_59 : Cond.code (am_mi 59).1 (am_mi 59).2.1 (am_mi 59).2.2.1 (am_mi 59).2.2.2 ∈ lw_tbl := tb_4 (List.mem_of_getElem? (i := 16) rfl)
set_option maxRecDepth 100000 in
theorem okc_60 : Cond.code (am_mi 60).1 (am_mi 60).2.1 (am_mi 60).2.2.1 (am_mi 60).2.2.2 ∈ lw_tbl := tb_4 (List.mem_of_getElem? (i := 32) rfl)
set_option maxRecDepth 100000 in
theorem okc_61 : Cond.code (am_mi 61).1 (am_mi 61).2.1 (am_mi 61).2.2.1 (am_mi 61).2.2.2 ∈ lw_tbl := tb_4 (List.mem_of_getElem? (i := 40) rfl)
set_option maxRecDepth 100000 in
theorem okc_62 : Cond.code (am_mi 62).1 (am_mi 62).2.1 (am_mi 62).2.2.1 (am_mi 62).2.2.2 ∈ lw_tbl := tb_4 (List.mem_of_getElem? (i := 217) rfl)
set_option maxRecDepth 100000 in
theorem okc_63 : Cond.code (am_mi 63).1 (am_mi 63).2.1 (am_mi 63).2.2.1 (am_mi 63).2.2.2 ∈ lw_tbl := tb_1 (List.mem_of_getElem? (i := 26) rfl)
set_option maxRecDepth 100000 in
theorem okc_64 : Cond.code (am_mi 64).1 (am_mi 64).2.1 (am_mi 64).2.2.1 (am_mi 64).2.2.2 ∈ lw_tbl := tb_4 (List.mem_of_getElem? (i := 193) rfl)
set_option maxRecDepth 100000 in
theorem okc_65 : Cond.code (am_mi 65).1 (am_mi 65).2.1 (am_mi 65).2.2.1 (am_mi 65).2.2.2 ∈ lw_tbl := tb_2 (List.mem_of_getElem? (i := 172) rfl)
set_option maxRecDepth 100000 in
theorem okc_66 : Cond.code (am_mi 66).1 (am_mi 66).2.1 (am_mi 66).2.2.1 (am_mi 66).2.2.2 ∈ lw_tbl := tb_3 (List.mem_of_getElem? (i := 191) rfl)
set_option maxRecDepth 100000 in
theorem okc_67 : Cond.code (am_mi 67).1 (am_mi 67).2.1 (am_mi 67).2.2.1 (am_mi 67).2.2.2 ∈ lw_tbl := tb_4 (List.mem_of_getElem? (i := 61) rfl)
set_option maxRecDepth 100000 in
theorem okc_68 : Cond.code (am_mi 68).1 (am_mi 68).2.1 (am_mi 68).2.2.1 (am_mi 68).2.2.2 ∈ lw_tbl := tb_2 (List.mem_of_getElem? (i := 204) rfl)
set_option maxRecDepth 100000 in
theorem okc_69 : Cond.code (am_mi 69).1 (am_mi 69).2.1 (am_mi 69).2.2.1 (am_mi 69).2.2.2 ∈ lw_tbl := tb_3 (List.mem_of_getElem? (i := 105) rfl)
set_option maxRecDepth 100000 in
theorem okc_70 : Cond.code (am_mi 70).1 (am_mi 70).2.1 (am_mi 70).2.2.1 (am_mi 70).2.2.2 ∈ lw_tbl := tb_3 (List.mem_of_getElem? (i := 111) rfl)
set_option maxRecDepth 100000 in
theorem okc_71 : Cond.code (am_mi 71).1 (am_mi 71).2.1 (am_mi 71).2.2.1 (am_mi 71).2.2.2 ∈ lw_tbl := tb_3 (List.mem_of_getElem? (i := 128) rfl)
set_option maxRecDepth 100000 in
theorem okc_72 : Cond.code (am_mi 72).1 (am_mi 72).2.1 (am_mi 72).2.2.1 (am_mi 72).2.2.2 ∈ lw_tbl := tb_3 (List.mem_of_getElem? (i := 135) rfl)
set_option maxRecDepth 100000 in
theorem okc_73 : Cond.code (am_mi 73).1 (am_mi 73).2.1 (am_mi 73).2.2.1 (am_mi 73).2.2.2 ∈ lw_tbl := tb_3 (List.mem_of_getElem? (i := 139) rfl)
set_option maxRecDepth 100000 in
theorem okc_74 : Cond.code (am_mi 74).1 (am_mi 74).2.1 (am_mi 74).2.2.1 (am_mi 74).2.2.2 ∈ lw_tbl := tb_3 (List.mem_of_getElem? (i := 158) rfl)
set_option maxRecDepth 100000 in
theorem okc_75 : Cond.code (am_mi 75).1 (am_mi 75).2.1 (am_mi 75).2.2.1 (am_mi 75).2.2.2 ∈ lw_tbl := tb_3 (List.mem_of_getElem? (i := 152) rfl)
set_option maxRecDepth 100000 in
theorem okc_76 : Cond.code (am_mi 76).1 (am_mi 76).2.1 (am_mi 76).2.2.1 (am_mi 76).2.2.2 ∈ lw_tbl := tb_3 (List.mem_of_getElem? (i := 166) rfl)
set_option maxRecDepth 100000 in
theorem okc_77 : Cond.code (am_mi 77).1 (am_mi 77).2.1 (am_mi 77).2.2.1 (am_mi 77).2.2.2 ∈ lw_tbl := tb_3 (List.mem_of_getElem? (i := 196) rfl)
set_option maxRecDepth 100000 in
theorem okc_78 : Cond.code (am_mi 78).1 (am_mi 78).2.1 (am_mi 78).2.2.1 (am_mi 78).2.2.2 ∈ lw_tbl := tb_3 (List.mem_of_getElem? (i := 204) rfl)
set_option maxRecDepth 100000 in
theorem okc_79 : Cond.code (am_mi 79).1 (am_mi 79).2.1 (am_mi 79).2.2.1 (am_mi 79).2.2.2 ∈ lw_tbl := tb_3 (List.mem_of_getElem? (i := 213) rfl)
set_option maxRecDepth 100000 in
theorem okc_80 : Cond.code (am_mi 80).1 (am_mi 80).2.1 (am_mi 80).2.2.1 (am_mi 80).2.2.2 ∈ lw_tbl := tb_3 (List.mem_of_getElem? (i := 217) rfl)
set_option maxRecDepth 100000 in
theorem okc_81 : Cond.code (am_mi 81).1 (am_mi 81).2.1 (am_mi 81).2.2.1 (am_mi 81).2.2.2 ∈ lw_tbl := tb_3 (List.mem_of_getElem? (i := 222) rfl)
set_option maxRecDepth 100000 in
theorem okc_82 : Cond.code (am_mi 82).1 (am_mi 82).2.1 (am_mi 82).2.2.1 (am_mi 82).2.2.2 ∈ lw_tbl := tb_4 (List.mem_of_getElem? (i := 52) rfl)
set_option maxRecDepth 100000 in
theorem okc_83 : Cond.code (am_mi 83).1 (am_mi 83).2.1 (am_mi 83).2.2.1 (am_mi 83).2.2.2 ∈ lw_tbl := tb_4 (List.mem_of_getElem? (i := 12) rfl)
set_option maxRecDepth 100000 in
theorem okc_84 : Cond.code (am_mi 84).1 (am_mi 84).2.1 (am_mi 84).2.2.1 (am_mi 84).2.2.2 ∈ lw_tbl := tb_4 (List.mem_of_getElem? (i := 20) rfl)
set_option maxRecDepth 100000 in
theorem okc_85 : Cond.code (am_mi 85).1 (am_mi 85).2.1 (am_mi 85).2.2.1 (am_mi 85).2.2.2 ∈ lw_tbl := tb_4 (List.mem_of_getElem? (i := 28) rfl)
set_option maxRecDepth 100000 in
theorem okc_86 : Cond.code (am_mi 86).1 (am_mi 86).2.1 (am_mi 86).2.2.1 (am_mi 86).2.2.2 ∈ lw_tbl := tb_4 (List.mem_of_getElem? (i := 69) rfl)
set_option maxRecDepth 100000 in
theorem okc_87 : Cond.code (am_mi 87).1 (am_mi 87).2.1 (am_mi 87).2.2.1 (am_mi 87).2.2.2 ∈ lw_tbl := tb_4 (List.mem_of_getElem? (i := 74) rfl)
set_option maxRecDepth 100000 in
theorem okc_88 : Cond.code (am_mi 88).1 (am_mi 88).2.1 (am_mi 88).2.2.1 (am_mi 88).2.2.2 ∈ lw_tbl := tb_4 (List.mem_of_getElem? (i := 177) rfl)
set_option maxRecDepth 100000 in
theorem okc_89 : Cond.code (am_mi 89).1 (am_mi 89).2.1 (am_mi 89).2.2.1 (am_mi 89).2.2.2 ∈ lw_tbl := tb_1 (List.mem_of_getElem? (i := 18) rfl)
set_option maxRecDepth 100000 in
theorem okc_90 : Cond.code (am_mi 90).1 (am_mi 90).2.1 (am_mi 90).2.2.1 (am_mi 90).2.2.2 ∈ lw_tbl := tb_2 (List.mem_of_getElem? (i := 158) rfl)
set_option maxRecDepth 100000 in
theorem okc_91 : Cond.code (am_mi 91).1 (am_mi 91).2.1 (am_mi 91).2.2.1 (am_mi 91).2.2.2 ∈ lw_tbl := tb_2 (List.mem_of_getElem? (i := 188) rfl)
set_option maxRecDepth 100000 in
theorem okc_92 : Cond.code (am_mi 92).1 (am_mi 92).2.1 (am_mi 92).2.2.1 (am_mi 92).2.2.2 ∈ lw_tbl := tb_2 (List.mem_of_getElem? (i := 196) rfl)
set_option maxRecDepth 100000 in
theorem okc_93 : Cond.code (am_mi 93).1 (am_mi 93).2.1 (am_mi 93).2.2.1 (am_mi 93).2.2.2 ∈ lw_tbl := tb_2 (List.mem_of_getElem? (i := 200) rfl)
set_option maxRecDepth 100000 in
theorem okc_94 : Cond.code (am_mi 94).1 (am_mi 94).2.1 (am_mi 94).2.2.1 (am_mi 94).2.2.2 ∈ lw_tbl := tb_2 (List.mem_of_getElem? (i := 237) rfl)
set_option maxRecDepth 100000 in
theorem okc_95 : Cond.code (am_mi 95).1 (am_mi 95).2.1 (am_mi 95).2.2.1 (am_mi 95).2.2.2 ∈ lw_tbl := tb_3 (List.mem_of_getElem? (i := 1) rfl)
set_option maxRecDepth 100000 in
theorem okc_96 : Cond.code (am_mi 96).1 (am_mi 96).2.1 (am_mi 96).2.2.1 (am_mi 96).2.2.2 ∈ lw_tbl := tb_3 (List.mem_of_getElem? (i := 6) rfl)
set_option maxRecDepth 100000 in
theorem okc_97 : Cond.code (am_mi 97).1 (am_mi 97).2.1 (am_mi 97).2.2.1 (am_mi 97).2.2.2 ∈ lw_tbl := tb_3 (List.mem_of_getElem? (i := 15) rfl)
set_option maxRecDepth 100000 in
theorem okc_98 : Cond.code (am_mi 98).1 (am_mi 98).2.1 (am_mi 98).2.2.1 (am_mi 98).2.2.2 ∈ lw_tbl := tb_3 (List.mem_of_getElem? (i := 22) rfl)
set_option maxRecDepth 100000 in
theorem okc_99 : Cond.code (am_mi 99).1 (am_mi 99).2.1 (am_mi 99).2.2.1 (am_mi 99).2.2.2 ∈ lw_tbl := tb_3 (List.mem_of_getElem? (i := 26) rfl)
set_option maxRecDepth 100000 in
theorem okc_100 : Cond.code (am_mi 100).1 (am_mi 100).2.1 (am_mi 100).2.2.1 (am_mi 100).2.2.2 ∈ lw_tbl := tb_3 (List.mem_of_getElem? (i := 45) rfl)
set_option maxRecDepth 100000 in
theorem okc_101 : Cond.code (am_mi 101).1 (am_mi 101).2.1 (am_mi 101).2.2.1 (am_mi 101).2.2.2 ∈ lw_tbl := tb_3 (List.mem_of_getElem? (i := 63) rfl)
set_option maxRecDepth 100000 in
theorem okc_102 : Cond.code (am_mi 102).1 (am_mi 102).2.1 (am_mi 102).2.2.1 (am_mi 102).2.2.2 ∈ lw_tbl := tb_3 (List.mem_of_getElem? (i := 70) rfl)
set_option maxRecDepth 100000 in
theorem okc_103 : Cond.code (am_mi 103).1 (am_mi 103).2.1 (am_mi 103).2.2.1 (am_mi 103).2.2.2 ∈ lw_tbl := tb_3 (List.mem_of_getElem? (i := 75) rfl)
set_option maxRecDepth 100000 in
theorem okc_104 : Cond.code (am_mi 104).1 (am_mi 104).2.1 (am_mi 104).2.2.1 (am_mi 104).2.2.2 ∈ lw_tbl := tb_3 (List.mem_of_getElem? (i := 79) rfl)
set_option maxRecDepth 100000 in
theorem okc_105 : Cond.code (am_mi 105).1 (am_mi 105).2.1 (am_mi 105).2.2.1 (am_mi 105).2.2.2 ∈ lw_tbl := tb_3 (List.mem_of_getElem? (i := 83) rfl)
set_option maxRecDepth 100000 in
theorem okc_106 : Cond.code (am_mi 106).1 (am_mi 106).2.1 (am_mi 106).2.2.1 (am_mi 106).2.2.2 ∈ lw_tbl := tb_3 (List.mem_of_getElem? (i := 101) rfl)
set_option maxRecDepth 100000 in
theorem okc_107 : Cond.code (am_mi 107).1 (am_mi 107).2.1 (am_mi 107).2.2.1 (am_mi 107).2.2.2 ∈ lw_tbl := tb_3 (List.mem_of_getElem? (i := 148) rfl)
set_option maxRecDepth 100000 in
theorem okc_108 : Cond.code (am_mi 108).1 (am_mi 108).2.1 (am_mi 108).2.2.1 (am_mi 108).2.2.2 ∈ lw_tbl := tb_3 (List.mem_of_getElem? (i := 162) rfl)
set_option maxRecDepth 100000 in
theorem okc_109 : Cond.code (am_mi 109).1 (am_mi 109).2.1 (am_mi 109).2.2.1 (am_mi 109).2.2.2 ∈ lw_tbl := tb_3 (List.mem_of_getElem? (i := 174) rfl)
set_option maxRecDepth 100000 in
theorem okc_110 : Cond.code (am_mi 110).1 (am_mi 110).2.1 (am_mi 110).2.2.1 (am_mi 110).2.2.2 ∈ lw_tbl := tb_3 (List.mem_of_getElem? (i := 178) rfl)
set_option maxRecDepth 100000 in
theorem okc_111 : Cond.code (am_mi 111).1 (am_mi 111).2.1 (am_mi 111).2.2.1 (am_mi 111).2.2.2 ∈ lw_tbl := tb_3 (List.mem_of_getElem? (i := 187) rfl)
set_option maxRecDepth 100000 in
theorem okc_112 : Cond.code (am_mi 112).1 (am_mi 112).2.1 (am_mi 112).2.2.1 (am_mi 112).2.2.2 ∈ lw_tbl := tb_3 (List.mem_of_getElem? (i := 200) rfl)
set_option maxRecDepth 100000 in
theorem okc_113 : Cond.code (am_mi 113).1 (am_mi 113).2.1 (am_mi 113).2.2.1 (am_mi 113).2.2.2 ∈ lw_tbl := tb_4 (List.mem_of_getElem? (i := 3) rfl)
set_option maxRecDepth 100000 in
theorem okc_114 : Cond.code (am_mi 114).1 (am_mi 114).2.1 (am_mi 114).2.2.1 (am_mi 114).2.2.2 ∈ lw_tbl := tb_4 (List.mem_of_getElem? (i := 8) rfl)
set_option maxRecDepth 100000 in
theorem okc_115 : Cond.code (am_mi 115).1 (am_mi 115).2.1 (am_mi 115).2.2.1 (am_mi 115).2.2.2 ∈ lw_tbl := tb_4 (List.mem_of_getElem? (i := 36) rfl)
set_option maxRecDepth 100000 in
theorem okc_116 : Cond.code (am_mi 116).1 (am_mi 116).2.1 (am_mi 116).2.2.1 (am_mi 116).2.2.2 ∈ lw_tbl := tb_4 (List.mem_of_getElem? (i := 44) rfl)
set_option maxRecDepth 100000 in
theorem okc_117 : Cond.code (am_mi 117).1 (am_mi 117).2.1 (am_mi 117).2.2.1 (am_mi 117).2.2.2 ∈ lw_tbl := tb_4 (List.mem_of_getElem? (i := 48) rfl)
set_option maxRecDepth 100000 in
theorem okc_118 : Cond.code (am_mi 118).1 (am_mi 118).2.1 (am_mi 118).2.2.1 (am_mi 118).2.2.2 ∈ lw_tbl := tb_4 (List.mem_of_getElem? (i := 57) rfl)
set_option maxRecDepth 100000 in
theorem okc_119 : Cond.code (am_mi 119).1 (am_mi 119).2.1 (am_mi 119).2.2.1 (am_mi 119).2.2.2 ∈ lw_tbl := tb_4 (List.mem_of_getElem? (i := 65) rfl)
set_option maxRecDepth 100000 in
theorem okc_120 : Cond.code (am_mi 120).1 (am_mi 120).2.1 (am_mi 120).2.2.1 (am_mi 120).2.2.2 ∈ lw_tbl := tb_4 (List.mem_of_getElem? (i := 164) rfl)
set_option maxRecDepth 100000 in
theorem okc_121 : Cond.code (am_mi 121).1 (am_mi 121).2.1 (am_mi 121).2.2.1 (am_mi 121).2.2.2 ∈ lw_tbl := tb_4 (List.mem_of_getElem? (i := 172) rfl)
set_option maxRecDepth 100000 in
theorem okc_122 : Cond.code (am_mi 122).1 (am_mi 122).2.1 (am_mi 122).2.2.1 (am_mi 122).2.2.2 ∈ lw_tbl := tb_4 (List.mem_of_getElem? (i := 181) rfl)
set_option maxRecDepth 100000 in
theorem okc_123 : Cond.code (am_mi 123).1 (am_mi 123).2.1 (am_mi 123).2.2.1 (am_mi 123).2.2.2 ∈ lw_tbl := tb_4 (List.mem_of_getElem? (i := 185) rfl)
set_option maxRecDepth 100000 in
theorem okc_124 : Cond.code (am_mi 124).1 (am_mi 124).2.1 (am_mi 124).2.2.1 (am_mi 124).2.2.2 ∈ lw_tbl := tb_4 (List.mem_of_getElem? (i := 189) rfl)
set_option maxRecDepth 100000 in
theorem okc_125 : Cond.code (am_mi 125).1 (am_mi 125).2.1 (am_mi 125).2.2.1 (am_mi 125).2.2.2 ∈ lw_tbl := tb_4 (List.mem_of_getElem? (i := 226) rfl)
set_option maxRecDepth 100000 in
theorem okc_126 : Cond.code (am_mi 126).1 (am_mi 126).2.1 (am_mi 126).2.2.1 (am_mi 126).2.2.2 ∈ lw_tbl := tb_4 (List.mem_of_getElem? (i := 230) rfl)
set_option maxRecDepth 100000 in
theorem okc_127 : Cond.code (am_mi 127).1 (am_mi 127).2.1 (am_mi 127).2.2.1 (am_mi 127).2.2.2 ∈ lw_tbl := tb_4 (List.mem_of_getElem? (i := 234) rfl)
set_option maxRecDepth 100000 in
theorem okc_128 : Cond.code (am_mi 128).1 (am_mi 128).2.1 (am_mi 128).2.2.1 (am_mi 128).2.2.2 ∈ lw_tbl := tb_2 (List.mem_of_getElem? (i := 165) rfl)
set_option maxRecDepth 100000 in
theorem okc_129 : Cond.code (am_mi 129).1 (am_mi 129).2.1 (am_mi 129).2.2.1 (am_mi 129).2.2.2 ∈ lw_tbl := tb_4 (List.mem_of_getElem? (i := 222) rfl)
set_option maxRecDepth 100000 in
theorem okc_130 : Cond.code (am_mi 130).1 (am_mi 130).2.1 (am_mi 130).2.2.1 (am_mi 130).2.2.2 ∈ lw_tbl := tb_2 (List.mem_of_getElem? (i := 168) rfl)
set_option maxRecDepth 100000 in
theorem okc_131 : Cond.code (am_mi 131).1 (am_mi 131).2.1 (am_mi 131).2.2.1 (am_mi 131).2.2.2 ∈ lw_tbl := tb_2 (List.mem_of_getElem? (i := 161) rfl)
set_option maxRecDepth 100000 in
theorem okc_132 : Cond.code (am_mi 132).1 (am_mi 132).2.1 (am_mi 132).2.2.1 (am_mi 132).2.2.2 ∈ lw_tbl := tb_3 (List.mem_of_getElem? (i := 29) rfl)
set_option maxRecDepth 100000 in
theorem okc_133 : Cond.code (am_mi 133).1 (am_mi 133).2.1 (am_mi 133).2.2.1 (am_mi 133).2.2.2 ∈ lw_tbl := tb_3 (List.mem_of_getElem? (i := 49) rfl)
set_option maxRecDepth 100000 in
theorem okc_134 : Cond.code (am_mi 134).1 (am_mi 134).2.1 (am_mi 134).2.2.1 (am_mi 134).2.2.2 ∈ lw_tbl := tb_3 (List.mem_of_getElem? (i := 66) rfl)
set_option maxRecDepth 100000 in
theorem okc_135 : Cond.code (am_mi 135).1 (am_mi 135).2.1 (am_mi 135).2.2.1 (am_mi 135).2.2.2 ∈ lw_tbl := tb_3 (List.mem_of_getElem? (i := 56) rfl)
set_option maxRecDepth 100000 in
theorem okc_136 : Cond.code (am_mi 136).1 (am_mi 136).2.1 (am_mi 136).2.2.1 (am_mi 136).2.2.2 ∈ lw_tbl := tb_3 (List.mem_of_getElem? (i := 59) rfl)
set_option maxRecDepth 100000 in
theorem okc_137 : Cond.code (am_mi 137).1 (am_mi 137).2.1 (am_mi 137).2.2.1 (am_mi 137).2.2.2 ∈ lw_tbl := tb_3 (List.mem_of_getElem? (i := 131) rfl)
set_option maxRecDepth 100000 in
theorem okc_138 : Cond.code (am_mi 138).1 (am_mi 138).2.1 (am_mi 138).2.2.1 (am_mi 138).2.2.2 ∈ lw_tbl := tb_4 (List.mem_of_getElem? (i := 239) rfl)
set_option maxRecDepth 100000 in
theorem okc_139 : Cond.code (am_mi 139).1 (am_mi 139).2.1 (am_mi 139).2.2.1 (am_mi 139).2.2.2 ∈ lw_tbl := tb_5 (List.mem_of_getElem? (i := 84) rfl)
set_option maxRecDepth 100000 in
theorem okc_140 : Cond.code (am_mi 140).1 (am_mi 140).2.1 (am_mi 140).2.2.1 (am_mi 140).2.2.2 ∈ lw_tbl := tb_5 (List.mem_of_getElem? (i := 96) rfl)
set_option maxRecDepth 100000 in
theorem okc_141 : Cond.code (am_mi 141).1 (am_mi 141).2.1 (am_mi 141).2.2.1 (am_mi 141).2.2.2 ∈ lw_tbl := tb_5 (List.mem_of_getElem? (i := 104) rfl)
set_option maxRecDepth 100000 in
theorem okc_142 : Cond.code (am_mi 142).1 (am_mi 142).2.1 (am_mi 142).2.2.1 (am_mi 142).2.2.2 ∈ lw_tbl := tb_5 (List.mem_of_getElem? (i := 173) rfl)
set_option maxRecDepth 100000 in
theorem okc_143 : Cond.code (am_mi 143).1 (am_mi 143).2.1 (am_mi 143).2.2.1 (am_mi 143).2.2.2 ∈ lw_tbl := tb_5 (List.mem_of_getElem? (i := 140) rfl)
set_option maxRecDepth 100000 in
theorem okc_144 : Cond.code (am_mi 144).1 (am_mi 144).2.1 (am_mi 144).2.2.1 (am_mi 144).2.2.2 ∈ lw_tbl := tb_5 (List.mem_of_getElem? (i := 136) rfl)
set_option maxRecDepth 100000 in
theorem okc_145 : Cond.code (am_mi 145).1 (am_mi 145).2.1 (am_mi 145).2.2.1 (am_mi 145).2.2.2 ∈ lw_tbl := tb_5 (List.mem_of_getElem? (i := 124) rfl)
set_option maxRecDepth 100000 in
theorem okc_146 : Cond.code (am_mi 146).1 (am_mi 146).2.1 (am_mi 146).2.2.1 (am_mi 146).2.2.2 ∈ lw_tbl := tb_5 (List.mem_of_getElem? (i := 194) rfl)
set_option maxRecDepth 100000 in
theorem okc_147 : Cond.code (am_mi 147).1 (am_mi 147).2.1 (am_mi 147).2.2.1 (am_mi 147).2.2.2 ∈ lw_tbl := tb_5 (List.mem_of_getElem? (i := 190) rfl)
set_option maxRecDepth 100000 in
theorem okc_148 : Cond.code (am_mi 148).1 (am_mi 148).2.1 (am_mi 148).2.2.1 (am_mi 148).2.2.2 ∈ lw_tbl := tb_5 (List.mem_of_getElem? (i := 92) rfl)
set_option maxRecDepth 100000 in
theorem okc_149 : Cond.code (am_mi 149).1 (am_mi 149).2.1 (am_mi 149).2.2.1 (am_mi 149).2.2.2 ∈ lw_tbl := tb_5 (List.mem_of_getElem? (i := 202) rfl)
set_option maxRecDepth 100000 in
theorem okc_150 : Cond.code (am_mi 150).1 (am_mi 150).2.1 (am_mi 150).2.2.1 (am_mi 150).2.2.2 ∈ lw_tbl := tb_5 (List.mem_of_getElem? (i := 206) rfl)
set_option maxRecDepth 100000 in
theorem okc_151 : Cond.code (am_mi 151).1 (am_mi 151).2.1 (am_mi 151).2.2.1 (am_mi 151).2.2.2 ∈ lw_tbl := tb_5 (List.mem_of_getElem? (i := 210) rfl)
set_option maxRecDepth 100000 in
theorem okc_152 : Cond.code (am_mi 152).1 (am_mi 152).2.1 (am_mi 152).2.2.1 (am_mi 152).2.2.2 ∈ lw_tbl := tb_5 (List.mem_of_getElem? (i := 222) rfl)
set_option maxRecDepth 100000 in
theorem okc_153 : Cond.code (am_mi 153).1 (am_mi 153).2.1 (am_mi 153).2.2.1 (am_mi 153).2.2.2 ∈ lw_tbl := tb_5 (List.mem_of_getElem? (i := 88) rfl)
set_option maxRecDepth 100000 in
theorem okc_154 : Cond.code (am_mi 154).1 (am_mi 154).2.1 (am_mi 154).2.2.1 (am_mi 154).2.2.2 ∈ lw_tbl := tb_5 (List.mem_of_getElem? (i := 181) rfl)
set_option maxRecDepth 100000 in
theorem okc_155 : Cond.code (am_mi 155).1 (am_mi 155).2.1 (am_mi 155).2.2.1 (am_mi 155).2.2.2 ∈ lw_tbl := tb_5 (List.mem_of_getElem? (i := 177) rfl)
set_option maxRecDepth 100000 in
theorem okc_156 : Cond.code (am_mi 156).1 (am_mi 156).2.1 (am_mi 156).2.2.1 (am_mi 156).2.2.2 ∈ lw_tbl := tb_6 (List.mem_of_getElem? (i := 13) rfl)
set_option maxRecDepth 100000 in
theorem okc_157 : Cond.code (am_mi 157).1 (am_mi 157).2.1 (am_mi 157).2.2.1 (am_mi 157).2.2.2 ∈ lw_tbl := tb_6 (List.mem_of_getElem? (i := 21) rfl)
set_option maxRecDepth 100000 in
theorem okc_158 : Cond.code (am_mi 158).1 (am_mi 158).2.1 (am_mi 158).2.2.1 (am_mi 158).2.2.2 ∈ lw_tbl := tb_5 (List.mem_of_getElem? (i := 108) rfl)
set_option maxRecDepth 100000 in
theorem okc_159 : Cond.code (am_mi 159).1 (am_mi 159).2.1 (am_mi 159).2.2.1 (am_mi 159).2.2.2 ∈ lw_tbl := tb_6 (List.mem_of_getElem? (i := 38) rfl)
set_option maxRecDepth 100000 in
theorem okc_160 : Cond.code (am_mi 160).1 (am_mi 160).2.1 (am_mi 160).2.2.1 (am_mi 160).2.2.2 ∈ lw_tbl := tb_5 (List.mem_of_getElem? (i := 100) rfl)
set_option maxRecDepth 100000 in
theorem okc_161 : Cond.code (am_mi 161).1 (am_mi 161).2.1 (am_mi 161).2.2.1 (am_mi 161).2.2.2 ∈ lw_tbl := tb_5 (List.mem_of_getElem? (i := 144) rfl)
set_option maxRecDepth 100000 in
theorem okc_162 : Cond.code (am_mi 162).1 (am_mi 162).2.1 (am_mi 162).2.2.1 (am_mi 162).2.2.2 ∈ lw_tbl := tb_5 (List.mem_of_getElem? (i := 80) rfl)
set_option maxRecDepth 100000 in
theorem okc_163 : Cond.code (am_mi 163).1 (am_mi 163).2.1 (am_mi 163).2.2.1 (am_mi 163).2.2.2 ∈ lw_tbl := tb_5 (List.mem_of_getElem? (i := 112) rfl)
set_option maxRecDepth 100000 in
theorem okc_164 : Cond.code (am_mi 164).1 (am_mi 164).2.1 (am_mi 164).2.2.1 (am_mi 164).2.2.2 ∈ lw_tbl := tb_5 (List.mem_of_getElem? (i := 120) rfl)
set_option maxRecDepth 100000 in
theorem okc_165 : Cond.code (am_mi 165).1 (am_mi 165).2.1 (am_mi 165).2.2.1 (am_mi 165).2.2.2 ∈ lw_tbl := tb_5 (List.mem_of_getElem? (i := 116) rfl)
set_option maxRecDepth 100000 in
theorem okc_166 : Cond.code (am_mi 166).1 (am_mi 166).2.1 (am_mi 166).2.2.1 (am_mi 166).2.2.2 ∈ lw_tbl := tb_5 (List.mem_of_getElem? (i := 132) rfl)
set_option maxRecDepth 100000 in
theorem okc_167 : Cond.code (am_mi 167).1 (am_mi 167).2.1 (am_mi 167).2.2.1 (am_mi 167).2.2.2 ∈ lw_tbl := tb_5 (List.mem_of_getElem? (i := 128) rfl)
set_option maxRecDepth 100000 in
theorem okc_168 : Cond.code (am_mi 168).1 (am_mi 168).2.1 (am_mi 168).2.2.1 (am_mi 168).2.2.2 ∈ lw_tbl := tb_5 (List.mem_of_getElem? (i := 148) rfl)
set_option maxRecDepth 100000 in
theorem okc_169 : Cond.code (am_mi 169).1 (am_mi 169).2.1 (am_mi 169).2.2.1 (am_mi 169).2.2.2 ∈ lw_tbl := tb_5 (List.mem_of_getElem? (i := 152) rfl)
set_option maxRecDepth 100000 in
theorem okc_170 : Cond.code (am_mi 170).1 (am_mi 170).2.1 (am_mi 170).2.2.1 (am_mi 170).2.2.2 ∈ lw_tbl := tb_5 (List.mem_of_getElem? (i := 156) rfl)
set_option maxRecDepth 100000 in
theorem okc_171 : Cond.code (am_mi 171).1 (am_mi 171).2.1 (am_mi 171).2.2.1 (am_mi 171).2.2.2 ∈ lw_tbl := tb_5 (List.mem_of_getElem? (i := 161) rfl)
set_option maxRecDepth 100000 in
theorem okc_172 : Cond.code (am_mi 172).1 (am_mi 172).2.1 (am_mi 172).2.2.1 (am_mi 172).2.2.2 ∈ lw_tbl := tb_5 (List.mem_of_getElem? (i := 165) rfl)
set_option maxRecDepth 100000 in
theorem okc_173 : Cond.code (am_mi 173).1 (am_mi 173).2.1 (am_mi 173).2.2.1 (am_mi 173).2.2.2 ∈ lw_tbl := tb_5 (List.mem_of_getElem? (i := 169) rfl)
set_option maxRecDepth 100000 in
theorem okc_174 : Cond.code (am_mi 174).1 (am_mi 174).2.1 (am_mi 174).2.2.1 (am_mi 174).2.2.2 ∈ lw_tbl := tb_5 (List.mem_of_getElem? (i := 185) rfl)
set_option maxRecDepth 100000 in
theorem okc_175 : Cond.code (am_mi 175).1 (am_mi 175).2.1 (am_mi 175).2.2.1 (am_mi 175).2.2.2 ∈ lw_tbl := tb_5 (List.mem_of_getElem? (i := 198) rfl)
set_option maxRecDepth 100000 in
theorem okc_176 : Cond.code (am_mi 176).1 (am_mi 176).2.1 (am_mi 176).2.2.1 (am_mi 176).2.2.2 ∈ lw_tbl := tb_5 (List.mem_of_getElem? (i := 214) rfl)
set_option maxRecDepth 100000 in
theorem okc_177 : Cond.code (am_mi 177).1 (am_mi 177).2.1 (am_mi 177).2.2.1 (am_mi 177).2.2.2 ∈ lw_tbl := tb_5 (List.mem_of_getElem? (i := 218) rfl)
set_option maxRecDepth 100000 in
theorem okc_178 : Cond.code (am_mi 178).1 (am_mi 178).2.1 (am_mi 178).2.2.1 (am_mi 178).2.2.2 ∈ lw_tbl := tb_5 (List.mem_of_getElem? (i := 226) rfl)
set_option maxRecDepth 100000 in
theorem okc_179 : Cond.code (am_mi 179).1 (am_mi 179).2.1 (am_mi 179).2.2.1 (am_mi 179).2.2.2 ∈ lw_tbl := tb_5 (List.mem_of_getElem? (i := 233) rfl)
set_option maxRecDepth 100000 in
theorem okc_180 : Cond.code (am_mi 180).1 (am_mi 180).2.1 (am_mi 180).2.2.1 (am_mi 180).2.2.2 ∈ lw_tbl := tb_5 (List.mem_of_getElem? (i := 230) rfl)
set_option maxRecDepth 100000 in
theorem okc_181 : Cond.code (am_mi 181).1 (am_mi 181).2.1 (am_mi 181).2.2.1 (am_mi 181).2.2.2 ∈ lw_tbl := tb_6 (List.mem_of_getElem? (i := 9) rfl)
set_option maxRecDepth 100000 in
theorem okc_182 : Cond.code (am_mi 182).1 (am_mi 182).2.1 (am_mi 182).2.2.1 (am_mi 182).2.2.2 ∈ lw_tbl := tb_6 (List.mem_of_getElem? (i := 5) rfl)
set_option maxRecDepth 100000 in
theorem okc_183 : Cond.code (am_mi 183).1 (am_mi 183).2.1 (am_mi 183).2.2.1 (am_mi 183).2.2.2 ∈ lw_tbl := tb_6 (List.mem_of_getElem? (i := 1) rfl)
set_option maxRecDepth 100000 in
theorem okc_184 : Cond.code (am_mi 184).1 (am_mi 184).2.1 (am_mi 184).2.2.1 (am_mi 184).2.2.2 ∈ lw_tbl := tb_5 (List.mem_of_getElem? (i := 237) rfl)
set_option maxRecDepth 100000 in
theorem okc_185 : Cond.code (am_mi 185).1 (am_mi 185).2.1 (am_mi 185).2.2.1 (am_mi 185).2.2.2 ∈ lw_tbl := tb_6 (List.mem_of_getElem? (i := 17) rfl)
set_option maxRecDepth 100000 in
theorem okc_186 : Cond.code (am_mi 186).1 (am_mi 186).2.1 (am_mi 186).2.2.1 (am_mi 186).2.2.2 ∈ lw_tbl := tb_6 (List.mem_of_getElem? (i := 25) rfl)
set_option maxRecDepth 100000 in
theorem okc_187 : Cond.code (am_mi 187).1 (am_mi 187).2.1 (am_mi 187).2.2.1 (am_mi 187).2.2.2 ∈ lw_tbl := tb_6 (List.mem_of_getElem? (i := 29) rfl)
set_option maxRecDepth 100000 in
theorem okc_188 : Cond.code (am_mi 188).1 (am_mi 188).2.1 (am_mi 188).2.2.1 (am_mi 188).2.2.2 ∈ lw_tbl := tb_6 (List.mem_of_getElem? (i := 33) rfl)
set_option maxRecDepth 100000 in
theorem okc_189 : Cond.code (am_mi 189).1 (am_mi 189).2.1 (am_mi 189).2.2.1 (am_mi 189).2.2.2 ∈ lw_tbl := tb_6 (List.mem_of_getElem? (i := 42) rfl)
set_option maxRecDepth 100000 in
theorem okc_190 : Cond.code (am_mi 190).1 (am_mi 190).2.1 (am_mi 190).2.2.1 (am_mi 190).2.2.2 ∈ lw_tbl := tb_6 (List.mem_of_getElem? (i := 71) rfl)
set_option maxRecDepth 100000 in
theorem okc_191 : Cond.code (am_mi 191).1 (am_mi 191).2.1 (am_mi 191).2.2.1 (am_mi 191).2.2.2 ∈ lw_tbl := tb_6 (List.mem_of_getElem? (i := 67) rfl)
set_option maxRecDepth 100000 in
theorem okc_192 : Cond.code (am_mi 192).1 (am_mi 192).2.1 (am_mi 192).2.2.1 (am_mi 192).2.2.2 ∈ lw_tbl := tb_6 (List.mem_of_getElem? (i := 75) rfl)
set_option maxRecDepth 100000 in
theorem okc_193 : Cond.code (am_mi 193).1 (am_mi 193).2.1 (am_mi 193).2.2.1 (am_mi 193).2.2.2 ∈ lw_tbl := tb_6 (List.mem_of_getElem? (i := 79) rfl)
set_option maxRecDepth 100000 in
theorem okc_194 : Cond.code (am_mi 194).1 (am_mi 194).2.1 (am_mi 194).2.2.1 (am_mi 194).2.2.2 ∈ lw_tbl := tb_6 (List.mem_of_getElem? (i := 63) rfl)
set_option maxRecDepth 100000 in
theorem okc_195 : Cond.code (am_mi 195).1 (am_mi 195).2.1 (am_mi 195).2.2.1 (am_mi 195).2.2.2 ∈ lw_tbl := tb_6 (List.mem_of_getElem? (i := 59) rfl)
set_option maxRecDepth 100000 in
theorem okc_196 : Cond.code (am_mi 196).1 (am_mi 196).2.1 (am_mi 196).2.2.1 (am_mi 196).2.2.2 ∈ lw_tbl := tb_6 (List.mem_of_getElem? (i := 108) rfl)
set_option maxRecDepth 100000 in
theorem okc_197 : Cond.code (am_mi 197).1 (am_mi 197).2.1 (am_mi 197).2.2.1 (am_mi 197).2.2.2 ∈ lw_tbl := tb_6 (List.mem_of_getElem? (i := 54) rfl)
set_option maxRecDepth 100000 in
theorem okc_198 : Cond.code (am_mi 198).1 (am_mi 198).2.1 (am_mi 198).2.2.1 (am_mi 198).2.2.2 ∈ lw_tbl := tb_6 (List.mem_of_getElem? (i := 50) rfl)
set_option maxRecDepth 100000 in
theorem okc_199 : Cond.code (am_mi 199).1 (am_mi 199).2.1 (am_mi 199).2.2.1 (am_mi 199).2.2.2 ∈ lw_tbl := tb_6 (List.mem_of_getElem? (i := 46) rfl)
set_option maxRecDepth 100000 in
theorem okc_200 : Cond.code (am_mi 200).1 (am_mi 200).2.1 (am_mi 200).2.2.1 (am_mi 200).2.2.2 ∈ lw_tbl := tb_6 (List.mem_of_getElem? (i := 83) rfl)
set_option maxRecDepth 100000 in
theorem okc_201 : Cond.code (am_mi 201).1 (am_mi 201).2.1 (am_mi 201).2.2.1 (am_mi 201).2.2.2 ∈ lw_tbl := tb_6 (List.mem_of_getElem? (i := 92) rfl)
set_option maxRecDepth 100000 in
theorem okc_202 : Cond.code (am_mi 202).1 (am_mi 202).2.1 (am_mi 202).2.2.1 (am_mi 202).2.2.2 ∈ lw_tbl := tb_6 (List.mem_of_getElem? (i := 88) rfl)
set_option maxRecDepth 100000 in
theorem okc_203 : Cond.code (am_mi 203).1 (am_mi 203).2.1 (am_mi 203).2.2.1 (am_mi 203).2.2.2 ∈ lw_tbl := tb_6 (List.mem_of_getElem? (i := 96) rfl)
set_option maxRecDepth 100000 in
theorem okc_204 : Cond.code (am_mi 204).1 (am_mi 204).2.1 (am_mi 204).2.2.1 (am_mi 204).2.2.2 ∈ lw_tbl := tb_6 (List.mem_of_getElem? (i := 100) rfl)
set_option maxRecDepth 100000 in
theorem okc_205 : Cond.code (am_mi 205).1 (am_mi 205).2.1 (am_mi 205).2.2.1 (am_mi 205).2.2.2 ∈ lw_tbl := tb_6 (List.mem_of_getElem? (i := 104) rfl)
set_option maxRecDepth 100000 in
theorem okc_206 : Cond.code (am_mi 206).1 (am_mi 206).2.1 (am_mi 206).2.2.1 (am_mi 206).2.2.2 ∈ lw_tbl := tb_6 (List.mem_of_getElem? (i := 112) rfl)
set_option maxRecDepth 100000 in
theorem okc_207 : Cond.code (am_mi 207).1 (am_mi 207).2.1 (am_mi 207).2.2.1 (am_mi 207).2.2.2 ∈ lw_tbl := tb_6 (List.mem_of_getElem? (i := 120) rfl)
set_option maxRecDepth 100000 in
theorem okc_208 : Cond.code (am_mi 208).1 (am_mi 208).2.1 (am_mi 208).2.2.1 (am_mi 208).2.2.2 ∈ lw_tbl := tb_6 (List.mem_of_getElem? (i := 124) rfl)
set_option maxRecDepth 100000 in
theorem okc_209 : Cond.code (am_mi 209).1 (am_mi 209).2.1 (am_mi 209).2.2.1 (am_mi 209).2.2.2 ∈ lw_tbl := tb_6 (List.mem_of_getElem? (i := 140) rfl)
set_option maxRecDepth 100000 in
theorem okc_210 : Cond.code (am_mi 210).1 (am_mi 210).2.1 (am_mi 210).2.2.1 (am_mi 210).2.2.2 ∈ lw_tbl := tb_6 (List.mem_of_getElem? (i := 144) rfl)
set_option maxRecDepth 100000 in
theorem okc_211 : Cond.code (am_mi 211).1 (am_mi 211).2.1 (am_mi 211).2.2.1 (am_mi 211).2.2.2 ∈ lw_tbl := tb_6 (List.mem_of_getElem? (i := 136) rfl)
set_option maxRecDepth 100000 in
theorem okc_212 : Cond.code (am_mi 212).1 (am_mi 212).2.1 (am_mi 212).2.2.1 (am_mi 212).2.2.2 ∈ lw_tbl := tb_6 (List.mem_of_getElem? (i := 132) rfl)
set_option maxRecDepth 100000 in
theorem okc_213 : Cond.code (am_mi 213).1 (am_mi 213).2.1 (am_mi 213).2.2.1 (am_mi 213).2.2.2 ∈ lw_tbl := tb_6 (List.mem_of_getElem? (i := 128) rfl)
set_option maxRecDepth 100000 in
theorem okc_214 : Cond.code (am_mi 214).1 (am_mi 214).2.1 (am_mi 214).2.2.1 (am_mi 214).2.2.2 ∈ lw_tbl := tb_6 (List.mem_of_getElem? (i := 116) rfl)
set_option maxRecDepth 100000 in
theorem okc_215 : Cond.code (am_mi 215).1 (am_mi 215).2.1 (am_mi 215).2.2.1 (am_mi 215).2.2.2 ∈ lw_tbl := tb_6 (List.mem_of_getElem? (i := 148) rfl)
set_option maxRecDepth 100000 in
theorem okc_216 : Cond.code (am_mi 216).1 (am_mi 216).2.1 (am_mi 216).2.2.1 (am_mi 216).2.2.2 ∈ lw_tbl := tb_6 (List.mem_of_getElem? (i := 152) rfl)
set_option maxRecDepth 100000 in
theorem okc_217 : Cond.code (am_mi 217).1 (am_mi 217).2.1 (am_mi 217).2.2.1 (am_mi 217).2.2.2 ∈ lw_tbl := tb_6 (List.mem_of_getElem? (i := 157) rfl)
set_option maxRecDepth 100000 in
theorem okc_218 : Cond.code (am_mi 218).1 (am_mi 218).2.1 (am_mi 218).2.2.1 (am_mi 218).2.2.2 ∈ lw_tbl := tb_6 (List.mem_of_getElem? (i := 161) rfl)
set_option maxRecDepth 100000 in
theorem okc_219 : Cond.code (am_mi 219).1 (am_mi 219).2.1 (am_mi 219).2.2.1 (am_mi 219).2.2.2 ∈ lw_tbl := tb_6 (List.mem_of_getElem? (i := 172) rfl)
set_option maxRecDepth 100000 in
theorem okc_220 : Cond.code (am_mi 220).1 (am_mi 220).2.1 (am_mi 220).2.2.1 (am_mi 220).2.2.2 ∈ lw_tbl := tb_6 (List.mem_of_getElem? (i := 168) rfl)
set_option maxRecDepth 100000 in
theorem okc_221 : Cond.code (am_mi 221).1 (am_mi 221).2.1 (am_mi 221).2.2.1 (am_mi 221).2.2.2 ∈ lw_tbl := tb_6 (List.mem_of_getElem? (i := 165) rfl)
set_option maxRecDepth 100000 in
theorem okc_222 : Cond.code (am_mi 222).1 (am_mi 222).2.1 (am_mi 222).2.2.1 (am_mi 222).2.2.2 ∈ lw_tbl := tb_6 (List.mem_of_getElem? (i := 181) rfl)
set_option maxRecDepth 100000 in
theorem okc_223 : Cond.code (am_mi 223).1 (am_mi 223).2.1 (am_mi 223).2.2.1 (am_mi 223).2.2.2 ∈ lw_tbl := tb_6 (List.mem_of_getElem? (i := 185) rfl)
set_option maxRecDepth 100000 in
theorem okc_224 : Cond.code (am_mi 224).1 (am_mi 224).2.1 (am_mi 224).2.2.1 (am_mi 224).2.2.2 ∈ lw_tbl := tb_6 (List.mem_of_getElem? (i := 189) rfl)
