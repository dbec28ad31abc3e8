def TBg : List Cond := lw_tbl.filter goodWord
theorem tb_mem {w : Cond} (h : w ∈ lw_tbl) (g : goodWord w = true) : w ∈ TBg := List.mem_filter.mpr ⟨h, g⟩
theorem tb_1 {w : Cond} (h : w ∈ tables_1_1) (g : goodWord w = true) : w ∈ TBg := tb_mem (List.mem_append_right _ (List.mem_append_left _ h)) g
theorem tb_2 {w : Cond} (h : w ∈ tables_1_2) (g : goodWord w = true) : w ∈ TBg := tb_mem (List.mem_append_right _ (List.mem_append_right _ (List.mem_append_left _ h))) g
theorem tb_3 {w : Cond} (h : w ∈ tables_1_3) (g : goodWord w = true) : w ∈ TBg := tb_mem (List.mem_append_right _ (List.mem_append_right _ (List.mem_append_right _ (List.mem_append_left _ h)))) g
theorem tb_4 {w : Cond} (h : w ∈ tables_1_4) (g : goodWord w = true) : w ∈ TBg := tb_mem (List.mem_append_right _ (List.mem_append_right _ (List.mem_append_right _ (List.mem_append_right _ (List.mem_append_left _ h))))) g
theorem tb_5 {w : Cond} (h : w ∈ tables_1_5) (g : goodWord w = true) : w ∈ TBg := tb_mem (List.mem_append_right _ (List.mem_append_right _ (List.mem_append_right _ (List.mem_append_right _ (List.mem_append_right _ (List.mem_append_left _ h)))))) g
theorem tb_6 {w : Cond} (h : w ∈ tables_1_6) (g : goodWord w = true) : w ∈ TBg := tb_mem (List.mem_append_right _ (List.mem_append_right _ (List.mem_append_right _ (List.mem_append_right _ (List.mem_append_right _ (List.mem_append_right _ (List.mem_append_left _ h))))))) g
theorem tb_7 {w : Cond} (h : w ∈ tables_1_7) (g : goodWord w = true) : w ∈ TBg := tb_mem (List.mem_append_right _ (List.mem_append_right _ (List.mem_append_right _ (List.mem_append_right _ (List.mem_append_right _ (List.mem_append_right _ (List.mem_append_right _ (List.mem_append_left _ h)))))))) g
theorem tb_8 {w : Cond} (h : w ∈ tables_1_8) (g : goodWord w = true) : w ∈ TBg := tb_mem (List.mem_append_right _ (List.mem_append_right _ (List.mem_append_right _ (List.mem_append_right _ (List.mem_append_right _ (List.mem_append_right _ (List.mem_append_right _ (List.mem_append_right _ (List.mem_append_left _ h))))))))) g
theorem tb_9 {w : Cond} (h : w ∈ tables_1_9) (g : goodWord w = true) : w ∈ TBg := tb_mem (List.mem_append_right _ (List.mem_append_right _ (List.mem_append_right _ (List.mem_append_right _ (List.mem_append_right _ (List.mem_append_right _ (List.mem_append_right _ (List.mem_append_right _ (List.mem_append_right _ h))))))))) g
theorem tbp_1 {q : MethodName × Nat} (h : q ∈ lw_privs_1) (g : goodWord (Cond.selects q.1.cls q.1 q.1) = true) : Cond.selects q.1.cls q.1 q.1 ∈ TBg := tb_mem (List.mem_append_left _ (List.mem_map_of_mem (f := fun q : MethodName × Nat => Cond.selects q.1.cls q.1 q.1) (List.mem_append_left _ h))) g
theorem tbp_2 {q : MethodName × Nat} (h : q ∈ lw_privs_2) (g : goodWord (Cond.selects q.1.cls q.1 q.1) = true) : Cond.selects q.1.cls q.1 q.1 ∈ TBg := tb_mem (List.mem_append_left _ (List.mem_map_of_mem (f := fun q : MethodName × Nat => Cond.selects q.1.cls q.1 q.1) (List.mem_append_right _ (List.mem_append_left _ h)))) g
theorem tbp_3 {q : MethodName × Nat} (h : q ∈ lw_privs_3) (g : goodWord (Cond.selects q.1.cls q.1 q.1) = true) : Cond.selects q.1.cls q.1 q.1 ∈ TBg := tb_mem (List.mem_append_left _ (List.mem_map_of_mem (f := fun q : MethodName × Nat => Cond.selects q.1.cls q.1 q.1) (List.mem_append_right _ (List.mem_append_right _ (List.mem_append_left _ h))))) g
theorem tbp_4 {q : MethodName × Nat} (h : q ∈ lw_privs_4) (g : goodWord (Cond.selects q.1.cls q.1 q.1) = true) : Cond.selects q.1.cls q.1 q.1 ∈ TBg := tb_mem (List.mem_append_left _ (List.mem_map_of_mem (f := fun q : MethodName × Nat => Cond.selects q.1.cls q.1 q.1) (List.mem_append_right _ (List.mem_append_right _ (List.mem_append_right _ (List.mem_append_left _ h)))))) g
theorem tbp_5 {q : MethodName × Nat} (h : q ∈ lw_privs_5) (g : goodWord (Cond.selects q.1.cls q.1 q.1) = true) : Cond.selects q.1.cls q.1 q.1 ∈ TBg := tb_mem (List.mem_append_left _ (List.mem_map_of_mem (f := fun q : MethodName × Nat => Cond.selects q.1.cls q.1 q.1) (List.mem_append_right _ (List.mem_append_right _ (List.mem_append_right _ (List.mem_append_right _ (List.mem_append_left _ h))))))) g
theorem tbp_6 {q : MethodName × Nat} (h : q ∈ lw_privs_6) (g : goodWord (Cond.selects q.1.cls q.1 q.1) = true) : Cond.selects q.1.cls q.1 q.1 ∈ TBg := tb_mem (List.mem_append_left _ (List.mem_map_of_mem (f := fun q : MethodName × Nat => Cond.selects q.1.cls q.1 q.1) (List.mem_append_right _ (List.mem_append_right _ (List.mem_append_right _ (List.mem_append_right _ (List.mem_append_right _ (List.mem_append_left _ h)))))))) g
theorem tbp_7 {q : MethodName × Nat} (h : q ∈ lw_privs_7) (g : goodWord (Cond.selects q.1.cls q.1 q.1) = true) : Cond.selects q.1.cls q.1 q.1 ∈ TBg := tb_mem (List.mem_append_left _ (List.mem_map_of_mem (f := fun q : MethodName × Nat => Cond.selects q.1.cls q.1 q.1) (List.mem_append_right _ (List.mem_append_right _ (List.mem_append_right _ (List.mem_append_right _ (List.mem_append_right _ (List.mem_append_right _ h)))))))) g
theorem wd_0 : Cond.classLink RL 8 RX9 ∈ TBg := tb_1 (List.mem_of_getElem? (i := 25) rfl) rfl
theorem wd_1 : Cond.methodLink RL 85 yX9_init ∈ TBg := tb_1 (List.mem_of_getElem? (i := 27) rfl) rfl
theorem wd_2 : Cond.methodLink RX9 1 objectInit ∈ TBg := tb_1 (List.mem_of_getElem? (i := 30) rfl) rfl
theorem wd_3 : Cond.classLink RX9 24 RX7 ∈ TBg := tb_1 (List.mem_of_getElem? (i := 33) rfl) rfl
theorem wd_4 : Cond.methodLink RX9 26 yX7_init ∈ TBg := tb_1 (List.mem_of_getElem? (i := 35) rfl) rfl
theorem wd_5 : Cond.methodLink RX7 3 objectInit ∈ TBg := tb_1 (List.mem_of_getElem? (i := 38) rfl) rfl
theorem wd_6 : Cond.classLink RX7 27 RX4 ∈ TBg := tb_1 (List.mem_of_getElem? (i := 39) rfl) rfl
theorem wd_7 : Cond.methodLink RX4 3 objectInit ∈ TBg := tb_1 (List.mem_of_getElem? (i := 44) rfl) rfl
theorem wd_8 : Cond.fieldLink RX4 9 "TableTower$Rule" "cells" "[I" ∈ TBg := tb_1 (List.mem_of_getElem? (i := 45) rfl) rfl
theorem wd_9 : Cond.fieldLink RX4 18 "TableTower$Rule" "length" "I" ∈ TBg := tb_1 (List.mem_of_getElem? (i := 46) rfl) rfl
theorem wd_10 : Cond.fieldLink RX7 47 "TableTower$Rule" "length" "I" ∈ TBg := tb_1 (List.mem_of_getElem? (i := 47) rfl) rfl
theorem wd_11 : Cond.fieldLink RX3 126 "TableTower$Rule" "length" "I" ∈ TBg := tb_1 (List.mem_of_getElem? (i := 48) rfl) rfl
theorem wd_12 : Cond.fieldLink RX6 118 "TableTower$Rule" "length" "I" ∈ TBg := tb_1 (List.mem_of_getElem? (i := 49) rfl) rfl
theorem wd_13 : Cond.fieldLink RX4 47 "TableTower$Rule" "level" "I" ∈ TBg := tb_1 (List.mem_of_getElem? (i := 50) rfl) rfl
theorem wd_14 : Cond.fieldLink RX6 123 "TableTower$Rule" "level" "I" ∈ TBg := tb_1 (List.mem_of_getElem? (i := 51) rfl) rfl
theorem wd_15 : Cond.fieldLink RX4 50 "TableTower$Rule" "hunger" "I" ∈ TBg := tb_1 (List.mem_of_getElem? (i := 52) rfl) rfl
theorem wd_16 : Cond.fieldLink RX6 126 "TableTower$Rule" "hunger" "I" ∈ TBg := tb_1 (List.mem_of_getElem? (i := 53) rfl) rfl
theorem wd_17 : Cond.fieldLink RX4 53 "TableTower$Rule" "left" "I" ∈ TBg := tb_1 (List.mem_of_getElem? (i := 54) rfl) rfl
theorem wd_18 : Cond.fieldLink RX6 128 "TableTower$Rule" "left" "I" ∈ TBg := tb_1 (List.mem_of_getElem? (i := 55) rfl) rfl
theorem wd_19 : Cond.fieldLink RX4 56 "TableTower$Rule" "kind" "I" ∈ TBg := tb_1 (List.mem_of_getElem? (i := 56) rfl) rfl
theorem wd_20 : Cond.fieldLink RX6 131 "TableTower$Rule" "kind" "I" ∈ TBg := tb_1 (List.mem_of_getElem? (i := 57) rfl) rfl
theorem wd_21 : Cond.fieldLink RX4 59 "TableTower$Rule" "above" "I" ∈ TBg := tb_1 (List.mem_of_getElem? (i := 58) rfl) rfl
theorem wd_22 : Cond.fieldLink RX6 133 "TableTower$Rule" "above" "I" ∈ TBg := tb_1 (List.mem_of_getElem? (i := 59) rfl) rfl
theorem wd_23 : Cond.fieldLink RX4 62 "TableTower$Rule" "weight" "I" ∈ TBg := tb_1 (List.mem_of_getElem? (i := 60) rfl) rfl
theorem wd_24 : Cond.fieldLink RX6 136 "TableTower$Rule" "weight" "I" ∈ TBg := tb_1 (List.mem_of_getElem? (i := 61) rfl) rfl
theorem wd_25 : Cond.fieldLink RX4 15 "TableTower$Rule" "pile" "[I" ∈ TBg := tb_1 (List.mem_of_getElem? (i := 62) rfl) rfl
theorem wd_26 : Cond.fieldLink RX4 28 "TableTower$Rule" "high" "I" ∈ TBg := tb_1 (List.mem_of_getElem? (i := 63) rfl) rfl
theorem wd_27 : Cond.methodLink RX7 34 yX7_clear ∈ TBg := tb_1 (List.mem_of_getElem? (i := 87) rfl) rfl
theorem wd_28 : Cond.fieldLink RX7 37 "TableTower$Town" "tables" "I" ∈ TBg := tb_1 (List.mem_of_getElem? (i := 91) rfl) rfl
theorem wd_29 : Cond.fieldLink RX6 47 "TableTower$Town" "tables" "I" ∈ TBg := tb_1 (List.mem_of_getElem? (i := 92) rfl) rfl
theorem wd_30 : Cond.fieldLink RX8 53 "TableTower$Town" "tables" "I" ∈ TBg := tb_1 (List.mem_of_getElem? (i := 93) rfl) rfl
theorem wd_31 : Cond.fieldLink RX3 93 "TableTower$Town" "tables" "I" ∈ TBg := tb_1 (List.mem_of_getElem? (i := 94) rfl) rfl
theorem wd_32 : Cond.fieldLink RX2 65 "TableTower$Town" "tables" "I" ∈ TBg := tb_1 (List.mem_of_getElem? (i := 95) rfl) rfl
theorem wd_33 : Cond.fieldLink RX9 111 "TableTower$Town" "tables" "I" ∈ TBg := tb_1 (List.mem_of_getElem? (i := 96) rfl) rfl
theorem wd_34 : Cond.fieldLink RX7 41 "TableTower$Town" "limit" "I" ∈ TBg := tb_1 (List.mem_of_getElem? (i := 97) rfl) rfl
theorem wd_35 : Cond.fieldLink RX3 119 "TableTower$Town" "limit" "I" ∈ TBg := tb_1 (List.mem_of_getElem? (i := 98) rfl) rfl
theorem wd_36 : Cond.fieldLink RX9 119 "TableTower$Town" "limit" "I" ∈ TBg := tb_1 (List.mem_of_getElem? (i := 99) rfl) rfl
theorem wd_37 : Cond.fieldLink RX7 44 "TableTower$Town" "food" "I" ∈ TBg := tb_1 (List.mem_of_getElem? (i := 100) rfl) rfl
theorem wd_38 : Cond.fieldLink RX9 122 "TableTower$Town" "food" "I" ∈ TBg := tb_1 (List.mem_of_getElem? (i := 101) rfl) rfl
theorem wd_39 : Cond.fieldLink RX3 121 "TableTower$Town" "food" "I" ∈ TBg := tb_1 (List.mem_of_getElem? (i := 102) rfl) rfl
theorem wd_40 : Cond.fieldLink RX7 9 "TableTower$Town" "kind" "[I" ∈ TBg := tb_1 (List.mem_of_getElem? (i := 103) rfl) rfl
theorem wd_41 : Cond.fieldLink RX3 103 "TableTower$Town" "kind" "[I" ∈ TBg := tb_1 (List.mem_of_getElem? (i := 104) rfl) rfl
theorem wd_42 : Cond.fieldLink RX9 165 "TableTower$Town" "kind" "[I" ∈ TBg := tb_1 (List.mem_of_getElem? (i := 105) rfl) rfl
theorem wd_43 : Cond.fieldLink RX6 62 "TableTower$Town" "kind" "[I" ∈ TBg := tb_1 (List.mem_of_getElem? (i := 106) rfl) rfl
theorem wd_44 : Cond.fieldLink RX7 15 "TableTower$Town" "weight" "[I" ∈ TBg := tb_1 (List.mem_of_getElem? (i := 107) rfl) rfl
theorem wd_45 : Cond.fieldLink RX3 107 "TableTower$Town" "weight" "[I" ∈ TBg := tb_1 (List.mem_of_getElem? (i := 108) rfl) rfl
theorem wd_46 : Cond.fieldLink RX2 86 "TableTower$Town" "weight" "[I" ∈ TBg := tb_1 (List.mem_of_getElem? (i := 109) rfl) rfl
theorem wd_47 : Cond.fieldLink RX9 168 "TableTower$Town" "weight" "[I" ∈ TBg := tb_1 (List.mem_of_getElem? (i := 110) rfl) rfl
theorem wd_48 : Cond.fieldLink RX6 82 "TableTower$Town" "weight" "[I" ∈ TBg := tb_1 (List.mem_of_getElem? (i := 111) rfl) rfl
theorem wd_49 : Cond.fieldLink RX7 18 "TableTower$Town" "bears" "[I" ∈ TBg := tb_1 (List.mem_of_getElem? (i := 112) rfl) rfl
theorem wd_50 : Cond.fieldLink RX3 110 "TableTower$Town" "bears" "[I" ∈ TBg := tb_1 (List.mem_of_getElem? (i := 113) rfl) rfl
theorem wd_51 : Cond.fieldLink RX6 59 "TableTower$Town" "bears" "[I" ∈ TBg := tb_1 (List.mem_of_getElem? (i := 114) rfl) rfl
theorem wd_52 : Cond.fieldLink RX7 21 "TableTower$Town" "lean" "[I" ∈ TBg := tb_1 (List.mem_of_getElem? (i := 115) rfl) rfl
theorem wd_53 : Cond.fieldLink RX6 52 "TableTower$Town" "lean" "[I" ∈ TBg := tb_1 (List.mem_of_getElem? (i := 116) rfl) rfl
theorem wd_54 : Cond.fieldLink RX3 113 "TableTower$Town" "lean" "[I" ∈ TBg := tb_1 (List.mem_of_getElem? (i := 117) rfl) rfl
theorem wd_55 : Cond.fieldLink RX7 24 "TableTower$Town" "hunger" "[I" ∈ TBg := tb_1 (List.mem_of_getElem? (i := 118) rfl) rfl
theorem wd_56 : Cond.fieldLink RX3 116 "TableTower$Town" "hunger" "[I" ∈ TBg := tb_1 (List.mem_of_getElem? (i := 119) rfl) rfl
theorem wd_57 : Cond.fieldLink RX9 178 "TableTower$Town" "hunger" "[I" ∈ TBg := tb_1 (List.mem_of_getElem? (i := 120) rfl) rfl
theorem wd_58 : Cond.fieldLink RX6 111 "TableTower$Town" "hunger" "[I" ∈ TBg := tb_1 (List.mem_of_getElem? (i := 121) rfl) rfl
theorem wd_59 : Cond.fieldLink RX8 175 "TableTower$Town" "hunger" "[I" ∈ TBg := tb_1 (List.mem_of_getElem? (i := 122) rfl) rfl
theorem wd_60 : Cond.fieldLink RX7 30 "TableTower$Town" "takes" "LTableTower$Rule;" ∈ TBg := tb_1 (List.mem_of_getElem? (i := 123) rfl) rfl
theorem wd_61 : Cond.fieldLink RX3 123 "TableTower$Town" "takes" "LTableTower$Rule;" ∈ TBg := tb_1 (List.mem_of_getElem? (i := 124) rfl) rfl
theorem wd_62 : Cond.fieldLink RX6 114 "TableTower$Town" "takes" "LTableTower$Rule;" ∈ TBg := tb_1 (List.mem_of_getElem? (i := 125) rfl) rfl
theorem wd_63 : Cond.classLink RX9 31 RX3 ∈ TBg := tb_1 (List.mem_of_getElem? (i := 145) rfl) rfl
theorem wd_64 : Cond.methodLink RX9 33 yX3_init ∈ TBg := tb_1 (List.mem_of_getElem? (i := 147) rfl) rfl
theorem wd_65 : Cond.methodLink RX3 3 objectInit ∈ TBg := tb_1 (List.mem_of_getElem? (i := 150) rfl) rfl
theorem wd_66 : Cond.fieldLink RX3 44 "TableTower$Reader" "place" "I" ∈ TBg := tb_1 (List.mem_of_getElem? (i := 151) rfl) rfl
theorem wd_67 : Cond.fieldLink RX9 99 "TableTower$Reader" "place" "I" ∈ TBg := tb_1 (List.mem_of_getElem? (i := 152) rfl) rfl
theorem wd_68 : Cond.fieldLink RX3 9 "TableTower$Reader" "text" "[B" ∈ TBg := tb_1 (List.mem_of_getElem? (i := 153) rfl) rfl
theorem wd_69 : Cond.fieldLink RX3 15 "TableTower$Reader" "into" "LTableTower$Town;" ∈ TBg := tb_1 (List.mem_of_getElem? (i := 154) rfl) rfl
theorem wd_70 : Cond.fieldLink RX3 25 "TableTower$Reader" "length" "I" ∈ TBg := tb_1 (List.mem_of_getElem? (i := 155) rfl) rfl
theorem wd_71 : Cond.fieldLink RX3 53 "TableTower$Reader" "token" "I" ∈ TBg := tb_1 (List.mem_of_getElem? (i := 156) rfl) rfl
theorem wd_72 : Cond.fieldLink RX3 158 "TableTower$Reader" "start" "I" ∈ TBg := tb_1 (List.mem_of_getElem? (i := 157) rfl) rfl
theorem wd_73 : Cond.fieldLink RX3 47 "TableTower$Reader" "end" "I" ∈ TBg := tb_1 (List.mem_of_getElem? (i := 158) rfl) rfl
theorem wd_74 : Cond.fieldLink RX3 161 "TableTower$Reader" "number" "I" ∈ TBg := tb_1 (List.mem_of_getElem? (i := 159) rfl) rfl
theorem wd_75 : Cond.fieldLink RX3 41 "TableTower$Reader" "fault" "I" ∈ TBg := tb_1 (List.mem_of_getElem? (i := 160) rfl) rfl
theorem wd_76 : Cond.fieldLink RX3 34 "TableTower$Reader" "limitTold" "Z" ∈ TBg := tb_1 (List.mem_of_getElem? (i := 161) rfl) rfl
theorem wd_77 : Cond.fieldLink RX3 38 "TableTower$Reader" "foodTold" "Z" ∈ TBg := tb_1 (List.mem_of_getElem? (i := 162) rfl) rfl
theorem wd_78 : Cond.classLink RX9 43 RX5 ∈ TBg := tb_1 (List.mem_of_getElem? (i := 186) rfl) rfl
theorem wd_79 : Cond.methodLink RX9 45 yX5_init ∈ TBg := tb_1 (List.mem_of_getElem? (i := 188) rfl) rfl
theorem wd_80 : Cond.methodLink RX5 3 objectInit ∈ TBg := tb_1 (List.mem_of_getElem? (i := 191) rfl) rfl
theorem wd_81 : Cond.classLink RX5 9 RX0 ∈ TBg := tb_1 (List.mem_of_getElem? (i := 192) rfl) rfl
theorem wd_82 : Cond.methodLink RX0 5 objectInit ∈ TBg := tb_1 (List.mem_of_getElem? (i := 197) rfl) rfl
theorem wd_83 : Cond.fieldLink RX0 15 "TableTower$Acts" "kept" "I" ∈ TBg := tb_1 (List.mem_of_getElem? (i := 198) rfl) rfl
theorem wd_84 : Cond.fieldLink RX5 44 "TableTower$Acts" "kept" "I" ∈ TBg := tb_1 (List.mem_of_getElem? (i := 199) rfl) rfl
theorem wd_85 : Cond.fieldLink RX9 146 "TableTower$Acts" "kept" "I" ∈ TBg := tb_1 (List.mem_of_getElem? (i := 200) rfl) rfl
theorem wd_86 : Cond.fieldLink RX0 11 "TableTower$Acts" "cells" "[I" ∈ TBg := tb_1 (List.mem_of_getElem? (i := 201) rfl) rfl
theorem wd_87 : Cond.classLink RX5 28 RX6 ∈ TBg := tb_1 (List.mem_of_getElem? (i := 207) rfl) rfl
theorem wd_88 : Cond.methodLink RX5 30 yX6_init ∈ TBg := tb_1 (List.mem_of_getElem? (i := 209) rfl) rfl
theorem wd_89 : Cond.methodLink RX6 3 objectInit ∈ TBg := tb_1 (List.mem_of_getElem? (i := 212) rfl) rfl
theorem wd_90 : Cond.fieldLink RX6 33 "TableTower$Tower" "town" "LTableTower$Town;" ∈ TBg := tb_1 (List.mem_of_getElem? (i := 213) rfl) rfl
theorem wd_91 : Cond.fieldLink RX6 37 "TableTower$Tower" "levels" "I" ∈ TBg := tb_1 (List.mem_of_getElem? (i := 214) rfl) rfl
theorem wd_92 : Cond.fieldLink RX1 38 "TableTower$Tower" "levels" "I" ∈ TBg := tb_1 (List.mem_of_getElem? (i := 215) rfl) rfl
theorem wd_93 : Cond.fieldLink RX8 74 "TableTower$Tower" "levels" "I" ∈ TBg := tb_1 (List.mem_of_getElem? (i := 216) rfl) rfl
theorem wd_94 : Cond.fieldLink RX5 68 "TableTower$Tower" "levels" "I" ∈ TBg := tb_1 (List.mem_of_getElem? (i := 217) rfl) rfl
theorem wd_95 : Cond.fieldLink RX9 114 "TableTower$Tower" "levels" "I" ∈ TBg := tb_1 (List.mem_of_getElem? (i := 218) rfl) rfl
theorem wd_96 : Cond.fieldLink RX6 41 "TableTower$Tower" "years" "I" ∈ TBg := tb_1 (List.mem_of_getElem? (i := 219) rfl) rfl
theorem wd_97 : Cond.fieldLink RX9 139 "TableTower$Tower" "years" "I" ∈ TBg := tb_1 (List.mem_of_getElem? (i := 220) rfl) rfl
theorem wd_98 : Cond.fieldLink RX0 59 "TableTower$Tower" "years" "I" ∈ TBg := tb_1 (List.mem_of_getElem? (i := 221) rfl) rfl
theorem wd_99 : Cond.fieldLink RX8 94 "TableTower$Tower" "years" "I" ∈ TBg := tb_1 (List.mem_of_getElem? (i := 222) rfl) rfl
theorem wd_100 : Cond.fieldLink RX5 107 "TableTower$Tower" "years" "I" ∈ TBg := tb_1 (List.mem_of_getElem? (i := 223) rfl) rfl
theorem wd_101 : Cond.fieldLink RX6 44 "TableTower$Tower" "crumbs" "I" ∈ TBg := tb_1 (List.mem_of_getElem? (i := 224) rfl) rfl
theorem wd_102 : Cond.fieldLink RX0 25 "TableTower$Tower" "crumbs" "I" ∈ TBg := tb_1 (List.mem_of_getElem? (i := 225) rfl) rfl
theorem wd_103 : Cond.fieldLink RX9 133 "TableTower$Tower" "crumbs" "I" ∈ TBg := tb_1 (List.mem_of_getElem? (i := 226) rfl) rfl
theorem wd_104 : Cond.fieldLink RX5 104 "TableTower$Tower" "crumbs" "I" ∈ TBg := tb_1 (List.mem_of_getElem? (i := 227) rfl) rfl
theorem wd_105 : Cond.fieldLink RX6 9 "TableTower$Tower" "order" "[I" ∈ TBg := tb_1 (List.mem_of_getElem? (i := 228) rfl) rfl
theorem wd_106 : Cond.fieldLink RX1 45 "TableTower$Tower" "order" "[I" ∈ TBg := tb_1 (List.mem_of_getElem? (i := 229) rfl) rfl
theorem wd_107 : Cond.fieldLink RX8 77 "TableTower$Tower" "order" "[I" ∈ TBg := tb_1 (List.mem_of_getElem? (i := 230) rfl) rfl
theorem wd_108 : Cond.fieldLink RX9 198 "TableTower$Tower" "order" "[I" ∈ TBg := tb_1 (List.mem_of_getElem? (i := 231) rfl) rfl
theorem wd_109 : Cond.fieldLink RX6 15 "TableTower$Tower" "meal" "[I" ∈ TBg := tb_1 (List.mem_of_getElem? (i := 232) rfl) rfl
theorem wd_110 : Cond.fieldLink RX0 34 "TableTower$Tower" "meal" "[I" ∈ TBg := tb_1 (List.mem_of_getElem? (i := 233) rfl) rfl
theorem wd_111 : Cond.fieldLink RX5 82 "TableTower$Tower" "meal" "[I" ∈ TBg := tb_1 (List.mem_of_getElem? (i := 234) rfl) rfl
theorem wd_112 : Cond.fieldLink RX2 89 "TableTower$Tower" "meal" "[I" ∈ TBg := tb_1 (List.mem_of_getElem? (i := 235) rfl) rfl
theorem wd_113 : Cond.fieldLink RX9 181 "TableTower$Tower" "meal" "[I" ∈ TBg := tb_1 (List.mem_of_getElem? (i := 236) rfl) rfl
theorem wd_114 : Cond.fieldLink RX8 88 "TableTower$Tower" "meal" "[I" ∈ TBg := tb_1 (List.mem_of_getElem? (i := 237) rfl) rfl
theorem wd_115 : Cond.fieldLink RX6 18 "TableTower$Tower" "wedge" "[I" ∈ TBg := tb_1 (List.mem_of_getElem? (i := 238) rfl) rfl
theorem wd_116 : Cond.fieldLink RX0 49 "TableTower$Tower" "wedge" "[I" ∈ TBg := tb_1 (List.mem_of_getElem? (i := 239) rfl) rfl
theorem wd_117 : Cond.fieldLink RX9 184 "TableTower$Tower" "wedge" "[I" ∈ TBg := tb_2 (List.mem_of_getElem? (i := 0) rfl) rfl
theorem wd_118 : Cond.fieldLink RX5 92 "TableTower$Tower" "wedge" "[I" ∈ TBg := tb_2 (List.mem_of_getElem? (i := 1) rfl) rfl
theorem wd_119 : Cond.fieldLink RX8 106 "TableTower$Tower" "wedge" "[I" ∈ TBg := tb_2 (List.mem_of_getElem? (i := 2) rfl) rfl
theorem wd_120 : Cond.fieldLink RX6 21 "TableTower$Tower" "lean" "[I" ∈ TBg := tb_2 (List.mem_of_getElem? (i := 3) rfl) rfl
theorem wd_121 : Cond.fieldLink RX0 52 "TableTower$Tower" "lean" "[I" ∈ TBg := tb_2 (List.mem_of_getElem? (i := 4) rfl) rfl
theorem wd_122 : Cond.fieldLink RX9 175 "TableTower$Tower" "lean" "[I" ∈ TBg := tb_2 (List.mem_of_getElem? (i := 5) rfl) rfl
theorem wd_123 : Cond.fieldLink RX1 62 "TableTower$Tower" "lean" "[I" ∈ TBg := tb_2 (List.mem_of_getElem? (i := 6) rfl) rfl
theorem wd_124 : Cond.fieldLink RX5 95 "TableTower$Tower" "lean" "[I" ∈ TBg := tb_2 (List.mem_of_getElem? (i := 7) rfl) rfl
theorem wd_125 : Cond.fieldLink RX8 122 "TableTower$Tower" "lean" "[I" ∈ TBg := tb_2 (List.mem_of_getElem? (i := 8) rfl) rfl
theorem wd_126 : Cond.fieldLink RX6 24 "TableTower$Tower" "load" "[I" ∈ TBg := tb_2 (List.mem_of_getElem? (i := 9) rfl) rfl
theorem wd_127 : Cond.fieldLink RX9 201 "TableTower$Tower" "load" "[I" ∈ TBg := tb_2 (List.mem_of_getElem? (i := 10) rfl) rfl
theorem wd_128 : Cond.fieldLink RX8 163 "TableTower$Tower" "load" "[I" ∈ TBg := tb_2 (List.mem_of_getElem? (i := 11) rfl) rfl
theorem wd_129 : Cond.fieldLink RX6 27 "TableTower$Tower" "carries" "[I" ∈ TBg := tb_2 (List.mem_of_getElem? (i := 12) rfl) rfl
theorem wd_130 : Cond.fieldLink RX9 204 "TableTower$Tower" "carries" "[I" ∈ TBg := tb_2 (List.mem_of_getElem? (i := 13) rfl) rfl
theorem wd_131 : Cond.fieldLink RX6 30 "TableTower$Tower" "tilt" "[I" ∈ TBg := tb_2 (List.mem_of_getElem? (i := 14) rfl) rfl
theorem wd_132 : Cond.fieldLink RX9 207 "TableTower$Tower" "tilt" "[I" ∈ TBg := tb_2 (List.mem_of_getElem? (i := 15) rfl) rfl
theorem wd_133 : Cond.fieldLink RX1 76 "TableTower$Tower" "tilt" "[I" ∈ TBg := tb_2 (List.mem_of_getElem? (i := 16) rfl) rfl
theorem wd_134 : Cond.fieldLink RX5 33 "TableTower$State" "tower" "LTableTower$Tower;" ∈ TBg := tb_2 (List.mem_of_getElem? (i := 40) rfl) rfl
theorem wd_135 : Cond.fieldLink RX9 57 "TableTower$State" "tower" "LTableTower$Tower;" ∈ TBg := tb_2 (List.mem_of_getElem? (i := 41) rfl) rfl
theorem wd_136 : Cond.fieldLink RX1 23 "TableTower$State" "tower" "LTableTower$Tower;" ∈ TBg := tb_2 (List.mem_of_getElem? (i := 42) rfl) rfl
theorem wd_137 : Cond.fieldLink RX2 56 "TableTower$State" "tower" "LTableTower$Tower;" ∈ TBg := tb_2 (List.mem_of_getElem? (i := 43) rfl) rfl
theorem wd_138 : Cond.fieldLink RX5 12 "TableTower$State" "acts" "LTableTower$Acts;" ∈ TBg := tb_2 (List.mem_of_getElem? (i := 44) rfl) rfl
theorem wd_139 : Cond.fieldLink RX9 142 "TableTower$State" "acts" "LTableTower$Acts;" ∈ TBg := tb_2 (List.mem_of_getElem? (i := 45) rfl) rfl
theorem wd_140 : Cond.fieldLink RX5 48 "TableTower$State" "seen" "I" ∈ TBg := tb_2 (List.mem_of_getElem? (i := 46) rfl) rfl
theorem wd_141 : Cond.fieldLink RX9 150 "TableTower$State" "seen" "I" ∈ TBg := tb_2 (List.mem_of_getElem? (i := 47) rfl) rfl
theorem wd_142 : Cond.fieldLink RX1 70 "TableTower$State" "seen" "I" ∈ TBg := tb_2 (List.mem_of_getElem? (i := 48) rfl) rfl
theorem wd_143 : Cond.fieldLink RX5 18 "TableTower$State" "seenLevel" "[I" ∈ TBg := tb_2 (List.mem_of_getElem? (i := 49) rfl) rfl
theorem wd_144 : Cond.fieldLink RX1 73 "TableTower$State" "seenLevel" "[I" ∈ TBg := tb_2 (List.mem_of_getElem? (i := 50) rfl) rfl
theorem wd_145 : Cond.fieldLink RX5 22 "TableTower$State" "seenTilt" "[I" ∈ TBg := tb_2 (List.mem_of_getElem? (i := 51) rfl) rfl
theorem wd_146 : Cond.fieldLink RX1 79 "TableTower$State" "seenTilt" "[I" ∈ TBg := tb_2 (List.mem_of_getElem? (i := 52) rfl) rfl
theorem wd_147 : Cond.fieldLink RX5 25 "TableTower$State" "status" "[I" ∈ TBg := tb_2 (List.mem_of_getElem? (i := 53) rfl) rfl
theorem wd_148 : Cond.fieldLink RX9 153 "TableTower$State" "status" "[I" ∈ TBg := tb_2 (List.mem_of_getElem? (i := 54) rfl) rfl
theorem wd_149 : Cond.fieldLink RX5 37 "TableTower$State" "altered" "Z" ∈ TBg := tb_2 (List.mem_of_getElem? (i := 55) rfl) rfl
theorem wd_150 : Cond.fieldLink RX2 32 "TableTower$State" "altered" "Z" ∈ TBg := tb_2 (List.mem_of_getElem? (i := 56) rfl) rfl
theorem wd_151 : Cond.classLink RX9 55 RX8 ∈ TBg := tb_2 (List.mem_of_getElem? (i := 72) rfl) rfl
theorem wd_152 : Cond.methodLink RX9 61 yX8_init ∈ TBg := tb_2 (List.mem_of_getElem? (i := 74) rfl) rfl
theorem wd_153 : Cond.methodLink RX8 3 objectInit ∈ TBg := tb_2 (List.mem_of_getElem? (i := 77) rfl) rfl
theorem wd_154 : Cond.classLink RX8 29 RX6 ∈ TBg := tb_2 (List.mem_of_getElem? (i := 78) rfl) rfl
theorem wd_155 : Cond.methodLink RX8 31 yX6_init ∈ TBg := tb_2 (List.mem_of_getElem? (i := 79) rfl) rfl
theorem wd_156 : Cond.fieldLink RX8 21 "TableTower$Trials" "town" "LTableTower$Town;" ∈ TBg := tb_2 (List.mem_of_getElem? (i := 80) rfl) rfl
theorem wd_157 : Cond.fieldLink RX8 25 "TableTower$Trials" "now" "LTableTower$Tower;" ∈ TBg := tb_2 (List.mem_of_getElem? (i := 81) rfl) rfl
theorem wd_158 : Cond.fieldLink RX8 34 "TableTower$Trials" "trial" "LTableTower$Tower;" ∈ TBg := tb_2 (List.mem_of_getElem? (i := 82) rfl) rfl
theorem wd_159 : Cond.fieldLink RX8 131 "TableTower$Trials" "resting" "I" ∈ TBg := tb_2 (List.mem_of_getElem? (i := 83) rfl) rfl
theorem wd_160 : Cond.fieldLink RX9 354 "TableTower$Trials" "resting" "I" ∈ TBg := tb_2 (List.mem_of_getElem? (i := 84) rfl) rfl
theorem wd_161 : Cond.fieldLink RX8 134 "TableTower$Trials" "firstResting" "I" ∈ TBg := tb_2 (List.mem_of_getElem? (i := 85) rfl) rfl
theorem wd_162 : Cond.fieldLink RX9 357 "TableTower$Trials" "firstResting" "I" ∈ TBg := tb_2 (List.mem_of_getElem? (i := 86) rfl) rfl
theorem wd_163 : Cond.fieldLink RX8 151 "TableTower$Trials" "stood" "I" ∈ TBg := tb_2 (List.mem_of_getElem? (i := 87) rfl) rfl
theorem wd_164 : Cond.fieldLink RX9 368 "TableTower$Trials" "stood" "I" ∈ TBg := tb_2 (List.mem_of_getElem? (i := 88) rfl) rfl
theorem wd_165 : Cond.fieldLink RX8 154 "TableTower$Trials" "firstFallen" "I" ∈ TBg := tb_2 (List.mem_of_getElem? (i := 89) rfl) rfl
theorem wd_166 : Cond.fieldLink RX9 371 "TableTower$Trials" "firstFallen" "I" ∈ TBg := tb_2 (List.mem_of_getElem? (i := 90) rfl) rfl
theorem wd_167 : Cond.fieldLink RX8 166 "TableTower$Trials" "lastLoad" "I" ∈ TBg := tb_2 (List.mem_of_getElem? (i := 91) rfl) rfl
theorem wd_168 : Cond.fieldLink RX9 374 "TableTower$Trials" "lastLoad" "I" ∈ TBg := tb_2 (List.mem_of_getElem? (i := 92) rfl) rfl
theorem wd_169 : Cond.fieldLink RX8 148 "TableTower$Trials" "seed" "I" ∈ TBg := tb_2 (List.mem_of_getElem? (i := 93) rfl) rfl
theorem wd_170 : Cond.fieldLink RX8 11 "TableTower$Trials" "cost" "[I" ∈ TBg := tb_2 (List.mem_of_getElem? (i := 94) rfl) rfl
theorem wd_171 : Cond.fieldLink RX8 15 "TableTower$Trials" "nextCost" "[I" ∈ TBg := tb_2 (List.mem_of_getElem? (i := 95) rfl) rfl
theorem wd_172 : Cond.fieldLink RX8 18 "TableTower$Trials" "eatable" "[I" ∈ TBg := tb_2 (List.mem_of_getElem? (i := 96) rfl) rfl
theorem wd_173 : Cond.classLink RX9 68 RX2 ∈ TBg := tb_2 (List.mem_of_getElem? (i := 122) rfl) rfl
theorem wd_174 : Cond.methodLink RX9 70 yX2_init ∈ TBg := tb_2 (List.mem_of_getElem? (i := 124) rfl) rfl
theorem wd_175 : Cond.methodLink RX2 3 objectInit ∈ TBg := tb_2 (List.mem_of_getElem? (i := 127) rfl) rfl
theorem wd_176 : Cond.fieldLink RX2 24 "TableTower$Piles" "town" "LTableTower$Town;" ∈ TBg := tb_2 (List.mem_of_getElem? (i := 128) rfl) rfl
theorem wd_177 : Cond.fieldLink RX2 28 "TableTower$Piles" "state" "LTableTower$State;" ∈ TBg := tb_2 (List.mem_of_getElem? (i := 129) rfl) rfl
theorem wd_178 : Cond.fieldLink RX2 45 "TableTower$Piles" "mostSet" "I" ∈ TBg := tb_2 (List.mem_of_getElem? (i := 130) rfl) rfl
theorem wd_179 : Cond.fieldLink RX9 259 "TableTower$Piles" "mostSet" "I" ∈ TBg := tb_2 (List.mem_of_getElem? (i := 131) rfl) rfl
theorem wd_180 : Cond.fieldLink RX2 9 "TableTower$Piles" "mostRow" "[I" ∈ TBg := tb_2 (List.mem_of_getElem? (i := 132) rfl) rfl
theorem wd_181 : Cond.fieldLink RX9 269 "TableTower$Piles" "mostRow" "[I" ∈ TBg := tb_2 (List.mem_of_getElem? (i := 133) rfl) rfl
theorem wd_182 : Cond.fieldLink RX2 15 "TableTower$Piles" "burden" "[I" ∈ TBg := tb_2 (List.mem_of_getElem? (i := 134) rfl) rfl
theorem wd_183 : Cond.fieldLink RX2 18 "TableTower$Piles" "tilt" "[I" ∈ TBg := tb_2 (List.mem_of_getElem? (i := 135) rfl) rfl
theorem wd_184 : Cond.fieldLink RX2 21 "TableTower$Piles" "ways" "[I" ∈ TBg := tb_2 (List.mem_of_getElem? (i := 136) rfl) rfl
theorem wd_185 : Cond.fieldLink RX2 79 "TableTower$Piles" "set" "I" ∈ TBg := tb_2 (List.mem_of_getElem? (i := 137) rfl) rfl
theorem wd_186 : Cond.fieldLink RX2 95 "TableTower$Piles" "raised" "I" ∈ TBg := tb_2 (List.mem_of_getElem? (i := 138) rfl) rfl
theorem wd_187 : Cond.fieldLink RX2 98 "TableTower$Piles" "sea" "I" ∈ TBg := tb_2 (List.mem_of_getElem? (i := 139) rfl) rfl
theorem wd_188 : Cond.classLink RX9 77 RX1 ∈ TBg := tb_2 (List.mem_of_getElem? (i := 161) rfl) rfl
theorem wd_189 : Cond.methodLink RX9 79 yX1_init ∈ TBg := tb_2 (List.mem_of_getElem? (i := 163) rfl) rfl
theorem wd_190 : Cond.methodLink RX1 3 objectInit ∈ TBg := tb_2 (List.mem_of_getElem? (i := 166) rfl) rfl
theorem wd_191 : Cond.fieldLink RX1 15 "TableTower$Legs" "town" "LTableTower$Town;" ∈ TBg := tb_2 (List.mem_of_getElem? (i := 167) rfl) rfl
theorem wd_192 : Cond.fieldLink RX1 19 "TableTower$Legs" "state" "LTableTower$State;" ∈ TBg := tb_2 (List.mem_of_getElem? (i := 168) rfl) rfl
theorem wd_193 : Cond.fieldLink RX1 11 "TableTower$Legs" "counted" "[I" ∈ TBg := tb_2 (List.mem_of_getElem? (i := 169) rfl) rfl
theorem wd_194 : Cond.fieldLink RX1 52 "TableTower$Legs" "turn" "I" ∈ TBg := tb_2 (List.mem_of_getElem? (i := 170) rfl) rfl
theorem wd_195 : Cond.fieldLink RX9 9 "TableTower" "tape" "[B" ∈ TBg := tb_2 (List.mem_of_getElem? (i := 180) rfl) rfl
theorem wd_196 : Cond.fieldLink RX9 13 "TableTower" "bytes" "I" ∈ TBg := tb_2 (List.mem_of_getElem? (i := 181) rfl) rfl
theorem wd_197 : Cond.fieldLink RX9 17 "TableTower" "faultPlace" "I" ∈ TBg := tb_2 (List.mem_of_getElem? (i := 182) rfl) rfl
theorem wd_198 : Cond.fieldLink RX9 20 "TableTower" "imageKept" "Z" ∈ TBg := tb_2 (List.mem_of_getElem? (i := 183) rfl) rfl
theorem wd_199 : Cond.fieldLink RX9 36 "TableTower" "reader" "LTableTower$Reader;" ∈ TBg := tb_2 (List.mem_of_getElem? (i := 184) rfl) rfl
theorem wd_200 : Cond.fieldLink RX9 27 "TableTower" "told" "LTableTower$Town;" ∈ TBg := tb_2 (List.mem_of_getElem? (i := 185) rfl) rfl
theorem wd_201 : Cond.fieldLink RX9 40 "TableTower" "town" "LTableTower$Town;" ∈ TBg := tb_2 (List.mem_of_getElem? (i := 186) rfl) rfl
theorem wd_202 : Cond.fieldLink RX9 48 "TableTower" "now" "LTableTower$State;" ∈ TBg := tb_2 (List.mem_of_getElem? (i := 187) rfl) rfl
theorem wd_203 : Cond.fieldLink RX9 52 "TableTower" "kept" "LTableTower$State;" ∈ TBg := tb_2 (List.mem_of_getElem? (i := 188) rfl) rfl
theorem wd_204 : Cond.fieldLink RX9 64 "TableTower" "trials" "LTableTower$Trials;" ∈ TBg := tb_2 (List.mem_of_getElem? (i := 189) rfl) rfl
theorem wd_205 : Cond.fieldLink RX9 73 "TableTower" "piles" "LTableTower$Piles;" ∈ TBg := tb_2 (List.mem_of_getElem? (i := 190) rfl) rfl
theorem wd_206 : Cond.fieldLink RX9 80 "TableTower" "legs" "LTableTower$Legs;" ∈ TBg := tb_2 (List.mem_of_getElem? (i := 191) rfl) rfl
theorem wd_207 : Cond.methodLink RL 89 yX9_feed ∈ TBg := tb_2 (List.mem_of_getElem? (i := 217) rfl) rfl
theorem wd_208 : Cond.methodLink RX9 84 yX9_feedOne ∈ TBg := tb_2 (List.mem_of_getElem? (i := 221) rfl) rfl
theorem wd_209 : Cond.methodLink RL 104 yX9_fault ∈ TBg := tb_2 (List.mem_of_getElem? (i := 225) rfl) rfl
theorem wd_210 : Cond.methodLink RL 118 yX9_by ∈ TBg := tb_2 (List.mem_of_getElem? (i := 229) rfl) rfl
theorem wd_211 : Cond.methodLink RX9 216 yX7_all ∈ TBg := tb_2 (List.mem_of_getElem? (i := 233) rfl) rfl
theorem wd_212 : Cond.methodLink RX9 219 yX6_inIt ∈ TBg := tb_2 (List.mem_of_getElem? (i := 237) rfl) rfl
theorem wd_213 : Cond.methodLink RL 137 yX9_supper ∈ TBg := tb_3 (List.mem_of_getElem? (i := 1) rfl) rfl
theorem wd_214 : Cond.methodLink RX9 239 yX5_eat ∈ TBg := tb_3 (List.mem_of_getElem? (i := 5) rfl) rfl
theorem wd_215 : Cond.methodLink RX5 98 yX0_keepSupper ∈ TBg := tb_3 (List.mem_of_getElem? (i := 9) rfl) rfl
theorem wd_216 : Cond.methodLink RX0 30 yX0_keep ∈ TBg := tb_3 (List.mem_of_getElem? (i := 13) rfl) rfl
theorem wd_217 : Cond.methodLink RX0 19 arraycopyName ∈ TBg := tb_3 (List.mem_of_getElem? (i := 17) rfl) rfl
theorem wd_218 : Cond.methodLink RX5 101 yX6_serve ∈ TBg := tb_3 (List.mem_of_getElem? (i := 20) rfl) rfl
theorem wd_219 : Cond.methodLink RX6 108 yX6_takesOf ∈ TBg := tb_3 (List.mem_of_getElem? (i := 24) rfl) rfl
theorem wd_220 : Cond.methodLink RX6 105 Lib.Math.min.name ∈ TBg := tb_3 (List.mem_of_getElem? (i := 28) rfl) rfl
theorem wd_221 : Cond.methodLink RX6 138 yX4_gives ∈ TBg := tb_3 (List.mem_of_getElem? (i := 31) rfl) rfl
theorem wd_222 : Cond.methodLink RX4 31 yX4_push ∈ TBg := tb_3 (List.mem_of_getElem? (i := 35) rfl) rfl
theorem wd_223 : Cond.methodLink RX4 35 yX4_valueOf ∈ TBg := tb_3 (List.mem_of_getElem? (i := 39) rfl) rfl
theorem wd_224 : Cond.methodLink RX4 39 yX4_pop ∈ TBg := tb_3 (List.mem_of_getElem? (i := 43) rfl) rfl
theorem wd_225 : Cond.methodLink RX4 43 yX4_result ∈ TBg := tb_3 (List.mem_of_getElem? (i := 47) rfl) rfl
theorem wd_226 : Cond.methodLink RX6 69 Lib.Math.max.name ∈ TBg := tb_3 (List.mem_of_getElem? (i := 50) rfl) rfl
theorem wd_227 : Cond.methodLink RL 141 yX9_years ∈ TBg := tb_3 (List.mem_of_getElem? (i := 53) rfl) rfl
theorem wd_228 : Cond.methodLink RX9 242 yX5_age ∈ TBg := tb_3 (List.mem_of_getElem? (i := 57) rfl) rfl
theorem wd_229 : Cond.methodLink RX5 71 yX5_refuse ∈ TBg := tb_3 (List.mem_of_getElem? (i := 61) rfl) rfl
theorem wd_230 : Cond.methodLink RX5 78 yX5_keep ∈ TBg := tb_3 (List.mem_of_getElem? (i := 65) rfl) rfl
theorem wd_231 : Cond.methodLink RX5 114 yX0_keep ∈ TBg := tb_3 (List.mem_of_getElem? (i := 69) rfl) rfl
theorem wd_232 : Cond.methodLink RL 145 yX9_undo ∈ TBg := tb_3 (List.mem_of_getElem? (i := 70) rfl) rfl
theorem wd_233 : Cond.methodLink RX9 245 yX5_undoLast ∈ TBg := tb_3 (List.mem_of_getElem? (i := 74) rfl) rfl
theorem wd_234 : Cond.methodLink RX5 110 yX0_undoLast ∈ TBg := tb_3 (List.mem_of_getElem? (i := 78) rfl) rfl
theorem wd_235 : Cond.methodLink RX0 37 yX6_removeAt ∈ TBg := tb_3 (List.mem_of_getElem? (i := 82) rfl) rfl
theorem wd_236 : Cond.methodLink RX0 41 yX0_putBack ∈ TBg := tb_3 (List.mem_of_getElem? (i := 86) rfl) rfl
theorem wd_237 : Cond.methodLink RX0 62 yX6_insert ∈ TBg := tb_3 (List.mem_of_getElem? (i := 89) rfl) rfl
theorem wd_238 : Cond.methodLink RX0 45 yX6_exchange ∈ TBg := tb_3 (List.mem_of_getElem? (i := 93) rfl) rfl
theorem wd_239 : Cond.methodLink RX0 55 yX0_clearSupper ∈ TBg := tb_3 (List.mem_of_getElem? (i := 97) rfl) rfl
theorem wd_240 : Cond.methodLink RL 149 yX9_more ∈ TBg := tb_3 (List.mem_of_getElem? (i := 101) rfl) rfl
theorem wd_241 : Cond.methodLink RX9 248 yX6_room ∈ TBg := tb_3 (List.mem_of_getElem? (i := 105) rfl) rfl
theorem wd_242 : Cond.methodLink RX6 101 yX6_breaksAt ∈ TBg := tb_3 (List.mem_of_getElem? (i := 109) rfl) rfl
theorem wd_243 : Cond.methodLink RX6 95 yX6_weigh ∈ TBg := tb_3 (List.mem_of_getElem? (i := 113) rfl) rfl
theorem wd_244 : Cond.methodLink RX6 78 yX6_carriesOf ∈ TBg := tb_3 (List.mem_of_getElem? (i := 117) rfl) rfl
theorem wd_245 : Cond.methodLink RX6 65 yX7_wormAYear ∈ TBg := tb_3 (List.mem_of_getElem? (i := 121) rfl) rfl
theorem wd_246 : Cond.methodLink RX6 85 yX6_leanOf ∈ TBg := tb_3 (List.mem_of_getElem? (i := 125) rfl) rfl
theorem wd_247 : Cond.methodLink RX6 75 yX7_leanTimes ∈ TBg := tb_3 (List.mem_of_getElem? (i := 129) rfl) rfl
theorem wd_248 : Cond.methodLink RX6 98 yX6_holds ∈ TBg := tb_3 (List.mem_of_getElem? (i := 133) rfl) rfl
theorem wd_249 : Cond.methodLink RX6 88 yX6_slackAt ∈ TBg := tb_3 (List.mem_of_getElem? (i := 137) rfl) rfl
theorem wd_250 : Cond.methodLink RX6 91 yX7_withinLimit ∈ TBg := tb_3 (List.mem_of_getElem? (i := 141) rfl) rfl
theorem wd_251 : Cond.methodLink RX7 60 Lib.Math.abs.name ∈ TBg := tb_3 (List.mem_of_getElem? (i := 145) rfl) rfl
theorem wd_252 : Cond.methodLink RL 162 yX9_orders ∈ TBg := tb_3 (List.mem_of_getElem? (i := 148) rfl) rfl
theorem wd_253 : Cond.methodLink RX9 272 yX2_ordersOfTower ∈ TBg := tb_3 (List.mem_of_getElem? (i := 152) rfl) rfl
theorem wd_254 : Cond.methodLink RX2 38 yX2_weighSets ∈ TBg := tb_3 (List.mem_of_getElem? (i := 156) rfl) rfl
theorem wd_255 : Cond.methodLink RX2 92 yX6_leanOf ∈ TBg := tb_3 (List.mem_of_getElem? (i := 160) rfl) rfl
theorem wd_256 : Cond.methodLink RX2 60 yX6_inIt ∈ TBg := tb_3 (List.mem_of_getElem? (i := 161) rfl) rfl
theorem wd_257 : Cond.methodLink RX2 49 yX2_ordersOf ∈ TBg := tb_3 (List.mem_of_getElem? (i := 162) rfl) rfl
theorem wd_258 : Cond.methodLink RX2 101 yX7_withinLimit ∈ TBg := tb_3 (List.mem_of_getElem? (i := 166) rfl) rfl
theorem wd_259 : Cond.methodLink RX2 105 yX2_waysUpon ∈ TBg := tb_3 (List.mem_of_getElem? (i := 167) rfl) rfl
theorem wd_260 : Cond.methodLink RX2 82 yX2_waysWith ∈ TBg := tb_3 (List.mem_of_getElem? (i := 171) rfl) rfl
theorem wd_261 : Cond.methodLink RX2 73 yJ6_bitCount_0f7a4 ∈ TBg := tb_3 (List.mem_of_getElem? (i := 175) rfl) rfl
theorem wd_262 : Cond.constant RJ6 265 (1431655765) ∈ TBg := tb_3 (List.mem_of_getElem? (i := 178) rfl) rfl
theorem wd_263 : Cond.constant RJ6 266 (858993459) ∈ TBg := tb_3 (List.mem_of_getElem? (i := 179) rfl) rfl
theorem wd_264 : Cond.constant RJ6 267 (252645135) ∈ TBg := tb_3 (List.mem_of_getElem? (i := 180) rfl) rfl
theorem wd_265 : Cond.methodLink RX2 108 yX6_carriesOf ∈ TBg := tb_3 (List.mem_of_getElem? (i := 181) rfl) rfl
theorem wd_266 : Cond.methodLink RL 167 yX9_wedges ∈ TBg := tb_3 (List.mem_of_getElem? (i := 182) rfl) rfl
theorem wd_267 : Cond.methodLink RX9 276 yX8_fewestWedges ∈ TBg := tb_3 (List.mem_of_getElem? (i := 186) rfl) rfl
theorem wd_268 : Cond.constant RX8 109 (1000000) ∈ TBg := tb_3 (List.mem_of_getElem? (i := 190) rfl) rfl
theorem wd_269 : Cond.methodLink RX8 110 yX8_wedgeOne ∈ TBg := tb_3 (List.mem_of_getElem? (i := 191) rfl) rfl
theorem wd_270 : Cond.methodLink RX8 119 yX7_leanTimes ∈ TBg := tb_3 (List.mem_of_getElem? (i := 195) rfl) rfl
theorem wd_271 : Cond.methodLink RX8 125 yX7_withinLimit ∈ TBg := tb_3 (List.mem_of_getElem? (i := 196) rfl) rfl
theorem wd_272 : Cond.methodLink RX8 128 Lib.Math.abs.name ∈ TBg := tb_3 (List.mem_of_getElem? (i := 197) rfl) rfl
theorem wd_273 : Cond.methodLink RX8 113 Lib.Math.min.name ∈ TBg := tb_3 (List.mem_of_getElem? (i := 198) rfl) rfl
theorem wd_274 : Cond.methodLink RL 171 yX9_when ∈ TBg := tb_3 (List.mem_of_getElem? (i := 199) rfl) rfl
theorem wd_275 : Cond.methodLink RX9 279 yX8_fallsIn ∈ TBg := tb_3 (List.mem_of_getElem? (i := 203) rfl) rfl
theorem wd_276 : Cond.methodLink RX8 97 yX8_breaksIn ∈ TBg := tb_3 (List.mem_of_getElem? (i := 207) rfl) rfl
theorem wd_277 : Cond.methodLink RX8 37 yX6_become ∈ TBg := tb_3 (List.mem_of_getElem? (i := 211) rfl) rfl
theorem wd_278 : Cond.methodLink RX6 53 arraycopyName ∈ TBg := tb_3 (List.mem_of_getElem? (i := 215) rfl) rfl
theorem wd_279 : Cond.methodLink RX8 91 yX6_breaksAt ∈ TBg := tb_3 (List.mem_of_getElem? (i := 216) rfl) rfl
theorem wd_280 : Cond.methodLink RL 175 yX9_marriages ∈ TBg := tb_3 (List.mem_of_getElem? (i := 217) rfl) rfl
theorem wd_281 : Cond.methodLink RX9 282 yX2_mostCouples ∈ TBg := tb_3 (List.mem_of_getElem? (i := 221) rfl) rfl
theorem wd_282 : Cond.methodLink RX2 112 yX2_couplesWith ∈ TBg := tb_3 (List.mem_of_getElem? (i := 225) rfl) rfl
theorem wd_283 : Cond.methodLink RX2 115 yX6_canMarry ∈ TBg := tb_3 (List.mem_of_getElem? (i := 229) rfl) rfl
theorem wd_284 : Cond.methodLink RX2 119 Lib.Math.max.name ∈ TBg := tb_3 (List.mem_of_getElem? (i := 233) rfl) rfl
theorem wd_285 : Cond.methodLink RX2 70 yX7_all ∈ TBg := tb_3 (List.mem_of_getElem? (i := 234) rfl) rfl
theorem wd_286 : Cond.methodLink RL 185 yX9_fair ∈ TBg := tb_3 (List.mem_of_getElem? (i := 235) rfl) rfl
theorem wd_287 : Cond.methodLink RX9 298 yX8_leastFood ∈ TBg := tb_3 (List.mem_of_getElem? (i := 239) rfl) rfl
theorem wd_288 : Cond.methodLink RX8 103 yX6_fillsAll ∈ TBg := tb_4 (List.mem_of_getElem? (i := 3) rfl) rfl
theorem wd_289 : Cond.methodLink RL 192 yX9_oneWedge ∈ TBg := tb_4 (List.mem_of_getElem? (i := 7) rfl) rfl
theorem wd_290 : Cond.methodLink RX9 304 yX8_firstWedge ∈ TBg := tb_4 (List.mem_of_getElem? (i := 11) rfl) rfl
theorem wd_291 : Cond.methodLink RX8 80 yX6_stands ∈ TBg := tb_4 (List.mem_of_getElem? (i := 15) rfl) rfl
theorem wd_292 : Cond.methodLink RL 199 yX9_swap ∈ TBg := tb_4 (List.mem_of_getElem? (i := 19) rfl) rfl
theorem wd_293 : Cond.methodLink RX9 309 yX8_bestChange ∈ TBg := tb_4 (List.mem_of_getElem? (i := 23) rfl) rfl
theorem wd_294 : Cond.methodLink RX8 49 yX6_room ∈ TBg := tb_4 (List.mem_of_getElem? (i := 27) rfl) rfl
theorem wd_295 : Cond.methodLink RX8 84 yX6_exchange ∈ TBg := tb_4 (List.mem_of_getElem? (i := 28) rfl) rfl
theorem wd_296 : Cond.methodLink RL 209 yX9_crooked ∈ TBg := tb_4 (List.mem_of_getElem? (i := 29) rfl) rfl
theorem wd_297 : Cond.methodLink RX9 318 yX6_mostTilted ∈ TBg := tb_4 (List.mem_of_getElem? (i := 33) rfl) rfl
theorem wd_298 : Cond.methodLink RX6 144 Lib.Math.abs.name ∈ TBg := tb_4 (List.mem_of_getElem? (i := 37) rfl) rfl
theorem wd_299 : Cond.methodLink RL 216 yX9_relief ∈ TBg := tb_4 (List.mem_of_getElem? (i := 38) rfl) rfl
theorem wd_300 : Cond.methodLink RX9 326 yX8_bestTakenOff ∈ TBg := tb_4 (List.mem_of_getElem? (i := 42) rfl) rfl
theorem wd_301 : Cond.methodLink RX8 41 yX6_levelOf ∈ TBg := tb_4 (List.mem_of_getElem? (i := 46) rfl) rfl
theorem wd_302 : Cond.methodLink RX8 59 yX8_roomWithout ∈ TBg := tb_4 (List.mem_of_getElem? (i := 50) rfl) rfl
theorem wd_303 : Cond.methodLink RX8 45 yX6_removeAt ∈ TBg := tb_4 (List.mem_of_getElem? (i := 54) rfl) rfl
theorem wd_304 : Cond.methodLink RL 220 yX9_hungriest ∈ TBg := tb_4 (List.mem_of_getElem? (i := 55) rfl) rfl
theorem wd_305 : Cond.methodLink RX9 329 yX6_mostHungry ∈ TBg := tb_4 (List.mem_of_getElem? (i := 59) rfl) rfl
theorem wd_306 : Cond.methodLink RX6 141 yX6_inIt ∈ TBg := tb_4 (List.mem_of_getElem? (i := 63) rfl) rfl
theorem wd_307 : Cond.methodLink RL 224 yX9_see ∈ TBg := tb_4 (List.mem_of_getElem? (i := 64) rfl) rfl
theorem wd_308 : Cond.methodLink RX9 332 yX5_addSight ∈ TBg := tb_4 (List.mem_of_getElem? (i := 68) rfl) rfl
theorem wd_309 : Cond.methodLink RL 231 yX9_look ∈ TBg := tb_4 (List.mem_of_getElem? (i := 72) rfl) rfl
theorem wd_310 : Cond.methodLink RX9 346 yX1_bestLevel ∈ TBg := tb_4 (List.mem_of_getElem? (i := 76) rfl) rfl
theorem wd_311 : Cond.methodLink RX1 29 yX6_weigh ∈ TBg := tb_4 (List.mem_of_getElem? (i := 80) rfl) rfl
theorem wd_312 : Cond.methodLink RX1 48 yX1_unlikeTilts ∈ TBg := tb_4 (List.mem_of_getElem? (i := 81) rfl) rfl
theorem wd_313 : Cond.methodLink RX1 42 yX1_mayBe ∈ TBg := tb_4 (List.mem_of_getElem? (i := 85) rfl) rfl
theorem wd_314 : Cond.methodLink RX1 55 yX1_shift ∈ TBg := tb_4 (List.mem_of_getElem? (i := 89) rfl) rfl
theorem wd_315 : Cond.methodLink RX1 65 yX7_leanTimes ∈ TBg := tb_4 (List.mem_of_getElem? (i := 93) rfl) rfl
theorem wd_316 : Cond.methodLink RX1 34 yX1_allSo ∈ TBg := tb_4 (List.mem_of_getElem? (i := 94) rfl) rfl
theorem wd_317 : Cond.methodLink RX1 59 yX1_countOnce ∈ TBg := tb_4 (List.mem_of_getElem? (i := 98) rfl) rfl
theorem wd_318 : Cond.methodLink RL 235 yX9_forget ∈ TBg := tb_4 (List.mem_of_getElem? (i := 102) rfl) rfl
theorem wd_319 : Cond.methodLink RL 246 yX9_image ∈ TBg := tb_4 (List.mem_of_getElem? (i := 106) rfl) rfl
theorem wd_320 : Cond.methodLink RX9 377 yX5_become ∈ TBg := tb_4 (List.mem_of_getElem? (i := 110) rfl) rfl
theorem wd_321 : Cond.methodLink RX5 51 yX6_become ∈ TBg := tb_4 (List.mem_of_getElem? (i := 114) rfl) rfl
theorem wd_322 : Cond.methodLink RX5 55 yX0_become ∈ TBg := tb_4 (List.mem_of_getElem? (i := 115) rfl) rfl
theorem wd_323 : Cond.methodLink RX5 58 arraycopyName ∈ TBg := tb_4 (List.mem_of_getElem? (i := 119) rfl) rfl
theorem wd_324 : Cond.methodLink RL 250 yX9_restore ∈ TBg := tb_4 (List.mem_of_getElem? (i := 120) rfl) rfl
theorem wd_325 : Cond.methodLink RL 94 yL_town ∈ TBg := tb_4 (List.mem_of_getElem? (i := 124) rfl) rfl
theorem wd_326 : Cond.methodLink RL 7 yX9_town ∈ TBg := tb_4 (List.mem_of_getElem? (i := 128) rfl) rfl
theorem wd_327 : Cond.classLink RX9 88 "java/lang/IllegalArgumentException" ∈ TBg := tb_4 (List.mem_of_getElem? (i := 132) rfl) rfl
theorem wd_328 : Cond.methodLink RX9 95 yX3_read ∈ TBg := tb_4 (List.mem_of_getElem? (i := 198) rfl) rfl
theorem wd_329 : Cond.methodLink RX3 19 Lib.Math.min.name ∈ TBg := tb_4 (List.mem_of_getElem? (i := 202) rfl) rfl
theorem wd_330 : Cond.methodLink RX3 29 yX7_clear ∈ TBg := tb_4 (List.mem_of_getElem? (i := 203) rfl) rfl
theorem wd_331 : Cond.methodLink RX3 50 yX3_next ∈ TBg := tb_4 (List.mem_of_getElem? (i := 204) rfl) rfl
theorem wd_332 : Cond.methodLink RX3 192 yX3_isLetter ∈ TBg := tb_4 (List.mem_of_getElem? (i := 208) rfl) rfl
theorem wd_333 : Cond.methodLink RX3 196 yX3_isDigit ∈ TBg := tb_4 (List.mem_of_getElem? (i := 211) rfl) rfl
theorem wd_334 : Cond.methodLink RX3 201 yJ0_indexOf_0f7a4 ∈ TBg := tb_4 (List.mem_of_getElem? (i := 215) rfl) rfl
theorem wd_335 : Cond.methodLink RX3 56 yX3_line ∈ TBg := tb_5 (List.mem_of_getElem? (i := 57) rfl) rfl
theorem wd_336 : Cond.methodLink RX3 60 yX3_kindTold ∈ TBg := tb_5 (List.mem_of_getElem? (i := 61) rfl) rfl
theorem wd_337 : Cond.methodLink RX3 73 yX3_isWord ∈ TBg := tb_5 (List.mem_of_getElem? (i := 66) rfl) rfl
theorem wd_338 : Cond.methodLink RX3 184 yJ0_length_8abf5 ∈ TBg := tb_5 (List.mem_of_getElem? (i := 70) rfl) rfl
theorem wd_339 : Cond.methodLink RX3 188 yJ0_charAt_5068e ∈ TBg := tb_5 (List.mem_of_getElem? (i := 71) rfl) rfl
theorem wd_340 : Cond.methodLink RX3 64 yX3_tableLine ∈ TBg := tb_5 (List.mem_of_getElem? (i := 94) rfl) rfl
theorem wd_341 : Cond.methodLink RX3 90 yX3_fail ∈ TBg := tb_5 (List.mem_of_getElem? (i := 98) rfl) rfl
theorem wd_342 : Cond.methodLink RX3 96 yX3_readNumber ∈ TBg := tb_5 (List.mem_of_getElem? (i := 102) rfl) rfl
theorem wd_343 : Cond.methodLink RX3 99 yX3_isSign ∈ TBg := tb_5 (List.mem_of_getElem? (i := 106) rfl) rfl
theorem wd_344 : Cond.methodLink RX3 68 yX3_close ∈ TBg := tb_5 (List.mem_of_getElem? (i := 110) rfl) rfl
theorem wd_345 : Cond.methodLink RX3 77 yX3_limitLine ∈ TBg := tb_5 (List.mem_of_getElem? (i := 115) rfl) rfl
theorem wd_346 : Cond.methodLink RX3 82 yX3_foodLine ∈ TBg := tb_5 (List.mem_of_getElem? (i := 120) rfl) rfl
theorem wd_347 : Cond.methodLink RX3 87 yX3_takesLine ∈ TBg := tb_5 (List.mem_of_getElem? (i := 125) rfl) rfl
theorem wd_348 : Cond.methodLink RX3 129 yX3_expr ∈ TBg := tb_5 (List.mem_of_getElem? (i := 129) rfl) rfl
theorem wd_349 : Cond.methodLink RX3 132 yX3_and ∈ TBg := tb_5 (List.mem_of_getElem? (i := 133) rfl) rfl
theorem wd_350 : Cond.methodLink RX3 141 yX3_not ∈ TBg := tb_5 (List.mem_of_getElem? (i := 137) rfl) rfl
theorem wd_351 : Cond.methodLink RX3 146 yX3_test ∈ TBg := tb_5 (List.mem_of_getElem? (i := 142) rfl) rfl
theorem wd_352 : Cond.methodLink RX3 149 yX3_sum ∈ TBg := tb_5 (List.mem_of_getElem? (i := 146) rfl) rfl
theorem wd_353 : Cond.methodLink RX3 152 yX3_product ∈ TBg := tb_5 (List.mem_of_getElem? (i := 150) rfl) rfl
theorem wd_354 : Cond.methodLink RX3 155 yX3_part ∈ TBg := tb_5 (List.mem_of_getElem? (i := 154) rfl) rfl
theorem wd_355 : Cond.methodLink RX3 137 yX4_add ∈ TBg := tb_5 (List.mem_of_getElem? (i := 158) rfl) rfl
theorem wd_356 : Cond.methodLink RX3 164 yX3_valueTold ∈ TBg := tb_5 (List.mem_of_getElem? (i := 162) rfl) rfl
theorem wd_357 : Cond.methodLink RX9 102 yX5_refuse ∈ TBg := tb_5 (List.mem_of_getElem? (i := 174) rfl) rfl
theorem wd_358 : Cond.methodLink RX9 105 yX7_become ∈ TBg := tb_5 (List.mem_of_getElem? (i := 175) rfl) rfl
theorem wd_359 : Cond.methodLink RX7 50 arraycopyName ∈ TBg := tb_5 (List.mem_of_getElem? (i := 179) rfl) rfl
theorem wd_360 : Cond.methodLink RX7 56 yX4_become ∈ TBg := tb_5 (List.mem_of_getElem? (i := 180) rfl) rfl
theorem wd_361 : Cond.methodLink RX4 22 arraycopyName ∈ TBg := tb_5 (List.mem_of_getElem? (i := 184) rfl) rfl
theorem wd_362 : Cond.methodLink RX9 108 yX5_begin ∈ TBg := tb_5 (List.mem_of_getElem? (i := 185) rfl) rfl
theorem wd_363 : Cond.methodLink RX5 41 yX6_begin ∈ TBg := tb_5 (List.mem_of_getElem? (i := 189) rfl) rfl
theorem wd_364 : Cond.methodLink RL 108 yL_count ∈ TBg := tb_5 (List.mem_of_getElem? (i := 193) rfl) rfl
theorem wd_365 : Cond.methodLink RL 15 yX9_count ∈ TBg := tb_5 (List.mem_of_getElem? (i := 197) rfl) rfl
theorem wd_366 : Cond.methodLink RX9 125 yX6_stands ∈ TBg := tb_5 (List.mem_of_getElem? (i := 201) rfl) rfl
theorem wd_367 : Cond.methodLink RX9 129 yX6_breaksAt ∈ TBg := tb_5 (List.mem_of_getElem? (i := 202) rfl) rfl
theorem wd_368 : Cond.methodLink RX9 136 yX6_fullOnes ∈ TBg := tb_5 (List.mem_of_getElem? (i := 203) rfl) rfl
theorem wd_369 : Cond.classLink RX9 157 "java/util/NoSuchElementException" ∈ TBg := tb_5 (List.mem_of_getElem? (i := 207) rfl) rfl
theorem wd_370 : Cond.methodLink RL 111 yL_table ∈ TBg := tb_5 (List.mem_of_getElem? (i := 223) rfl) rfl
theorem wd_371 : Cond.methodLink RL 20 yX9_table ∈ TBg := tb_5 (List.mem_of_getElem? (i := 226) rfl) rfl
theorem wd_372 : Cond.methodLink RX9 162 yX9_needTable ∈ TBg := tb_5 (List.mem_of_getElem? (i := 230) rfl) rfl
theorem wd_373 : Cond.methodLink RX9 171 yX6_carriesOf ∈ TBg := tb_5 (List.mem_of_getElem? (i := 235) rfl) rfl
theorem wd_374 : Cond.methodLink RX9 187 yX6_levelOf ∈ TBg := tb_5 (List.mem_of_getElem? (i := 236) rfl) rfl
theorem wd_375 : Cond.methodLink RL 115 yL_level ∈ TBg := tb_5 (List.mem_of_getElem? (i := 238) rfl) rfl
theorem wd_376 : Cond.methodLink RL 24 yX9_level ∈ TBg := tb_6 (List.mem_of_getElem? (i := 1) rfl) rfl
theorem wd_377 : Cond.methodLink RX9 192 yX9_needLevel ∈ TBg := tb_6 (List.mem_of_getElem? (i := 5) rfl) rfl
theorem wd_378 : Cond.methodLink RX9 195 yX6_weigh ∈ TBg := tb_6 (List.mem_of_getElem? (i := 10) rfl) rfl
theorem wd_379 : Cond.methodLink RX9 210 yX6_holds ∈ TBg := tb_6 (List.mem_of_getElem? (i := 11) rfl) rfl
theorem wd_380 : Cond.methodLink RL 122 yL_put ∈ TBg := tb_6 (List.mem_of_getElem? (i := 13) rfl) rfl
theorem wd_381 : Cond.methodLink RL 27 yX9_put ∈ TBg := tb_6 (List.mem_of_getElem? (i := 16) rfl) rfl
theorem wd_382 : Cond.methodLink RX9 222 yX5_putOn ∈ TBg := tb_6 (List.mem_of_getElem? (i := 20) rfl) rfl
theorem wd_383 : Cond.methodLink RX5 64 yX6_levelOf ∈ TBg := tb_6 (List.mem_of_getElem? (i := 24) rfl) rfl
theorem wd_384 : Cond.methodLink RX5 74 yX6_insert ∈ TBg := tb_6 (List.mem_of_getElem? (i := 25) rfl) rfl
theorem wd_385 : Cond.methodLink RL 125 yL_take ∈ TBg := tb_6 (List.mem_of_getElem? (i := 26) rfl) rfl
theorem wd_386 : Cond.methodLink RL 30 yX9_take ∈ TBg := tb_6 (List.mem_of_getElem? (i := 29) rfl) rfl
theorem wd_387 : Cond.methodLink RX9 226 yX5_takeOff ∈ TBg := tb_6 (List.mem_of_getElem? (i := 33) rfl) rfl
theorem wd_388 : Cond.methodLink RX5 85 yX6_removeAt ∈ TBg := tb_6 (List.mem_of_getElem? (i := 37) rfl) rfl
theorem wd_389 : Cond.methodLink RL 128 yL_change ∈ TBg := tb_6 (List.mem_of_getElem? (i := 38) rfl) rfl
theorem wd_390 : Cond.methodLink RL 33 yX9_change ∈ TBg := tb_6 (List.mem_of_getElem? (i := 41) rfl) rfl
theorem wd_391 : Cond.methodLink RX9 229 yX5_changeLevels ∈ TBg := tb_6 (List.mem_of_getElem? (i := 45) rfl) rfl
theorem wd_392 : Cond.methodLink RX5 89 yX6_exchange ∈ TBg := tb_6 (List.mem_of_getElem? (i := 49) rfl) rfl
theorem wd_393 : Cond.methodLink RL 131 yL_wedge ∈ TBg := tb_6 (List.mem_of_getElem? (i := 50) rfl) rfl
theorem wd_394 : Cond.methodLink RL 37 yX9_wedge ∈ TBg := tb_6 (List.mem_of_getElem? (i := 53) rfl) rfl
theorem wd_395 : Cond.methodLink RX9 233 yX5_setWedge ∈ TBg := tb_6 (List.mem_of_getElem? (i := 57) rfl) rfl
theorem wd_396 : Cond.methodLink RL 134 yL_saw ∈ TBg := tb_6 (List.mem_of_getElem? (i := 61) rfl) rfl
theorem wd_397 : Cond.methodLink RL 40 yX9_saw ∈ TBg := tb_6 (List.mem_of_getElem? (i := 64) rfl) rfl
theorem wd_398 : Cond.methodLink RX9 236 yX5_setLean ∈ TBg := tb_6 (List.mem_of_getElem? (i := 68) rfl) rfl
theorem wd_399 : Cond.methodLink RL 153 yL_without ∈ TBg := tb_6 (List.mem_of_getElem? (i := 72) rfl) rfl
theorem wd_400 : Cond.methodLink RL 43 yX9_without ∈ TBg := tb_6 (List.mem_of_getElem? (i := 75) rfl) rfl
theorem wd_401 : Cond.methodLink RX9 251 yX8_roomWithout ∈ TBg := tb_6 (List.mem_of_getElem? (i := 79) rfl) rfl
theorem wd_402 : Cond.methodLink RL 156 yL_most ∈ TBg := tb_6 (List.mem_of_getElem? (i := 80) rfl) rfl
theorem wd_403 : Cond.methodLink RL 47 yX9_most ∈ TBg := tb_6 (List.mem_of_getElem? (i := 83) rfl) rfl
theorem wd_404 : Cond.methodLink RX9 256 yX2_findMost ∈ TBg := tb_6 (List.mem_of_getElem? (i := 88) rfl) rfl
theorem wd_405 : Cond.methodLink RX2 41 yX2_greatestSet ∈ TBg := tb_6 (List.mem_of_getElem? (i := 92) rfl) rfl
theorem wd_406 : Cond.methodLink RX2 53 yX2_fillRow ∈ TBg := tb_6 (List.mem_of_getElem? (i := 96) rfl) rfl
theorem wd_407 : Cond.methodLink RX9 262 yJ6_bitCount_0f7a4 ∈ TBg := tb_6 (List.mem_of_getElem? (i := 100) rfl) rfl
theorem wd_408 : Cond.methodLink RL 159 yL_row ∈ TBg := tb_6 (List.mem_of_getElem? (i := 101) rfl) rfl
theorem wd_409 : Cond.methodLink RL 50 yX9_row ∈ TBg := tb_6 (List.mem_of_getElem? (i := 104) rfl) rfl
theorem wd_410 : Cond.methodLink RL 179 yL_marry ∈ TBg := tb_6 (List.mem_of_getElem? (i := 109) rfl) rfl
theorem wd_411 : Cond.methodLink RL 53 yX9_marry ∈ TBg := tb_6 (List.mem_of_getElem? (i := 112) rfl) rfl
theorem wd_412 : Cond.methodLink RX9 287 yX6_canMarry ∈ TBg := tb_6 (List.mem_of_getElem? (i := 117) rfl) rfl
theorem wd_413 : Cond.methodLink RL 182 yL_nod ∈ TBg := tb_6 (List.mem_of_getElem? (i := 118) rfl) rfl
theorem wd_414 : Cond.methodLink RL 56 yX9_nod ∈ TBg := tb_6 (List.mem_of_getElem? (i := 121) rfl) rfl
theorem wd_415 : Cond.methodLink RX9 290 yX9_needTableInTower ∈ TBg := tb_6 (List.mem_of_getElem? (i := 125) rfl) rfl
theorem wd_416 : Cond.methodLink RX9 295 yX8_breaksFed ∈ TBg := tb_6 (List.mem_of_getElem? (i := 131) rfl) rfl
theorem wd_417 : Cond.methodLink RL 189 yL_out ∈ TBg := tb_6 (List.mem_of_getElem? (i := 135) rfl) rfl
theorem wd_418 : Cond.methodLink RL 59 yX9_out ∈ TBg := tb_6 (List.mem_of_getElem? (i := 138) rfl) rfl
theorem wd_419 : Cond.methodLink RX9 301 yX8_fewestOthersOut ∈ TBg := tb_6 (List.mem_of_getElem? (i := 142) rfl) rfl
theorem wd_420 : Cond.methodLink RX8 62 yX6_inIt ∈ TBg := tb_6 (List.mem_of_getElem? (i := 146) rfl) rfl
theorem wd_421 : Cond.methodLink RX8 65 yJ6_bitCount_0f7a4 ∈ TBg := tb_6 (List.mem_of_getElem? (i := 147) rfl) rfl
theorem wd_422 : Cond.methodLink RX8 70 yX8_standsWithout ∈ TBg := tb_6 (List.mem_of_getElem? (i := 148) rfl) rfl
theorem wd_423 : Cond.methodLink RL 196 yL_lifted ∈ TBg := tb_6 (List.mem_of_getElem? (i := 152) rfl) rfl
theorem wd_424 : Cond.methodLink RL 62 yX9_lifted ∈ TBg := tb_6 (List.mem_of_getElem? (i := 155) rfl) rfl
theorem wd_425 : Cond.methodLink RL 203 yL_slack ∈ TBg := tb_6 (List.mem_of_getElem? (i := 160) rfl) rfl
theorem wd_426 : Cond.methodLink RL 66 yX9_slack ∈ TBg := tb_6 (List.mem_of_getElem? (i := 163) rfl) rfl
theorem wd_427 : Cond.methodLink RX9 312 yX6_slackAt ∈ TBg := tb_6 (List.mem_of_getElem? (i := 167) rfl) rfl
theorem wd_428 : Cond.methodLink RL 206 yL_broken ∈ TBg := tb_6 (List.mem_of_getElem? (i := 168) rfl) rfl
theorem wd_429 : Cond.methodLink RL 69 yX9_broken ∈ TBg := tb_6 (List.mem_of_getElem? (i := 171) rfl) rfl
theorem wd_430 : Cond.methodLink RX9 315 yX8_breaksIn ∈ TBg := tb_6 (List.mem_of_getElem? (i := 175) rfl) rfl
theorem wd_431 : Cond.methodLink RL 213 yL_top ∈ TBg := tb_6 (List.mem_of_getElem? (i := 176) rfl) rfl
theorem wd_432 : Cond.methodLink RL 72 yX9_top ∈ TBg := tb_6 (List.mem_of_getElem? (i := 179) rfl) rfl
theorem wd_433 : Cond.methodLink RX9 323 yX8_topMeal ∈ TBg := tb_6 (List.mem_of_getElem? (i := 184) rfl) rfl
theorem wd_434 : Cond.methodLink RX8 100 yX6_serve ∈ TBg := tb_6 (List.mem_of_getElem? (i := 188) rfl) rfl
theorem wd_435 : Cond.methodLink RL 228 yL_which ∈ TBg := tb_6 (List.mem_of_getElem? (i := 189) rfl) rfl
theorem wd_436 : Cond.methodLink RL 75 yX9_which ∈ TBg := tb_6 (List.mem_of_getElem? (i := 192) rfl) rfl
theorem wd_437 : Cond.methodLink RX9 335 yX1_howMany ∈ TBg := tb_6 (List.mem_of_getElem? (i := 196) rfl) rfl
theorem wd_438 : Cond.methodLink RX9 338 yX1_first ∈ TBg := tb_6 (List.mem_of_getElem? (i := 200) rfl) rfl
theorem wd_439 : Cond.methodLink RX9 341 yX1_soWithout ∈ TBg := tb_6 (List.mem_of_getElem? (i := 204) rfl) rfl
theorem wd_440 : Cond.methodLink RL 239 yL_game ∈ TBg := tb_6 (List.mem_of_getElem? (i := 209) rfl) rfl
theorem wd_441 : Cond.methodLink RL 78 yX9_game ∈ TBg := tb_6 (List.mem_of_getElem? (i := 212) rfl) rfl
theorem wd_442 : Cond.methodLink RX9 351 yX8_play ∈ TBg := tb_6 (List.mem_of_getElem? (i := 217) rfl) rfl
theorem wd_443 : Cond.methodLink RX8 137 yX8_fillEatable ∈ TBg := tb_6 (List.mem_of_getElem? (i := 221) rfl) rfl
theorem wd_444 : Cond.methodLink RX8 140 yX8_rests ∈ TBg := tb_6 (List.mem_of_getElem? (i := 225) rfl) rfl
theorem wd_445 : Cond.methodLink RX8 144 yX8_gain ∈ TBg := tb_6 (List.mem_of_getElem? (i := 229) rfl) rfl
theorem wd_446 : Cond.methodLink RL 242 yL_decades ∈ TBg := tb_6 (List.mem_of_getElem? (i := 233) rfl) rfl
theorem wd_447 : Cond.methodLink RL 81 yX9_decades ∈ TBg := tb_6 (List.mem_of_getElem? (i := 236) rfl) rfl
theorem wd_448 : Cond.methodLink RX9 364 yX8_live ∈ TBg := tb_7 (List.mem_of_getElem? (i := 2) rfl) rfl
theorem wd_449 : Cond.methodLink RX8 157 yX8_liveAYear ∈ TBg := tb_7 (List.mem_of_getElem? (i := 6) rfl) rfl
theorem wd_450 : Cond.methodLink RX8 169 yX8_draw ∈ TBg := tb_7 (List.mem_of_getElem? (i := 10) rfl) rfl
theorem wd_451 : Cond.constant RX8 178 (1103515245) ∈ TBg := tb_7 (List.mem_of_getElem? (i := 14) rfl) rfl
theorem wd_452 : Cond.methodLink RX8 172 Lib.Math.max.name ∈ TBg := tb_7 (List.mem_of_getElem? (i := 15) rfl) rfl
theorem wd_453 : Cond.methodLink RX8 160 yX6_weigh ∈ TBg := tb_7 (List.mem_of_getElem? (i := 16) rfl) rfl
theorem wd_454 : Cond.classLink RL 86 RX10 ∈ TBg := tb_7 (List.mem_of_getElem? (i := 17) rfl) rfl
theorem wd_455 : Cond.methodLink RL 88 yX10_init ∈ TBg := tb_7 (List.mem_of_getElem? (i := 19) rfl) rfl
theorem wd_456 : Cond.methodLink RX10 3 objectInit ∈ TBg := tb_7 (List.mem_of_getElem? (i := 22) rfl) rfl
theorem wd_457 : Cond.classLink RX10 9 RJ0 ∈ TBg := tb_7 (List.mem_of_getElem? (i := 23) rfl) rfl
theorem wd_458 : Cond.fieldLink RX10 19 "TableTowerModel" "kinds" "[Ljava/lang/String;" ∈ TBg := tb_7 (List.mem_of_getElem? (i := 35) rfl) rfl
theorem wd_459 : Cond.fieldLink RX10 35 "TableTowerModel" "values" "[Ljava/lang/String;" ∈ TBg := tb_7 (List.mem_of_getElem? (i := 36) rfl) rfl
theorem wd_460 : Cond.fieldLink RX10 38 "TableTowerModel" "wormOf" "[I" ∈ TBg := tb_7 (List.mem_of_getElem? (i := 37) rfl) rfl
theorem wd_461 : Cond.fieldLink RX10 143 "TableTowerModel" "code" "I" ∈ TBg := tb_7 (List.mem_of_getElem? (i := 38) rfl) rfl
theorem wd_462 : Cond.fieldLink RX10 42 "TableTowerModel" "told" "[I" ∈ TBg := tb_7 (List.mem_of_getElem? (i := 39) rfl) rfl
theorem wd_463 : Cond.fieldLink RX10 45 "TableTowerModel" "kind" "[I" ∈ TBg := tb_7 (List.mem_of_getElem? (i := 40) rfl) rfl
theorem wd_464 : Cond.fieldLink RX10 47 "TableTowerModel" "weight" "[I" ∈ TBg := tb_7 (List.mem_of_getElem? (i := 41) rfl) rfl
theorem wd_465 : Cond.fieldLink RX10 49 "TableTowerModel" "bears" "[I" ∈ TBg := tb_7 (List.mem_of_getElem? (i := 42) rfl) rfl
theorem wd_466 : Cond.fieldLink RX10 52 "TableTowerModel" "leanTold" "[I" ∈ TBg := tb_7 (List.mem_of_getElem? (i := 43) rfl) rfl
theorem wd_467 : Cond.fieldLink RX10 55 "TableTowerModel" "hunger" "[I" ∈ TBg := tb_7 (List.mem_of_getElem? (i := 44) rfl) rfl
theorem wd_468 : Cond.fieldLink RX10 57 "TableTowerModel" "signs" "[I" ∈ TBg := tb_7 (List.mem_of_getElem? (i := 45) rfl) rfl
theorem wd_469 : Cond.fieldLink RX10 60 "TableTowerModel" "status" "[I" ∈ TBg := tb_7 (List.mem_of_getElem? (i := 46) rfl) rfl
theorem wd_470 : Cond.fieldLink RX10 63 "TableTowerModel" "tape" "[I" ∈ TBg := tb_7 (List.mem_of_getElem? (i := 47) rfl) rfl
theorem wd_471 : Cond.fieldLink RX10 153 "TableTowerModel" "taped" "I" ∈ TBg := tb_7 (List.mem_of_getElem? (i := 48) rfl) rfl
theorem wd_472 : Cond.fieldLink RX10 159 "TableTowerModel" "at" "I" ∈ TBg := tb_7 (List.mem_of_getElem? (i := 49) rfl) rfl
theorem wd_473 : Cond.fieldLink RX10 156 "TableTowerModel" "size" "I" ∈ TBg := tb_7 (List.mem_of_getElem? (i := 50) rfl) rfl
theorem wd_474 : Cond.fieldLink RX10 169 "TableTowerModel" "token" "I" ∈ TBg := tb_7 (List.mem_of_getElem? (i := 51) rfl) rfl
theorem wd_475 : Cond.fieldLink RX10 179 "TableTowerModel" "number" "I" ∈ TBg := tb_7 (List.mem_of_getElem? (i := 52) rfl) rfl
theorem wd_476 : Cond.fieldLink RX10 166 "TableTowerModel" "begins" "I" ∈ TBg := tb_7 (List.mem_of_getElem? (i := 53) rfl) rfl
theorem wd_477 : Cond.fieldLink RX10 192 "TableTowerModel" "stops" "I" ∈ TBg := tb_7 (List.mem_of_getElem? (i := 54) rfl) rfl
theorem wd_478 : Cond.fieldLink RX10 195 "TableTowerModel" "bad" "I" ∈ TBg := tb_7 (List.mem_of_getElem? (i := 55) rfl) rfl
theorem wd_479 : Cond.fieldLink RX10 198 "TableTowerModel" "badPlace" "I" ∈ TBg := tb_7 (List.mem_of_getElem? (i := 56) rfl) rfl
theorem wd_480 : Cond.fieldLink RX10 66 "TableTowerModel" "faultPlace" "I" ∈ TBg := tb_7 (List.mem_of_getElem? (i := 57) rfl) rfl
theorem wd_481 : Cond.fieldLink RX10 70 "TableTowerModel" "tower" "[I" ∈ TBg := tb_7 (List.mem_of_getElem? (i := 58) rfl) rfl
theorem wd_482 : Cond.fieldLink RX10 73 "TableTowerModel" "meals" "[I" ∈ TBg := tb_7 (List.mem_of_getElem? (i := 59) rfl) rfl
theorem wd_483 : Cond.fieldLink RX10 76 "TableTowerModel" "wedge" "[I" ∈ TBg := tb_7 (List.mem_of_getElem? (i := 60) rfl) rfl
theorem wd_484 : Cond.fieldLink RX10 79 "TableTowerModel" "lean" "[I" ∈ TBg := tb_7 (List.mem_of_getElem? (i := 61) rfl) rfl
theorem wd_485 : Cond.fieldLink RX10 82 "TableTowerModel" "past" "[I" ∈ TBg := tb_7 (List.mem_of_getElem? (i := 62) rfl) rfl
theorem wd_486 : Cond.fieldLink RX10 150 "TableTowerModel" "height" "I" ∈ TBg := tb_7 (List.mem_of_getElem? (i := 63) rfl) rfl
theorem wd_487 : Cond.fieldLink RX10 282 "TableTowerModel" "gone" "I" ∈ TBg := tb_7 (List.mem_of_getElem? (i := 64) rfl) rfl
theorem wd_488 : Cond.fieldLink RX10 85 "TableTowerModel" "crumbs" "I" ∈ TBg := tb_7 (List.mem_of_getElem? (i := 65) rfl) rfl
theorem wd_489 : Cond.fieldLink RX10 285 "TableTowerModel" "acts" "I" ∈ TBg := tb_7 (List.mem_of_getElem? (i := 66) rfl) rfl
theorem wd_490 : Cond.fieldLink RX10 288 "TableTowerModel" "seen" "I" ∈ TBg := tb_7 (List.mem_of_getElem? (i := 67) rfl) rfl
theorem wd_491 : Cond.fieldLink RX10 88 "TableTowerModel" "asked" "[I" ∈ TBg := tb_7 (List.mem_of_getElem? (i := 68) rfl) rfl
theorem wd_492 : Cond.fieldLink RX10 91 "TableTowerModel" "stack" "[I" ∈ TBg := tb_7 (List.mem_of_getElem? (i := 69) rfl) rfl
theorem wd_493 : Cond.fieldLink RX10 94 "TableTowerModel" "rowThen" "[I" ∈ TBg := tb_7 (List.mem_of_getElem? (i := 70) rfl) rfl
theorem wd_494 : Cond.fieldLink RX10 97 "TableTowerModel" "weights" "[I" ∈ TBg := tb_7 (List.mem_of_getElem? (i := 71) rfl) rfl
theorem wd_495 : Cond.fieldLink RX10 100 "TableTowerModel" "tilts" "[I" ∈ TBg := tb_7 (List.mem_of_getElem? (i := 72) rfl) rfl
theorem wd_496 : Cond.fieldLink RX10 103 "TableTowerModel" "ways" "[J" ∈ TBg := tb_7 (List.mem_of_getElem? (i := 73) rfl) rfl
theorem wd_497 : Cond.fieldLink RX10 392 "TableTowerModel" "lifted" "I" ∈ TBg := tb_7 (List.mem_of_getElem? (i := 74) rfl) rfl
theorem wd_498 : Cond.fieldLink RX10 402 "TableTowerModel" "sea" "I" ∈ TBg := tb_7 (List.mem_of_getElem? (i := 75) rfl) rfl
theorem wd_499 : Cond.fieldLink RX10 107 "TableTowerModel" "few" "[I" ∈ TBg := tb_7 (List.mem_of_getElem? (i := 76) rfl) rfl
theorem wd_500 : Cond.fieldLink RX10 110 "TableTowerModel" "fewer" "[I" ∈ TBg := tb_7 (List.mem_of_getElem? (i := 77) rfl) rfl
theorem wd_501 : Cond.fieldLink RX10 113 "TableTowerModel" "seenLevel" "[I" ∈ TBg := tb_7 (List.mem_of_getElem? (i := 78) rfl) rfl
theorem wd_502 : Cond.fieldLink RX10 116 "TableTowerModel" "seenTilt" "[I" ∈ TBg := tb_7 (List.mem_of_getElem? (i := 79) rfl) rfl
theorem wd_503 : Cond.fieldLink RX10 119 "TableTowerModel" "fitTable" "[I" ∈ TBg := tb_7 (List.mem_of_getElem? (i := 80) rfl) rfl
theorem wd_504 : Cond.fieldLink RX10 122 "TableTowerModel" "fitLean" "[I" ∈ TBg := tb_7 (List.mem_of_getElem? (i := 81) rfl) rfl
theorem wd_505 : Cond.fieldLink RX10 442 "TableTowerModel" "fitMany" "I" ∈ TBg := tb_7 (List.mem_of_getElem? (i := 82) rfl) rfl
theorem wd_506 : Cond.fieldLink RX10 125 "TableTowerModel" "tiltOf" "[I" ∈ TBg := tb_7 (List.mem_of_getElem? (i := 83) rfl) rfl
theorem wd_507 : Cond.fieldLink RX10 462 "TableTowerModel" "seedNow" "I" ∈ TBg := tb_7 (List.mem_of_getElem? (i := 84) rfl) rfl
theorem wd_508 : Cond.fieldLink RX10 291 "TableTowerModel" "hasImage" "Z" ∈ TBg := tb_7 (List.mem_of_getElem? (i := 85) rfl) rfl
theorem wd_509 : Cond.fieldLink RX10 474 "TableTowerModel" "actsThen" "I" ∈ TBg := tb_7 (List.mem_of_getElem? (i := 86) rfl) rfl
theorem wd_510 : Cond.fieldLink RX10 477 "TableTowerModel" "seenThen" "I" ∈ TBg := tb_7 (List.mem_of_getElem? (i := 87) rfl) rfl
theorem wd_511 : Cond.fieldLink RX10 128 "TableTowerModel" "imageRow" "[I" ∈ TBg := tb_7 (List.mem_of_getElem? (i := 88) rfl) rfl
theorem wd_512 : Cond.fieldLink RX10 131 "TableTowerModel" "pastThen" "[I" ∈ TBg := tb_7 (List.mem_of_getElem? (i := 89) rfl) rfl
theorem wd_513 : Cond.fieldLink RX10 134 "TableTowerModel" "seenLevelThen" "[I" ∈ TBg := tb_7 (List.mem_of_getElem? (i := 90) rfl) rfl
theorem wd_514 : Cond.fieldLink RX10 137 "TableTowerModel" "seenTiltThen" "[I" ∈ TBg := tb_7 (List.mem_of_getElem? (i := 91) rfl) rfl
theorem wd_515 : Cond.fieldLink RX10 140 "TableTowerModel" "statusThen" "[I" ∈ TBg := tb_7 (List.mem_of_getElem? (i := 92) rfl) rfl
theorem wd_516 : Cond.methodLink RL 100 yX10_thrown ∈ TBg := tb_7 (List.mem_of_getElem? (i := 211) rfl) rfl
theorem wd_517 : Cond.methodLink RL 93 yX10_feed ∈ TBg := tb_7 (List.mem_of_getElem? (i := 215) rfl) rfl
theorem wd_518 : Cond.methodLink RL 99 yX10_town ∈ TBg := tb_7 (List.mem_of_getElem? (i := 219) rfl) rfl
theorem wd_519 : Cond.methodLink RX10 269 yX10_fail ∈ TBg := tb_7 (List.mem_of_getElem? (i := 223) rfl) rfl
theorem wd_520 : Cond.methodLink RX10 220 yX10_stepOn ∈ TBg := tb_7 (List.mem_of_getElem? (i := 227) rfl) rfl
theorem wd_521 : Cond.methodLink RX10 162 yX10_byteAt ∈ TBg := tb_7 (List.mem_of_getElem? (i := 231) rfl) rfl
theorem wd_522 : Cond.methodLink RX10 172 yX10_isLetter ∈ TBg := tb_7 (List.mem_of_getElem? (i := 235) rfl) rfl
theorem wd_523 : Cond.methodLink RX10 176 yX10_isDigit ∈ TBg := tb_7 (List.mem_of_getElem? (i := 238) rfl) rfl
theorem wd_524 : Cond.constant RX10 182 (100000) ∈ TBg := tb_8 (List.mem_of_getElem? (i := 1) rfl) rfl
theorem wd_525 : Cond.methodLink RX10 183 Lib.Math.min.name ∈ TBg := tb_8 (List.mem_of_getElem? (i := 2) rfl) rfl
theorem wd_526 : Cond.methodLink RX10 189 yX10_isMark ∈ TBg := tb_8 (List.mem_of_getElem? (i := 3) rfl) rfl
theorem wd_527 : Cond.methodLink RX10 272 yX10_readLine ∈ TBg := tb_8 (List.mem_of_getElem? (i := 6) rfl) rfl
theorem wd_528 : Cond.methodLink RX10 209 yX10_is ∈ TBg := tb_8 (List.mem_of_getElem? (i := 11) rfl) rfl
theorem wd_529 : Cond.methodLink RX10 201 yJ0_length_8abf5 ∈ TBg := tb_8 (List.mem_of_getElem? (i := 15) rfl) rfl
theorem wd_530 : Cond.methodLink RX10 205 yJ0_charAt_5068e ∈ TBg := tb_8 (List.mem_of_getElem? (i := 16) rfl) rfl
theorem wd_531 : Cond.methodLink RX10 229 yX10_wordOf ∈ TBg := tb_8 (List.mem_of_getElem? (i := 19) rfl) rfl
theorem wd_532 : Cond.methodLink RX10 216 yX10_wrong ∈ TBg := tb_8 (List.mem_of_getElem? (i := 23) rfl) rfl
theorem wd_533 : Cond.methodLink RX10 223 yX10_readNumber ∈ TBg := tb_8 (List.mem_of_getElem? (i := 27) rfl) rfl
theorem wd_534 : Cond.methodLink RX10 236 yX10_readExpression ∈ TBg := tb_8 (List.mem_of_getElem? (i := 31) rfl) rfl
theorem wd_535 : Cond.methodLink RX10 213 yX10_isMarked ∈ TBg := tb_8 (List.mem_of_getElem? (i := 35) rfl) rfl
theorem wd_536 : Cond.methodLink RX10 255 yX10_readAnd ∈ TBg := tb_8 (List.mem_of_getElem? (i := 39) rfl) rfl
theorem wd_537 : Cond.methodLink RX10 250 yX10_readNot ∈ TBg := tb_8 (List.mem_of_getElem? (i := 43) rfl) rfl
theorem wd_538 : Cond.methodLink RX10 247 yX10_readSum ∈ TBg := tb_8 (List.mem_of_getElem? (i := 48) rfl) rfl
theorem wd_539 : Cond.methodLink RX10 242 yX10_readProduct ∈ TBg := tb_8 (List.mem_of_getElem? (i := 52) rfl) rfl
theorem wd_540 : Cond.methodLink RX10 239 yX10_readPart ∈ TBg := tb_8 (List.mem_of_getElem? (i := 56) rfl) rfl
theorem wd_541 : Cond.methodLink RX10 226 yX10_lay ∈ TBg := tb_8 (List.mem_of_getElem? (i := 60) rfl) rfl
theorem wd_542 : Cond.methodLink RX10 233 yX10_mark ∈ TBg := tb_8 (List.mem_of_getElem? (i := 64) rfl) rfl
theorem wd_543 : Cond.methodLink RX10 266 yX10_readTable ∈ TBg := tb_8 (List.mem_of_getElem? (i := 70) rfl) rfl
theorem wd_544 : Cond.methodLink RX10 275 yX10_takeOver ∈ TBg := tb_8 (List.mem_of_getElem? (i := 74) rfl) rfl
theorem wd_545 : Cond.methodLink RX10 278 yX10_takeHalf ∈ TBg := tb_8 (List.mem_of_getElem? (i := 78) rfl) rfl
theorem wd_546 : Cond.methodLink RL 107 yX10_fault ∈ TBg := tb_8 (List.mem_of_getElem? (i := 81) rfl) rfl
theorem wd_547 : Cond.methodLink RL 110 yX10_count ∈ TBg := tb_8 (List.mem_of_getElem? (i := 85) rfl) rfl
theorem wd_548 : Cond.methodLink RX10 326 yX10_stands ∈ TBg := tb_8 (List.mem_of_getElem? (i := 89) rfl) rfl
theorem wd_549 : Cond.methodLink RX10 323 yX10_breaksAt ∈ TBg := tb_8 (List.mem_of_getElem? (i := 93) rfl) rfl
theorem wd_550 : Cond.methodLink RX10 320 yX10_isHeld ∈ TBg := tb_8 (List.mem_of_getElem? (i := 97) rfl) rfl
theorem wd_551 : Cond.methodLink RX10 308 yX10_loadOn ∈ TBg := tb_8 (List.mem_of_getElem? (i := 101) rfl) rfl
theorem wd_552 : Cond.methodLink RX10 311 yX10_carriedBy ∈ TBg := tb_8 (List.mem_of_getElem? (i := 105) rfl) rfl
theorem wd_553 : Cond.methodLink RX10 301 yX10_carries ∈ TBg := tb_8 (List.mem_of_getElem? (i := 109) rfl) rfl
theorem wd_554 : Cond.methodLink RX10 295 yX10_worm ∈ TBg := tb_8 (List.mem_of_getElem? (i := 113) rfl) rfl
theorem wd_555 : Cond.methodLink RX10 298 Lib.Math.max.name ∈ TBg := tb_8 (List.mem_of_getElem? (i := 117) rfl) rfl
theorem wd_556 : Cond.methodLink RX10 314 yX10_tiltAt ∈ TBg := tb_8 (List.mem_of_getElem? (i := 118) rfl) rfl
theorem wd_557 : Cond.methodLink RX10 305 yX10_turns ∈ TBg := tb_8 (List.mem_of_getElem? (i := 122) rfl) rfl
theorem wd_558 : Cond.methodLink RX10 317 Lib.Math.abs.name ∈ TBg := tb_8 (List.mem_of_getElem? (i := 126) rfl) rfl
theorem wd_559 : Cond.methodLink RX10 330 yX10_fullNow ∈ TBg := tb_8 (List.mem_of_getElem? (i := 127) rfl) rfl
theorem wd_560 : Cond.methodLink RL 114 yX10_table ∈ TBg := tb_8 (List.mem_of_getElem? (i := 131) rfl) rfl
theorem wd_561 : Cond.methodLink RX10 333 yX10_isTable ∈ TBg := tb_8 (List.mem_of_getElem? (i := 135) rfl) rfl
theorem wd_562 : Cond.methodLink RX10 146 yX10_isIn ∈ TBg := tb_8 (List.mem_of_getElem? (i := 139) rfl) rfl
theorem wd_563 : Cond.methodLink RX10 336 yX10_levelOf ∈ TBg := tb_8 (List.mem_of_getElem? (i := 142) rfl) rfl
theorem wd_564 : Cond.methodLink RL 121 yX10_by ∈ TBg := tb_8 (List.mem_of_getElem? (i := 146) rfl) rfl
theorem wd_565 : Cond.methodLink RX10 339 yX10_inTower ∈ TBg := tb_8 (List.mem_of_getElem? (i := 150) rfl) rfl
theorem wd_566 : Cond.methodLink RL 117 yX10_level ∈ TBg := tb_8 (List.mem_of_getElem? (i := 154) rfl) rfl
theorem wd_567 : Cond.methodLink RX10 342 yX10_isLevel ∈ TBg := tb_8 (List.mem_of_getElem? (i := 158) rfl) rfl
theorem wd_568 : Cond.constantLong RX10 345 (4) ∈ TBg := tb_8 (List.mem_of_getElem? (i := 162) rfl) rfl
theorem wd_569 : Cond.methodLink RL 124 yX10_put ∈ TBg := tb_8 (List.mem_of_getElem? (i := 163) rfl) rfl
theorem wd_570 : Cond.methodLink RX10 351 yX10_refuse ∈ TBg := tb_8 (List.mem_of_getElem? (i := 167) rfl) rfl
theorem wd_571 : Cond.methodLink RX10 354 yX10_keep ∈ TBg := tb_8 (List.mem_of_getElem? (i := 171) rfl) rfl
theorem wd_572 : Cond.methodLink RX10 347 yX10_pack ∈ TBg := tb_8 (List.mem_of_getElem? (i := 175) rfl) rfl
theorem wd_573 : Cond.methodLink RL 127 yX10_take ∈ TBg := tb_8 (List.mem_of_getElem? (i := 179) rfl) rfl
theorem wd_574 : Cond.methodLink RX10 357 yX10_takeOff ∈ TBg := tb_8 (List.mem_of_getElem? (i := 183) rfl) rfl
theorem wd_575 : Cond.methodLink RL 130 yX10_change ∈ TBg := tb_8 (List.mem_of_getElem? (i := 187) rfl) rfl
theorem wd_576 : Cond.methodLink RX10 360 yX10_failing ∈ TBg := tb_8 (List.mem_of_getElem? (i := 191) rfl) rfl
theorem wd_577 : Cond.methodLink RX10 363 yX10_exchange ∈ TBg := tb_8 (List.mem_of_getElem? (i := 195) rfl) rfl
theorem wd_578 : Cond.methodLink RL 133 yX10_wedge ∈ TBg := tb_8 (List.mem_of_getElem? (i := 199) rfl) rfl
theorem wd_579 : Cond.constantLong RX10 367 (-9) ∈ TBg := tb_8 (List.mem_of_getElem? (i := 203) rfl) rfl
theorem wd_580 : Cond.constantLong RX10 369 (9) ∈ TBg := tb_8 (List.mem_of_getElem? (i := 204) rfl) rfl
theorem wd_581 : Cond.methodLink RX10 371 yX10_refuseFar ∈ TBg := tb_8 (List.mem_of_getElem? (i := 205) rfl) rfl
theorem wd_582 : Cond.methodLink RL 136 yX10_saw ∈ TBg := tb_8 (List.mem_of_getElem? (i := 209) rfl) rfl
theorem wd_583 : Cond.methodLink RL 140 yX10_supper ∈ TBg := tb_8 (List.mem_of_getElem? (i := 213) rfl) rfl
theorem wd_584 : Cond.methodLink RX10 381 yX10_eat ∈ TBg := tb_8 (List.mem_of_getElem? (i := 217) rfl) rfl
theorem wd_585 : Cond.methodLink RX10 378 yX10_valueNow ∈ TBg := tb_8 (List.mem_of_getElem? (i := 221) rfl) rfl
theorem wd_586 : Cond.methodLink RX10 374 yX10_reckon ∈ TBg := tb_8 (List.mem_of_getElem? (i := 225) rfl) rfl
theorem wd_587 : Cond.methodLink RL 144 yX10_years ∈ TBg := tb_8 (List.mem_of_getElem? (i := 228) rfl) rfl
theorem wd_588 : Cond.constantLong RX10 384 (30) ∈ TBg := tb_8 (List.mem_of_getElem? (i := 232) rfl) rfl
theorem wd_589 : Cond.methodLink RL 148 yX10_undo ∈ TBg := tb_8 (List.mem_of_getElem? (i := 233) rfl) rfl
theorem wd_590 : Cond.methodLink RX10 386 yX10_unpack ∈ TBg := tb_8 (List.mem_of_getElem? (i := 237) rfl) rfl
theorem wd_591 : Cond.methodLink RL 152 yX10_more ∈ TBg := tb_9 (List.mem_of_getElem? (i := 1) rfl) rfl
theorem wd_592 : Cond.methodLink RX10 389 yX10_moreNow ∈ TBg := tb_9 (List.mem_of_getElem? (i := 5) rfl) rfl
theorem wd_593 : Cond.methodLink RL 155 yX10_without ∈ TBg := tb_9 (List.mem_of_getElem? (i := 9) rfl) rfl
theorem wd_594 : Cond.methodLink RL 158 yX10_most ∈ TBg := tb_9 (List.mem_of_getElem? (i := 13) rfl) rfl
theorem wd_595 : Cond.methodLink RX10 415 yX10_mostSet ∈ TBg := tb_9 (List.mem_of_getElem? (i := 17) rfl) rfl
theorem wd_596 : Cond.methodLink RX10 409 yX10_tellSums ∈ TBg := tb_9 (List.mem_of_getElem? (i := 21) rfl) rfl
theorem wd_597 : Cond.methodLink RX10 399 yX10_bitsOf ∈ TBg := tb_9 (List.mem_of_getElem? (i := 25) rfl) rfl
theorem wd_598 : Cond.methodLink RX10 412 yX10_tellWays ∈ TBg := tb_9 (List.mem_of_getElem? (i := 28) rfl) rfl
theorem wd_599 : Cond.methodLink RX10 395 yX10_isOf ∈ TBg := tb_9 (List.mem_of_getElem? (i := 32) rfl) rfl
theorem wd_600 : Cond.methodLink RX10 405 yX10_fits ∈ TBg := tb_9 (List.mem_of_getElem? (i := 35) rfl) rfl
theorem wd_601 : Cond.methodLink RL 161 yX10_row ∈ TBg := tb_9 (List.mem_of_getElem? (i := 39) rfl) rfl
theorem wd_602 : Cond.methodLink RL 166 yX10_orders ∈ TBg := tb_9 (List.mem_of_getElem? (i := 43) rfl) rfl
theorem wd_603 : Cond.methodLink RX10 418 yX10_ordersOf ∈ TBg := tb_9 (List.mem_of_getElem? (i := 47) rfl) rfl
theorem wd_604 : Cond.methodLink RL 198 yX10_lifted ∈ TBg := tb_9 (List.mem_of_getElem? (i := 51) rfl) rfl
theorem wd_605 : Cond.constantLong RX10 422 (10) ∈ TBg := tb_9 (List.mem_of_getElem? (i := 55) rfl) rfl
theorem wd_606 : Cond.methodLink RL 170 yX10_wedges ∈ TBg := tb_9 (List.mem_of_getElem? (i := 56) rfl) rfl
theorem wd_607 : Cond.methodLink RX10 424 yX10_wedgeLevel ∈ TBg := tb_9 (List.mem_of_getElem? (i := 60) rfl) rfl
theorem wd_608 : Cond.methodLink RL 174 yX10_when ∈ TBg := tb_9 (List.mem_of_getElem? (i := 64) rfl) rfl
theorem wd_609 : Cond.methodLink RL 208 yX10_broken ∈ TBg := tb_9 (List.mem_of_getElem? (i := 68) rfl) rfl
theorem wd_610 : Cond.constantLong RX10 427 (99) ∈ TBg := tb_9 (List.mem_of_getElem? (i := 72) rfl) rfl
theorem wd_611 : Cond.methodLink RL 181 yX10_marry ∈ TBg := tb_9 (List.mem_of_getElem? (i := 73) rfl) rfl
theorem wd_612 : Cond.methodLink RX10 429 yX10_canMarry ∈ TBg := tb_9 (List.mem_of_getElem? (i := 77) rfl) rfl
theorem wd_613 : Cond.methodLink RL 178 yX10_marriages ∈ TBg := tb_9 (List.mem_of_getElem? (i := 81) rfl) rfl
theorem wd_614 : Cond.methodLink RX10 432 yX10_couplesOf ∈ TBg := tb_9 (List.mem_of_getElem? (i := 85) rfl) rfl
theorem wd_615 : Cond.methodLink RL 184 yX10_nod ∈ TBg := tb_9 (List.mem_of_getElem? (i := 89) rfl) rfl
theorem wd_616 : Cond.methodLink RL 188 yX10_fair ∈ TBg := tb_9 (List.mem_of_getElem? (i := 93) rfl) rfl
theorem wd_617 : Cond.methodLink RL 215 yX10_top ∈ TBg := tb_9 (List.mem_of_getElem? (i := 97) rfl) rfl
theorem wd_618 : Cond.constantLong RX10 435 (999) ∈ TBg := tb_9 (List.mem_of_getElem? (i := 101) rfl) rfl
theorem wd_619 : Cond.methodLink RL 223 yX10_hungriest ∈ TBg := tb_9 (List.mem_of_getElem? (i := 102) rfl) rfl
theorem wd_620 : Cond.methodLink RL 191 yX10_out ∈ TBg := tb_9 (List.mem_of_getElem? (i := 106) rfl) rfl
theorem wd_621 : Cond.methodLink RX10 437 yX10_takeOffAll ∈ TBg := tb_9 (List.mem_of_getElem? (i := 110) rfl) rfl
theorem wd_622 : Cond.methodLink RL 219 yX10_relief ∈ TBg := tb_9 (List.mem_of_getElem? (i := 114) rfl) rfl
theorem wd_623 : Cond.methodLink RL 195 yX10_oneWedge ∈ TBg := tb_9 (List.mem_of_getElem? (i := 118) rfl) rfl
theorem wd_624 : Cond.methodLink RL 202 yX10_swap ∈ TBg := tb_9 (List.mem_of_getElem? (i := 122) rfl) rfl
theorem wd_625 : Cond.methodLink RL 205 yX10_slack ∈ TBg := tb_9 (List.mem_of_getElem? (i := 126) rfl) rfl
theorem wd_626 : Cond.methodLink RL 212 yX10_crooked ∈ TBg := tb_9 (List.mem_of_getElem? (i := 130) rfl) rfl
theorem wd_627 : Cond.methodLink RL 227 yX10_see ∈ TBg := tb_9 (List.mem_of_getElem? (i := 134) rfl) rfl
theorem wd_628 : Cond.constantLong RX10 440 (-99) ∈ TBg := tb_9 (List.mem_of_getElem? (i := 138) rfl) rfl
theorem wd_629 : Cond.methodLink RL 230 yX10_which ∈ TBg := tb_9 (List.mem_of_getElem? (i := 139) rfl) rfl
theorem wd_630 : Cond.constantLong RX10 448 (2) ∈ TBg := tb_9 (List.mem_of_getElem? (i := 143) rfl) rfl
theorem wd_631 : Cond.methodLink RX10 445 yX10_isAsSeen ∈ TBg := tb_9 (List.mem_of_getElem? (i := 144) rfl) rfl
theorem wd_632 : Cond.methodLink RX10 450 yX10_tellFits ∈ TBg := tb_9 (List.mem_of_getElem? (i := 148) rfl) rfl
theorem wd_633 : Cond.methodLink RL 234 yX10_look ∈ TBg := tb_9 (List.mem_of_getElem? (i := 152) rfl) rfl
theorem wd_634 : Cond.methodLink RX10 453 yX10_unlike ∈ TBg := tb_9 (List.mem_of_getElem? (i := 156) rfl) rfl
theorem wd_635 : Cond.methodLink RL 238 yX10_forget ∈ TBg := tb_9 (List.mem_of_getElem? (i := 160) rfl) rfl
theorem wd_636 : Cond.methodLink RL 241 yX10_game ∈ TBg := tb_9 (List.mem_of_getElem? (i := 164) rfl) rfl
theorem wd_637 : Cond.methodLink RX10 459 yX10_rests ∈ TBg := tb_9 (List.mem_of_getElem? (i := 168) rfl) rfl
theorem wd_638 : Cond.methodLink RX10 456 yX10_gain ∈ TBg := tb_9 (List.mem_of_getElem? (i := 172) rfl) rfl
theorem wd_639 : Cond.methodLink RL 245 yX10_decades ∈ TBg := tb_9 (List.mem_of_getElem? (i := 176) rfl) rfl
theorem wd_640 : Cond.constantLong RX10 469 (40) ∈ TBg := tb_9 (List.mem_of_getElem? (i := 180) rfl) rfl
theorem wd_641 : Cond.methodLink RX10 471 yX10_aYear ∈ TBg := tb_9 (List.mem_of_getElem? (i := 181) rfl) rfl
theorem wd_642 : Cond.methodLink RX10 466 yX10_drawOf ∈ TBg := tb_9 (List.mem_of_getElem? (i := 185) rfl) rfl
theorem wd_643 : Cond.constant RX10 465 (1103515245) ∈ TBg := tb_9 (List.mem_of_getElem? (i := 189) rfl) rfl
theorem wd_644 : Cond.methodLink RL 249 yX10_image ∈ TBg := tb_9 (List.mem_of_getElem? (i := 190) rfl) rfl
theorem wd_645 : Cond.methodLink RX10 480 yX10_be ∈ TBg := tb_9 (List.mem_of_getElem? (i := 194) rfl) rfl
theorem wd_646 : Cond.methodLink RL 254 yX10_restore ∈ TBg := tb_9 (List.mem_of_getElem? (i := 197) rfl) rfl
theorem wd_647 : Cond.code yX0_init cX0_init 1 none ∈ TBg := tb_1 (List.mem_of_getElem? (i := 196) rfl) rfl
theorem wd_648 : Cond.initialized RX0 ∈ TBg := tb_1 (List.mem_of_getElem? (i := 6) rfl) rfl
theorem wd_649 : Cond.instanceMethod yX0_init ∈ TBg := tb_1 (List.mem_of_getElem? (i := 195) rfl) rfl
theorem wd_650 : Cond.code yX0_become cX0_become 2 none ∈ TBg := tb_4 (List.mem_of_getElem? (i := 118) rfl) rfl
theorem wd_651 : Cond.instanceMethod yX0_become ∈ TBg := tb_4 (List.mem_of_getElem? (i := 116) rfl) rfl
theorem wd_652 : Cond.selects RX0 yX0_become yX0_become ∈ TBg := tb_4 (List.mem_of_getElem? (i := 117) rfl) rfl
theorem wd_653 : Cond.code yX0_keep cX0_keep 6 none ∈ TBg := tb_3 (List.mem_of_getElem? (i := 16) rfl) rfl
theorem wd_654 : Cond.instanceMethod yX0_keep ∈ TBg := tb_3 (List.mem_of_getElem? (i := 14) rfl) rfl
theorem wd_655 : Cond.selects RX0 yX0_keep yX0_keep ∈ TBg := tb_3 (List.mem_of_getElem? (i := 15) rfl) rfl
theorem wd_656 : Cond.code yX0_keepSupper cX0_keepSupper 2 none ∈ TBg := tb_3 (List.mem_of_getElem? (i := 12) rfl) rfl
theorem wd_657 : Cond.instanceMethod yX0_keepSupper ∈ TBg := tb_3 (List.mem_of_getElem? (i := 10) rfl) rfl
theorem wd_658 : Cond.selects RX0 yX0_keepSupper yX0_keepSupper ∈ TBg := tb_3 (List.mem_of_getElem? (i := 11) rfl) rfl
theorem wd_659 : Cond.code yX0_undoLast cX0_undoLast 5 (some .boolean) ∈ TBg := tb_3 (List.mem_of_getElem? (i := 81) rfl) rfl
theorem wd_660 : Cond.instanceMethod yX0_undoLast ∈ TBg := tb_3 (List.mem_of_getElem? (i := 79) rfl) rfl
theorem wd_661 : Cond.selects RX0 yX0_undoLast yX0_undoLast ∈ TBg := tb_3 (List.mem_of_getElem? (i := 80) rfl) rfl
theorem wd_662 : Cond.code yX0_putBack cX0_putBack 4 none ∈ TBg := tb_3 (List.mem_of_getElem? (i := 88) rfl) rfl
theorem wd_663 : Cond.static yX0_putBack ∈ TBg := tb_3 (List.mem_of_getElem? (i := 87) rfl) rfl
theorem wd_664 : Cond.code yX0_clearSupper cX0_clearSupper 3 none ∈ TBg := tb_3 (List.mem_of_getElem? (i := 100) rfl) rfl
theorem wd_665 : Cond.instanceMethod yX0_clearSupper ∈ TBg := tb_3 (List.mem_of_getElem? (i := 99) rfl) rfl
theorem wd_666 : Cond.selects RX0 yX0_clearSupper yX0_clearSupper ∈ TBg := tbp_1 (q := (yX0_clearSupper, 2)) (List.mem_of_getElem? (i := 6) rfl) rfl
theorem wd_667 : Cond.code yX1_init cX1_init 3 none ∈ TBg := tb_2 (List.mem_of_getElem? (i := 165) rfl) rfl
theorem wd_668 : Cond.initialized RX1 ∈ TBg := tb_1 (List.mem_of_getElem? (i := 10) rfl) rfl
theorem wd_669 : Cond.instanceMethod yX1_init ∈ TBg := tb_2 (List.mem_of_getElem? (i := 164) rfl) rfl
theorem wd_670 : Cond.code yX1_soWithout cX1_soWithout 1 (some .boolean) ∈ TBg := tb_6 (List.mem_of_getElem? (i := 207) rfl) rfl
theorem wd_671 : Cond.instanceMethod yX1_soWithout ∈ TBg := tb_6 (List.mem_of_getElem? (i := 205) rfl) rfl
theorem wd_672 : Cond.selects RX1 yX1_soWithout yX1_soWithout ∈ TBg := tb_6 (List.mem_of_getElem? (i := 206) rfl) rfl
theorem wd_673 : Cond.code yX1_howMany cX1_howMany 5 (some .int) ∈ TBg := tb_6 (List.mem_of_getElem? (i := 199) rfl) rfl
theorem wd_674 : Cond.instanceMethod yX1_howMany ∈ TBg := tb_6 (List.mem_of_getElem? (i := 197) rfl) rfl
theorem wd_675 : Cond.selects RX1 yX1_howMany yX1_howMany ∈ TBg := tb_6 (List.mem_of_getElem? (i := 198) rfl) rfl
theorem wd_676 : Cond.code yX1_first cX1_first 4 (some .int) ∈ TBg := tb_6 (List.mem_of_getElem? (i := 203) rfl) rfl
theorem wd_677 : Cond.instanceMethod yX1_first ∈ TBg := tb_6 (List.mem_of_getElem? (i := 201) rfl) rfl
theorem wd_678 : Cond.selects RX1 yX1_first yX1_first ∈ TBg := tb_6 (List.mem_of_getElem? (i := 202) rfl) rfl
theorem wd_679 : Cond.code yX1_bestLevel cX1_bestLevel 5 (some .int) ∈ TBg := tb_4 (List.mem_of_getElem? (i := 79) rfl) rfl
theorem wd_680 : Cond.instanceMethod yX1_bestLevel ∈ TBg := tb_4 (List.mem_of_getElem? (i := 77) rfl) rfl
theorem wd_681 : Cond.selects RX1 yX1_bestLevel yX1_bestLevel ∈ TBg := tb_4 (List.mem_of_getElem? (i := 78) rfl) rfl
theorem wd_682 : Cond.code yX1_unlikeTilts cX1_unlikeTilts 5 (some .int) ∈ TBg := tb_4 (List.mem_of_getElem? (i := 84) rfl) rfl
theorem wd_683 : Cond.instanceMethod yX1_unlikeTilts ∈ TBg := tb_4 (List.mem_of_getElem? (i := 83) rfl) rfl
theorem wd_684 : Cond.selects RX1 yX1_unlikeTilts yX1_unlikeTilts ∈ TBg := tbp_1 (q := (yX1_unlikeTilts, 4)) (List.mem_of_getElem? (i := 13) rfl) rfl
theorem wd_685 : Cond.code yX1_countOnce cX1_countOnce 3 (some .int) ∈ TBg := tb_4 (List.mem_of_getElem? (i := 101) rfl) rfl
theorem wd_686 : Cond.instanceMethod yX1_countOnce ∈ TBg := tb_4 (List.mem_of_getElem? (i := 100) rfl) rfl
theorem wd_687 : Cond.selects RX1 yX1_countOnce yX1_countOnce ∈ TBg := tbp_2 (q := (yX1_countOnce, 4)) (List.mem_of_getElem? (i := 1) rfl) rfl
theorem wd_688 : Cond.code yX1_mayBe cX1_mayBe 3 (some .boolean) ∈ TBg := tb_4 (List.mem_of_getElem? (i := 88) rfl) rfl
theorem wd_689 : Cond.instanceMethod yX1_mayBe ∈ TBg := tb_4 (List.mem_of_getElem? (i := 87) rfl) rfl
theorem wd_690 : Cond.selects RX1 yX1_mayBe yX1_mayBe ∈ TBg := tbp_1 (q := (yX1_mayBe, 4)) (List.mem_of_getElem? (i := 14) rfl) rfl
theorem wd_691 : Cond.code yX1_shift cX1_shift 4 (some .int) ∈ TBg := tb_4 (List.mem_of_getElem? (i := 92) rfl) rfl
theorem wd_692 : Cond.instanceMethod yX1_shift ∈ TBg := tb_4 (List.mem_of_getElem? (i := 91) rfl) rfl
theorem wd_693 : Cond.selects RX1 yX1_shift yX1_shift ∈ TBg := tbp_1 (q := (yX1_shift, 4)) (List.mem_of_getElem? (i := 15) rfl) rfl
theorem wd_694 : Cond.code yX1_allSo cX1_allSo 7 (some .boolean) ∈ TBg := tb_4 (List.mem_of_getElem? (i := 97) rfl) rfl
theorem wd_695 : Cond.instanceMethod yX1_allSo ∈ TBg := tb_4 (List.mem_of_getElem? (i := 96) rfl) rfl
theorem wd_696 : Cond.selects RX1 yX1_allSo yX1_allSo ∈ TBg := tbp_2 (q := (yX1_allSo, 4)) (List.mem_of_getElem? (i := 0) rfl) rfl
theorem wd_697 : Cond.code yX2_init cX2_init 3 none ∈ TBg := tb_2 (List.mem_of_getElem? (i := 126) rfl) rfl
theorem wd_698 : Cond.initialized RX2 ∈ TBg := tb_1 (List.mem_of_getElem? (i := 9) rfl) rfl
theorem wd_699 : Cond.instanceMethod yX2_init ∈ TBg := tb_2 (List.mem_of_getElem? (i := 125) rfl) rfl
theorem wd_700 : Cond.code yX2_findMost cX2_findMost 1 none ∈ TBg := tb_6 (List.mem_of_getElem? (i := 91) rfl) rfl
theorem wd_701 : Cond.instanceMethod yX2_findMost ∈ TBg := tb_6 (List.mem_of_getElem? (i := 89) rfl) rfl
theorem wd_702 : Cond.selects RX2 yX2_findMost yX2_findMost ∈ TBg := tb_6 (List.mem_of_getElem? (i := 90) rfl) rfl
theorem wd_703 : Cond.code yX2_ordersOfTower cX2_ordersOfTower 3 (some .long) ∈ TBg := tb_3 (List.mem_of_getElem? (i := 155) rfl) rfl
theorem wd_704 : Cond.instanceMethod yX2_ordersOfTower ∈ TBg := tb_3 (List.mem_of_getElem? (i := 153) rfl) rfl
theorem wd_705 : Cond.selects RX2 yX2_ordersOfTower yX2_ordersOfTower ∈ TBg := tb_3 (List.mem_of_getElem? (i := 154) rfl) rfl
theorem wd_706 : Cond.code yX2_greatestSet cX2_greatestSet 3 (some .int) ∈ TBg := tb_6 (List.mem_of_getElem? (i := 95) rfl) rfl
theorem wd_707 : Cond.instanceMethod yX2_greatestSet ∈ TBg := tb_6 (List.mem_of_getElem? (i := 94) rfl) rfl
theorem wd_708 : Cond.selects RX2 yX2_greatestSet yX2_greatestSet ∈ TBg := tbp_3 (q := (yX2_greatestSet, 10)) (List.mem_of_getElem? (i := 9) rfl) rfl
theorem wd_709 : Cond.code yX2_fillRow cX2_fillRow 6 none ∈ TBg := tb_6 (List.mem_of_getElem? (i := 99) rfl) rfl
theorem wd_710 : Cond.instanceMethod yX2_fillRow ∈ TBg := tb_6 (List.mem_of_getElem? (i := 98) rfl) rfl
theorem wd_711 : Cond.selects RX2 yX2_fillRow yX2_fillRow ∈ TBg := tbp_3 (q := (yX2_fillRow, 10)) (List.mem_of_getElem? (i := 10) rfl) rfl
theorem wd_712 : Cond.code yX2_weighSets cX2_weighSets 5 none ∈ TBg := tb_3 (List.mem_of_getElem? (i := 159) rfl) rfl
theorem wd_713 : Cond.instanceMethod yX2_weighSets ∈ TBg := tb_3 (List.mem_of_getElem? (i := 158) rfl) rfl
theorem wd_714 : Cond.selects RX2 yX2_weighSets yX2_weighSets ∈ TBg := tbp_1 (q := (yX2_weighSets, 10)) (List.mem_of_getElem? (i := 7) rfl) rfl
theorem wd_715 : Cond.code yX2_ordersOf cX2_ordersOf 6 (some .int) ∈ TBg := tb_3 (List.mem_of_getElem? (i := 165) rfl) rfl
theorem wd_716 : Cond.instanceMethod yX2_ordersOf ∈ TBg := tb_3 (List.mem_of_getElem? (i := 164) rfl) rfl
theorem wd_717 : Cond.selects RX2 yX2_ordersOf yX2_ordersOf ∈ TBg := tbp_1 (q := (yX2_ordersOf, 10)) (List.mem_of_getElem? (i := 8) rfl) rfl
theorem wd_718 : Cond.code yX2_waysUpon cX2_waysUpon 5 (some .int) ∈ TBg := tb_3 (List.mem_of_getElem? (i := 170) rfl) rfl
theorem wd_719 : Cond.instanceMethod yX2_waysUpon ∈ TBg := tb_3 (List.mem_of_getElem? (i := 169) rfl) rfl
theorem wd_720 : Cond.selects RX2 yX2_waysUpon yX2_waysUpon ∈ TBg := tbp_1 (q := (yX2_waysUpon, 10)) (List.mem_of_getElem? (i := 9) rfl) rfl
theorem wd_721 : Cond.code yX2_waysWith cX2_waysWith 7 (some .int) ∈ TBg := tb_3 (List.mem_of_getElem? (i := 174) rfl) rfl
theorem wd_722 : Cond.instanceMethod yX2_waysWith ∈ TBg := tb_3 (List.mem_of_getElem? (i := 173) rfl) rfl
theorem wd_723 : Cond.selects RX2 yX2_waysWith yX2_waysWith ∈ TBg := tbp_1 (q := (yX2_waysWith, 10)) (List.mem_of_getElem? (i := 10) rfl) rfl
theorem wd_724 : Cond.code yX2_mostCouples cX2_mostCouples 4 (some .int) ∈ TBg := tb_3 (List.mem_of_getElem? (i := 224) rfl) rfl
theorem wd_725 : Cond.instanceMethod yX2_mostCouples ∈ TBg := tb_3 (List.mem_of_getElem? (i := 222) rfl) rfl
theorem wd_726 : Cond.selects RX2 yX2_mostCouples yX2_mostCouples ∈ TBg := tb_3 (List.mem_of_getElem? (i := 223) rfl) rfl
theorem wd_727 : Cond.code yX2_couplesWith cX2_couplesWith 5 (some .int) ∈ TBg := tb_3 (List.mem_of_getElem? (i := 228) rfl) rfl
theorem wd_728 : Cond.instanceMethod yX2_couplesWith ∈ TBg := tb_3 (List.mem_of_getElem? (i := 227) rfl) rfl
theorem wd_729 : Cond.selects RX2 yX2_couplesWith yX2_couplesWith ∈ TBg := tbp_1 (q := (yX2_couplesWith, 10)) (List.mem_of_getElem? (i := 12) rfl) rfl
theorem wd_730 : Cond.code yX3_init cX3_init 3 none ∈ TBg := tb_1 (List.mem_of_getElem? (i := 149) rfl) rfl
theorem wd_731 : Cond.initialized RX3 ∈ TBg := tb_1 (List.mem_of_getElem? (i := 4) rfl) rfl
theorem wd_732 : Cond.instanceMethod yX3_init ∈ TBg := tb_1 (List.mem_of_getElem? (i := 148) rfl) rfl
theorem wd_733 : Cond.code yX3_read cX3_read 3 (some .int) ∈ TBg := tb_4 (List.mem_of_getElem? (i := 201) rfl) rfl
theorem wd_734 : Cond.instanceMethod yX3_read ∈ TBg := tb_4 (List.mem_of_getElem? (i := 199) rfl) rfl
theorem wd_735 : Cond.selects RX3 yX3_read yX3_read ∈ TBg := tb_4 (List.mem_of_getElem? (i := 200) rfl) rfl
theorem wd_736 : Cond.code yX3_line cX3_line 2 (some .boolean) ∈ TBg := tb_5 (List.mem_of_getElem? (i := 60) rfl) rfl
theorem wd_737 : Cond.instanceMethod yX3_line ∈ TBg := tb_5 (List.mem_of_getElem? (i := 59) rfl) rfl
theorem wd_738 : Cond.selects RX3 yX3_line yX3_line ∈ TBg := tbp_2 (q := (yX3_line, 11)) (List.mem_of_getElem? (i := 4) rfl) rfl
theorem wd_739 : Cond.code yX3_tableLine cX3_tableLine 8 (some .boolean) ∈ TBg := tb_5 (List.mem_of_getElem? (i := 97) rfl) rfl
theorem wd_740 : Cond.instanceMethod yX3_tableLine ∈ TBg := tb_5 (List.mem_of_getElem? (i := 96) rfl) rfl
theorem wd_741 : Cond.selects RX3 yX3_tableLine yX3_tableLine ∈ TBg := tbp_2 (q := (yX3_tableLine, 11)) (List.mem_of_getElem? (i := 7) rfl) rfl
theorem wd_742 : Cond.code yX3_limitLine cX3_limitLine 1 (some .boolean) ∈ TBg := tb_5 (List.mem_of_getElem? (i := 118) rfl) rfl
theorem wd_743 : Cond.instanceMethod yX3_limitLine ∈ TBg := tb_5 (List.mem_of_getElem? (i := 117) rfl) rfl
theorem wd_744 : Cond.selects RX3 yX3_limitLine yX3_limitLine ∈ TBg := tbp_2 (q := (yX3_limitLine, 11)) (List.mem_of_getElem? (i := 12) rfl) rfl
theorem wd_745 : Cond.code yX3_foodLine cX3_foodLine 1 (some .boolean) ∈ TBg := tb_5 (List.mem_of_getElem? (i := 123) rfl) rfl
theorem wd_746 : Cond.instanceMethod yX3_foodLine ∈ TBg := tb_5 (List.mem_of_getElem? (i := 122) rfl) rfl
theorem wd_747 : Cond.selects RX3 yX3_foodLine yX3_foodLine ∈ TBg := tbp_2 (q := (yX3_foodLine, 11)) (List.mem_of_getElem? (i := 13) rfl) rfl
theorem wd_748 : Cond.code yX3_takesLine cX3_takesLine 1 (some .boolean) ∈ TBg := tb_5 (List.mem_of_getElem? (i := 128) rfl) rfl
theorem wd_749 : Cond.instanceMethod yX3_takesLine ∈ TBg := tb_5 (List.mem_of_getElem? (i := 127) rfl) rfl
theorem wd_750 : Cond.selects RX3 yX3_takesLine yX3_takesLine ∈ TBg := tbp_2 (q := (yX3_takesLine, 11)) (List.mem_of_getElem? (i := 14) rfl) rfl
theorem wd_751 : Cond.code yX3_close cX3_close 1 (some .boolean) ∈ TBg := tb_5 (List.mem_of_getElem? (i := 113) rfl) rfl
theorem wd_752 : Cond.instanceMethod yX3_close ∈ TBg := tb_5 (List.mem_of_getElem? (i := 112) rfl) rfl
theorem wd_753 : Cond.selects RX3 yX3_close yX3_close ∈ TBg := tbp_2 (q := (yX3_close, 11)) (List.mem_of_getElem? (i := 11) rfl) rfl
theorem wd_754 : Cond.code yX3_expr cX3_expr 3 (some .boolean) ∈ TBg := tb_5 (List.mem_of_getElem? (i := 132) rfl) rfl
theorem wd_755 : Cond.instanceMethod yX3_expr ∈ TBg := tb_5 (List.mem_of_getElem? (i := 131) rfl) rfl
theorem wd_756 : Cond.selects RX3 yX3_expr yX3_expr ∈ TBg := tbp_2 (q := (yX3_expr, 11)) (List.mem_of_getElem? (i := 15) rfl) rfl
theorem wd_757 : Cond.code yX3_and cX3_and 3 (some .boolean) ∈ TBg := tb_5 (List.mem_of_getElem? (i := 136) rfl) rfl
theorem wd_758 : Cond.instanceMethod yX3_and ∈ TBg := tb_5 (List.mem_of_getElem? (i := 135) rfl) rfl
theorem wd_759 : Cond.selects RX3 yX3_and yX3_and ∈ TBg := tbp_3 (q := (yX3_and, 11)) (List.mem_of_getElem? (i := 0) rfl) rfl
theorem wd_760 : Cond.code yX3_not cX3_not 4 (some .boolean) ∈ TBg := tb_5 (List.mem_of_getElem? (i := 140) rfl) rfl
theorem wd_761 : Cond.instanceMethod yX3_not ∈ TBg := tb_5 (List.mem_of_getElem? (i := 139) rfl) rfl
theorem wd_762 : Cond.selects RX3 yX3_not yX3_not ∈ TBg := tbp_3 (q := (yX3_not, 11)) (List.mem_of_getElem? (i := 1) rfl) rfl
theorem wd_763 : Cond.code yX3_test cX3_test 3 (some .boolean) ∈ TBg := tb_5 (List.mem_of_getElem? (i := 145) rfl) rfl
theorem wd_764 : Cond.instanceMethod yX3_test ∈ TBg := tb_5 (List.mem_of_getElem? (i := 144) rfl) rfl
theorem wd_765 : Cond.selects RX3 yX3_test yX3_test ∈ TBg := tbp_3 (q := (yX3_test, 11)) (List.mem_of_getElem? (i := 2) rfl) rfl
theorem wd_766 : Cond.code yX3_sum cX3_sum 4 (some .boolean) ∈ TBg := tb_5 (List.mem_of_getElem? (i := 149) rfl) rfl
theorem wd_767 : Cond.instanceMethod yX3_sum ∈ TBg := tb_5 (List.mem_of_getElem? (i := 148) rfl) rfl
theorem wd_768 : Cond.selects RX3 yX3_sum yX3_sum ∈ TBg := tbp_3 (q := (yX3_sum, 11)) (List.mem_of_getElem? (i := 3) rfl) rfl
theorem wd_769 : Cond.code yX3_product cX3_product 4 (some .boolean) ∈ TBg := tb_5 (List.mem_of_getElem? (i := 153) rfl) rfl
theorem wd_770 : Cond.instanceMethod yX3_product ∈ TBg := tb_5 (List.mem_of_getElem? (i := 152) rfl) rfl
theorem wd_771 : Cond.selects RX3 yX3_product yX3_product ∈ TBg := tbp_3 (q := (yX3_product, 11)) (List.mem_of_getElem? (i := 4) rfl) rfl
theorem wd_772 : Cond.code yX3_part cX3_part 3 (some .boolean) ∈ TBg := tb_5 (List.mem_of_getElem? (i := 157) rfl) rfl
theorem wd_773 : Cond.instanceMethod yX3_part ∈ TBg := tb_5 (List.mem_of_getElem? (i := 156) rfl) rfl
theorem wd_774 : Cond.selects RX3 yX3_part yX3_part ∈ TBg := tbp_3 (q := (yX3_part, 11)) (List.mem_of_getElem? (i := 5) rfl) rfl
theorem wd_775 : Cond.code yX3_readNumber cX3_readNumber 4 (some .int) ∈ TBg := tb_5 (List.mem_of_getElem? (i := 105) rfl) rfl
theorem wd_776 : Cond.instanceMethod yX3_readNumber ∈ TBg := tb_5 (List.mem_of_getElem? (i := 104) rfl) rfl
theorem wd_777 : Cond.selects RX3 yX3_readNumber yX3_readNumber ∈ TBg := tbp_2 (q := (yX3_readNumber, 11)) (List.mem_of_getElem? (i := 9) rfl) rfl
theorem wd_778 : Cond.code yX3_kindTold cX3_kindTold 1 (some .int) ∈ TBg := tb_5 (List.mem_of_getElem? (i := 64) rfl) rfl
theorem wd_779 : Cond.instanceMethod yX3_kindTold ∈ TBg := tb_5 (List.mem_of_getElem? (i := 63) rfl) rfl
theorem wd_780 : Cond.selects RX3 yX3_kindTold yX3_kindTold ∈ TBg := tbp_2 (q := (yX3_kindTold, 11)) (List.mem_of_getElem? (i := 5) rfl) rfl
theorem wd_781 : Cond.code yX3_valueTold cX3_valueTold 1 (some .int) ∈ TBg := tb_5 (List.mem_of_getElem? (i := 165) rfl) rfl
theorem wd_782 : Cond.instanceMethod yX3_valueTold ∈ TBg := tb_5 (List.mem_of_getElem? (i := 164) rfl) rfl
theorem wd_783 : Cond.selects RX3 yX3_valueTold yX3_valueTold ∈ TBg := tbp_3 (q := (yX3_valueTold, 11)) (List.mem_of_getElem? (i := 6) rfl) rfl
theorem wd_784 : Cond.code yX3_isWord cX3_isWord 3 (some .boolean) ∈ TBg := tb_5 (List.mem_of_getElem? (i := 69) rfl) rfl
theorem wd_785 : Cond.instanceMethod yX3_isWord ∈ TBg := tb_5 (List.mem_of_getElem? (i := 68) rfl) rfl
theorem wd_786 : Cond.selects RX3 yX3_isWord yX3_isWord ∈ TBg := tbp_2 (q := (yX3_isWord, 11)) (List.mem_of_getElem? (i := 6) rfl) rfl
theorem wd_787 : Cond.code yX3_isSign cX3_isSign 2 (some .boolean) ∈ TBg := tb_5 (List.mem_of_getElem? (i := 109) rfl) rfl
theorem wd_788 : Cond.instanceMethod yX3_isSign ∈ TBg := tb_5 (List.mem_of_getElem? (i := 108) rfl) rfl
theorem wd_789 : Cond.selects RX3 yX3_isSign yX3_isSign ∈ TBg := tbp_2 (q := (yX3_isSign, 11)) (List.mem_of_getElem? (i := 10) rfl) rfl
theorem wd_790 : Cond.code yX3_fail cX3_fail 2 (some .boolean) ∈ TBg := tb_5 (List.mem_of_getElem? (i := 101) rfl) rfl
theorem wd_791 : Cond.instanceMethod yX3_fail ∈ TBg := tb_5 (List.mem_of_getElem? (i := 100) rfl) rfl
theorem wd_792 : Cond.selects RX3 yX3_fail yX3_fail ∈ TBg := tbp_2 (q := (yX3_fail, 11)) (List.mem_of_getElem? (i := 8) rfl) rfl
theorem wd_793 : Cond.code yX3_next cX3_next 1 none ∈ TBg := tb_4 (List.mem_of_getElem? (i := 207) rfl) rfl
theorem wd_794 : Cond.instanceMethod yX3_next ∈ TBg := tb_4 (List.mem_of_getElem? (i := 206) rfl) rfl
theorem wd_795 : Cond.selects RX3 yX3_next yX3_next ∈ TBg := tbp_2 (q := (yX3_next, 11)) (List.mem_of_getElem? (i := 3) rfl) rfl
theorem wd_796 : Cond.code yX3_isLetter cX3_isLetter 1 (some .boolean) ∈ TBg := tb_4 (List.mem_of_getElem? (i := 210) rfl) rfl
theorem wd_797 : Cond.static yX3_isLetter ∈ TBg := tb_4 (List.mem_of_getElem? (i := 209) rfl) rfl
theorem wd_798 : Cond.code yX3_isDigit cX3_isDigit 1 (some .boolean) ∈ TBg := tb_4 (List.mem_of_getElem? (i := 213) rfl) rfl
theorem wd_799 : Cond.static yX3_isDigit ∈ TBg := tb_4 (List.mem_of_getElem? (i := 212) rfl) rfl
theorem wd_800 : Cond.code yX4_init cX4_init 1 none ∈ TBg := tb_1 (List.mem_of_getElem? (i := 43) rfl) rfl
theorem wd_801 : Cond.initialized RX4 ∈ TBg := tb_1 (List.mem_of_getElem? (i := 3) rfl) rfl
theorem wd_802 : Cond.instanceMethod yX4_init ∈ TBg := tb_1 (List.mem_of_getElem? (i := 42) rfl) rfl
theorem wd_803 : Cond.code yX4_become cX4_become 2 none ∈ TBg := tb_5 (List.mem_of_getElem? (i := 183) rfl) rfl
theorem wd_804 : Cond.instanceMethod yX4_become ∈ TBg := tb_5 (List.mem_of_getElem? (i := 181) rfl) rfl
theorem wd_805 : Cond.selects RX4 yX4_become yX4_become ∈ TBg := tb_5 (List.mem_of_getElem? (i := 182) rfl) rfl
theorem wd_806 : Cond.code yX4_add cX4_add 2 none ∈ TBg := tb_5 (List.mem_of_getElem? (i := 161) rfl) rfl
theorem wd_807 : Cond.instanceMethod yX4_add ∈ TBg := tb_5 (List.mem_of_getElem? (i := 159) rfl) rfl
theorem wd_808 : Cond.selects RX4 yX4_add yX4_add ∈ TBg := tb_5 (List.mem_of_getElem? (i := 160) rfl) rfl
theorem wd_809 : Cond.code yX4_gives cX4_gives 4 (some .int) ∈ TBg := tb_3 (List.mem_of_getElem? (i := 34) rfl) rfl
theorem wd_810 : Cond.instanceMethod yX4_gives ∈ TBg := tb_3 (List.mem_of_getElem? (i := 32) rfl) rfl
theorem wd_811 : Cond.selects RX4 yX4_gives yX4_gives ∈ TBg := tb_3 (List.mem_of_getElem? (i := 33) rfl) rfl
theorem wd_812 : Cond.code yX4_push cX4_push 2 none ∈ TBg := tb_3 (List.mem_of_getElem? (i := 38) rfl) rfl
theorem wd_813 : Cond.instanceMethod yX4_push ∈ TBg := tb_3 (List.mem_of_getElem? (i := 37) rfl) rfl
theorem wd_814 : Cond.selects RX4 yX4_push yX4_push ∈ TBg := tbp_1 (q := (yX4_push, 10)) (List.mem_of_getElem? (i := 2) rfl) rfl
theorem wd_815 : Cond.code yX4_pop cX4_pop 1 (some .int) ∈ TBg := tb_3 (List.mem_of_getElem? (i := 46) rfl) rfl
theorem wd_816 : Cond.instanceMethod yX4_pop ∈ TBg := tb_3 (List.mem_of_getElem? (i := 45) rfl) rfl
theorem wd_817 : Cond.selects RX4 yX4_pop yX4_pop ∈ TBg := tbp_1 (q := (yX4_pop, 10)) (List.mem_of_getElem? (i := 4) rfl) rfl
theorem wd_818 : Cond.code yX4_valueOf cX4_valueOf 2 (some .int) ∈ TBg := tb_3 (List.mem_of_getElem? (i := 42) rfl) rfl
theorem wd_819 : Cond.instanceMethod yX4_valueOf ∈ TBg := tb_3 (List.mem_of_getElem? (i := 41) rfl) rfl
theorem wd_820 : Cond.selects RX4 yX4_valueOf yX4_valueOf ∈ TBg := tbp_1 (q := (yX4_valueOf, 10)) (List.mem_of_getElem? (i := 3) rfl) rfl
theorem wd_821 : Cond.code yX4_result cX4_result 3 (some .int) ∈ TBg := tb_3 (List.mem_of_getElem? (i := 49) rfl) rfl
theorem wd_822 : Cond.static yX4_result ∈ TBg := tb_3 (List.mem_of_getElem? (i := 48) rfl) rfl
theorem wd_823 : Cond.code yX5_init cX5_init 2 none ∈ TBg := tb_1 (List.mem_of_getElem? (i := 190) rfl) rfl
theorem wd_824 : Cond.initialized RX5 ∈ TBg := tb_1 (List.mem_of_getElem? (i := 5) rfl) rfl
theorem wd_825 : Cond.instanceMethod yX5_init ∈ TBg := tb_1 (List.mem_of_getElem? (i := 189) rfl) rfl
theorem wd_826 : Cond.code yX5_begin cX5_begin 1 none ∈ TBg := tb_5 (List.mem_of_getElem? (i := 188) rfl) rfl
theorem wd_827 : Cond.instanceMethod yX5_begin ∈ TBg := tb_5 (List.mem_of_getElem? (i := 186) rfl) rfl
theorem wd_828 : Cond.selects RX5 yX5_begin yX5_begin ∈ TBg := tb_5 (List.mem_of_getElem? (i := 187) rfl) rfl
theorem wd_829 : Cond.code yX5_become cX5_become 2 none ∈ TBg := tb_4 (List.mem_of_getElem? (i := 113) rfl) rfl
theorem wd_830 : Cond.instanceMethod yX5_become ∈ TBg := tb_4 (List.mem_of_getElem? (i := 111) rfl) rfl
theorem wd_831 : Cond.selects RX5 yX5_become yX5_become ∈ TBg := tb_4 (List.mem_of_getElem? (i := 112) rfl) rfl
theorem wd_832 : Cond.code yX5_refuse cX5_refuse 2 (some .int) ∈ TBg := tb_3 (List.mem_of_getElem? (i := 64) rfl) rfl
theorem wd_833 : Cond.instanceMethod yX5_refuse ∈ TBg := tb_3 (List.mem_of_getElem? (i := 62) rfl) rfl
theorem wd_834 : Cond.selects RX5 yX5_refuse yX5_refuse ∈ TBg := tb_3 (List.mem_of_getElem? (i := 63) rfl) rfl
theorem wd_835 : Cond.code yX5_putOn cX5_putOn 3 (some .int) ∈ TBg := tb_6 (List.mem_of_getElem? (i := 23) rfl) rfl
theorem wd_836 : Cond.instanceMethod yX5_putOn ∈ TBg := tb_6 (List.mem_of_getElem? (i := 21) rfl) rfl
theorem wd_837 : Cond.selects RX5 yX5_putOn yX5_putOn ∈ TBg := tb_6 (List.mem_of_getElem? (i := 22) rfl) rfl
theorem wd_838 : Cond.code yX5_takeOff cX5_takeOff 3 (some .int) ∈ TBg := tb_6 (List.mem_of_getElem? (i := 36) rfl) rfl
theorem wd_839 : Cond.instanceMethod yX5_takeOff ∈ TBg := tb_6 (List.mem_of_getElem? (i := 34) rfl) rfl
theorem wd_840 : Cond.selects RX5 yX5_takeOff yX5_takeOff ∈ TBg := tb_6 (List.mem_of_getElem? (i := 35) rfl) rfl
theorem wd_841 : Cond.code yX5_changeLevels cX5_changeLevels 3 (some .boolean) ∈ TBg := tb_6 (List.mem_of_getElem? (i := 48) rfl) rfl
theorem wd_842 : Cond.instanceMethod yX5_changeLevels ∈ TBg := tb_6 (List.mem_of_getElem? (i := 46) rfl) rfl
theorem wd_843 : Cond.selects RX5 yX5_changeLevels yX5_changeLevels ∈ TBg := tb_6 (List.mem_of_getElem? (i := 47) rfl) rfl
theorem wd_844 : Cond.code yX5_setWedge cX5_setWedge 4 (some .int) ∈ TBg := tb_6 (List.mem_of_getElem? (i := 60) rfl) rfl
theorem wd_845 : Cond.instanceMethod yX5_setWedge ∈ TBg := tb_6 (List.mem_of_getElem? (i := 58) rfl) rfl
theorem wd_846 : Cond.selects RX5 yX5_setWedge yX5_setWedge ∈ TBg := tb_6 (List.mem_of_getElem? (i := 59) rfl) rfl
theorem wd_847 : Cond.code yX5_setLean cX5_setLean 4 (some .int) ∈ TBg := tb_6 (List.mem_of_getElem? (i := 71) rfl) rfl
theorem wd_848 : Cond.instanceMethod yX5_setLean ∈ TBg := tb_6 (List.mem_of_getElem? (i := 69) rfl) rfl
theorem wd_849 : Cond.selects RX5 yX5_setLean yX5_setLean ∈ TBg := tb_6 (List.mem_of_getElem? (i := 70) rfl) rfl
theorem wd_850 : Cond.code yX5_eat cX5_eat 2 (some .int) ∈ TBg := tb_3 (List.mem_of_getElem? (i := 8) rfl) rfl
theorem wd_851 : Cond.instanceMethod yX5_eat ∈ TBg := tb_3 (List.mem_of_getElem? (i := 6) rfl) rfl
theorem wd_852 : Cond.selects RX5 yX5_eat yX5_eat ∈ TBg := tb_3 (List.mem_of_getElem? (i := 7) rfl) rfl
theorem wd_853 : Cond.code yX5_age cX5_age 2 (some .int) ∈ TBg := tb_3 (List.mem_of_getElem? (i := 60) rfl) rfl
theorem wd_854 : Cond.instanceMethod yX5_age ∈ TBg := tb_3 (List.mem_of_getElem? (i := 58) rfl) rfl
theorem wd_855 : Cond.selects RX5 yX5_age yX5_age ∈ TBg := tb_3 (List.mem_of_getElem? (i := 59) rfl) rfl
theorem wd_856 : Cond.code yX5_undoLast cX5_undoLast 1 (some .int) ∈ TBg := tb_3 (List.mem_of_getElem? (i := 77) rfl) rfl
theorem wd_857 : Cond.instanceMethod yX5_undoLast ∈ TBg := tb_3 (List.mem_of_getElem? (i := 75) rfl) rfl
theorem wd_858 : Cond.selects RX5 yX5_undoLast yX5_undoLast ∈ TBg := tb_3 (List.mem_of_getElem? (i := 76) rfl) rfl
theorem wd_859 : Cond.code yX5_addSight cX5_addSight 4 (some .int) ∈ TBg := tb_4 (List.mem_of_getElem? (i := 71) rfl) rfl
theorem wd_860 : Cond.instanceMethod yX5_addSight ∈ TBg := tb_4 (List.mem_of_getElem? (i := 69) rfl) rfl
theorem wd_861 : Cond.selects RX5 yX5_addSight yX5_addSight ∈ TBg := tb_4 (List.mem_of_getElem? (i := 70) rfl) rfl
theorem wd_862 : Cond.code yX5_keep cX5_keep 5 none ∈ TBg := tb_3 (List.mem_of_getElem? (i := 68) rfl) rfl
theorem wd_863 : Cond.instanceMethod yX5_keep ∈ TBg := tb_3 (List.mem_of_getElem? (i := 67) rfl) rfl
theorem wd_864 : Cond.selects RX5 yX5_keep yX5_keep ∈ TBg := tbp_1 (q := (yX5_keep, 7)) (List.mem_of_getElem? (i := 5) rfl) rfl
theorem wd_865 : Cond.code yX6_init cX6_init 2 none ∈ TBg := tb_1 (List.mem_of_getElem? (i := 211) rfl) rfl
theorem wd_866 : Cond.initialized RX6 ∈ TBg := tb_1 (List.mem_of_getElem? (i := 7) rfl) rfl
theorem wd_867 : Cond.instanceMethod yX6_init ∈ TBg := tb_1 (List.mem_of_getElem? (i := 210) rfl) rfl
theorem wd_868 : Cond.code yX6_begin cX6_begin 2 none ∈ TBg := tb_5 (List.mem_of_getElem? (i := 192) rfl) rfl
theorem wd_869 : Cond.instanceMethod yX6_begin ∈ TBg := tb_5 (List.mem_of_getElem? (i := 190) rfl) rfl
theorem wd_870 : Cond.selects RX6 yX6_begin yX6_begin ∈ TBg := tb_5 (List.mem_of_getElem? (i := 191) rfl) rfl
theorem wd_871 : Cond.code yX6_become cX6_become 2 none ∈ TBg := tb_3 (List.mem_of_getElem? (i := 214) rfl) rfl
theorem wd_872 : Cond.instanceMethod yX6_become ∈ TBg := tb_3 (List.mem_of_getElem? (i := 212) rfl) rfl
theorem wd_873 : Cond.selects RX6 yX6_become yX6_become ∈ TBg := tb_3 (List.mem_of_getElem? (i := 213) rfl) rfl
theorem wd_874 : Cond.code yX6_levelOf cX6_levelOf 3 (some .int) ∈ TBg := tb_4 (List.mem_of_getElem? (i := 49) rfl) rfl
theorem wd_875 : Cond.instanceMethod yX6_levelOf ∈ TBg := tb_4 (List.mem_of_getElem? (i := 47) rfl) rfl
theorem wd_876 : Cond.selects RX6 yX6_levelOf yX6_levelOf ∈ TBg := tb_4 (List.mem_of_getElem? (i := 48) rfl) rfl
theorem wd_877 : Cond.code yX6_inIt cX6_inIt 3 (some .int) ∈ TBg := tb_3 (List.mem_of_getElem? (i := 0) rfl) rfl
theorem wd_878 : Cond.instanceMethod yX6_inIt ∈ TBg := tb_2 (List.mem_of_getElem? (i := 238) rfl) rfl
theorem wd_879 : Cond.selects RX6 yX6_inIt yX6_inIt ∈ TBg := tb_2 (List.mem_of_getElem? (i := 239) rfl) rfl
theorem wd_880 : Cond.code yX6_insert cX6_insert 4 none ∈ TBg := tb_3 (List.mem_of_getElem? (i := 92) rfl) rfl
theorem wd_881 : Cond.instanceMethod yX6_insert ∈ TBg := tb_3 (List.mem_of_getElem? (i := 90) rfl) rfl
theorem wd_882 : Cond.selects RX6 yX6_insert yX6_insert ∈ TBg := tb_3 (List.mem_of_getElem? (i := 91) rfl) rfl
theorem wd_883 : Cond.code yX6_removeAt cX6_removeAt 3 none ∈ TBg := tb_3 (List.mem_of_getElem? (i := 85) rfl) rfl
theorem wd_884 : Cond.instanceMethod yX6_removeAt ∈ TBg := tb_3 (List.mem_of_getElem? (i := 83) rfl) rfl
theorem wd_885 : Cond.selects RX6 yX6_removeAt yX6_removeAt ∈ TBg := tb_3 (List.mem_of_getElem? (i := 84) rfl) rfl
theorem wd_886 : Cond.code yX6_exchange cX6_exchange 4 none ∈ TBg := tb_3 (List.mem_of_getElem? (i := 96) rfl) rfl
theorem wd_887 : Cond.instanceMethod yX6_exchange ∈ TBg := tb_3 (List.mem_of_getElem? (i := 94) rfl) rfl
theorem wd_888 : Cond.selects RX6 yX6_exchange yX6_exchange ∈ TBg := tb_3 (List.mem_of_getElem? (i := 95) rfl) rfl
theorem wd_889 : Cond.code yX6_carriesOf cX6_carriesOf 4 (some .int) ∈ TBg := tb_3 (List.mem_of_getElem? (i := 120) rfl) rfl
theorem wd_890 : Cond.instanceMethod yX6_carriesOf ∈ TBg := tb_3 (List.mem_of_getElem? (i := 118) rfl) rfl
theorem wd_891 : Cond.selects RX6 yX6_carriesOf yX6_carriesOf ∈ TBg := tb_3 (List.mem_of_getElem? (i := 119) rfl) rfl
theorem wd_892 : Cond.code yX6_leanOf cX6_leanOf 2 (some .int) ∈ TBg := tb_3 (List.mem_of_getElem? (i := 128) rfl) rfl
theorem wd_893 : Cond.instanceMethod yX6_leanOf ∈ TBg := tb_3 (List.mem_of_getElem? (i := 126) rfl) rfl
theorem wd_894 : Cond.selects RX6 yX6_leanOf yX6_leanOf ∈ TBg := tb_3 (List.mem_of_getElem? (i := 127) rfl) rfl
theorem wd_895 : Cond.code yX6_weigh cX6_weigh 4 none ∈ TBg := tb_3 (List.mem_of_getElem? (i := 116) rfl) rfl
theorem wd_896 : Cond.instanceMethod yX6_weigh ∈ TBg := tb_3 (List.mem_of_getElem? (i := 114) rfl) rfl
theorem wd_897 : Cond.selects RX6 yX6_weigh yX6_weigh ∈ TBg := tb_3 (List.mem_of_getElem? (i := 115) rfl) rfl
theorem wd_898 : Cond.code yX6_slackAt cX6_slackAt 2 (some .int) ∈ TBg := tb_3 (List.mem_of_getElem? (i := 140) rfl) rfl
theorem wd_899 : Cond.instanceMethod yX6_slackAt ∈ TBg := tb_3 (List.mem_of_getElem? (i := 138) rfl) rfl
theorem wd_900 : Cond.selects RX6 yX6_slackAt yX6_slackAt ∈ TBg := tb_3 (List.mem_of_getElem? (i := 139) rfl) rfl
theorem wd_901 : Cond.code yX6_holds cX6_holds 2 (some .boolean) ∈ TBg := tb_3 (List.mem_of_getElem? (i := 136) rfl) rfl
theorem wd_902 : Cond.instanceMethod yX6_holds ∈ TBg := tb_3 (List.mem_of_getElem? (i := 134) rfl) rfl
theorem wd_903 : Cond.selects RX6 yX6_holds yX6_holds ∈ TBg := tb_3 (List.mem_of_getElem? (i := 135) rfl) rfl
theorem wd_904 : Cond.code yX6_breaksAt cX6_breaksAt 2 (some .int) ∈ TBg := tb_3 (List.mem_of_getElem? (i := 112) rfl) rfl
theorem wd_905 : Cond.instanceMethod yX6_breaksAt ∈ TBg := tb_3 (List.mem_of_getElem? (i := 110) rfl) rfl
theorem wd_906 : Cond.selects RX6 yX6_breaksAt yX6_breaksAt ∈ TBg := tb_3 (List.mem_of_getElem? (i := 111) rfl) rfl
theorem wd_907 : Cond.code yX6_stands cX6_stands 1 (some .boolean) ∈ TBg := tb_4 (List.mem_of_getElem? (i := 18) rfl) rfl
theorem wd_908 : Cond.instanceMethod yX6_stands ∈ TBg := tb_4 (List.mem_of_getElem? (i := 16) rfl) rfl
theorem wd_909 : Cond.selects RX6 yX6_stands yX6_stands ∈ TBg := tb_4 (List.mem_of_getElem? (i := 17) rfl) rfl
theorem wd_910 : Cond.code yX6_room cX6_room 3 (some .int) ∈ TBg := tb_3 (List.mem_of_getElem? (i := 108) rfl) rfl
theorem wd_911 : Cond.instanceMethod yX6_room ∈ TBg := tb_3 (List.mem_of_getElem? (i := 106) rfl) rfl
theorem wd_912 : Cond.selects RX6 yX6_room yX6_room ∈ TBg := tb_3 (List.mem_of_getElem? (i := 107) rfl) rfl
theorem wd_913 : Cond.code yX6_serve cX6_serve 5 (some .int) ∈ TBg := tb_3 (List.mem_of_getElem? (i := 23) rfl) rfl
theorem wd_914 : Cond.instanceMethod yX6_serve ∈ TBg := tb_3 (List.mem_of_getElem? (i := 21) rfl) rfl
theorem wd_915 : Cond.selects RX6 yX6_serve yX6_serve ∈ TBg := tb_3 (List.mem_of_getElem? (i := 22) rfl) rfl
theorem wd_916 : Cond.code yX6_fillsAll cX6_fillsAll 5 (some .boolean) ∈ TBg := tb_4 (List.mem_of_getElem? (i := 6) rfl) rfl
theorem wd_917 : Cond.instanceMethod yX6_fillsAll ∈ TBg := tb_4 (List.mem_of_getElem? (i := 4) rfl) rfl
theorem wd_918 : Cond.selects RX6 yX6_fillsAll yX6_fillsAll ∈ TBg := tb_4 (List.mem_of_getElem? (i := 5) rfl) rfl
theorem wd_919 : Cond.code yX6_takesOf cX6_takesOf 5 (some .int) ∈ TBg := tb_3 (List.mem_of_getElem? (i := 27) rfl) rfl
theorem wd_920 : Cond.instanceMethod yX6_takesOf ∈ TBg := tb_3 (List.mem_of_getElem? (i := 26) rfl) rfl
theorem wd_921 : Cond.selects RX6 yX6_takesOf yX6_takesOf ∈ TBg := tbp_1 (q := (yX6_takesOf, 11)) (List.mem_of_getElem? (i := 1) rfl) rfl
theorem wd_922 : Cond.code yX6_fullOnes cX6_fullOnes 4 (some .int) ∈ TBg := tb_5 (List.mem_of_getElem? (i := 206) rfl) rfl
theorem wd_923 : Cond.instanceMethod yX6_fullOnes ∈ TBg := tb_5 (List.mem_of_getElem? (i := 204) rfl) rfl
theorem wd_924 : Cond.selects RX6 yX6_fullOnes yX6_fullOnes ∈ TBg := tb_5 (List.mem_of_getElem? (i := 205) rfl) rfl
theorem wd_925 : Cond.code yX6_mostHungry cX6_mostHungry 6 (some .int) ∈ TBg := tb_4 (List.mem_of_getElem? (i := 62) rfl) rfl
theorem wd_926 : Cond.instanceMethod yX6_mostHungry ∈ TBg := tb_4 (List.mem_of_getElem? (i := 60) rfl) rfl
theorem wd_927 : Cond.selects RX6 yX6_mostHungry yX6_mostHungry ∈ TBg := tb_4 (List.mem_of_getElem? (i := 61) rfl) rfl
theorem wd_928 : Cond.code yX6_mostTilted cX6_mostTilted 3 (some .int) ∈ TBg := tb_4 (List.mem_of_getElem? (i := 36) rfl) rfl
theorem wd_929 : Cond.instanceMethod yX6_mostTilted ∈ TBg := tb_4 (List.mem_of_getElem? (i := 34) rfl) rfl
theorem wd_930 : Cond.selects RX6 yX6_mostTilted yX6_mostTilted ∈ TBg := tb_4 (List.mem_of_getElem? (i := 35) rfl) rfl
theorem wd_931 : Cond.code yX6_canMarry cX6_canMarry 3 (some .boolean) ∈ TBg := tb_3 (List.mem_of_getElem? (i := 232) rfl) rfl
theorem wd_932 : Cond.instanceMethod yX6_canMarry ∈ TBg := tb_3 (List.mem_of_getElem? (i := 230) rfl) rfl
theorem wd_933 : Cond.selects RX6 yX6_canMarry yX6_canMarry ∈ TBg := tb_3 (List.mem_of_getElem? (i := 231) rfl) rfl
theorem wd_934 : Cond.code yX7_init cX7_init 1 none ∈ TBg := tb_1 (List.mem_of_getElem? (i := 37) rfl) rfl
theorem wd_935 : Cond.initialized RX7 ∈ TBg := tb_1 (List.mem_of_getElem? (i := 2) rfl) rfl
theorem wd_936 : Cond.instanceMethod yX7_init ∈ TBg := tb_1 (List.mem_of_getElem? (i := 36) rfl) rfl
theorem wd_937 : Cond.code yX7_clear cX7_clear 1 none ∈ TBg := tb_1 (List.mem_of_getElem? (i := 90) rfl) rfl
theorem wd_938 : Cond.instanceMethod yX7_clear ∈ TBg := tb_1 (List.mem_of_getElem? (i := 88) rfl) rfl
theorem wd_939 : Cond.selects RX7 yX7_clear yX7_clear ∈ TBg := tb_1 (List.mem_of_getElem? (i := 89) rfl) rfl
theorem wd_940 : Cond.code yX7_become cX7_become 2 none ∈ TBg := tb_5 (List.mem_of_getElem? (i := 178) rfl) rfl
theorem wd_941 : Cond.instanceMethod yX7_become ∈ TBg := tb_5 (List.mem_of_getElem? (i := 176) rfl) rfl
theorem wd_942 : Cond.selects RX7 yX7_become yX7_become ∈ TBg := tb_5 (List.mem_of_getElem? (i := 177) rfl) rfl
theorem wd_943 : Cond.code yX7_all cX7_all 1 (some .int) ∈ TBg := tb_2 (List.mem_of_getElem? (i := 236) rfl) rfl
theorem wd_944 : Cond.instanceMethod yX7_all ∈ TBg := tb_2 (List.mem_of_getElem? (i := 234) rfl) rfl
theorem wd_945 : Cond.selects RX7 yX7_all yX7_all ∈ TBg := tb_2 (List.mem_of_getElem? (i := 235) rfl) rfl
theorem wd_946 : Cond.code yX7_wormAYear cX7_wormAYear 2 (some .int) ∈ TBg := tb_3 (List.mem_of_getElem? (i := 124) rfl) rfl
theorem wd_947 : Cond.instanceMethod yX7_wormAYear ∈ TBg := tb_3 (List.mem_of_getElem? (i := 122) rfl) rfl
theorem wd_948 : Cond.selects RX7 yX7_wormAYear yX7_wormAYear ∈ TBg := tb_3 (List.mem_of_getElem? (i := 123) rfl) rfl
theorem wd_949 : Cond.code yX7_leanTimes cX7_leanTimes 2 (some .int) ∈ TBg := tb_3 (List.mem_of_getElem? (i := 132) rfl) rfl
theorem wd_950 : Cond.instanceMethod yX7_leanTimes ∈ TBg := tb_3 (List.mem_of_getElem? (i := 130) rfl) rfl
theorem wd_951 : Cond.selects RX7 yX7_leanTimes yX7_leanTimes ∈ TBg := tb_3 (List.mem_of_getElem? (i := 131) rfl) rfl
theorem wd_952 : Cond.code yX7_withinLimit cX7_withinLimit 2 (some .boolean) ∈ TBg := tb_3 (List.mem_of_getElem? (i := 144) rfl) rfl
theorem wd_953 : Cond.instanceMethod yX7_withinLimit ∈ TBg := tb_3 (List.mem_of_getElem? (i := 142) rfl) rfl
theorem wd_954 : Cond.selects RX7 yX7_withinLimit yX7_withinLimit ∈ TBg := tb_3 (List.mem_of_getElem? (i := 143) rfl) rfl
theorem wd_955 : Cond.code yX8_init cX8_init 3 none ∈ TBg := tb_2 (List.mem_of_getElem? (i := 76) rfl) rfl
theorem wd_956 : Cond.initialized RX8 ∈ TBg := tb_1 (List.mem_of_getElem? (i := 8) rfl) rfl
theorem wd_957 : Cond.instanceMethod yX8_init ∈ TBg := tb_2 (List.mem_of_getElem? (i := 75) rfl) rfl
theorem wd_958 : Cond.code yX8_roomWithout cX8_roomWithout 2 (some .int) ∈ TBg := tb_4 (List.mem_of_getElem? (i := 53) rfl) rfl
theorem wd_959 : Cond.instanceMethod yX8_roomWithout ∈ TBg := tb_4 (List.mem_of_getElem? (i := 51) rfl) rfl
theorem wd_960 : Cond.selects RX8 yX8_roomWithout yX8_roomWithout ∈ TBg := tb_4 (List.mem_of_getElem? (i := 52) rfl) rfl
theorem wd_961 : Cond.code yX8_bestTakenOff cX8_bestTakenOff 5 (some .int) ∈ TBg := tb_4 (List.mem_of_getElem? (i := 45) rfl) rfl
theorem wd_962 : Cond.instanceMethod yX8_bestTakenOff ∈ TBg := tb_4 (List.mem_of_getElem? (i := 43) rfl) rfl
theorem wd_963 : Cond.selects RX8 yX8_bestTakenOff yX8_bestTakenOff ∈ TBg := tb_4 (List.mem_of_getElem? (i := 44) rfl) rfl
theorem wd_964 : Cond.code yX8_fewestOthersOut cX8_fewestOthersOut 6 (some .int) ∈ TBg := tb_6 (List.mem_of_getElem? (i := 145) rfl) rfl
theorem wd_965 : Cond.instanceMethod yX8_fewestOthersOut ∈ TBg := tb_6 (List.mem_of_getElem? (i := 143) rfl) rfl
theorem wd_966 : Cond.selects RX8 yX8_fewestOthersOut yX8_fewestOthersOut ∈ TBg := tb_6 (List.mem_of_getElem? (i := 144) rfl) rfl
theorem wd_967 : Cond.code yX8_standsWithout cX8_standsWithout 4 (some .boolean) ∈ TBg := tb_6 (List.mem_of_getElem? (i := 151) rfl) rfl
theorem wd_968 : Cond.instanceMethod yX8_standsWithout ∈ TBg := tb_6 (List.mem_of_getElem? (i := 150) rfl) rfl
theorem wd_969 : Cond.selects RX8 yX8_standsWithout yX8_standsWithout ∈ TBg := tbp_3 (q := (yX8_standsWithout, 12)) (List.mem_of_getElem? (i := 12) rfl) rfl
theorem wd_970 : Cond.code yX8_bestChange cX8_bestChange 6 (some .int) ∈ TBg := tb_4 (List.mem_of_getElem? (i := 26) rfl) rfl
theorem wd_971 : Cond.instanceMethod yX8_bestChange ∈ TBg := tb_4 (List.mem_of_getElem? (i := 24) rfl) rfl
theorem wd_972 : Cond.selects RX8 yX8_bestChange yX8_bestChange ∈ TBg := tb_4 (List.mem_of_getElem? (i := 25) rfl) rfl
theorem wd_973 : Cond.code yX8_breaksFed cX8_breaksFed 3 (some .int) ∈ TBg := tb_6 (List.mem_of_getElem? (i := 134) rfl) rfl
theorem wd_974 : Cond.instanceMethod yX8_breaksFed ∈ TBg := tb_6 (List.mem_of_getElem? (i := 132) rfl) rfl
theorem wd_975 : Cond.selects RX8 yX8_breaksFed yX8_breaksFed ∈ TBg := tb_6 (List.mem_of_getElem? (i := 133) rfl) rfl
theorem wd_976 : Cond.code yX8_breaksIn cX8_breaksIn 2 (some .int) ∈ TBg := tb_3 (List.mem_of_getElem? (i := 210) rfl) rfl
theorem wd_977 : Cond.instanceMethod yX8_breaksIn ∈ TBg := tb_3 (List.mem_of_getElem? (i := 208) rfl) rfl
theorem wd_978 : Cond.selects RX8 yX8_breaksIn yX8_breaksIn ∈ TBg := tb_3 (List.mem_of_getElem? (i := 209) rfl) rfl
theorem wd_979 : Cond.code yX8_fallsIn cX8_fallsIn 2 (some .int) ∈ TBg := tb_3 (List.mem_of_getElem? (i := 206) rfl) rfl
theorem wd_980 : Cond.instanceMethod yX8_fallsIn ∈ TBg := tb_3 (List.mem_of_getElem? (i := 204) rfl) rfl
theorem wd_981 : Cond.selects RX8 yX8_fallsIn yX8_fallsIn ∈ TBg := tb_3 (List.mem_of_getElem? (i := 205) rfl) rfl
theorem wd_982 : Cond.code yX8_topMeal cX8_topMeal 2 (some .int) ∈ TBg := tb_6 (List.mem_of_getElem? (i := 187) rfl) rfl
theorem wd_983 : Cond.instanceMethod yX8_topMeal ∈ TBg := tb_6 (List.mem_of_getElem? (i := 185) rfl) rfl
theorem wd_984 : Cond.selects RX8 yX8_topMeal yX8_topMeal ∈ TBg := tb_6 (List.mem_of_getElem? (i := 186) rfl) rfl
theorem wd_985 : Cond.code yX8_leastFood cX8_leastFood 2 (some .int) ∈ TBg := tb_4 (List.mem_of_getElem? (i := 2) rfl) rfl
theorem wd_986 : Cond.instanceMethod yX8_leastFood ∈ TBg := tb_4 (List.mem_of_getElem? (i := 0) rfl) rfl
theorem wd_987 : Cond.selects RX8 yX8_leastFood yX8_leastFood ∈ TBg := tb_4 (List.mem_of_getElem? (i := 1) rfl) rfl
theorem wd_988 : Cond.code yX8_firstWedge cX8_firstWedge 4 (some .int) ∈ TBg := tb_4 (List.mem_of_getElem? (i := 14) rfl) rfl
theorem wd_989 : Cond.instanceMethod yX8_firstWedge ∈ TBg := tb_4 (List.mem_of_getElem? (i := 12) rfl) rfl
theorem wd_990 : Cond.selects RX8 yX8_firstWedge yX8_firstWedge ∈ TBg := tb_4 (List.mem_of_getElem? (i := 13) rfl) rfl
theorem wd_991 : Cond.code yX8_fewestWedges cX8_fewestWedges 3 (some .int) ∈ TBg := tb_3 (List.mem_of_getElem? (i := 189) rfl) rfl
theorem wd_992 : Cond.instanceMethod yX8_fewestWedges ∈ TBg := tb_3 (List.mem_of_getElem? (i := 187) rfl) rfl
theorem wd_993 : Cond.selects RX8 yX8_fewestWedges yX8_fewestWedges ∈ TBg := tb_3 (List.mem_of_getElem? (i := 188) rfl) rfl
theorem wd_994 : Cond.code yX8_wedgeOne cX8_wedgeOne 6 none ∈ TBg := tb_3 (List.mem_of_getElem? (i := 194) rfl) rfl
theorem wd_995 : Cond.instanceMethod yX8_wedgeOne ∈ TBg := tb_3 (List.mem_of_getElem? (i := 193) rfl) rfl
theorem wd_996 : Cond.selects RX8 yX8_wedgeOne yX8_wedgeOne ∈ TBg := tbp_1 (q := (yX8_wedgeOne, 12)) (List.mem_of_getElem? (i := 11) rfl) rfl
theorem wd_997 : Cond.code yX8_play cX8_play 3 none ∈ TBg := tb_6 (List.mem_of_getElem? (i := 220) rfl) rfl
theorem wd_998 : Cond.instanceMethod yX8_play ∈ TBg := tb_6 (List.mem_of_getElem? (i := 218) rfl) rfl
theorem wd_999 : Cond.selects RX8 yX8_play yX8_play ∈ TBg := tb_6 (List.mem_of_getElem? (i := 219) rfl) rfl
theorem wd_1000 : Cond.code yX8_fillEatable cX8_fillEatable 3 none ∈ TBg := tb_6 (List.mem_of_getElem? (i := 224) rfl) rfl
theorem wd_1001 : Cond.instanceMethod yX8_fillEatable ∈ TBg := tb_6 (List.mem_of_getElem? (i := 223) rfl) rfl
theorem wd_1002 : Cond.selects RX8 yX8_fillEatable yX8_fillEatable ∈ TBg := tbp_3 (q := (yX8_fillEatable, 12)) (List.mem_of_getElem? (i := 13) rfl) rfl
theorem wd_1003 : Cond.code yX8_rests cX8_rests 6 (some .boolean) ∈ TBg := tb_6 (List.mem_of_getElem? (i := 228) rfl) rfl
theorem wd_1004 : Cond.instanceMethod yX8_rests ∈ TBg := tb_6 (List.mem_of_getElem? (i := 227) rfl) rfl
theorem wd_1005 : Cond.selects RX8 yX8_rests yX8_rests ∈ TBg := tbp_3 (q := (yX8_rests, 12)) (List.mem_of_getElem? (i := 14) rfl) rfl
theorem wd_1006 : Cond.code yX8_gain cX8_gain 4 (some .int) ∈ TBg := tb_6 (List.mem_of_getElem? (i := 232) rfl) rfl
theorem wd_1007 : Cond.instanceMethod yX8_gain ∈ TBg := tb_6 (List.mem_of_getElem? (i := 231) rfl) rfl
theorem wd_1008 : Cond.selects RX8 yX8_gain yX8_gain ∈ TBg := tbp_3 (q := (yX8_gain, 12)) (List.mem_of_getElem? (i := 15) rfl) rfl
theorem wd_1009 : Cond.code yX8_live cX8_live 4 none ∈ TBg := tb_7 (List.mem_of_getElem? (i := 5) rfl) rfl
theorem wd_1010 : Cond.instanceMethod yX8_live ∈ TBg := tb_7 (List.mem_of_getElem? (i := 3) rfl) rfl
theorem wd_1011 : Cond.selects RX8 yX8_live yX8_live ∈ TBg := tb_7 (List.mem_of_getElem? (i := 4) rfl) rfl
theorem wd_1012 : Cond.code yX8_liveAYear cX8_liveAYear 3 none ∈ TBg := tb_7 (List.mem_of_getElem? (i := 9) rfl) rfl
theorem wd_1013 : Cond.instanceMethod yX8_liveAYear ∈ TBg := tb_7 (List.mem_of_getElem? (i := 8) rfl) rfl
theorem wd_1014 : Cond.selects RX8 yX8_liveAYear yX8_liveAYear ∈ TBg := tbp_4 (q := (yX8_liveAYear, 12)) (List.mem_of_getElem? (i := 0) rfl) rfl
theorem wd_1015 : Cond.code yX8_draw cX8_draw 2 (some .int) ∈ TBg := tb_7 (List.mem_of_getElem? (i := 13) rfl) rfl
theorem wd_1016 : Cond.instanceMethod yX8_draw ∈ TBg := tb_7 (List.mem_of_getElem? (i := 12) rfl) rfl
theorem wd_1017 : Cond.selects RX8 yX8_draw yX8_draw ∈ TBg := tbp_4 (q := (yX8_draw, 12)) (List.mem_of_getElem? (i := 1) rfl) rfl
theorem wd_1018 : Cond.code yX9_init cX9_init 1 none ∈ TBg := tb_1 (List.mem_of_getElem? (i := 29) rfl) rfl
theorem wd_1019 : Cond.initialized RX9 ∈ TBg := tb_1 (List.mem_of_getElem? (i := 1) rfl) rfl
theorem wd_1020 : Cond.instanceMethod yX9_init ∈ TBg := tb_1 (List.mem_of_getElem? (i := 28) rfl) rfl
theorem wd_1021 : Cond.code yX9_feed cX9_feed 6 (some .int) ∈ TBg := tb_2 (List.mem_of_getElem? (i := 220) rfl) rfl
theorem wd_1022 : Cond.instanceMethod yX9_feed ∈ TBg := tb_2 (List.mem_of_getElem? (i := 218) rfl) rfl
theorem wd_1023 : Cond.selects RX9 yX9_feed yX9_feed ∈ TBg := tb_2 (List.mem_of_getElem? (i := 219) rfl) rfl
theorem wd_1024 : Cond.code yX9_town cX9_town 3 (some .int) ∈ TBg := tb_4 (List.mem_of_getElem? (i := 131) rfl) rfl
theorem wd_1025 : Cond.instanceMethod yX9_town ∈ TBg := tb_4 (List.mem_of_getElem? (i := 129) rfl) rfl
theorem wd_1026 : Cond.selects RX9 yX9_town yX9_town ∈ TBg := tb_4 (List.mem_of_getElem? (i := 130) rfl) rfl
theorem wd_1027 : Cond.code yX9_fault cX9_fault 1 (some .int) ∈ TBg := tb_2 (List.mem_of_getElem? (i := 228) rfl) rfl
theorem wd_1028 : Cond.instanceMethod yX9_fault ∈ TBg := tb_2 (List.mem_of_getElem? (i := 226) rfl) rfl
theorem wd_1029 : Cond.selects RX9 yX9_fault yX9_fault ∈ TBg := tb_2 (List.mem_of_getElem? (i := 227) rfl) rfl
theorem wd_1030 : Cond.code yX9_count cX9_count 3 (some .int) ∈ TBg := tb_5 (List.mem_of_getElem? (i := 200) rfl) rfl
theorem wd_1031 : Cond.instanceMethod yX9_count ∈ TBg := tb_5 (List.mem_of_getElem? (i := 198) rfl) rfl
theorem wd_1032 : Cond.selects RX9 yX9_count yX9_count ∈ TBg := tb_5 (List.mem_of_getElem? (i := 199) rfl) rfl
theorem wd_1033 : Cond.code yX9_table cX9_table 4 (some .int) ∈ TBg := tb_5 (List.mem_of_getElem? (i := 229) rfl) rfl
theorem wd_1034 : Cond.instanceMethod yX9_table ∈ TBg := tb_5 (List.mem_of_getElem? (i := 227) rfl) rfl
theorem wd_1035 : Cond.selects RX9 yX9_table yX9_table ∈ TBg := tb_5 (List.mem_of_getElem? (i := 228) rfl) rfl
theorem wd_1036 : Cond.code yX9_level cX9_level 4 (some .int) ∈ TBg := tb_6 (List.mem_of_getElem? (i := 4) rfl) rfl
theorem wd_1037 : Cond.instanceMethod yX9_level ∈ TBg := tb_6 (List.mem_of_getElem? (i := 2) rfl) rfl
theorem wd_1038 : Cond.selects RX9 yX9_level yX9_level ∈ TBg := tb_6 (List.mem_of_getElem? (i := 3) rfl) rfl
theorem wd_1039 : Cond.code yX9_by cX9_by 1 (some .int) ∈ TBg := tb_2 (List.mem_of_getElem? (i := 232) rfl) rfl
theorem wd_1040 : Cond.instanceMethod yX9_by ∈ TBg := tb_2 (List.mem_of_getElem? (i := 230) rfl) rfl
theorem wd_1041 : Cond.selects RX9 yX9_by yX9_by ∈ TBg := tb_2 (List.mem_of_getElem? (i := 231) rfl) rfl
theorem wd_1042 : Cond.code yX9_put cX9_put 3 (some .int) ∈ TBg := tb_6 (List.mem_of_getElem? (i := 19) rfl) rfl
theorem wd_1043 : Cond.instanceMethod yX9_put ∈ TBg := tb_6 (List.mem_of_getElem? (i := 17) rfl) rfl
theorem wd_1044 : Cond.selects RX9 yX9_put yX9_put ∈ TBg := tb_6 (List.mem_of_getElem? (i := 18) rfl) rfl
theorem wd_1045 : Cond.code yX9_take cX9_take 2 (some .int) ∈ TBg := tb_6 (List.mem_of_getElem? (i := 32) rfl) rfl
theorem wd_1046 : Cond.instanceMethod yX9_take ∈ TBg := tb_6 (List.mem_of_getElem? (i := 30) rfl) rfl
theorem wd_1047 : Cond.selects RX9 yX9_take yX9_take ∈ TBg := tb_6 (List.mem_of_getElem? (i := 31) rfl) rfl
theorem wd_1048 : Cond.code yX9_change cX9_change 3 (some .boolean) ∈ TBg := tb_6 (List.mem_of_getElem? (i := 44) rfl) rfl
theorem wd_1049 : Cond.instanceMethod yX9_change ∈ TBg := tb_6 (List.mem_of_getElem? (i := 42) rfl) rfl
theorem wd_1050 : Cond.selects RX9 yX9_change yX9_change ∈ TBg := tb_6 (List.mem_of_getElem? (i := 43) rfl) rfl
theorem wd_1051 : Cond.code yX9_wedge cX9_wedge 3 (some .int) ∈ TBg := tb_6 (List.mem_of_getElem? (i := 56) rfl) rfl
theorem wd_1052 : Cond.instanceMethod yX9_wedge ∈ TBg := tb_6 (List.mem_of_getElem? (i := 54) rfl) rfl
theorem wd_1053 : Cond.selects RX9 yX9_wedge yX9_wedge ∈ TBg := tb_6 (List.mem_of_getElem? (i := 55) rfl) rfl
theorem wd_1054 : Cond.code yX9_saw cX9_saw 3 (some .int) ∈ TBg := tb_6 (List.mem_of_getElem? (i := 67) rfl) rfl
theorem wd_1055 : Cond.instanceMethod yX9_saw ∈ TBg := tb_6 (List.mem_of_getElem? (i := 65) rfl) rfl
theorem wd_1056 : Cond.selects RX9 yX9_saw yX9_saw ∈ TBg := tb_6 (List.mem_of_getElem? (i := 66) rfl) rfl
theorem wd_1057 : Cond.code yX9_supper cX9_supper 1 (some .int) ∈ TBg := tb_3 (List.mem_of_getElem? (i := 4) rfl) rfl
theorem wd_1058 : Cond.instanceMethod yX9_supper ∈ TBg := tb_3 (List.mem_of_getElem? (i := 2) rfl) rfl
theorem wd_1059 : Cond.selects RX9 yX9_supper yX9_supper ∈ TBg := tb_3 (List.mem_of_getElem? (i := 3) rfl) rfl
theorem wd_1060 : Cond.code yX9_years cX9_years 2 (some .int) ∈ TBg := tb_3 (List.mem_of_getElem? (i := 56) rfl) rfl
theorem wd_1061 : Cond.instanceMethod yX9_years ∈ TBg := tb_3 (List.mem_of_getElem? (i := 54) rfl) rfl
theorem wd_1062 : Cond.selects RX9 yX9_years yX9_years ∈ TBg := tb_3 (List.mem_of_getElem? (i := 55) rfl) rfl
theorem wd_1063 : Cond.code yX9_undo cX9_undo 1 (some .int) ∈ TBg := tb_3 (List.mem_of_getElem? (i := 73) rfl) rfl
theorem wd_1064 : Cond.instanceMethod yX9_undo ∈ TBg := tb_3 (List.mem_of_getElem? (i := 71) rfl) rfl
theorem wd_1065 : Cond.selects RX9 yX9_undo yX9_undo ∈ TBg := tb_3 (List.mem_of_getElem? (i := 72) rfl) rfl
theorem wd_1066 : Cond.code yX9_more cX9_more 1 (some .int) ∈ TBg := tb_3 (List.mem_of_getElem? (i := 104) rfl) rfl
theorem wd_1067 : Cond.instanceMethod yX9_more ∈ TBg := tb_3 (List.mem_of_getElem? (i := 102) rfl) rfl
theorem wd_1068 : Cond.selects RX9 yX9_more yX9_more ∈ TBg := tb_3 (List.mem_of_getElem? (i := 103) rfl) rfl
theorem wd_1069 : Cond.code yX9_without cX9_without 2 (some .boolean) ∈ TBg := tb_6 (List.mem_of_getElem? (i := 78) rfl) rfl
theorem wd_1070 : Cond.instanceMethod yX9_without ∈ TBg := tb_6 (List.mem_of_getElem? (i := 76) rfl) rfl
theorem wd_1071 : Cond.selects RX9 yX9_without yX9_without ∈ TBg := tb_6 (List.mem_of_getElem? (i := 77) rfl) rfl
theorem wd_1072 : Cond.code yX9_most cX9_most 2 (some .int) ∈ TBg := tb_6 (List.mem_of_getElem? (i := 86) rfl) rfl
theorem wd_1073 : Cond.instanceMethod yX9_most ∈ TBg := tb_6 (List.mem_of_getElem? (i := 84) rfl) rfl
theorem wd_1074 : Cond.selects RX9 yX9_most yX9_most ∈ TBg := tb_6 (List.mem_of_getElem? (i := 85) rfl) rfl
theorem wd_1075 : Cond.code yX9_row cX9_row 2 (some .int) ∈ TBg := tb_6 (List.mem_of_getElem? (i := 107) rfl) rfl
theorem wd_1076 : Cond.instanceMethod yX9_row ∈ TBg := tb_6 (List.mem_of_getElem? (i := 105) rfl) rfl
theorem wd_1077 : Cond.selects RX9 yX9_row yX9_row ∈ TBg := tb_6 (List.mem_of_getElem? (i := 106) rfl) rfl
theorem wd_1078 : Cond.code yX9_orders cX9_orders 1 (some .long) ∈ TBg := tb_3 (List.mem_of_getElem? (i := 151) rfl) rfl
theorem wd_1079 : Cond.instanceMethod yX9_orders ∈ TBg := tb_3 (List.mem_of_getElem? (i := 149) rfl) rfl
theorem wd_1080 : Cond.selects RX9 yX9_orders yX9_orders ∈ TBg := tb_3 (List.mem_of_getElem? (i := 150) rfl) rfl
theorem wd_1081 : Cond.code yX9_wedges cX9_wedges 1 (some .int) ∈ TBg := tb_3 (List.mem_of_getElem? (i := 185) rfl) rfl
theorem wd_1082 : Cond.instanceMethod yX9_wedges ∈ TBg := tb_3 (List.mem_of_getElem? (i := 183) rfl) rfl
theorem wd_1083 : Cond.selects RX9 yX9_wedges yX9_wedges ∈ TBg := tb_3 (List.mem_of_getElem? (i := 184) rfl) rfl
theorem wd_1084 : Cond.code yX9_when cX9_when 1 (some .int) ∈ TBg := tb_3 (List.mem_of_getElem? (i := 202) rfl) rfl
theorem wd_1085 : Cond.instanceMethod yX9_when ∈ TBg := tb_3 (List.mem_of_getElem? (i := 200) rfl) rfl
theorem wd_1086 : Cond.selects RX9 yX9_when yX9_when ∈ TBg := tb_3 (List.mem_of_getElem? (i := 201) rfl) rfl
theorem wd_1087 : Cond.code yX9_marriages cX9_marriages 1 (some .int) ∈ TBg := tb_3 (List.mem_of_getElem? (i := 220) rfl) rfl
theorem wd_1088 : Cond.instanceMethod yX9_marriages ∈ TBg := tb_3 (List.mem_of_getElem? (i := 218) rfl) rfl
theorem wd_1089 : Cond.selects RX9 yX9_marriages yX9_marriages ∈ TBg := tb_3 (List.mem_of_getElem? (i := 219) rfl) rfl
theorem wd_1090 : Cond.code yX9_marry cX9_marry 3 (some .boolean) ∈ TBg := tb_6 (List.mem_of_getElem? (i := 115) rfl) rfl
theorem wd_1091 : Cond.instanceMethod yX9_marry ∈ TBg := tb_6 (List.mem_of_getElem? (i := 113) rfl) rfl
theorem wd_1092 : Cond.selects RX9 yX9_marry yX9_marry ∈ TBg := tb_6 (List.mem_of_getElem? (i := 114) rfl) rfl
theorem wd_1093 : Cond.code yX9_nod cX9_nod 3 (some .int) ∈ TBg := tb_6 (List.mem_of_getElem? (i := 124) rfl) rfl
theorem wd_1094 : Cond.instanceMethod yX9_nod ∈ TBg := tb_6 (List.mem_of_getElem? (i := 122) rfl) rfl
theorem wd_1095 : Cond.selects RX9 yX9_nod yX9_nod ∈ TBg := tb_6 (List.mem_of_getElem? (i := 123) rfl) rfl
theorem wd_1096 : Cond.code yX9_fair cX9_fair 1 (some .int) ∈ TBg := tb_3 (List.mem_of_getElem? (i := 238) rfl) rfl
theorem wd_1097 : Cond.instanceMethod yX9_fair ∈ TBg := tb_3 (List.mem_of_getElem? (i := 236) rfl) rfl
theorem wd_1098 : Cond.selects RX9 yX9_fair yX9_fair ∈ TBg := tb_3 (List.mem_of_getElem? (i := 237) rfl) rfl
theorem wd_1099 : Cond.code yX9_out cX9_out 2 (some .int) ∈ TBg := tb_6 (List.mem_of_getElem? (i := 141) rfl) rfl
theorem wd_1100 : Cond.instanceMethod yX9_out ∈ TBg := tb_6 (List.mem_of_getElem? (i := 139) rfl) rfl
theorem wd_1101 : Cond.selects RX9 yX9_out yX9_out ∈ TBg := tb_6 (List.mem_of_getElem? (i := 140) rfl) rfl
theorem wd_1102 : Cond.code yX9_oneWedge cX9_oneWedge 1 (some .int) ∈ TBg := tb_4 (List.mem_of_getElem? (i := 10) rfl) rfl
theorem wd_1103 : Cond.instanceMethod yX9_oneWedge ∈ TBg := tb_4 (List.mem_of_getElem? (i := 8) rfl) rfl
theorem wd_1104 : Cond.selects RX9 yX9_oneWedge yX9_oneWedge ∈ TBg := tb_4 (List.mem_of_getElem? (i := 9) rfl) rfl
theorem wd_1105 : Cond.code yX9_lifted cX9_lifted 3 (some .long) ∈ TBg := tb_6 (List.mem_of_getElem? (i := 158) rfl) rfl
theorem wd_1106 : Cond.instanceMethod yX9_lifted ∈ TBg := tb_6 (List.mem_of_getElem? (i := 156) rfl) rfl
theorem wd_1107 : Cond.selects RX9 yX9_lifted yX9_lifted ∈ TBg := tb_6 (List.mem_of_getElem? (i := 157) rfl) rfl
theorem wd_1108 : Cond.code yX9_swap cX9_swap 1 (some .int) ∈ TBg := tb_4 (List.mem_of_getElem? (i := 22) rfl) rfl
theorem wd_1109 : Cond.instanceMethod yX9_swap ∈ TBg := tb_4 (List.mem_of_getElem? (i := 20) rfl) rfl
theorem wd_1110 : Cond.selects RX9 yX9_swap yX9_swap ∈ TBg := tb_4 (List.mem_of_getElem? (i := 21) rfl) rfl
theorem wd_1111 : Cond.code yX9_slack cX9_slack 2 (some .int) ∈ TBg := tb_6 (List.mem_of_getElem? (i := 166) rfl) rfl
theorem wd_1112 : Cond.instanceMethod yX9_slack ∈ TBg := tb_6 (List.mem_of_getElem? (i := 164) rfl) rfl
theorem wd_1113 : Cond.selects RX9 yX9_slack yX9_slack ∈ TBg := tb_6 (List.mem_of_getElem? (i := 165) rfl) rfl
theorem wd_1114 : Cond.code yX9_broken cX9_broken 2 (some .int) ∈ TBg := tb_6 (List.mem_of_getElem? (i := 174) rfl) rfl
theorem wd_1115 : Cond.instanceMethod yX9_broken ∈ TBg := tb_6 (List.mem_of_getElem? (i := 172) rfl) rfl
theorem wd_1116 : Cond.selects RX9 yX9_broken yX9_broken ∈ TBg := tb_6 (List.mem_of_getElem? (i := 173) rfl) rfl
theorem wd_1117 : Cond.code yX9_crooked cX9_crooked 1 (some .int) ∈ TBg := tb_4 (List.mem_of_getElem? (i := 32) rfl) rfl
theorem wd_1118 : Cond.instanceMethod yX9_crooked ∈ TBg := tb_4 (List.mem_of_getElem? (i := 30) rfl) rfl
theorem wd_1119 : Cond.selects RX9 yX9_crooked yX9_crooked ∈ TBg := tb_4 (List.mem_of_getElem? (i := 31) rfl) rfl
theorem wd_1120 : Cond.code yX9_top cX9_top 2 (some .int) ∈ TBg := tb_6 (List.mem_of_getElem? (i := 182) rfl) rfl
theorem wd_1121 : Cond.instanceMethod yX9_top ∈ TBg := tb_6 (List.mem_of_getElem? (i := 180) rfl) rfl
theorem wd_1122 : Cond.selects RX9 yX9_top yX9_top ∈ TBg := tb_6 (List.mem_of_getElem? (i := 181) rfl) rfl
theorem wd_1123 : Cond.code yX9_relief cX9_relief 1 (some .int) ∈ TBg := tb_4 (List.mem_of_getElem? (i := 41) rfl) rfl
theorem wd_1124 : Cond.instanceMethod yX9_relief ∈ TBg := tb_4 (List.mem_of_getElem? (i := 39) rfl) rfl
theorem wd_1125 : Cond.selects RX9 yX9_relief yX9_relief ∈ TBg := tb_4 (List.mem_of_getElem? (i := 40) rfl) rfl
theorem wd_1126 : Cond.code yX9_hungriest cX9_hungriest 1 (some .int) ∈ TBg := tb_4 (List.mem_of_getElem? (i := 58) rfl) rfl
theorem wd_1127 : Cond.instanceMethod yX9_hungriest ∈ TBg := tb_4 (List.mem_of_getElem? (i := 56) rfl) rfl
theorem wd_1128 : Cond.selects RX9 yX9_hungriest yX9_hungriest ∈ TBg := tb_4 (List.mem_of_getElem? (i := 57) rfl) rfl
theorem wd_1129 : Cond.code yX9_see cX9_see 3 (some .int) ∈ TBg := tb_4 (List.mem_of_getElem? (i := 67) rfl) rfl
theorem wd_1130 : Cond.instanceMethod yX9_see ∈ TBg := tb_4 (List.mem_of_getElem? (i := 65) rfl) rfl
theorem wd_1131 : Cond.selects RX9 yX9_see yX9_see ∈ TBg := tb_4 (List.mem_of_getElem? (i := 66) rfl) rfl
theorem wd_1132 : Cond.code yX9_which cX9_which 2 (some .int) ∈ TBg := tb_6 (List.mem_of_getElem? (i := 195) rfl) rfl
theorem wd_1133 : Cond.instanceMethod yX9_which ∈ TBg := tb_6 (List.mem_of_getElem? (i := 193) rfl) rfl
theorem wd_1134 : Cond.selects RX9 yX9_which yX9_which ∈ TBg := tb_6 (List.mem_of_getElem? (i := 194) rfl) rfl
theorem wd_1135 : Cond.code yX9_look cX9_look 1 (some .int) ∈ TBg := tb_4 (List.mem_of_getElem? (i := 75) rfl) rfl
theorem wd_1136 : Cond.instanceMethod yX9_look ∈ TBg := tb_4 (List.mem_of_getElem? (i := 73) rfl) rfl
theorem wd_1137 : Cond.selects RX9 yX9_look yX9_look ∈ TBg := tb_4 (List.mem_of_getElem? (i := 74) rfl) rfl
theorem wd_1138 : Cond.code yX9_forget cX9_forget 1 none ∈ TBg := tb_4 (List.mem_of_getElem? (i := 105) rfl) rfl
theorem wd_1139 : Cond.instanceMethod yX9_forget ∈ TBg := tb_4 (List.mem_of_getElem? (i := 103) rfl) rfl
theorem wd_1140 : Cond.selects RX9 yX9_forget yX9_forget ∈ TBg := tb_4 (List.mem_of_getElem? (i := 104) rfl) rfl
theorem wd_1141 : Cond.code yX9_game cX9_game 2 (some .int) ∈ TBg := tb_6 (List.mem_of_getElem? (i := 215) rfl) rfl
theorem wd_1142 : Cond.instanceMethod yX9_game ∈ TBg := tb_6 (List.mem_of_getElem? (i := 213) rfl) rfl
theorem wd_1143 : Cond.selects RX9 yX9_game yX9_game ∈ TBg := tb_6 (List.mem_of_getElem? (i := 214) rfl) rfl
theorem wd_1144 : Cond.code yX9_decades cX9_decades 4 (some .int) ∈ TBg := tb_6 (List.mem_of_getElem? (i := 239) rfl) rfl
theorem wd_1145 : Cond.instanceMethod yX9_decades ∈ TBg := tb_6 (List.mem_of_getElem? (i := 237) rfl) rfl
theorem wd_1146 : Cond.selects RX9 yX9_decades yX9_decades ∈ TBg := tb_6 (List.mem_of_getElem? (i := 238) rfl) rfl
theorem wd_1147 : Cond.code yX9_image cX9_image 1 none ∈ TBg := tb_4 (List.mem_of_getElem? (i := 109) rfl) rfl
theorem wd_1148 : Cond.instanceMethod yX9_image ∈ TBg := tb_4 (List.mem_of_getElem? (i := 107) rfl) rfl
theorem wd_1149 : Cond.selects RX9 yX9_image yX9_image ∈ TBg := tb_4 (List.mem_of_getElem? (i := 108) rfl) rfl
theorem wd_1150 : Cond.code yX9_restore cX9_restore 1 (some .boolean) ∈ TBg := tb_4 (List.mem_of_getElem? (i := 123) rfl) rfl
theorem wd_1151 : Cond.instanceMethod yX9_restore ∈ TBg := tb_4 (List.mem_of_getElem? (i := 121) rfl) rfl
theorem wd_1152 : Cond.selects RX9 yX9_restore yX9_restore ∈ TBg := tb_4 (List.mem_of_getElem? (i := 122) rfl) rfl
theorem wd_1153 : Cond.code yX9_feedOne cX9_feedOne 3 none ∈ TBg := tb_2 (List.mem_of_getElem? (i := 224) rfl) rfl
theorem wd_1154 : Cond.instanceMethod yX9_feedOne ∈ TBg := tb_2 (List.mem_of_getElem? (i := 223) rfl) rfl
theorem wd_1155 : Cond.selects RX9 yX9_feedOne yX9_feedOne ∈ TBg := tbp_1 (q := (yX9_feedOne, 12)) (List.mem_of_getElem? (i := 0) rfl) rfl
theorem wd_1156 : Cond.code yX9_needTable cX9_needTable 2 none ∈ TBg := tb_5 (List.mem_of_getElem? (i := 233) rfl) rfl
theorem wd_1157 : Cond.instanceMethod yX9_needTable ∈ TBg := tb_5 (List.mem_of_getElem? (i := 232) rfl) rfl
theorem wd_1158 : Cond.selects RX9 yX9_needTable yX9_needTable ∈ TBg := tbp_3 (q := (yX9_needTable, 12)) (List.mem_of_getElem? (i := 7) rfl) rfl
theorem wd_1159 : Cond.code yX9_needTableInTower cX9_needTableInTower 2 none ∈ TBg := tb_6 (List.mem_of_getElem? (i := 128) rfl) rfl
theorem wd_1160 : Cond.instanceMethod yX9_needTableInTower ∈ TBg := tb_6 (List.mem_of_getElem? (i := 127) rfl) rfl
theorem wd_1161 : Cond.selects RX9 yX9_needTableInTower yX9_needTableInTower ∈ TBg := tbp_3 (q := (yX9_needTableInTower, 12)) (List.mem_of_getElem? (i := 11) rfl) rfl
theorem wd_1162 : Cond.code yX9_needLevel cX9_needLevel 2 none ∈ TBg := tb_6 (List.mem_of_getElem? (i := 8) rfl) rfl
theorem wd_1163 : Cond.instanceMethod yX9_needLevel ∈ TBg := tb_6 (List.mem_of_getElem? (i := 7) rfl) rfl
theorem wd_1164 : Cond.selects RX9 yX9_needLevel yX9_needLevel ∈ TBg := tbp_3 (q := (yX9_needLevel, 12)) (List.mem_of_getElem? (i := 8) rfl) rfl
theorem wd_1165 : Cond.code yX10_init cX10_init 1 none ∈ TBg := tb_7 (List.mem_of_getElem? (i := 21) rfl) rfl
theorem wd_1166 : Cond.initialized RX10 ∈ TBg := tb_1 (List.mem_of_getElem? (i := 11) rfl) rfl
theorem wd_1167 : Cond.instanceMethod yX10_init ∈ TBg := tb_7 (List.mem_of_getElem? (i := 20) rfl) rfl
theorem wd_1168 : Cond.code yX10_thrown cX10_thrown 1 (some .int) ∈ TBg := tb_7 (List.mem_of_getElem? (i := 214) rfl) rfl
theorem wd_1169 : Cond.instanceMethod yX10_thrown ∈ TBg := tb_7 (List.mem_of_getElem? (i := 212) rfl) rfl
theorem wd_1170 : Cond.selects RX10 yX10_thrown yX10_thrown ∈ TBg := tb_7 (List.mem_of_getElem? (i := 213) rfl) rfl
theorem wd_1171 : Cond.code yX10_fail cX10_fail 2 (some .int) ∈ TBg := tb_7 (List.mem_of_getElem? (i := 226) rfl) rfl
theorem wd_1172 : Cond.instanceMethod yX10_fail ∈ TBg := tb_7 (List.mem_of_getElem? (i := 225) rfl) rfl
theorem wd_1173 : Cond.selects RX10 yX10_fail yX10_fail ∈ TBg := tbp_4 (q := (yX10_fail, 58)) (List.mem_of_getElem? (i := 2) rfl) rfl
theorem wd_1174 : Cond.code yX10_failing cX10_failing 2 (some .boolean) ∈ TBg := tb_8 (List.mem_of_getElem? (i := 194) rfl) rfl
theorem wd_1175 : Cond.instanceMethod yX10_failing ∈ TBg := tb_8 (List.mem_of_getElem? (i := 193) rfl) rfl
theorem wd_1176 : Cond.selects RX10 yX10_failing yX10_failing ∈ TBg := tbp_6 (q := (yX10_failing, 58)) (List.mem_of_getElem? (i := 7) rfl) rfl
theorem wd_1177 : Cond.code yX10_isIn cX10_isIn 6 (some .boolean) ∈ TBg := tb_8 (List.mem_of_getElem? (i := 141) rfl) rfl
theorem wd_1178 : Cond.static yX10_isIn ∈ TBg := tb_8 (List.mem_of_getElem? (i := 140) rfl) rfl
theorem wd_1179 : Cond.code yX10_isOf cX10_isOf 2 (some .boolean) ∈ TBg := tb_9 (List.mem_of_getElem? (i := 34) rfl) rfl
theorem wd_1180 : Cond.static yX10_isOf ∈ TBg := tb_9 (List.mem_of_getElem? (i := 33) rfl) rfl
theorem wd_1181 : Cond.code yX10_isTable cX10_isTable 2 (some .boolean) ∈ TBg := tb_8 (List.mem_of_getElem? (i := 138) rfl) rfl
theorem wd_1182 : Cond.instanceMethod yX10_isTable ∈ TBg := tb_8 (List.mem_of_getElem? (i := 137) rfl) rfl
theorem wd_1183 : Cond.selects RX10 yX10_isTable yX10_isTable ∈ TBg := tbp_5 (q := (yX10_isTable, 58)) (List.mem_of_getElem? (i := 15) rfl) rfl
theorem wd_1184 : Cond.code yX10_isLevel cX10_isLevel 2 (some .boolean) ∈ TBg := tb_8 (List.mem_of_getElem? (i := 161) rfl) rfl
theorem wd_1185 : Cond.instanceMethod yX10_isLevel ∈ TBg := tb_8 (List.mem_of_getElem? (i := 160) rfl) rfl
theorem wd_1186 : Cond.selects RX10 yX10_isLevel yX10_isLevel ∈ TBg := tbp_6 (q := (yX10_isLevel, 58)) (List.mem_of_getElem? (i := 2) rfl) rfl
theorem wd_1187 : Cond.code yX10_feed cX10_feed 8 (some .int) ∈ TBg := tb_7 (List.mem_of_getElem? (i := 218) rfl) rfl
theorem wd_1188 : Cond.instanceMethod yX10_feed ∈ TBg := tb_7 (List.mem_of_getElem? (i := 216) rfl) rfl
theorem wd_1189 : Cond.selects RX10 yX10_feed yX10_feed ∈ TBg := tb_7 (List.mem_of_getElem? (i := 217) rfl) rfl
theorem wd_1190 : Cond.code yX10_byteAt cX10_byteAt 2 (some .int) ∈ TBg := tb_7 (List.mem_of_getElem? (i := 234) rfl) rfl
theorem wd_1191 : Cond.instanceMethod yX10_byteAt ∈ TBg := tb_7 (List.mem_of_getElem? (i := 233) rfl) rfl
theorem wd_1192 : Cond.selects RX10 yX10_byteAt yX10_byteAt ∈ TBg := tbp_4 (q := (yX10_byteAt, 58)) (List.mem_of_getElem? (i := 4) rfl) rfl
theorem wd_1193 : Cond.code yX10_isLetter cX10_isLetter 1 (some .boolean) ∈ TBg := tb_7 (List.mem_of_getElem? (i := 237) rfl) rfl
theorem wd_1194 : Cond.static yX10_isLetter ∈ TBg := tb_7 (List.mem_of_getElem? (i := 236) rfl) rfl
theorem wd_1195 : Cond.code yX10_isDigit cX10_isDigit 1 (some .boolean) ∈ TBg := tb_8 (List.mem_of_getElem? (i := 0) rfl) rfl
theorem wd_1196 : Cond.static yX10_isDigit ∈ TBg := tb_7 (List.mem_of_getElem? (i := 239) rfl) rfl
theorem wd_1197 : Cond.code yX10_isMark cX10_isMark 1 (some .boolean) ∈ TBg := tb_8 (List.mem_of_getElem? (i := 5) rfl) rfl
theorem wd_1198 : Cond.static yX10_isMark ∈ TBg := tb_8 (List.mem_of_getElem? (i := 4) rfl) rfl
theorem wd_1199 : Cond.code yX10_stepOn cX10_stepOn 2 none ∈ TBg := tb_7 (List.mem_of_getElem? (i := 230) rfl) rfl
theorem wd_1200 : Cond.instanceMethod yX10_stepOn ∈ TBg := tb_7 (List.mem_of_getElem? (i := 229) rfl) rfl
theorem wd_1201 : Cond.selects RX10 yX10_stepOn yX10_stepOn ∈ TBg := tbp_4 (q := (yX10_stepOn, 58)) (List.mem_of_getElem? (i := 3) rfl) rfl
theorem wd_1202 : Cond.code yX10_wrong cX10_wrong 2 none ∈ TBg := tb_8 (List.mem_of_getElem? (i := 26) rfl) rfl
theorem wd_1203 : Cond.instanceMethod yX10_wrong ∈ TBg := tb_8 (List.mem_of_getElem? (i := 25) rfl) rfl
theorem wd_1204 : Cond.selects RX10 yX10_wrong yX10_wrong ∈ TBg := tbp_4 (q := (yX10_wrong, 58)) (List.mem_of_getElem? (i := 8) rfl) rfl
theorem wd_1205 : Cond.code yX10_is cX10_is 4 (some .boolean) ∈ TBg := tb_8 (List.mem_of_getElem? (i := 14) rfl) rfl
theorem wd_1206 : Cond.instanceMethod yX10_is ∈ TBg := tb_8 (List.mem_of_getElem? (i := 13) rfl) rfl
theorem wd_1207 : Cond.selects RX10 yX10_is yX10_is ∈ TBg := tbp_4 (q := (yX10_is, 58)) (List.mem_of_getElem? (i := 6) rfl) rfl
theorem wd_1208 : Cond.code yX10_wordOf cX10_wordOf 3 (some .int) ∈ TBg := tb_8 (List.mem_of_getElem? (i := 22) rfl) rfl
theorem wd_1209 : Cond.instanceMethod yX10_wordOf ∈ TBg := tb_8 (List.mem_of_getElem? (i := 21) rfl) rfl
theorem wd_1210 : Cond.selects RX10 yX10_wordOf yX10_wordOf ∈ TBg := tbp_4 (q := (yX10_wordOf, 58)) (List.mem_of_getElem? (i := 7) rfl) rfl
theorem wd_1211 : Cond.code yX10_isMarked cX10_isMarked 2 (some .boolean) ∈ TBg := tb_8 (List.mem_of_getElem? (i := 38) rfl) rfl
theorem wd_1212 : Cond.instanceMethod yX10_isMarked ∈ TBg := tb_8 (List.mem_of_getElem? (i := 37) rfl) rfl
theorem wd_1213 : Cond.selects RX10 yX10_isMarked yX10_isMarked ∈ TBg := tbp_4 (q := (yX10_isMarked, 58)) (List.mem_of_getElem? (i := 11) rfl) rfl
theorem wd_1214 : Cond.code yX10_mark cX10_mark 2 none ∈ TBg := tb_8 (List.mem_of_getElem? (i := 67) rfl) rfl
theorem wd_1215 : Cond.instanceMethod yX10_mark ∈ TBg := tb_8 (List.mem_of_getElem? (i := 66) rfl) rfl
theorem wd_1216 : Cond.selects RX10 yX10_mark yX10_mark ∈ TBg := tbp_5 (q := (yX10_mark, 58)) (List.mem_of_getElem? (i := 2) rfl) rfl
theorem wd_1217 : Cond.code yX10_readNumber cX10_readNumber 4 (some .int) ∈ TBg := tb_8 (List.mem_of_getElem? (i := 30) rfl) rfl
theorem wd_1218 : Cond.instanceMethod yX10_readNumber ∈ TBg := tb_8 (List.mem_of_getElem? (i := 29) rfl) rfl
theorem wd_1219 : Cond.selects RX10 yX10_readNumber yX10_readNumber ∈ TBg := tbp_4 (q := (yX10_readNumber, 58)) (List.mem_of_getElem? (i := 9) rfl) rfl
theorem wd_1220 : Cond.code yX10_lay cX10_lay 2 none ∈ TBg := tb_8 (List.mem_of_getElem? (i := 63) rfl) rfl
theorem wd_1221 : Cond.instanceMethod yX10_lay ∈ TBg := tb_8 (List.mem_of_getElem? (i := 62) rfl) rfl
theorem wd_1222 : Cond.selects RX10 yX10_lay yX10_lay ∈ TBg := tbp_5 (q := (yX10_lay, 58)) (List.mem_of_getElem? (i := 1) rfl) rfl
theorem wd_1223 : Cond.code yX10_readPart cX10_readPart 3 none ∈ TBg := tb_8 (List.mem_of_getElem? (i := 59) rfl) rfl
theorem wd_1224 : Cond.instanceMethod yX10_readPart ∈ TBg := tb_8 (List.mem_of_getElem? (i := 58) rfl) rfl
theorem wd_1225 : Cond.selects RX10 yX10_readPart yX10_readPart ∈ TBg := tbp_5 (q := (yX10_readPart, 58)) (List.mem_of_getElem? (i := 0) rfl) rfl
theorem wd_1226 : Cond.code yX10_readProduct cX10_readProduct 3 none ∈ TBg := tb_8 (List.mem_of_getElem? (i := 55) rfl) rfl
theorem wd_1227 : Cond.instanceMethod yX10_readProduct ∈ TBg := tb_8 (List.mem_of_getElem? (i := 54) rfl) rfl
theorem wd_1228 : Cond.selects RX10 yX10_readProduct yX10_readProduct ∈ TBg := tbp_4 (q := (yX10_readProduct, 58)) (List.mem_of_getElem? (i := 15) rfl) rfl
theorem wd_1229 : Cond.code yX10_readSum cX10_readSum 3 none ∈ TBg := tb_8 (List.mem_of_getElem? (i := 51) rfl) rfl
theorem wd_1230 : Cond.instanceMethod yX10_readSum ∈ TBg := tb_8 (List.mem_of_getElem? (i := 50) rfl) rfl
theorem wd_1231 : Cond.selects RX10 yX10_readSum yX10_readSum ∈ TBg := tbp_4 (q := (yX10_readSum, 58)) (List.mem_of_getElem? (i := 14) rfl) rfl
theorem wd_1232 : Cond.code yX10_readNot cX10_readNot 4 none ∈ TBg := tb_8 (List.mem_of_getElem? (i := 46) rfl) rfl
theorem wd_1233 : Cond.instanceMethod yX10_readNot ∈ TBg := tb_8 (List.mem_of_getElem? (i := 45) rfl) rfl
theorem wd_1234 : Cond.selects RX10 yX10_readNot yX10_readNot ∈ TBg := tbp_4 (q := (yX10_readNot, 58)) (List.mem_of_getElem? (i := 13) rfl) rfl
theorem wd_1235 : Cond.code yX10_readAnd cX10_readAnd 2 none ∈ TBg := tb_8 (List.mem_of_getElem? (i := 42) rfl) rfl
theorem wd_1236 : Cond.instanceMethod yX10_readAnd ∈ TBg := tb_8 (List.mem_of_getElem? (i := 41) rfl) rfl
theorem wd_1237 : Cond.selects RX10 yX10_readAnd yX10_readAnd ∈ TBg := tbp_4 (q := (yX10_readAnd, 58)) (List.mem_of_getElem? (i := 12) rfl) rfl
theorem wd_1238 : Cond.code yX10_readExpression cX10_readExpression 3 none ∈ TBg := tb_8 (List.mem_of_getElem? (i := 34) rfl) rfl
theorem wd_1239 : Cond.instanceMethod yX10_readExpression ∈ TBg := tb_8 (List.mem_of_getElem? (i := 33) rfl) rfl
theorem wd_1240 : Cond.selects RX10 yX10_readExpression yX10_readExpression ∈ TBg := tbp_4 (q := (yX10_readExpression, 58)) (List.mem_of_getElem? (i := 10) rfl) rfl
theorem wd_1241 : Cond.code yX10_readTable cX10_readTable 5 none ∈ TBg := tb_8 (List.mem_of_getElem? (i := 73) rfl) rfl
theorem wd_1242 : Cond.instanceMethod yX10_readTable ∈ TBg := tb_8 (List.mem_of_getElem? (i := 72) rfl) rfl
theorem wd_1243 : Cond.selects RX10 yX10_readTable yX10_readTable ∈ TBg := tbp_5 (q := (yX10_readTable, 58)) (List.mem_of_getElem? (i := 3) rfl) rfl
theorem wd_1244 : Cond.code yX10_readLine cX10_readLine 4 (some .int) ∈ TBg := tb_8 (List.mem_of_getElem? (i := 9) rfl) rfl
theorem wd_1245 : Cond.instanceMethod yX10_readLine ∈ TBg := tb_8 (List.mem_of_getElem? (i := 8) rfl) rfl
theorem wd_1246 : Cond.selects RX10 yX10_readLine yX10_readLine ∈ TBg := tbp_4 (q := (yX10_readLine, 58)) (List.mem_of_getElem? (i := 5) rfl) rfl
theorem wd_1247 : Cond.code yX10_town cX10_town 3 (some .int) ∈ TBg := tb_7 (List.mem_of_getElem? (i := 222) rfl) rfl
theorem wd_1248 : Cond.instanceMethod yX10_town ∈ TBg := tb_7 (List.mem_of_getElem? (i := 220) rfl) rfl
theorem wd_1249 : Cond.selects RX10 yX10_town yX10_town ∈ TBg := tb_7 (List.mem_of_getElem? (i := 221) rfl) rfl
theorem wd_1250 : Cond.code yX10_takeHalf cX10_takeHalf 2 none ∈ TBg := tb_8 (List.mem_of_getElem? (i := 80) rfl) rfl
theorem wd_1251 : Cond.static yX10_takeHalf ∈ TBg := tb_8 (List.mem_of_getElem? (i := 79) rfl) rfl
theorem wd_1252 : Cond.code yX10_takeOver cX10_takeOver 2 none ∈ TBg := tb_8 (List.mem_of_getElem? (i := 77) rfl) rfl
theorem wd_1253 : Cond.instanceMethod yX10_takeOver ∈ TBg := tb_8 (List.mem_of_getElem? (i := 76) rfl) rfl
theorem wd_1254 : Cond.selects RX10 yX10_takeOver yX10_takeOver ∈ TBg := tbp_5 (q := (yX10_takeOver, 58)) (List.mem_of_getElem? (i := 4) rfl) rfl
theorem wd_1255 : Cond.code yX10_fault cX10_fault 1 (some .int) ∈ TBg := tb_8 (List.mem_of_getElem? (i := 84) rfl) rfl
theorem wd_1256 : Cond.instanceMethod yX10_fault ∈ TBg := tb_8 (List.mem_of_getElem? (i := 82) rfl) rfl
theorem wd_1257 : Cond.selects RX10 yX10_fault yX10_fault ∈ TBg := tb_8 (List.mem_of_getElem? (i := 83) rfl) rfl
theorem wd_1258 : Cond.code yX10_pack cX10_pack 4 none ∈ TBg := tb_8 (List.mem_of_getElem? (i := 178) rfl) rfl
theorem wd_1259 : Cond.instanceMethod yX10_pack ∈ TBg := tb_8 (List.mem_of_getElem? (i := 177) rfl) rfl
theorem wd_1260 : Cond.selects RX10 yX10_pack yX10_pack ∈ TBg := tbp_6 (q := (yX10_pack, 58)) (List.mem_of_getElem? (i := 5) rfl) rfl
theorem wd_1261 : Cond.code yX10_unpack cX10_unpack 4 none ∈ TBg := tb_9 (List.mem_of_getElem? (i := 0) rfl) rfl
theorem wd_1262 : Cond.instanceMethod yX10_unpack ∈ TBg := tb_8 (List.mem_of_getElem? (i := 239) rfl) rfl
theorem wd_1263 : Cond.selects RX10 yX10_unpack yX10_unpack ∈ TBg := tbp_6 (q := (yX10_unpack, 58)) (List.mem_of_getElem? (i := 12) rfl) rfl
theorem wd_1264 : Cond.code yX10_levelOf cX10_levelOf 3 (some .int) ∈ TBg := tb_8 (List.mem_of_getElem? (i := 145) rfl) rfl
theorem wd_1265 : Cond.instanceMethod yX10_levelOf ∈ TBg := tb_8 (List.mem_of_getElem? (i := 144) rfl) rfl
theorem wd_1266 : Cond.selects RX10 yX10_levelOf yX10_levelOf ∈ TBg := tbp_6 (q := (yX10_levelOf, 58)) (List.mem_of_getElem? (i := 0) rfl) rfl
theorem wd_1267 : Cond.code yX10_worm cX10_worm 2 (some .int) ∈ TBg := tb_8 (List.mem_of_getElem? (i := 116) rfl) rfl
theorem wd_1268 : Cond.instanceMethod yX10_worm ∈ TBg := tb_8 (List.mem_of_getElem? (i := 115) rfl) rfl
theorem wd_1269 : Cond.selects RX10 yX10_worm yX10_worm ∈ TBg := tbp_5 (q := (yX10_worm, 58)) (List.mem_of_getElem? (i := 11) rfl) rfl
theorem wd_1270 : Cond.code yX10_carries cX10_carries 4 (some .int) ∈ TBg := tb_8 (List.mem_of_getElem? (i := 112) rfl) rfl
theorem wd_1271 : Cond.instanceMethod yX10_carries ∈ TBg := tb_8 (List.mem_of_getElem? (i := 111) rfl) rfl
theorem wd_1272 : Cond.selects RX10 yX10_carries yX10_carries ∈ TBg := tbp_5 (q := (yX10_carries, 58)) (List.mem_of_getElem? (i := 10) rfl) rfl
theorem wd_1273 : Cond.code yX10_turns cX10_turns 2 (some .int) ∈ TBg := tb_8 (List.mem_of_getElem? (i := 125) rfl) rfl
theorem wd_1274 : Cond.instanceMethod yX10_turns ∈ TBg := tb_8 (List.mem_of_getElem? (i := 124) rfl) rfl
theorem wd_1275 : Cond.selects RX10 yX10_turns yX10_turns ∈ TBg := tbp_5 (q := (yX10_turns, 58)) (List.mem_of_getElem? (i := 13) rfl) rfl
theorem wd_1276 : Cond.code yX10_loadOn cX10_loadOn 4 (some .int) ∈ TBg := tb_8 (List.mem_of_getElem? (i := 104) rfl) rfl
theorem wd_1277 : Cond.instanceMethod yX10_loadOn ∈ TBg := tb_8 (List.mem_of_getElem? (i := 103) rfl) rfl
theorem wd_1278 : Cond.selects RX10 yX10_loadOn yX10_loadOn ∈ TBg := tbp_5 (q := (yX10_loadOn, 58)) (List.mem_of_getElem? (i := 8) rfl) rfl
theorem wd_1279 : Cond.code yX10_carriedBy cX10_carriedBy 2 (some .int) ∈ TBg := tb_8 (List.mem_of_getElem? (i := 108) rfl) rfl
theorem wd_1280 : Cond.instanceMethod yX10_carriedBy ∈ TBg := tb_8 (List.mem_of_getElem? (i := 107) rfl) rfl
theorem wd_1281 : Cond.selects RX10 yX10_carriedBy yX10_carriedBy ∈ TBg := tbp_5 (q := (yX10_carriedBy, 58)) (List.mem_of_getElem? (i := 9) rfl) rfl
theorem wd_1282 : Cond.code yX10_tiltAt cX10_tiltAt 4 (some .int) ∈ TBg := tb_8 (List.mem_of_getElem? (i := 121) rfl) rfl
theorem wd_1283 : Cond.instanceMethod yX10_tiltAt ∈ TBg := tb_8 (List.mem_of_getElem? (i := 120) rfl) rfl
theorem wd_1284 : Cond.selects RX10 yX10_tiltAt yX10_tiltAt ∈ TBg := tbp_5 (q := (yX10_tiltAt, 58)) (List.mem_of_getElem? (i := 12) rfl) rfl
theorem wd_1285 : Cond.code yX10_isHeld cX10_isHeld 2 (some .boolean) ∈ TBg := tb_8 (List.mem_of_getElem? (i := 100) rfl) rfl
theorem wd_1286 : Cond.instanceMethod yX10_isHeld ∈ TBg := tb_8 (List.mem_of_getElem? (i := 99) rfl) rfl
theorem wd_1287 : Cond.selects RX10 yX10_isHeld yX10_isHeld ∈ TBg := tbp_5 (q := (yX10_isHeld, 58)) (List.mem_of_getElem? (i := 7) rfl) rfl
theorem wd_1288 : Cond.code yX10_breaksAt cX10_breaksAt 2 (some .int) ∈ TBg := tb_8 (List.mem_of_getElem? (i := 96) rfl) rfl
theorem wd_1289 : Cond.instanceMethod yX10_breaksAt ∈ TBg := tb_8 (List.mem_of_getElem? (i := 95) rfl) rfl
theorem wd_1290 : Cond.selects RX10 yX10_breaksAt yX10_breaksAt ∈ TBg := tbp_5 (q := (yX10_breaksAt, 58)) (List.mem_of_getElem? (i := 6) rfl) rfl
theorem wd_1291 : Cond.code yX10_stands cX10_stands 1 (some .boolean) ∈ TBg := tb_8 (List.mem_of_getElem? (i := 92) rfl) rfl
theorem wd_1292 : Cond.instanceMethod yX10_stands ∈ TBg := tb_8 (List.mem_of_getElem? (i := 91) rfl) rfl
theorem wd_1293 : Cond.selects RX10 yX10_stands yX10_stands ∈ TBg := tbp_5 (q := (yX10_stands, 58)) (List.mem_of_getElem? (i := 5) rfl) rfl
theorem wd_1294 : Cond.code yX10_moreNow cX10_moreNow 3 (some .int) ∈ TBg := tb_9 (List.mem_of_getElem? (i := 8) rfl) rfl
theorem wd_1295 : Cond.instanceMethod yX10_moreNow ∈ TBg := tb_9 (List.mem_of_getElem? (i := 7) rfl) rfl
theorem wd_1296 : Cond.selects RX10 yX10_moreNow yX10_moreNow ∈ TBg := tbp_6 (q := (yX10_moreNow, 58)) (List.mem_of_getElem? (i := 13) rfl) rfl
theorem wd_1297 : Cond.code yX10_fullNow cX10_fullNow 3 (some .int) ∈ TBg := tb_8 (List.mem_of_getElem? (i := 130) rfl) rfl
theorem wd_1298 : Cond.instanceMethod yX10_fullNow ∈ TBg := tb_8 (List.mem_of_getElem? (i := 129) rfl) rfl
theorem wd_1299 : Cond.selects RX10 yX10_fullNow yX10_fullNow ∈ TBg := tbp_5 (q := (yX10_fullNow, 58)) (List.mem_of_getElem? (i := 14) rfl) rfl
theorem wd_1300 : Cond.code yX10_inTower cX10_inTower 3 (some .int) ∈ TBg := tb_8 (List.mem_of_getElem? (i := 153) rfl) rfl
theorem wd_1301 : Cond.instanceMethod yX10_inTower ∈ TBg := tb_8 (List.mem_of_getElem? (i := 152) rfl) rfl
theorem wd_1302 : Cond.selects RX10 yX10_inTower yX10_inTower ∈ TBg := tbp_6 (q := (yX10_inTower, 58)) (List.mem_of_getElem? (i := 1) rfl) rfl
theorem wd_1303 : Cond.code yX10_count cX10_count 2 (some .int) ∈ TBg := tb_8 (List.mem_of_getElem? (i := 88) rfl) rfl
theorem wd_1304 : Cond.instanceMethod yX10_count ∈ TBg := tb_8 (List.mem_of_getElem? (i := 86) rfl) rfl
theorem wd_1305 : Cond.selects RX10 yX10_count yX10_count ∈ TBg := tb_8 (List.mem_of_getElem? (i := 87) rfl) rfl
theorem wd_1306 : Cond.code yX10_table cX10_table 3 (some .int) ∈ TBg := tb_8 (List.mem_of_getElem? (i := 134) rfl) rfl
theorem wd_1307 : Cond.instanceMethod yX10_table ∈ TBg := tb_8 (List.mem_of_getElem? (i := 132) rfl) rfl
theorem wd_1308 : Cond.selects RX10 yX10_table yX10_table ∈ TBg := tb_8 (List.mem_of_getElem? (i := 133) rfl) rfl
theorem wd_1309 : Cond.code yX10_by cX10_by 1 (some .int) ∈ TBg := tb_8 (List.mem_of_getElem? (i := 149) rfl) rfl
theorem wd_1310 : Cond.instanceMethod yX10_by ∈ TBg := tb_8 (List.mem_of_getElem? (i := 147) rfl) rfl
theorem wd_1311 : Cond.selects RX10 yX10_by yX10_by ∈ TBg := tb_8 (List.mem_of_getElem? (i := 148) rfl) rfl
theorem wd_1312 : Cond.code yX10_level cX10_level 3 (some .int) ∈ TBg := tb_8 (List.mem_of_getElem? (i := 157) rfl) rfl
theorem wd_1313 : Cond.instanceMethod yX10_level ∈ TBg := tb_8 (List.mem_of_getElem? (i := 155) rfl) rfl
theorem wd_1314 : Cond.selects RX10 yX10_level yX10_level ∈ TBg := tb_8 (List.mem_of_getElem? (i := 156) rfl) rfl
theorem wd_1315 : Cond.code yX10_refuse cX10_refuse 2 (some .int) ∈ TBg := tb_8 (List.mem_of_getElem? (i := 170) rfl) rfl
theorem wd_1316 : Cond.instanceMethod yX10_refuse ∈ TBg := tb_8 (List.mem_of_getElem? (i := 169) rfl) rfl
theorem wd_1317 : Cond.selects RX10 yX10_refuse yX10_refuse ∈ TBg := tbp_6 (q := (yX10_refuse, 58)) (List.mem_of_getElem? (i := 3) rfl) rfl
theorem wd_1318 : Cond.code yX10_refuseFar cX10_refuseFar 1 (some .int) ∈ TBg := tb_8 (List.mem_of_getElem? (i := 208) rfl) rfl
theorem wd_1319 : Cond.instanceMethod yX10_refuseFar ∈ TBg := tb_8 (List.mem_of_getElem? (i := 207) rfl) rfl
theorem wd_1320 : Cond.selects RX10 yX10_refuseFar yX10_refuseFar ∈ TBg := tbp_6 (q := (yX10_refuseFar, 58)) (List.mem_of_getElem? (i := 9) rfl) rfl
theorem wd_1321 : Cond.code yX10_keep cX10_keep 2 none ∈ TBg := tb_8 (List.mem_of_getElem? (i := 174) rfl) rfl
theorem wd_1322 : Cond.instanceMethod yX10_keep ∈ TBg := tb_8 (List.mem_of_getElem? (i := 173) rfl) rfl
theorem wd_1323 : Cond.selects RX10 yX10_keep yX10_keep ∈ TBg := tbp_6 (q := (yX10_keep, 58)) (List.mem_of_getElem? (i := 4) rfl) rfl
theorem wd_1324 : Cond.code yX10_put cX10_put 4 (some .int) ∈ TBg := tb_8 (List.mem_of_getElem? (i := 166) rfl) rfl
theorem wd_1325 : Cond.instanceMethod yX10_put ∈ TBg := tb_8 (List.mem_of_getElem? (i := 164) rfl) rfl
theorem wd_1326 : Cond.selects RX10 yX10_put yX10_put ∈ TBg := tb_8 (List.mem_of_getElem? (i := 165) rfl) rfl
theorem wd_1327 : Cond.code yX10_takeOff cX10_takeOff 4 none ∈ TBg := tb_8 (List.mem_of_getElem? (i := 186) rfl) rfl
theorem wd_1328 : Cond.instanceMethod yX10_takeOff ∈ TBg := tb_8 (List.mem_of_getElem? (i := 185) rfl) rfl
theorem wd_1329 : Cond.selects RX10 yX10_takeOff yX10_takeOff ∈ TBg := tbp_6 (q := (yX10_takeOff, 58)) (List.mem_of_getElem? (i := 6) rfl) rfl
theorem wd_1330 : Cond.code yX10_take cX10_take 3 (some .int) ∈ TBg := tb_8 (List.mem_of_getElem? (i := 182) rfl) rfl
theorem wd_1331 : Cond.instanceMethod yX10_take ∈ TBg := tb_8 (List.mem_of_getElem? (i := 180) rfl) rfl
theorem wd_1332 : Cond.selects RX10 yX10_take yX10_take ∈ TBg := tb_8 (List.mem_of_getElem? (i := 181) rfl) rfl
theorem wd_1333 : Cond.code yX10_exchange cX10_exchange 4 none ∈ TBg := tb_8 (List.mem_of_getElem? (i := 198) rfl) rfl
theorem wd_1334 : Cond.instanceMethod yX10_exchange ∈ TBg := tb_8 (List.mem_of_getElem? (i := 197) rfl) rfl
theorem wd_1335 : Cond.selects RX10 yX10_exchange yX10_exchange ∈ TBg := tbp_6 (q := (yX10_exchange, 58)) (List.mem_of_getElem? (i := 8) rfl) rfl
theorem wd_1336 : Cond.code yX10_change cX10_change 3 (some .boolean) ∈ TBg := tb_8 (List.mem_of_getElem? (i := 190) rfl) rfl
theorem wd_1337 : Cond.instanceMethod yX10_change ∈ TBg := tb_8 (List.mem_of_getElem? (i := 188) rfl) rfl
theorem wd_1338 : Cond.selects RX10 yX10_change yX10_change ∈ TBg := tb_8 (List.mem_of_getElem? (i := 189) rfl) rfl
theorem wd_1339 : Cond.code yX10_wedge cX10_wedge 4 (some .int) ∈ TBg := tb_8 (List.mem_of_getElem? (i := 202) rfl) rfl
theorem wd_1340 : Cond.instanceMethod yX10_wedge ∈ TBg := tb_8 (List.mem_of_getElem? (i := 200) rfl) rfl
theorem wd_1341 : Cond.selects RX10 yX10_wedge yX10_wedge ∈ TBg := tb_8 (List.mem_of_getElem? (i := 201) rfl) rfl
theorem wd_1342 : Cond.code yX10_saw cX10_saw 4 (some .int) ∈ TBg := tb_8 (List.mem_of_getElem? (i := 212) rfl) rfl
theorem wd_1343 : Cond.instanceMethod yX10_saw ∈ TBg := tb_8 (List.mem_of_getElem? (i := 210) rfl) rfl
theorem wd_1344 : Cond.selects RX10 yX10_saw yX10_saw ∈ TBg := tb_8 (List.mem_of_getElem? (i := 211) rfl) rfl
theorem wd_1345 : Cond.code yX10_reckon cX10_reckon 3 (some .int) ∈ TBg := tb_8 (List.mem_of_getElem? (i := 227) rfl) rfl
theorem wd_1346 : Cond.static yX10_reckon ∈ TBg := tb_8 (List.mem_of_getElem? (i := 226) rfl) rfl
theorem wd_1347 : Cond.code yX10_valueNow cX10_valueNow 4 (some .int) ∈ TBg := tb_8 (List.mem_of_getElem? (i := 224) rfl) rfl
theorem wd_1348 : Cond.instanceMethod yX10_valueNow ∈ TBg := tb_8 (List.mem_of_getElem? (i := 223) rfl) rfl
theorem wd_1349 : Cond.selects RX10 yX10_valueNow yX10_valueNow ∈ TBg := tbp_6 (q := (yX10_valueNow, 58)) (List.mem_of_getElem? (i := 11) rfl) rfl
theorem wd_1350 : Cond.code yX10_eat cX10_eat 6 (some .int) ∈ TBg := tb_8 (List.mem_of_getElem? (i := 220) rfl) rfl
theorem wd_1351 : Cond.instanceMethod yX10_eat ∈ TBg := tb_8 (List.mem_of_getElem? (i := 219) rfl) rfl
theorem wd_1352 : Cond.selects RX10 yX10_eat yX10_eat ∈ TBg := tbp_6 (q := (yX10_eat, 58)) (List.mem_of_getElem? (i := 10) rfl) rfl
theorem wd_1353 : Cond.code yX10_supper cX10_supper 1 (some .int) ∈ TBg := tb_8 (List.mem_of_getElem? (i := 216) rfl) rfl
theorem wd_1354 : Cond.instanceMethod yX10_supper ∈ TBg := tb_8 (List.mem_of_getElem? (i := 214) rfl) rfl
theorem wd_1355 : Cond.selects RX10 yX10_supper yX10_supper ∈ TBg := tb_8 (List.mem_of_getElem? (i := 215) rfl) rfl
theorem wd_1356 : Cond.code yX10_years cX10_years 2 (some .int) ∈ TBg := tb_8 (List.mem_of_getElem? (i := 231) rfl) rfl
theorem wd_1357 : Cond.instanceMethod yX10_years ∈ TBg := tb_8 (List.mem_of_getElem? (i := 229) rfl) rfl
theorem wd_1358 : Cond.selects RX10 yX10_years yX10_years ∈ TBg := tb_8 (List.mem_of_getElem? (i := 230) rfl) rfl
theorem wd_1359 : Cond.code yX10_undo cX10_undo 1 (some .int) ∈ TBg := tb_8 (List.mem_of_getElem? (i := 236) rfl) rfl
theorem wd_1360 : Cond.instanceMethod yX10_undo ∈ TBg := tb_8 (List.mem_of_getElem? (i := 234) rfl) rfl
theorem wd_1361 : Cond.selects RX10 yX10_undo yX10_undo ∈ TBg := tb_8 (List.mem_of_getElem? (i := 235) rfl) rfl
theorem wd_1362 : Cond.code yX10_more cX10_more 1 (some .int) ∈ TBg := tb_9 (List.mem_of_getElem? (i := 4) rfl) rfl
theorem wd_1363 : Cond.instanceMethod yX10_more ∈ TBg := tb_9 (List.mem_of_getElem? (i := 2) rfl) rfl
theorem wd_1364 : Cond.selects RX10 yX10_more yX10_more ∈ TBg := tb_9 (List.mem_of_getElem? (i := 3) rfl) rfl
theorem wd_1365 : Cond.code yX10_without cX10_without 3 (some .boolean) ∈ TBg := tb_9 (List.mem_of_getElem? (i := 12) rfl) rfl
theorem wd_1366 : Cond.instanceMethod yX10_without ∈ TBg := tb_9 (List.mem_of_getElem? (i := 10) rfl) rfl
theorem wd_1367 : Cond.selects RX10 yX10_without yX10_without ∈ TBg := tb_9 (List.mem_of_getElem? (i := 11) rfl) rfl
theorem wd_1368 : Cond.code yX10_tellSums cX10_tellSums 3 none ∈ TBg := tb_9 (List.mem_of_getElem? (i := 24) rfl) rfl
theorem wd_1369 : Cond.instanceMethod yX10_tellSums ∈ TBg := tb_9 (List.mem_of_getElem? (i := 23) rfl) rfl
theorem wd_1370 : Cond.selects RX10 yX10_tellSums yX10_tellSums ∈ TBg := tbp_6 (q := (yX10_tellSums, 58)) (List.mem_of_getElem? (i := 15) rfl) rfl
theorem wd_1371 : Cond.code yX10_bitsOf cX10_bitsOf 3 (some .int) ∈ TBg := tb_9 (List.mem_of_getElem? (i := 27) rfl) rfl
theorem wd_1372 : Cond.static yX10_bitsOf ∈ TBg := tb_9 (List.mem_of_getElem? (i := 26) rfl) rfl
theorem wd_1373 : Cond.code yX10_fits cX10_fits 5 (some .boolean) ∈ TBg := tb_9 (List.mem_of_getElem? (i := 38) rfl) rfl
theorem wd_1374 : Cond.instanceMethod yX10_fits ∈ TBg := tb_9 (List.mem_of_getElem? (i := 37) rfl) rfl
theorem wd_1375 : Cond.selects RX10 yX10_fits yX10_fits ∈ TBg := tbp_7 (q := (yX10_fits, 58)) (List.mem_of_getElem? (i := 1) rfl) rfl
theorem wd_1376 : Cond.code yX10_tellWays cX10_tellWays 4 none ∈ TBg := tb_9 (List.mem_of_getElem? (i := 31) rfl) rfl
theorem wd_1377 : Cond.instanceMethod yX10_tellWays ∈ TBg := tb_9 (List.mem_of_getElem? (i := 30) rfl) rfl
theorem wd_1378 : Cond.selects RX10 yX10_tellWays yX10_tellWays ∈ TBg := tbp_7 (q := (yX10_tellWays, 58)) (List.mem_of_getElem? (i := 0) rfl) rfl
theorem wd_1379 : Cond.code yX10_mostSet cX10_mostSet 3 (some .int) ∈ TBg := tb_9 (List.mem_of_getElem? (i := 20) rfl) rfl
theorem wd_1380 : Cond.instanceMethod yX10_mostSet ∈ TBg := tb_9 (List.mem_of_getElem? (i := 19) rfl) rfl
theorem wd_1381 : Cond.selects RX10 yX10_mostSet yX10_mostSet ∈ TBg := tbp_6 (q := (yX10_mostSet, 58)) (List.mem_of_getElem? (i := 14) rfl) rfl
theorem wd_1382 : Cond.code yX10_most cX10_most 3 (some .int) ∈ TBg := tb_9 (List.mem_of_getElem? (i := 16) rfl) rfl
theorem wd_1383 : Cond.instanceMethod yX10_most ∈ TBg := tb_9 (List.mem_of_getElem? (i := 14) rfl) rfl
theorem wd_1384 : Cond.selects RX10 yX10_most yX10_most ∈ TBg := tb_9 (List.mem_of_getElem? (i := 15) rfl) rfl
theorem wd_1385 : Cond.code yX10_row cX10_row 7 (some .int) ∈ TBg := tb_9 (List.mem_of_getElem? (i := 42) rfl) rfl
theorem wd_1386 : Cond.instanceMethod yX10_row ∈ TBg := tb_9 (List.mem_of_getElem? (i := 40) rfl) rfl
theorem wd_1387 : Cond.selects RX10 yX10_row yX10_row ∈ TBg := tb_9 (List.mem_of_getElem? (i := 41) rfl) rfl
theorem wd_1388 : Cond.code yX10_ordersOf cX10_ordersOf 2 (some .long) ∈ TBg := tb_9 (List.mem_of_getElem? (i := 50) rfl) rfl
theorem wd_1389 : Cond.instanceMethod yX10_ordersOf ∈ TBg := tb_9 (List.mem_of_getElem? (i := 49) rfl) rfl
theorem wd_1390 : Cond.selects RX10 yX10_ordersOf yX10_ordersOf ∈ TBg := tbp_7 (q := (yX10_ordersOf, 58)) (List.mem_of_getElem? (i := 2) rfl) rfl
theorem wd_1391 : Cond.code yX10_orders cX10_orders 1 (some .long) ∈ TBg := tb_9 (List.mem_of_getElem? (i := 46) rfl) rfl
theorem wd_1392 : Cond.instanceMethod yX10_orders ∈ TBg := tb_9 (List.mem_of_getElem? (i := 44) rfl) rfl
theorem wd_1393 : Cond.selects RX10 yX10_orders yX10_orders ∈ TBg := tb_9 (List.mem_of_getElem? (i := 45) rfl) rfl
theorem wd_1394 : Cond.code yX10_lifted cX10_lifted 5 (some .long) ∈ TBg := tb_9 (List.mem_of_getElem? (i := 54) rfl) rfl
theorem wd_1395 : Cond.instanceMethod yX10_lifted ∈ TBg := tb_9 (List.mem_of_getElem? (i := 52) rfl) rfl
theorem wd_1396 : Cond.selects RX10 yX10_lifted yX10_lifted ∈ TBg := tb_9 (List.mem_of_getElem? (i := 53) rfl) rfl
theorem wd_1397 : Cond.code yX10_wedgeLevel cX10_wedgeLevel 6 none ∈ TBg := tb_9 (List.mem_of_getElem? (i := 63) rfl) rfl
theorem wd_1398 : Cond.instanceMethod yX10_wedgeLevel ∈ TBg := tb_9 (List.mem_of_getElem? (i := 62) rfl) rfl
theorem wd_1399 : Cond.selects RX10 yX10_wedgeLevel yX10_wedgeLevel ∈ TBg := tbp_7 (q := (yX10_wedgeLevel, 58)) (List.mem_of_getElem? (i := 3) rfl) rfl
theorem wd_1400 : Cond.code yX10_wedges cX10_wedges 3 (some .int) ∈ TBg := tb_9 (List.mem_of_getElem? (i := 59) rfl) rfl
theorem wd_1401 : Cond.instanceMethod yX10_wedges ∈ TBg := tb_9 (List.mem_of_getElem? (i := 57) rfl) rfl
theorem wd_1402 : Cond.selects RX10 yX10_wedges yX10_wedges ∈ TBg := tb_9 (List.mem_of_getElem? (i := 58) rfl) rfl
theorem wd_1403 : Cond.code yX10_when cX10_when 4 (some .int) ∈ TBg := tb_9 (List.mem_of_getElem? (i := 67) rfl) rfl
theorem wd_1404 : Cond.instanceMethod yX10_when ∈ TBg := tb_9 (List.mem_of_getElem? (i := 65) rfl) rfl
theorem wd_1405 : Cond.selects RX10 yX10_when yX10_when ∈ TBg := tb_9 (List.mem_of_getElem? (i := 66) rfl) rfl
theorem wd_1406 : Cond.code yX10_broken cX10_broken 3 (some .int) ∈ TBg := tb_9 (List.mem_of_getElem? (i := 71) rfl) rfl
theorem wd_1407 : Cond.instanceMethod yX10_broken ∈ TBg := tb_9 (List.mem_of_getElem? (i := 69) rfl) rfl
theorem wd_1408 : Cond.selects RX10 yX10_broken yX10_broken ∈ TBg := tb_9 (List.mem_of_getElem? (i := 70) rfl) rfl
theorem wd_1409 : Cond.code yX10_canMarry cX10_canMarry 3 (some .boolean) ∈ TBg := tb_9 (List.mem_of_getElem? (i := 80) rfl) rfl
theorem wd_1410 : Cond.instanceMethod yX10_canMarry ∈ TBg := tb_9 (List.mem_of_getElem? (i := 79) rfl) rfl
theorem wd_1411 : Cond.selects RX10 yX10_canMarry yX10_canMarry ∈ TBg := tbp_7 (q := (yX10_canMarry, 58)) (List.mem_of_getElem? (i := 4) rfl) rfl
theorem wd_1412 : Cond.code yX10_marry cX10_marry 3 (some .boolean) ∈ TBg := tb_9 (List.mem_of_getElem? (i := 76) rfl) rfl
theorem wd_1413 : Cond.instanceMethod yX10_marry ∈ TBg := tb_9 (List.mem_of_getElem? (i := 74) rfl) rfl
theorem wd_1414 : Cond.selects RX10 yX10_marry yX10_marry ∈ TBg := tb_9 (List.mem_of_getElem? (i := 75) rfl) rfl
theorem wd_1415 : Cond.code yX10_couplesOf cX10_couplesOf 6 (some .int) ∈ TBg := tb_9 (List.mem_of_getElem? (i := 88) rfl) rfl
theorem wd_1416 : Cond.instanceMethod yX10_couplesOf ∈ TBg := tb_9 (List.mem_of_getElem? (i := 87) rfl) rfl
theorem wd_1417 : Cond.selects RX10 yX10_couplesOf yX10_couplesOf ∈ TBg := tbp_7 (q := (yX10_couplesOf, 58)) (List.mem_of_getElem? (i := 5) rfl) rfl
theorem wd_1418 : Cond.code yX10_marriages cX10_marriages 1 (some .int) ∈ TBg := tb_9 (List.mem_of_getElem? (i := 84) rfl) rfl
theorem wd_1419 : Cond.instanceMethod yX10_marriages ∈ TBg := tb_9 (List.mem_of_getElem? (i := 82) rfl) rfl
theorem wd_1420 : Cond.selects RX10 yX10_marriages yX10_marriages ∈ TBg := tb_9 (List.mem_of_getElem? (i := 83) rfl) rfl
theorem wd_1421 : Cond.code yX10_nod cX10_nod 4 (some .int) ∈ TBg := tb_9 (List.mem_of_getElem? (i := 92) rfl) rfl
theorem wd_1422 : Cond.instanceMethod yX10_nod ∈ TBg := tb_9 (List.mem_of_getElem? (i := 90) rfl) rfl
theorem wd_1423 : Cond.selects RX10 yX10_nod yX10_nod ∈ TBg := tb_9 (List.mem_of_getElem? (i := 91) rfl) rfl
theorem wd_1424 : Cond.code yX10_fair cX10_fair 3 (some .int) ∈ TBg := tb_9 (List.mem_of_getElem? (i := 96) rfl) rfl
theorem wd_1425 : Cond.instanceMethod yX10_fair ∈ TBg := tb_9 (List.mem_of_getElem? (i := 94) rfl) rfl
theorem wd_1426 : Cond.selects RX10 yX10_fair yX10_fair ∈ TBg := tb_9 (List.mem_of_getElem? (i := 95) rfl) rfl
theorem wd_1427 : Cond.code yX10_top cX10_top 3 (some .int) ∈ TBg := tb_9 (List.mem_of_getElem? (i := 100) rfl) rfl
theorem wd_1428 : Cond.instanceMethod yX10_top ∈ TBg := tb_9 (List.mem_of_getElem? (i := 98) rfl) rfl
theorem wd_1429 : Cond.selects RX10 yX10_top yX10_top ∈ TBg := tb_9 (List.mem_of_getElem? (i := 99) rfl) rfl
theorem wd_1430 : Cond.code yX10_hungriest cX10_hungriest 4 (some .int) ∈ TBg := tb_9 (List.mem_of_getElem? (i := 105) rfl) rfl
theorem wd_1431 : Cond.instanceMethod yX10_hungriest ∈ TBg := tb_9 (List.mem_of_getElem? (i := 103) rfl) rfl
theorem wd_1432 : Cond.selects RX10 yX10_hungriest yX10_hungriest ∈ TBg := tb_9 (List.mem_of_getElem? (i := 104) rfl) rfl
theorem wd_1433 : Cond.code yX10_takeOffAll cX10_takeOffAll 3 none ∈ TBg := tb_9 (List.mem_of_getElem? (i := 113) rfl) rfl
theorem wd_1434 : Cond.instanceMethod yX10_takeOffAll ∈ TBg := tb_9 (List.mem_of_getElem? (i := 112) rfl) rfl
theorem wd_1435 : Cond.selects RX10 yX10_takeOffAll yX10_takeOffAll ∈ TBg := tbp_7 (q := (yX10_takeOffAll, 58)) (List.mem_of_getElem? (i := 6) rfl) rfl
theorem wd_1436 : Cond.code yX10_out cX10_out 5 (some .int) ∈ TBg := tb_9 (List.mem_of_getElem? (i := 109) rfl) rfl
theorem wd_1437 : Cond.instanceMethod yX10_out ∈ TBg := tb_9 (List.mem_of_getElem? (i := 107) rfl) rfl
theorem wd_1438 : Cond.selects RX10 yX10_out yX10_out ∈ TBg := tb_9 (List.mem_of_getElem? (i := 108) rfl) rfl
theorem wd_1439 : Cond.code yX10_relief cX10_relief 5 (some .int) ∈ TBg := tb_9 (List.mem_of_getElem? (i := 117) rfl) rfl
theorem wd_1440 : Cond.instanceMethod yX10_relief ∈ TBg := tb_9 (List.mem_of_getElem? (i := 115) rfl) rfl
theorem wd_1441 : Cond.selects RX10 yX10_relief yX10_relief ∈ TBg := tb_9 (List.mem_of_getElem? (i := 116) rfl) rfl
theorem wd_1442 : Cond.code yX10_oneWedge cX10_oneWedge 6 (some .int) ∈ TBg := tb_9 (List.mem_of_getElem? (i := 121) rfl) rfl
theorem wd_1443 : Cond.instanceMethod yX10_oneWedge ∈ TBg := tb_9 (List.mem_of_getElem? (i := 119) rfl) rfl
theorem wd_1444 : Cond.selects RX10 yX10_oneWedge yX10_oneWedge ∈ TBg := tb_9 (List.mem_of_getElem? (i := 120) rfl) rfl
theorem wd_1445 : Cond.code yX10_swap cX10_swap 6 (some .int) ∈ TBg := tb_9 (List.mem_of_getElem? (i := 125) rfl) rfl
theorem wd_1446 : Cond.instanceMethod yX10_swap ∈ TBg := tb_9 (List.mem_of_getElem? (i := 123) rfl) rfl
theorem wd_1447 : Cond.selects RX10 yX10_swap yX10_swap ∈ TBg := tb_9 (List.mem_of_getElem? (i := 124) rfl) rfl
theorem wd_1448 : Cond.code yX10_slack cX10_slack 2 (some .int) ∈ TBg := tb_9 (List.mem_of_getElem? (i := 129) rfl) rfl
theorem wd_1449 : Cond.instanceMethod yX10_slack ∈ TBg := tb_9 (List.mem_of_getElem? (i := 127) rfl) rfl
theorem wd_1450 : Cond.selects RX10 yX10_slack yX10_slack ∈ TBg := tb_9 (List.mem_of_getElem? (i := 128) rfl) rfl
theorem wd_1451 : Cond.code yX10_crooked cX10_crooked 3 (some .int) ∈ TBg := tb_9 (List.mem_of_getElem? (i := 133) rfl) rfl
theorem wd_1452 : Cond.instanceMethod yX10_crooked ∈ TBg := tb_9 (List.mem_of_getElem? (i := 131) rfl) rfl
theorem wd_1453 : Cond.selects RX10 yX10_crooked yX10_crooked ∈ TBg := tb_9 (List.mem_of_getElem? (i := 132) rfl) rfl
theorem wd_1454 : Cond.code yX10_see cX10_see 3 (some .int) ∈ TBg := tb_9 (List.mem_of_getElem? (i := 137) rfl) rfl
theorem wd_1455 : Cond.instanceMethod yX10_see ∈ TBg := tb_9 (List.mem_of_getElem? (i := 135) rfl) rfl
theorem wd_1456 : Cond.selects RX10 yX10_see yX10_see ∈ TBg := tb_9 (List.mem_of_getElem? (i := 136) rfl) rfl
theorem wd_1457 : Cond.code yX10_isAsSeen cX10_isAsSeen 2 (some .boolean) ∈ TBg := tb_9 (List.mem_of_getElem? (i := 147) rfl) rfl
theorem wd_1458 : Cond.instanceMethod yX10_isAsSeen ∈ TBg := tb_9 (List.mem_of_getElem? (i := 146) rfl) rfl
theorem wd_1459 : Cond.selects RX10 yX10_isAsSeen yX10_isAsSeen ∈ TBg := tbp_7 (q := (yX10_isAsSeen, 58)) (List.mem_of_getElem? (i := 7) rfl) rfl
theorem wd_1460 : Cond.code yX10_tellFits cX10_tellFits 5 none ∈ TBg := tb_9 (List.mem_of_getElem? (i := 151) rfl) rfl
theorem wd_1461 : Cond.instanceMethod yX10_tellFits ∈ TBg := tb_9 (List.mem_of_getElem? (i := 150) rfl) rfl
theorem wd_1462 : Cond.selects RX10 yX10_tellFits yX10_tellFits ∈ TBg := tbp_7 (q := (yX10_tellFits, 58)) (List.mem_of_getElem? (i := 8) rfl) rfl
theorem wd_1463 : Cond.code yX10_which cX10_which 2 (some .int) ∈ TBg := tb_9 (List.mem_of_getElem? (i := 142) rfl) rfl
theorem wd_1464 : Cond.instanceMethod yX10_which ∈ TBg := tb_9 (List.mem_of_getElem? (i := 140) rfl) rfl
theorem wd_1465 : Cond.selects RX10 yX10_which yX10_which ∈ TBg := tb_9 (List.mem_of_getElem? (i := 141) rfl) rfl
theorem wd_1466 : Cond.code yX10_unlike cX10_unlike 8 (some .int) ∈ TBg := tb_9 (List.mem_of_getElem? (i := 159) rfl) rfl
theorem wd_1467 : Cond.instanceMethod yX10_unlike ∈ TBg := tb_9 (List.mem_of_getElem? (i := 158) rfl) rfl
theorem wd_1468 : Cond.selects RX10 yX10_unlike yX10_unlike ∈ TBg := tbp_7 (q := (yX10_unlike, 58)) (List.mem_of_getElem? (i := 9) rfl) rfl
theorem wd_1469 : Cond.code yX10_look cX10_look 5 (some .int) ∈ TBg := tb_9 (List.mem_of_getElem? (i := 155) rfl) rfl
theorem wd_1470 : Cond.instanceMethod yX10_look ∈ TBg := tb_9 (List.mem_of_getElem? (i := 153) rfl) rfl
theorem wd_1471 : Cond.selects RX10 yX10_look yX10_look ∈ TBg := tb_9 (List.mem_of_getElem? (i := 154) rfl) rfl
theorem wd_1472 : Cond.code yX10_forget cX10_forget 1 none ∈ TBg := tb_9 (List.mem_of_getElem? (i := 163) rfl) rfl
theorem wd_1473 : Cond.instanceMethod yX10_forget ∈ TBg := tb_9 (List.mem_of_getElem? (i := 161) rfl) rfl
theorem wd_1474 : Cond.selects RX10 yX10_forget yX10_forget ∈ TBg := tb_9 (List.mem_of_getElem? (i := 162) rfl) rfl
theorem wd_1475 : Cond.code yX10_gain cX10_gain 7 (some .int) ∈ TBg := tb_9 (List.mem_of_getElem? (i := 175) rfl) rfl
theorem wd_1476 : Cond.instanceMethod yX10_gain ∈ TBg := tb_9 (List.mem_of_getElem? (i := 174) rfl) rfl
theorem wd_1477 : Cond.selects RX10 yX10_gain yX10_gain ∈ TBg := tbp_7 (q := (yX10_gain, 58)) (List.mem_of_getElem? (i := 11) rfl) rfl
theorem wd_1478 : Cond.code yX10_rests cX10_rests 4 (some .boolean) ∈ TBg := tb_9 (List.mem_of_getElem? (i := 171) rfl) rfl
theorem wd_1479 : Cond.instanceMethod yX10_rests ∈ TBg := tb_9 (List.mem_of_getElem? (i := 170) rfl) rfl
theorem wd_1480 : Cond.selects RX10 yX10_rests yX10_rests ∈ TBg := tbp_7 (q := (yX10_rests, 58)) (List.mem_of_getElem? (i := 10) rfl) rfl
theorem wd_1481 : Cond.code yX10_game cX10_game 5 (some .int) ∈ TBg := tb_9 (List.mem_of_getElem? (i := 167) rfl) rfl
theorem wd_1482 : Cond.instanceMethod yX10_game ∈ TBg := tb_9 (List.mem_of_getElem? (i := 165) rfl) rfl
theorem wd_1483 : Cond.selects RX10 yX10_game yX10_game ∈ TBg := tb_9 (List.mem_of_getElem? (i := 166) rfl) rfl
theorem wd_1484 : Cond.code yX10_drawOf cX10_drawOf 2 (some .int) ∈ TBg := tb_9 (List.mem_of_getElem? (i := 188) rfl) rfl
theorem wd_1485 : Cond.instanceMethod yX10_drawOf ∈ TBg := tb_9 (List.mem_of_getElem? (i := 187) rfl) rfl
theorem wd_1486 : Cond.selects RX10 yX10_drawOf yX10_drawOf ∈ TBg := tbp_7 (q := (yX10_drawOf, 58)) (List.mem_of_getElem? (i := 13) rfl) rfl
theorem wd_1487 : Cond.code yX10_aYear cX10_aYear 3 none ∈ TBg := tb_9 (List.mem_of_getElem? (i := 184) rfl) rfl
theorem wd_1488 : Cond.instanceMethod yX10_aYear ∈ TBg := tb_9 (List.mem_of_getElem? (i := 183) rfl) rfl
theorem wd_1489 : Cond.selects RX10 yX10_aYear yX10_aYear ∈ TBg := tbp_7 (q := (yX10_aYear, 58)) (List.mem_of_getElem? (i := 12) rfl) rfl
theorem wd_1490 : Cond.code yX10_decades cX10_decades 7 (some .int) ∈ TBg := tb_9 (List.mem_of_getElem? (i := 179) rfl) rfl
theorem wd_1491 : Cond.instanceMethod yX10_decades ∈ TBg := tb_9 (List.mem_of_getElem? (i := 177) rfl) rfl
theorem wd_1492 : Cond.selects RX10 yX10_decades yX10_decades ∈ TBg := tb_9 (List.mem_of_getElem? (i := 178) rfl) rfl
theorem wd_1493 : Cond.code yX10_be cX10_be 3 none ∈ TBg := tb_9 (List.mem_of_getElem? (i := 196) rfl) rfl
theorem wd_1494 : Cond.static yX10_be ∈ TBg := tb_9 (List.mem_of_getElem? (i := 195) rfl) rfl
theorem wd_1495 : Cond.code yX10_image cX10_image 1 none ∈ TBg := tb_9 (List.mem_of_getElem? (i := 193) rfl) rfl
theorem wd_1496 : Cond.instanceMethod yX10_image ∈ TBg := tb_9 (List.mem_of_getElem? (i := 191) rfl) rfl
theorem wd_1497 : Cond.selects RX10 yX10_image yX10_image ∈ TBg := tb_9 (List.mem_of_getElem? (i := 192) rfl) rfl
theorem wd_1498 : Cond.code yX10_restore cX10_restore 1 (some .boolean) ∈ TBg := tb_9 (List.mem_of_getElem? (i := 200) rfl) rfl
theorem wd_1499 : Cond.instanceMethod yX10_restore ∈ TBg := tb_9 (List.mem_of_getElem? (i := 198) rfl) rfl
theorem wd_1500 : Cond.selects RX10 yX10_restore yX10_restore ∈ TBg := tb_9 (List.mem_of_getElem? (i := 199) rfl) rfl
theorem wd_1501 : Cond.code yJ6_bitCount_0f7a4 cJ6_bitCount_0f7a4 1 (some .int) ∈ TBg := tb_3 (List.mem_of_getElem? (i := 177) rfl) rfl
theorem wd_1502 : Cond.initialized RJ6 ∈ TBg := tb_1 (List.mem_of_getElem? (i := 24) rfl) rfl
theorem wd_1503 : Cond.static yJ6_bitCount_0f7a4 ∈ TBg := tb_3 (List.mem_of_getElem? (i := 176) rfl) rfl
theorem wd_1504 : Cond.codeWith yL_town cL_town 4 (some .int) [(0, 9, 12, 13)] ∈ TBg := tb_4 (List.mem_of_getElem? (i := 126) rfl) rfl
theorem wd_1505 : Cond.initialized RL ∈ TBg := tb_1 (List.mem_of_getElem? (i := 0) rfl) rfl
theorem wd_1506 : Cond.static yL_town ∈ TBg := tb_4 (List.mem_of_getElem? (i := 125) rfl) rfl
theorem wd_1507 : Cond.codeWith yL_count cL_count 4 (some .int) [(0, 9, 12, 18)] ∈ TBg := tb_5 (List.mem_of_getElem? (i := 195) rfl) rfl
theorem wd_1508 : Cond.static yL_count ∈ TBg := tb_5 (List.mem_of_getElem? (i := 194) rfl) rfl
theorem wd_1509 : Cond.codeWith yL_table cL_table 5 (some .int) [(0, 10, 13, 18)] ∈ TBg := tb_5 (List.mem_of_getElem? (i := 225) rfl) rfl
theorem wd_1510 : Cond.static yL_table ∈ TBg := tb_5 (List.mem_of_getElem? (i := 224) rfl) rfl
theorem wd_1511 : Cond.codeWith yL_level cL_level 5 (some .int) [(0, 10, 13, 18)] ∈ TBg := tb_6 (List.mem_of_getElem? (i := 0) rfl) rfl
theorem wd_1512 : Cond.static yL_level ∈ TBg := tb_5 (List.mem_of_getElem? (i := 239) rfl) rfl
theorem wd_1513 : Cond.codeWith yL_put cL_put 5 (some .int) [(0, 10, 13, 18)] ∈ TBg := tb_6 (List.mem_of_getElem? (i := 15) rfl) rfl
theorem wd_1514 : Cond.static yL_put ∈ TBg := tb_6 (List.mem_of_getElem? (i := 14) rfl) rfl
theorem wd_1515 : Cond.codeWith yL_take cL_take 4 (some .int) [(0, 9, 12, 18)] ∈ TBg := tb_6 (List.mem_of_getElem? (i := 28) rfl) rfl
theorem wd_1516 : Cond.static yL_take ∈ TBg := tb_6 (List.mem_of_getElem? (i := 27) rfl) rfl
theorem wd_1517 : Cond.codeWith yL_change cL_change 5 (some .int) [(0, 17, 20, 18)] ∈ TBg := tb_6 (List.mem_of_getElem? (i := 40) rfl) rfl
theorem wd_1518 : Cond.static yL_change ∈ TBg := tb_6 (List.mem_of_getElem? (i := 39) rfl) rfl
theorem wd_1519 : Cond.codeWith yL_wedge cL_wedge 5 (some .int) [(0, 10, 13, 18)] ∈ TBg := tb_6 (List.mem_of_getElem? (i := 52) rfl) rfl
theorem wd_1520 : Cond.static yL_wedge ∈ TBg := tb_6 (List.mem_of_getElem? (i := 51) rfl) rfl
theorem wd_1521 : Cond.codeWith yL_saw cL_saw 5 (some .int) [(0, 10, 13, 18)] ∈ TBg := tb_6 (List.mem_of_getElem? (i := 63) rfl) rfl
theorem wd_1522 : Cond.static yL_saw ∈ TBg := tb_6 (List.mem_of_getElem? (i := 62) rfl) rfl
theorem wd_1523 : Cond.codeWith yL_without cL_without 4 (some .int) [(0, 16, 19, 18)] ∈ TBg := tb_6 (List.mem_of_getElem? (i := 74) rfl) rfl
theorem wd_1524 : Cond.static yL_without ∈ TBg := tb_6 (List.mem_of_getElem? (i := 73) rfl) rfl
theorem wd_1525 : Cond.codeWith yL_most cL_most 4 (some .int) [(0, 9, 12, 18)] ∈ TBg := tb_6 (List.mem_of_getElem? (i := 82) rfl) rfl
theorem wd_1526 : Cond.static yL_most ∈ TBg := tb_6 (List.mem_of_getElem? (i := 81) rfl) rfl
theorem wd_1527 : Cond.codeWith yL_row cL_row 4 (some .int) [(0, 9, 12, 18)] ∈ TBg := tb_6 (List.mem_of_getElem? (i := 103) rfl) rfl
theorem wd_1528 : Cond.static yL_row ∈ TBg := tb_6 (List.mem_of_getElem? (i := 102) rfl) rfl
theorem wd_1529 : Cond.codeWith yL_marry cL_marry 5 (some .int) [(0, 17, 20, 18), (0, 17, 24, 13)] ∈ TBg := tb_6 (List.mem_of_getElem? (i := 111) rfl) rfl
theorem wd_1530 : Cond.static yL_marry ∈ TBg := tb_6 (List.mem_of_getElem? (i := 110) rfl) rfl
theorem wd_1531 : Cond.codeWith yL_nod cL_nod 5 (some .int) [(0, 10, 13, 18), (0, 10, 17, 13)] ∈ TBg := tb_6 (List.mem_of_getElem? (i := 120) rfl) rfl
theorem wd_1532 : Cond.static yL_nod ∈ TBg := tb_6 (List.mem_of_getElem? (i := 119) rfl) rfl
theorem wd_1533 : Cond.codeWith yL_out cL_out 4 (some .int) [(0, 9, 12, 18)] ∈ TBg := tb_6 (List.mem_of_getElem? (i := 137) rfl) rfl
theorem wd_1534 : Cond.static yL_out ∈ TBg := tb_6 (List.mem_of_getElem? (i := 136) rfl) rfl
theorem wd_1535 : Cond.codeWith yL_lifted cL_lifted 5 (some .int) [(0, 9, 12, 13)] ∈ TBg := tb_6 (List.mem_of_getElem? (i := 154) rfl) rfl
theorem wd_1536 : Cond.static yL_lifted ∈ TBg := tb_6 (List.mem_of_getElem? (i := 153) rfl) rfl
theorem wd_1537 : Cond.codeWith yL_slack cL_slack 4 (some .int) [(0, 9, 12, 18)] ∈ TBg := tb_6 (List.mem_of_getElem? (i := 162) rfl) rfl
theorem wd_1538 : Cond.static yL_slack ∈ TBg := tb_6 (List.mem_of_getElem? (i := 161) rfl) rfl
theorem wd_1539 : Cond.codeWith yL_broken cL_broken 4 (some .int) [(0, 9, 12, 13)] ∈ TBg := tb_6 (List.mem_of_getElem? (i := 170) rfl) rfl
theorem wd_1540 : Cond.static yL_broken ∈ TBg := tb_6 (List.mem_of_getElem? (i := 169) rfl) rfl
theorem wd_1541 : Cond.codeWith yL_top cL_top 4 (some .int) [(0, 9, 12, 13)] ∈ TBg := tb_6 (List.mem_of_getElem? (i := 178) rfl) rfl
theorem wd_1542 : Cond.static yL_top ∈ TBg := tb_6 (List.mem_of_getElem? (i := 177) rfl) rfl
theorem wd_1543 : Cond.codeWith yL_which cL_which 4 (some .int) [(0, 9, 12, 18)] ∈ TBg := tb_6 (List.mem_of_getElem? (i := 191) rfl) rfl
theorem wd_1544 : Cond.static yL_which ∈ TBg := tb_6 (List.mem_of_getElem? (i := 190) rfl) rfl
theorem wd_1545 : Cond.codeWith yL_game cL_game 4 (some .int) [(0, 9, 12, 18)] ∈ TBg := tb_6 (List.mem_of_getElem? (i := 211) rfl) rfl
theorem wd_1546 : Cond.static yL_game ∈ TBg := tb_6 (List.mem_of_getElem? (i := 210) rfl) rfl
theorem wd_1547 : Cond.codeWith yL_decades cL_decades 6 (some .int) [(0, 12, 15, 18), (0, 12, 19, 13)] ∈ TBg := tb_6 (List.mem_of_getElem? (i := 235) rfl) rfl
theorem wd_1548 : Cond.static yL_decades ∈ TBg := tb_6 (List.mem_of_getElem? (i := 234) rfl) rfl
