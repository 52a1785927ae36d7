/-- the words that every contract takes: all of the tables that are good for calls -/
def tA : List Cond := lw_tbl.filter goodWord
theorem tg {w : Cond} (h : w ∈ lw_tbl) (g : goodWord w = true) : w ∈ tA := List.mem_filter.mpr ⟨h, g⟩
theorem tA_in {w : Cond} (h : w ∈ tA) : w ∈ lw_tbl := (List.mem_filter.mp h).1
theorem tA_gd {w : Cond} (h : w ∈ tA) : goodWord w = true := (List.mem_filter.mp h).2
theorem lt_1 {w : Cond} (h : w ∈ tables_1_1) : w ∈ lw_tbl := List.mem_append_right _ (List.mem_append_left _ h)
theorem lt_2 {w : Cond} (h : w ∈ tables_1_2) : w ∈ lw_tbl := List.mem_append_right _ (List.mem_append_right _ (List.mem_append_left _ h))
theorem lt_3 {w : Cond} (h : w ∈ tables_1_3) : w ∈ lw_tbl := List.mem_append_right _ (List.mem_append_right _ (List.mem_append_right _ (List.mem_append_left _ h)))
theorem lt_4 {w : Cond} (h : w ∈ tables_1_4) : w ∈ lw_tbl := List.mem_append_right _ (List.mem_append_right _ (List.mem_append_right _ (List.mem_append_right _ (List.mem_append_left _ h))))
theorem lt_5 {w : Cond} (h : w ∈ tables_1_5) : w ∈ lw_tbl := List.mem_append_right _ (List.mem_append_right _ (List.mem_append_right _ (List.mem_append_right _ (List.mem_append_right _ (h)))))
theorem in_L : Cond.initialized RL ∈ tA := tg (lt_1 (List.mem_of_getElem? (i := 0) rfl)) rfl
theorem in_X8 : Cond.initialized RX8 ∈ tA := tg (lt_1 (List.mem_of_getElem? (i := 1) rfl)) rfl
theorem in_X2 : Cond.initialized RX2 ∈ tA := tg (lt_1 (List.mem_of_getElem? (i := 2) rfl)) rfl
theorem in_X3 : Cond.initialized RX3 ∈ tA := tg (lt_1 (List.mem_of_getElem? (i := 3) rfl)) rfl
theorem in_X4 : Cond.initialized RX4 ∈ tA := tg (lt_1 (List.mem_of_getElem? (i := 4) rfl)) rfl
theorem in_J7 : Cond.initialized RJ7 ∈ tA := tg (lt_1 (List.mem_of_getElem? (i := 5) rfl)) rfl
theorem in_X6 : Cond.initialized RX6 ∈ tA := tg (lt_1 (List.mem_of_getElem? (i := 6) rfl)) rfl
theorem in_X1 : Cond.initialized RX1 ∈ tA := tg (lt_1 (List.mem_of_getElem? (i := 7) rfl)) rfl
theorem in_X0 : Cond.initialized RX0 ∈ tA := tg (lt_1 (List.mem_of_getElem? (i := 8) rfl)) rfl
theorem in_X7 : Cond.initialized RX7 ∈ tA := tg (lt_1 (List.mem_of_getElem? (i := 9) rfl)) rfl
theorem in_X5 : Cond.initialized RX5 ∈ tA := tg (lt_1 (List.mem_of_getElem? (i := 10) rfl)) rfl
theorem in_X9 : Cond.initialized RX9 ∈ tA := tg (lt_1 (List.mem_of_getElem? (i := 11) rfl)) rfl
theorem in_J10 : Cond.initialized RJ10 ∈ tA := tg (lt_1 (List.mem_of_getElem? (i := 12) rfl)) rfl
theorem in_J9 : Cond.initialized RJ9 ∈ tA := tg (lt_1 (List.mem_of_getElem? (i := 13) rfl)) rfl
theorem cl_L_7 : Cond.classLink RL 7 RX8 ∈ tA := tg (lt_1 (List.mem_of_getElem? (i := 14) rfl)) rfl
theorem ib_X8 : Cond.instantiable RX8 8 ∈ tA := tg (lt_1 (List.mem_of_getElem? (i := 15) rfl)) rfl
theorem ml_L_9 : Cond.methodLink RL 9 yX8_init ∈ tA := tg (lt_1 (List.mem_of_getElem? (i := 16) rfl)) rfl
theorem im_X8_init : Cond.instanceMethod yX8_init ∈ tA := tg (lt_1 (List.mem_of_getElem? (i := 17) rfl)) rfl
theorem co_X8_init : Cond.code yX8_init cX8_init 1 none ∈ tA := tg (lt_1 (List.mem_of_getElem? (i := 18) rfl)) rfl
theorem ml_X8_3 : Cond.methodLink RX8 3 objectInit ∈ tA := tg (lt_1 (List.mem_of_getElem? (i := 19) rfl)) rfl
theorem im_obj : Cond.instanceMethod objectInit ∈ tA := tg (lt_1 (List.mem_of_getElem? (i := 20) rfl)) rfl
theorem co_obj : Cond.code objectInit ⟨#[0xb1]⟩ 1 none ∈ tA := tg (lt_1 (List.mem_of_getElem? (i := 21) rfl)) rfl
theorem cl_X8_9 : Cond.classLink RX8 9 RX2 ∈ tA := tg (lt_1 (List.mem_of_getElem? (i := 22) rfl)) rfl
theorem ib_X2 : Cond.instantiable RX2 2 ∈ tA := tg (lt_1 (List.mem_of_getElem? (i := 23) rfl)) rfl
theorem im_X2_init : Cond.instanceMethod yX2_init ∈ tA := tg (lt_1 (List.mem_of_getElem? (i := 25) rfl)) rfl
theorem co_X2_init : Cond.code yX2_init cX2_init 1 none ∈ tA := tg (lt_1 (List.mem_of_getElem? (i := 26) rfl)) rfl
theorem ml_X2_3 : Cond.methodLink RX2 3 objectInit ∈ tA := tg (lt_1 (List.mem_of_getElem? (i := 27) rfl)) rfl
theorem fl_X2_9 : Cond.fieldLink RX2 9 "RankBoard$Log" "times" "[I" ∈ tA := tg (lt_1 (List.mem_of_getElem? (i := 28) rfl)) rfl
theorem fl_X8_325 : Cond.fieldLink RX8 325 "RankBoard$Log" "times" "[I" ∈ tA := tg (lt_1 (List.mem_of_getElem? (i := 29) rfl)) rfl
theorem fl_X2_15 : Cond.fieldLink RX2 15 "RankBoard$Log" "latest" "I" ∈ tA := tg (lt_1 (List.mem_of_getElem? (i := 30) rfl)) rfl
theorem fl_X8_322 : Cond.fieldLink RX8 322 "RankBoard$Log" "latest" "I" ∈ tA := tg (lt_1 (List.mem_of_getElem? (i := 31) rfl)) rfl
theorem ac_Jvm_ClassFile_FieldType_int : (Jvm.Cond.arrayClass Jvm.ClassFile.FieldType.int) ∈ tA := tg (lt_1 (List.mem_of_getElem? (i := 37) rfl)) rfl
theorem cl_X8_16 : Cond.classLink RX8 16 RX3 ∈ tA := tg (lt_1 (List.mem_of_getElem? (i := 38) rfl)) rfl
theorem ib_X3 : Cond.instantiable RX3 13 ∈ tA := tg (lt_1 (List.mem_of_getElem? (i := 39) rfl)) rfl
theorem im_X3_init : Cond.instanceMethod yX3_init ∈ tA := tg (lt_1 (List.mem_of_getElem? (i := 41) rfl)) rfl
theorem co_X3_init : Cond.code yX3_init cX3_init 1 none ∈ tA := tg (lt_1 (List.mem_of_getElem? (i := 42) rfl)) rfl
theorem ml_X3_3 : Cond.methodLink RX3 3 objectInit ∈ tA := tg (lt_1 (List.mem_of_getElem? (i := 43) rfl)) rfl
theorem fl_X3_9 : Cond.fieldLink RX3 9 "RankBoard$Roster" "kind" "[I" ∈ tA := tg (lt_1 (List.mem_of_getElem? (i := 44) rfl)) rfl
theorem fl_X8_282 : Cond.fieldLink RX8 282 "RankBoard$Roster" "kind" "[I" ∈ tA := tg (lt_1 (List.mem_of_getElem? (i := 45) rfl)) rfl
theorem fl_X3_15 : Cond.fieldLink RX3 15 "RankBoard$Roster" "stable" "[I" ∈ tA := tg (lt_1 (List.mem_of_getElem? (i := 46) rfl)) rfl
theorem fl_X8_122 : Cond.fieldLink RX8 122 "RankBoard$Roster" "stable" "[I" ∈ tA := tg (lt_1 (List.mem_of_getElem? (i := 47) rfl)) rfl
theorem fl_X3_18 : Cond.fieldLink RX3 18 "RankBoard$Roster" "kin" "[I" ∈ tA := tg (lt_1 (List.mem_of_getElem? (i := 48) rfl)) rfl
theorem fl_X8_342 : Cond.fieldLink RX8 342 "RankBoard$Roster" "kin" "[I" ∈ tA := tg (lt_1 (List.mem_of_getElem? (i := 49) rfl)) rfl
theorem fl_X3_21 : Cond.fieldLink RX3 21 "RankBoard$Roster" "rungOf" "[I" ∈ tA := tg (lt_1 (List.mem_of_getElem? (i := 50) rfl)) rfl
theorem fl_X8_365 : Cond.fieldLink RX8 365 "RankBoard$Roster" "rungOf" "[I" ∈ tA := tg (lt_1 (List.mem_of_getElem? (i := 51) rfl)) rfl
theorem fl_X3_24 : Cond.fieldLink RX3 24 "RankBoard$Roster" "wins" "[I" ∈ tA := tg (lt_1 (List.mem_of_getElem? (i := 52) rfl)) rfl
theorem fl_X8_125 : Cond.fieldLink RX8 125 "RankBoard$Roster" "wins" "[I" ∈ tA := tg (lt_1 (List.mem_of_getElem? (i := 53) rfl)) rfl
theorem fl_X3_27 : Cond.fieldLink RX3 27 "RankBoard$Roster" "losses" "[I" ∈ tA := tg (lt_1 (List.mem_of_getElem? (i := 54) rfl)) rfl
theorem fl_X8_216 : Cond.fieldLink RX8 216 "RankBoard$Roster" "losses" "[I" ∈ tA := tg (lt_1 (List.mem_of_getElem? (i := 55) rfl)) rfl
theorem fl_X3_30 : Cond.fieldLink RX3 30 "RankBoard$Roster" "titles" "[I" ∈ tA := tg (lt_1 (List.mem_of_getElem? (i := 56) rfl)) rfl
theorem fl_X8_374 : Cond.fieldLink RX8 374 "RankBoard$Roster" "titles" "[I" ∈ tA := tg (lt_1 (List.mem_of_getElem? (i := 57) rfl)) rfl
theorem fl_X3_33 : Cond.fieldLink RX3 33 "RankBoard$Roster" "marks" "[I" ∈ tA := tg (lt_1 (List.mem_of_getElem? (i := 58) rfl)) rfl
theorem fl_X8_119 : Cond.fieldLink RX8 119 "RankBoard$Roster" "marks" "[I" ∈ tA := tg (lt_1 (List.mem_of_getElem? (i := 59) rfl)) rfl
theorem fl_X3_36 : Cond.fieldLink RX3 36 "RankBoard$Roster" "gone" "[Z" ∈ tA := tg (lt_1 (List.mem_of_getElem? (i := 60) rfl)) rfl
theorem fl_X8_90 : Cond.fieldLink RX8 90 "RankBoard$Roster" "gone" "[Z" ∈ tA := tg (lt_1 (List.mem_of_getElem? (i := 61) rfl)) rfl
theorem fl_X3_40 : Cond.fieldLink RX3 40 "RankBoard$Roster" "away" "[Z" ∈ tA := tg (lt_1 (List.mem_of_getElem? (i := 62) rfl)) rfl
theorem fl_X8_175 : Cond.fieldLink RX8 175 "RankBoard$Roster" "away" "[Z" ∈ tA := tg (lt_1 (List.mem_of_getElem? (i := 63) rfl)) rfl
theorem fl_X3_43 : Cond.fieldLink RX3 43 "RankBoard$Roster" "board" "[I" ∈ tA := tg (lt_1 (List.mem_of_getElem? (i := 64) rfl)) rfl
theorem fl_X7_49 : Cond.fieldLink RX7 49 "RankBoard$Roster" "board" "[I" ∈ tA := tg (lt_1 (List.mem_of_getElem? (i := 65) rfl)) rfl
theorem fl_X8_115 : Cond.fieldLink RX8 115 "RankBoard$Roster" "board" "[I" ∈ tA := tg (lt_1 (List.mem_of_getElem? (i := 66) rfl)) rfl
theorem fl_X3_46 : Cond.fieldLink RX3 46 "RankBoard$Roster" "ever" "I" ∈ tA := tg (lt_1 (List.mem_of_getElem? (i := 67) rfl)) rfl
theorem fl_X8_72 : Cond.fieldLink RX8 72 "RankBoard$Roster" "ever" "I" ∈ tA := tg (lt_1 (List.mem_of_getElem? (i := 68) rfl)) rfl
theorem fl_X7_39 : Cond.fieldLink RX7 39 "RankBoard$Roster" "standing" "I" ∈ tA := tg (lt_1 (List.mem_of_getElem? (i := 69) rfl)) rfl
theorem fl_X3_50 : Cond.fieldLink RX3 50 "RankBoard$Roster" "standing" "I" ∈ tA := tg (lt_1 (List.mem_of_getElem? (i := 70) rfl)) rfl
theorem fl_X8_112 : Cond.fieldLink RX8 112 "RankBoard$Roster" "standing" "I" ∈ tA := tg (lt_1 (List.mem_of_getElem? (i := 71) rfl)) rfl
theorem ac_Jvm_ClassFile_FieldType_boolean : (Jvm.Cond.arrayClass Jvm.ClassFile.FieldType.boolean) ∈ tA := tg (lt_1 (List.mem_of_getElem? (i := 99) rfl)) rfl
theorem cl_X8_23 : Cond.classLink RX8 23 RX4 ∈ tA := tg (lt_1 (List.mem_of_getElem? (i := 100) rfl)) rfl
theorem ib_X4 : Cond.instantiable RX4 3 ∈ tA := tg (lt_1 (List.mem_of_getElem? (i := 101) rfl)) rfl
theorem ml_X8_25 : Cond.methodLink RX8 25 yX4_init ∈ tA := tg (lt_1 (List.mem_of_getElem? (i := 102) rfl)) rfl
theorem im_X4_init : Cond.instanceMethod yX4_init ∈ tA := tg (lt_1 (List.mem_of_getElem? (i := 103) rfl)) rfl
theorem co_X4_init : Cond.code yX4_init cX4_init 1 none ∈ tA := tg (lt_1 (List.mem_of_getElem? (i := 104) rfl)) rfl
theorem ml_X4_3 : Cond.methodLink RX4 3 objectInit ∈ tA := tg (lt_1 (List.mem_of_getElem? (i := 105) rfl)) rfl
theorem cl_X4_9 : Cond.classLink RX4 9 "[[B" ∈ tA := tg (lt_1 (List.mem_of_getElem? (i := 106) rfl)) rfl
theorem ml_X4_24 : Cond.methodLink RX4 24 yJ7_fill_53178 ∈ tA := tg (lt_1 (List.mem_of_getElem? (i := 108) rfl)) rfl
theorem st_J7_fill_53178 : Cond.static yJ7_fill_53178 ∈ tA := tg (lt_1 (List.mem_of_getElem? (i := 109) rfl)) rfl
theorem co_J7_fill_53178 : Cond.code yJ7_fill_53178 cJ7_fill_53178 4 none ∈ tA := tg (lt_1 (List.mem_of_getElem? (i := 110) rfl)) rfl
theorem fl_X4_11 : Cond.fieldLink RX4 11 "RankBoard$Sheets" "bytes" "[[B" ∈ tA := tg (lt_1 (List.mem_of_getElem? (i := 111) rfl)) rfl
theorem fl_X8_149 : Cond.fieldLink RX8 149 "RankBoard$Sheets" "bytes" "[[B" ∈ tA := tg (lt_1 (List.mem_of_getElem? (i := 112) rfl)) rfl
theorem fl_X4_16 : Cond.fieldLink RX4 16 "RankBoard$Sheets" "size" "[I" ∈ tA := tg (lt_1 (List.mem_of_getElem? (i := 113) rfl)) rfl
theorem fl_X8_138 : Cond.fieldLink RX8 138 "RankBoard$Sheets" "size" "[I" ∈ tA := tg (lt_1 (List.mem_of_getElem? (i := 114) rfl)) rfl
theorem fl_X4_20 : Cond.fieldLink RX4 20 "RankBoard$Sheets" "teller" "I" ∈ tA := tg (lt_1 (List.mem_of_getElem? (i := 115) rfl)) rfl
theorem fl_X8_159 : Cond.fieldLink RX8 159 "RankBoard$Sheets" "teller" "I" ∈ tA := tg (lt_1 (List.mem_of_getElem? (i := 116) rfl)) rfl
theorem ac_Jvm_ClassFile_FieldType_byte : (Jvm.Cond.arrayClass Jvm.ClassFile.FieldType.byte) ∈ tA := tg (lt_1 (List.mem_of_getElem? (i := 124) rfl)) rfl
theorem cl_X8_30 : Cond.classLink RX8 30 RX6 ∈ tA := tg (lt_1 (List.mem_of_getElem? (i := 125) rfl)) rfl
theorem ib_X6 : Cond.instantiable RX6 12 ∈ tA := tg (lt_1 (List.mem_of_getElem? (i := 126) rfl)) rfl
theorem im_X6_init : Cond.instanceMethod yX6_init ∈ tA := tg (lt_1 (List.mem_of_getElem? (i := 128) rfl)) rfl
theorem co_X6_init : Cond.code yX6_init cX6_init 1 none ∈ tA := tg (lt_1 (List.mem_of_getElem? (i := 129) rfl)) rfl
theorem ml_X6_3 : Cond.methodLink RX6 3 objectInit ∈ tA := tg (lt_1 (List.mem_of_getElem? (i := 130) rfl)) rfl
theorem fl_X6_9 : Cond.fieldLink RX6 9 "RankBoard$Tourney" "day" "[I" ∈ tA := tg (lt_1 (List.mem_of_getElem? (i := 131) rfl)) rfl
theorem fl_X6_15 : Cond.fieldLink RX6 15 "RankBoard$Tourney" "upper" "[I" ∈ tA := tg (lt_1 (List.mem_of_getElem? (i := 132) rfl)) rfl
theorem fl_X8_210 : Cond.fieldLink RX8 210 "RankBoard$Tourney" "upper" "[I" ∈ tA := tg (lt_1 (List.mem_of_getElem? (i := 133) rfl)) rfl
theorem fl_X6_18 : Cond.fieldLink RX6 18 "RankBoard$Tourney" "lower" "[I" ∈ tA := tg (lt_1 (List.mem_of_getElem? (i := 134) rfl)) rfl
theorem fl_X8_213 : Cond.fieldLink RX8 213 "RankBoard$Tourney" "lower" "[I" ∈ tA := tg (lt_1 (List.mem_of_getElem? (i := 135) rfl)) rfl
theorem fl_X6_21 : Cond.fieldLink RX6 21 "RankBoard$Tourney" "winner" "[I" ∈ tA := tg (lt_1 (List.mem_of_getElem? (i := 136) rfl)) rfl
theorem fl_X8_207 : Cond.fieldLink RX8 207 "RankBoard$Tourney" "winner" "[I" ∈ tA := tg (lt_1 (List.mem_of_getElem? (i := 137) rfl)) rfl
theorem fl_X6_24 : Cond.fieldLink RX6 24 "RankBoard$Tourney" "metBits" "[I" ∈ tA := tg (lt_1 (List.mem_of_getElem? (i := 138) rfl)) rfl
theorem fl_X6_27 : Cond.fieldLink RX6 27 "RankBoard$Tourney" "going" "Z" ∈ tA := tg (lt_1 (List.mem_of_getElem? (i := 139) rfl)) rfl
theorem fl_X8_76 : Cond.fieldLink RX8 76 "RankBoard$Tourney" "going" "Z" ∈ tA := tg (lt_1 (List.mem_of_getElem? (i := 140) rfl)) rfl
theorem fl_X6_31 : Cond.fieldLink RX6 31 "RankBoard$Tourney" "days" "I" ∈ tA := tg (lt_1 (List.mem_of_getElem? (i := 141) rfl)) rfl
theorem fl_X8_187 : Cond.fieldLink RX8 187 "RankBoard$Tourney" "days" "I" ∈ tA := tg (lt_1 (List.mem_of_getElem? (i := 142) rfl)) rfl
theorem fl_X6_35 : Cond.fieldLink RX6 35 "RankBoard$Tourney" "drawn" "I" ∈ tA := tg (lt_1 (List.mem_of_getElem? (i := 143) rfl)) rfl
theorem fl_X8_184 : Cond.fieldLink RX8 184 "RankBoard$Tourney" "drawn" "I" ∈ tA := tg (lt_1 (List.mem_of_getElem? (i := 144) rfl)) rfl
theorem fl_X6_38 : Cond.fieldLink RX6 38 "RankBoard$Tourney" "bouts" "I" ∈ tA := tg (lt_1 (List.mem_of_getElem? (i := 145) rfl)) rfl
theorem fl_X8_336 : Cond.fieldLink RX8 336 "RankBoard$Tourney" "bouts" "I" ∈ tA := tg (lt_1 (List.mem_of_getElem? (i := 146) rfl)) rfl
theorem fl_X6_41 : Cond.fieldLink RX6 41 "RankBoard$Tourney" "lacking" "I" ∈ tA := tg (lt_1 (List.mem_of_getElem? (i := 147) rfl)) rfl
theorem fl_X8_181 : Cond.fieldLink RX8 181 "RankBoard$Tourney" "lacking" "I" ∈ tA := tg (lt_1 (List.mem_of_getElem? (i := 148) rfl)) rfl
theorem fl_X8_200 : Cond.fieldLink RX8 200 "RankBoard$Tourney" "cost" "I" ∈ tA := tg (lt_1 (List.mem_of_getElem? (i := 149) rfl)) rfl
theorem fl_X8_223 : Cond.fieldLink RX8 223 "RankBoard$Tourney" "satOut" "I" ∈ tA := tg (lt_1 (List.mem_of_getElem? (i := 150) rfl)) rfl
theorem cl_X8_37 : Cond.classLink RX8 37 RX1 ∈ tA := tg (lt_1 (List.mem_of_getElem? (i := 176) rfl)) rfl
theorem ib_X1 : Cond.instantiable RX1 5 ∈ tA := tg (lt_1 (List.mem_of_getElem? (i := 177) rfl)) rfl
theorem im_X1_init : Cond.instanceMethod yX1_init ∈ tA := tg (lt_1 (List.mem_of_getElem? (i := 179) rfl)) rfl
theorem co_X1_init : Cond.code yX1_init cX1_init 1 none ∈ tA := tg (lt_1 (List.mem_of_getElem? (i := 180) rfl)) rfl
theorem ml_X1_3 : Cond.methodLink RX1 3 objectInit ∈ tA := tg (lt_1 (List.mem_of_getElem? (i := 181) rfl)) rfl
theorem cl_X1_18 : Cond.classLink RX1 18 "[[I" ∈ tA := tg (lt_1 (List.mem_of_getElem? (i := 182) rfl)) rfl
theorem fl_X1_9 : Cond.fieldLink RX1 9 "RankBoard$Fitting" "who" "[I" ∈ tA := tg (lt_1 (List.mem_of_getElem? (i := 184) rfl)) rfl
theorem fl_X8_350 : Cond.fieldLink RX8 350 "RankBoard$Fitting" "who" "[I" ∈ tA := tg (lt_1 (List.mem_of_getElem? (i := 185) rfl)) rfl
theorem fl_X1_15 : Cond.fieldLink RX1 15 "RankBoard$Fitting" "mate" "[I" ∈ tA := tg (lt_1 (List.mem_of_getElem? (i := 186) rfl)) rfl
theorem fl_X8_368 : Cond.fieldLink RX8 368 "RankBoard$Fitting" "mate" "[I" ∈ tA := tg (lt_1 (List.mem_of_getElem? (i := 187) rfl)) rfl
theorem fl_X1_20 : Cond.fieldLink RX1 20 "RankBoard$Fitting" "charge" "[[I" ∈ tA := tg (lt_1 (List.mem_of_getElem? (i := 188) rfl)) rfl
theorem fl_X8_353 : Cond.fieldLink RX8 353 "RankBoard$Fitting" "charge" "[[I" ∈ tA := tg (lt_1 (List.mem_of_getElem? (i := 189) rfl)) rfl
theorem fl_X1_23 : Cond.fieldLink RX1 23 "RankBoard$Fitting" "leastPlusOne" "[I" ∈ tA := tg (lt_1 (List.mem_of_getElem? (i := 190) rfl)) rfl
theorem fl_X1_26 : Cond.fieldLink RX1 26 "RankBoard$Fitting" "size" "I" ∈ tA := tg (lt_1 (List.mem_of_getElem? (i := 191) rfl)) rfl
theorem fl_X8_348 : Cond.fieldLink RX8 348 "RankBoard$Fitting" "size" "I" ∈ tA := tg (lt_1 (List.mem_of_getElem? (i := 192) rfl)) rfl
theorem cl_X8_44 : Cond.classLink RX8 44 RX0 ∈ tA := tg (lt_1 (List.mem_of_getElem? (i := 204) rfl)) rfl
theorem ib_X0 : Cond.instantiable RX0 4 ∈ tA := tg (lt_1 (List.mem_of_getElem? (i := 205) rfl)) rfl
theorem im_X0_init : Cond.instanceMethod yX0_init ∈ tA := tg (lt_1 (List.mem_of_getElem? (i := 207) rfl)) rfl
theorem co_X0_init : Cond.code yX0_init cX0_init 1 none ∈ tA := tg (lt_1 (List.mem_of_getElem? (i := 208) rfl)) rfl
theorem ml_X0_3 : Cond.methodLink RX0 3 objectInit ∈ tA := tg (lt_1 (List.mem_of_getElem? (i := 209) rfl)) rfl
theorem fl_X0_9 : Cond.fieldLink RX0 9 "RankBoard$Custom" "low" "[I" ∈ tA := tg (lt_1 (List.mem_of_getElem? (i := 210) rfl)) rfl
theorem fl_X0_15 : Cond.fieldLink RX0 15 "RankBoard$Custom" "high" "[I" ∈ tA := tg (lt_1 (List.mem_of_getElem? (i := 211) rfl)) rfl
theorem fl_X0_18 : Cond.fieldLink RX0 18 "RankBoard$Custom" "up" "[I" ∈ tA := tg (lt_1 (List.mem_of_getElem? (i := 212) rfl)) rfl
theorem fl_X0_21 : Cond.fieldLink RX0 21 "RankBoard$Custom" "lines" "I" ∈ tA := tg (lt_1 (List.mem_of_getElem? (i := 213) rfl)) rfl
theorem fl_X8_226 : Cond.fieldLink RX8 226 "RankBoard$Custom" "lines" "I" ∈ tA := tg (lt_1 (List.mem_of_getElem? (i := 214) rfl)) rfl
theorem cl_X8_51 : Cond.classLink RX8 51 RX7 ∈ tA := tg (lt_1 (List.mem_of_getElem? (i := 224) rfl)) rfl
theorem ib_X7 : Cond.instantiable RX7 11 ∈ tA := tg (lt_1 (List.mem_of_getElem? (i := 225) rfl)) rfl
theorem ml_X8_53 : Cond.methodLink RX8 53 yX7_init ∈ tA := tg (lt_1 (List.mem_of_getElem? (i := 226) rfl)) rfl
theorem im_X7_init : Cond.instanceMethod yX7_init ∈ tA := tg (lt_1 (List.mem_of_getElem? (i := 227) rfl)) rfl
theorem co_X7_init : Cond.code yX7_init cX7_init 1 none ∈ tA := tg (lt_1 (List.mem_of_getElem? (i := 228) rfl)) rfl
theorem ml_X7_3 : Cond.methodLink RX7 3 objectInit ∈ tA := tg (lt_1 (List.mem_of_getElem? (i := 229) rfl)) rfl
theorem ml_X7_33 : Cond.methodLink RX7 33 yJ7_fill_53178 ∈ tA := tg (lt_1 (List.mem_of_getElem? (i := 230) rfl)) rfl
theorem fl_X7_9 : Cond.fieldLink RX7 9 "RankBoard$Writing" "formerBoard" "[I" ∈ tA := tg (lt_1 (List.mem_of_getElem? (i := 231) rfl)) rfl
theorem fl_X8_242 : Cond.fieldLink RX8 242 "RankBoard$Writing" "formerBoard" "[I" ∈ tA := tg (lt_1 (List.mem_of_getElem? (i := 232) rfl)) rfl
theorem fl_X7_15 : Cond.fieldLink RX7 15 "RankBoard$Writing" "before" "[I" ∈ tA := tg (lt_1 (List.mem_of_getElem? (i := 233) rfl)) rfl
theorem fl_X8_260 : Cond.fieldLink RX8 260 "RankBoard$Writing" "before" "[I" ∈ tA := tg (lt_1 (List.mem_of_getElem? (i := 234) rfl)) rfl
theorem fl_X7_18 : Cond.fieldLink RX7 18 "RankBoard$Writing" "after" "[I" ∈ tA := tg (lt_1 (List.mem_of_getElem? (i := 235) rfl)) rfl
theorem fl_X8_254 : Cond.fieldLink RX8 254 "RankBoard$Writing" "after" "[I" ∈ tA := tg (lt_1 (List.mem_of_getElem? (i := 236) rfl)) rfl
theorem fl_X7_21 : Cond.fieldLink RX7 21 "RankBoard$Writing" "byLine" "[I" ∈ tA := tg (lt_1 (List.mem_of_getElem? (i := 237) rfl)) rfl
theorem fl_X8_267 : Cond.fieldLink RX8 267 "RankBoard$Writing" "byLine" "[I" ∈ tA := tg (lt_1 (List.mem_of_getElem? (i := 238) rfl)) rfl
theorem fl_X7_24 : Cond.fieldLink RX7 24 "RankBoard$Writing" "aside" "[I" ∈ tA := tg (lt_1 (List.mem_of_getElem? (i := 239) rfl)) rfl
theorem fl_X8_291 : Cond.fieldLink RX8 291 "RankBoard$Writing" "aside" "[I" ∈ tA := tg (lt_2 (List.mem_of_getElem? (i := 0) rfl)) rfl
theorem fl_X7_27 : Cond.fieldLink RX7 27 "RankBoard$Writing" "order" "[I" ∈ tA := tg (lt_2 (List.mem_of_getElem? (i := 1) rfl)) rfl
theorem fl_X8_251 : Cond.fieldLink RX8 251 "RankBoard$Writing" "order" "[I" ∈ tA := tg (lt_2 (List.mem_of_getElem? (i := 2) rfl)) rfl
theorem fl_X7_30 : Cond.fieldLink RX7 30 "RankBoard$Writing" "aims" "[I" ∈ tA := tg (lt_2 (List.mem_of_getElem? (i := 3) rfl)) rfl
theorem fl_X7_45 : Cond.fieldLink RX7 45 "RankBoard$Writing" "standing" "I" ∈ tA := tg (lt_2 (List.mem_of_getElem? (i := 4) rfl)) rfl
theorem fl_X8_241 : Cond.fieldLink RX8 241 "RankBoard$Writing" "standing" "I" ∈ tA := tg (lt_2 (List.mem_of_getElem? (i := 5) rfl)) rfl
theorem fl_X7_46 : Cond.fieldLink RX7 46 "RankBoard$Writing" "linesThen" "I" ∈ tA := tg (lt_2 (List.mem_of_getElem? (i := 6) rfl)) rfl
theorem fl_X8_276 : Cond.fieldLink RX8 276 "RankBoard$Writing" "linesThen" "I" ∈ tA := tg (lt_2 (List.mem_of_getElem? (i := 7) rfl)) rfl
theorem fl_X7_52 : Cond.fieldLink RX7 52 "RankBoard$Writing" "times" "I" ∈ tA := tg (lt_2 (List.mem_of_getElem? (i := 8) rfl)) rfl
theorem fl_X8_377 : Cond.fieldLink RX8 377 "RankBoard$Writing" "times" "I" ∈ tA := tg (lt_2 (List.mem_of_getElem? (i := 9) rfl)) rfl
theorem fl_X8_80 : Cond.fieldLink RX8 80 "RankBoard$Writing" "fresh" "Z" ∈ tA := tg (lt_2 (List.mem_of_getElem? (i := 10) rfl)) rfl
theorem fl_X7_55 : Cond.fieldLink RX7 55 "RankBoard$Writing" "fresh" "Z" ∈ tA := tg (lt_2 (List.mem_of_getElem? (i := 11) rfl)) rfl
theorem cl_X8_58 : Cond.classLink RX8 58 RX5 ∈ tA := tg (lt_2 (List.mem_of_getElem? (i := 35) rfl)) rfl
theorem ib_X5 : Cond.instantiable RX5 4 ∈ tA := tg (lt_2 (List.mem_of_getElem? (i := 36) rfl)) rfl
theorem im_X5_init : Cond.instanceMethod yX5_init ∈ tA := tg (lt_2 (List.mem_of_getElem? (i := 38) rfl)) rfl
theorem co_X5_init : Cond.code yX5_init cX5_init 1 none ∈ tA := tg (lt_2 (List.mem_of_getElem? (i := 39) rfl)) rfl
theorem ml_X5_3 : Cond.methodLink RX5 3 objectInit ∈ tA := tg (lt_2 (List.mem_of_getElem? (i := 40) rfl)) rfl
theorem fl_X5_9 : Cond.fieldLink RX5 9 "RankBoard$TitleRow" "row" "[I" ∈ tA := tg (lt_2 (List.mem_of_getElem? (i := 41) rfl)) rfl
theorem fl_X8_309 : Cond.fieldLink RX8 309 "RankBoard$TitleRow" "row" "[I" ∈ tA := tg (lt_2 (List.mem_of_getElem? (i := 42) rfl)) rfl
theorem fl_X5_19 : Cond.fieldLink RX5 19 "RankBoard$TitleRow" "left" "I" ∈ tA := tg (lt_2 (List.mem_of_getElem? (i := 43) rfl)) rfl
theorem fl_X8_306 : Cond.fieldLink RX8 306 "RankBoard$TitleRow" "left" "I" ∈ tA := tg (lt_2 (List.mem_of_getElem? (i := 44) rfl)) rfl
theorem fl_X5_22 : Cond.fieldLink RX5 22 "RankBoard$TitleRow" "begun" "Z" ∈ tA := tg (lt_2 (List.mem_of_getElem? (i := 45) rfl)) rfl
theorem fl_X8_297 : Cond.fieldLink RX8 297 "RankBoard$TitleRow" "begun" "Z" ∈ tA := tg (lt_2 (List.mem_of_getElem? (i := 46) rfl)) rfl
theorem fl_X5_15 : Cond.fieldLink RX5 15 "RankBoard$TitleRow" "holder" "I" ∈ tA := tg (lt_2 (List.mem_of_getElem? (i := 47) rfl)) rfl
theorem fl_X8_316 : Cond.fieldLink RX8 316 "RankBoard$TitleRow" "holder" "I" ∈ tA := tg (lt_2 (List.mem_of_getElem? (i := 48) rfl)) rfl
theorem fl_X8_12 : Cond.fieldLink RX8 12 "RankBoard" "log" "LRankBoard$Log;" ∈ tA := tg (lt_2 (List.mem_of_getElem? (i := 58) rfl)) rfl
theorem fl_X8_19 : Cond.fieldLink RX8 19 "RankBoard" "roster" "LRankBoard$Roster;" ∈ tA := tg (lt_2 (List.mem_of_getElem? (i := 59) rfl)) rfl
theorem fl_X8_26 : Cond.fieldLink RX8 26 "RankBoard" "sheets" "LRankBoard$Sheets;" ∈ tA := tg (lt_2 (List.mem_of_getElem? (i := 60) rfl)) rfl
theorem fl_X8_33 : Cond.fieldLink RX8 33 "RankBoard" "tourney" "LRankBoard$Tourney;" ∈ tA := tg (lt_2 (List.mem_of_getElem? (i := 61) rfl)) rfl
theorem fl_X8_40 : Cond.fieldLink RX8 40 "RankBoard" "fitting" "LRankBoard$Fitting;" ∈ tA := tg (lt_2 (List.mem_of_getElem? (i := 62) rfl)) rfl
theorem fl_X8_47 : Cond.fieldLink RX8 47 "RankBoard" "custom" "LRankBoard$Custom;" ∈ tA := tg (lt_2 (List.mem_of_getElem? (i := 63) rfl)) rfl
theorem fl_X8_54 : Cond.fieldLink RX8 54 "RankBoard" "writing" "LRankBoard$Writing;" ∈ tA := tg (lt_2 (List.mem_of_getElem? (i := 64) rfl)) rfl
theorem fl_X8_61 : Cond.fieldLink RX8 61 "RankBoard" "titleRow" "LRankBoard$TitleRow;" ∈ tA := tg (lt_2 (List.mem_of_getElem? (i := 65) rfl)) rfl
theorem ml_L_13 : Cond.methodLink RL 13 yX8_wrestler ∈ tA := tg (lt_2 (List.mem_of_getElem? (i := 83) rfl)) rfl
theorem im_X8_wrestler : Cond.instanceMethod yX8_wrestler ∈ tA := tg (lt_2 (List.mem_of_getElem? (i := 84) rfl)) rfl
theorem se_X8_wrestler : Cond.selects RX8 yX8_wrestler yX8_wrestler ∈ tA := tg (lt_2 (List.mem_of_getElem? (i := 85) rfl)) rfl
theorem co_X8_wrestler : Cond.code yX8_wrestler cX8_wrestler 4 (some .int) ∈ tA := tg (lt_2 (List.mem_of_getElem? (i := 86) rfl)) rfl
theorem ml_X8_65 : Cond.methodLink RX8 65 yX8_isKind ∈ tA := tg (lt_2 (List.mem_of_getElem? (i := 87) rfl)) rfl
theorem st_X8_isKind : Cond.static yX8_isKind ∈ tA := tg (lt_2 (List.mem_of_getElem? (i := 88) rfl)) rfl
theorem co_X8_isKind : Cond.code yX8_isKind cX8_isKind 1 (some .boolean) ∈ tA := tg (lt_2 (List.mem_of_getElem? (i := 89) rfl)) rfl
theorem ml_X8_69 : Cond.methodLink RX8 69 yX8_isGroup ∈ tA := tg (lt_2 (List.mem_of_getElem? (i := 90) rfl)) rfl
theorem st_X8_isGroup : Cond.static yX8_isGroup ∈ tA := tg (lt_2 (List.mem_of_getElem? (i := 91) rfl)) rfl
theorem co_X8_isGroup : Cond.code yX8_isGroup cX8_isGroup 1 (some .boolean) ∈ tA := tg (lt_2 (List.mem_of_getElem? (i := 92) rfl)) rfl
theorem ml_X8_83 : Cond.methodLink RX8 83 yX3_add ∈ tA := tg (lt_2 (List.mem_of_getElem? (i := 93) rfl)) rfl
theorem im_X3_add : Cond.instanceMethod yX3_add ∈ tA := tg (lt_2 (List.mem_of_getElem? (i := 94) rfl)) rfl
theorem se_X3_add : Cond.selects RX3 yX3_add yX3_add ∈ tA := tg (lt_2 (List.mem_of_getElem? (i := 95) rfl)) rfl
theorem co_X3_add : Cond.code yX3_add cX3_add 5 (some .int) ∈ tA := tg (lt_2 (List.mem_of_getElem? (i := 96) rfl)) rfl
theorem ml_X3_53 : Cond.methodLink RX3 53 yX3_place ∈ tA := tg (lt_2 (List.mem_of_getElem? (i := 97) rfl)) rfl
theorem im_X3_place : Cond.instanceMethod yX3_place ∈ tA := tg (lt_2 (List.mem_of_getElem? (i := 98) rfl)) rfl
theorem se_X3_place : Cond.selects RX3 yX3_place yX3_place ∈ tA := tg (lt_2 (List.mem_of_getElem? (i := 99) rfl)) rfl
theorem co_X3_place : Cond.code yX3_place cX3_place 3 none ∈ tA := tg (lt_2 (List.mem_of_getElem? (i := 100) rfl)) rfl
theorem ml_L_18 : Cond.methodLink RL 18 yX8_leave ∈ tA := tg (lt_2 (List.mem_of_getElem? (i := 101) rfl)) rfl
theorem im_X8_leave : Cond.instanceMethod yX8_leave ∈ tA := tg (lt_2 (List.mem_of_getElem? (i := 102) rfl)) rfl
theorem se_X8_leave : Cond.selects RX8 yX8_leave yX8_leave ∈ tA := tg (lt_2 (List.mem_of_getElem? (i := 103) rfl)) rfl
theorem co_X8_leave : Cond.code yX8_leave cX8_leave 2 (some .int) ∈ tA := tg (lt_2 (List.mem_of_getElem? (i := 104) rfl)) rfl
theorem ml_X8_87 : Cond.methodLink RX8 87 yX3_knows ∈ tA := tg (lt_2 (List.mem_of_getElem? (i := 105) rfl)) rfl
theorem im_X3_knows : Cond.instanceMethod yX3_knows ∈ tA := tg (lt_2 (List.mem_of_getElem? (i := 106) rfl)) rfl
theorem se_X3_knows : Cond.selects RX3 yX3_knows yX3_knows ∈ tA := tg (lt_2 (List.mem_of_getElem? (i := 107) rfl)) rfl
theorem co_X3_knows : Cond.code yX3_knows cX3_knows 2 (some .boolean) ∈ tA := tg (lt_2 (List.mem_of_getElem? (i := 108) rfl)) rfl
theorem ml_X8_94 : Cond.methodLink RX8 94 yX2_found ∈ tA := tg (lt_2 (List.mem_of_getElem? (i := 109) rfl)) rfl
theorem im_X2_found : Cond.instanceMethod yX2_found ∈ tA := tg (lt_2 (List.mem_of_getElem? (i := 110) rfl)) rfl
theorem se_X2_found : Cond.selects RX2 yX2_found yX2_found ∈ tA := tg (lt_2 (List.mem_of_getElem? (i := 111) rfl)) rfl
theorem co_X2_found : Cond.code yX2_found cX2_found 2 (some .int) ∈ tA := tg (lt_2 (List.mem_of_getElem? (i := 112) rfl)) rfl
theorem ml_X8_98 : Cond.methodLink RX8 98 yX3_remove ∈ tA := tg (lt_2 (List.mem_of_getElem? (i := 113) rfl)) rfl
theorem im_X3_remove : Cond.instanceMethod yX3_remove ∈ tA := tg (lt_2 (List.mem_of_getElem? (i := 114) rfl)) rfl
theorem se_X3_remove : Cond.selects RX3 yX3_remove yX3_remove ∈ tA := tg (lt_2 (List.mem_of_getElem? (i := 115) rfl)) rfl
theorem co_X3_remove : Cond.code yX3_remove cX3_remove 4 (some .int) ∈ tA := tg (lt_2 (List.mem_of_getElem? (i := 116) rfl)) rfl
theorem ml_L_23 : Cond.methodLink RL 23 yX8_told ∈ tA := tg (lt_2 (List.mem_of_getElem? (i := 117) rfl)) rfl
theorem im_X8_told : Cond.instanceMethod yX8_told ∈ tA := tg (lt_2 (List.mem_of_getElem? (i := 118) rfl)) rfl
theorem se_X8_told : Cond.selects RX8 yX8_told yX8_told ∈ tA := tg (lt_2 (List.mem_of_getElem? (i := 119) rfl)) rfl
theorem co_X8_told : Cond.code yX8_told cX8_told 4 (some .int) ∈ tA := tg (lt_2 (List.mem_of_getElem? (i := 120) rfl)) rfl
theorem ml_X8_101 : Cond.methodLink RX8 101 yX8_refusalOf ∈ tA := tg (lt_2 (List.mem_of_getElem? (i := 121) rfl)) rfl
theorem im_X8_refusalOf : Cond.instanceMethod yX8_refusalOf ∈ tA := tg (lt_2 (List.mem_of_getElem? (i := 123) rfl)) rfl
theorem co_X8_refusalOf : Cond.code yX8_refusalOf cX8_refusalOf 2 (some .int) ∈ tA := tg (lt_2 (List.mem_of_getElem? (i := 124) rfl)) rfl
theorem ml_X8_104 : Cond.methodLink RX8 104 yX3_fact ∈ tA := tg (lt_2 (List.mem_of_getElem? (i := 125) rfl)) rfl
theorem im_X3_fact : Cond.instanceMethod yX3_fact ∈ tA := tg (lt_2 (List.mem_of_getElem? (i := 126) rfl)) rfl
theorem se_X3_fact : Cond.selects RX3 yX3_fact yX3_fact ∈ tA := tg (lt_2 (List.mem_of_getElem? (i := 127) rfl)) rfl
theorem co_X3_fact : Cond.code yX3_fact cX3_fact 3 (some .int) ∈ tA := tg (lt_2 (List.mem_of_getElem? (i := 128) rfl)) rfl
theorem ml_L_28 : Cond.methodLink RL 28 yX8_is ∈ tA := tg (lt_2 (List.mem_of_getElem? (i := 129) rfl)) rfl
theorem im_X8_is : Cond.instanceMethod yX8_is ∈ tA := tg (lt_2 (List.mem_of_getElem? (i := 130) rfl)) rfl
theorem se_X8_is : Cond.selects RX8 yX8_is yX8_is ∈ tA := tg (lt_2 (List.mem_of_getElem? (i := 131) rfl)) rfl
theorem co_X8_is : Cond.code yX8_is cX8_is 4 (some .int) ∈ tA := tg (lt_2 (List.mem_of_getElem? (i := 132) rfl)) rfl
theorem ml_X8_108 : Cond.methodLink RX8 108 yX3_isOf ∈ tA := tg (lt_2 (List.mem_of_getElem? (i := 133) rfl)) rfl
theorem im_X3_isOf : Cond.instanceMethod yX3_isOf ∈ tA := tg (lt_2 (List.mem_of_getElem? (i := 134) rfl)) rfl
theorem se_X3_isOf : Cond.selects RX3 yX3_isOf yX3_isOf ∈ tA := tg (lt_2 (List.mem_of_getElem? (i := 135) rfl)) rfl
theorem co_X3_isOf : Cond.code yX3_isOf cX3_isOf 3 (some .boolean) ∈ tA := tg (lt_2 (List.mem_of_getElem? (i := 136) rfl)) rfl
theorem ml_L_32 : Cond.methodLink RL 32 yX8_on ∈ tA := tg (lt_2 (List.mem_of_getElem? (i := 137) rfl)) rfl
theorem im_X8_on : Cond.instanceMethod yX8_on ∈ tA := tg (lt_2 (List.mem_of_getElem? (i := 138) rfl)) rfl
theorem se_X8_on : Cond.selects RX8 yX8_on yX8_on ∈ tA := tg (lt_2 (List.mem_of_getElem? (i := 139) rfl)) rfl
theorem co_X8_on : Cond.code yX8_on cX8_on 2 (some .int) ∈ tA := tg (lt_2 (List.mem_of_getElem? (i := 140) rfl)) rfl
theorem ml_L_36 : Cond.methodLink RL 36 yX8_mark ∈ tA := tg (lt_2 (List.mem_of_getElem? (i := 141) rfl)) rfl
theorem im_X8_mark : Cond.instanceMethod yX8_mark ∈ tA := tg (lt_2 (List.mem_of_getElem? (i := 142) rfl)) rfl
theorem se_X8_mark : Cond.selects RX8 yX8_mark yX8_mark ∈ tA := tg (lt_2 (List.mem_of_getElem? (i := 143) rfl)) rfl
theorem co_X8_mark : Cond.code yX8_mark cX8_mark 4 (some .int) ∈ tA := tg (lt_2 (List.mem_of_getElem? (i := 144) rfl)) rfl
theorem ml_L_40 : Cond.methodLink RL 40 yX8_mean ∈ tA := tg (lt_2 (List.mem_of_getElem? (i := 145) rfl)) rfl
theorem im_X8_mean : Cond.instanceMethod yX8_mean ∈ tA := tg (lt_2 (List.mem_of_getElem? (i := 146) rfl)) rfl
theorem se_X8_mean : Cond.selects RX8 yX8_mean yX8_mean ∈ tA := tg (lt_2 (List.mem_of_getElem? (i := 147) rfl)) rfl
theorem co_X8_mean : Cond.code yX8_mean cX8_mean 6 (some .int) ∈ tA := tg (lt_2 (List.mem_of_getElem? (i := 148) rfl)) rfl
theorem ml_L_44 : Cond.methodLink RL 44 yX8_sheet ∈ tA := tg (lt_2 (List.mem_of_getElem? (i := 149) rfl)) rfl
theorem im_X8_sheet : Cond.instanceMethod yX8_sheet ∈ tA := tg (lt_2 (List.mem_of_getElem? (i := 150) rfl)) rfl
theorem se_X8_sheet : Cond.selects RX8 yX8_sheet yX8_sheet ∈ tA := tg (lt_2 (List.mem_of_getElem? (i := 151) rfl)) rfl
theorem co_X8_sheet : Cond.code yX8_sheet cX8_sheet 3 (some .int) ∈ tA := tg (lt_2 (List.mem_of_getElem? (i := 152) rfl)) rfl
theorem ml_X8_128 : Cond.methodLink RX8 128 yX8_isSheet ∈ tA := tg (lt_2 (List.mem_of_getElem? (i := 153) rfl)) rfl
theorem st_X8_isSheet : Cond.static yX8_isSheet ∈ tA := tg (lt_2 (List.mem_of_getElem? (i := 154) rfl)) rfl
theorem co_X8_isSheet : Cond.code yX8_isSheet cX8_isSheet 1 (some .boolean) ∈ tA := tg (lt_2 (List.mem_of_getElem? (i := 155) rfl)) rfl
theorem ml_X8_131 : Cond.methodLink RX8 131 yX4_blank ∈ tA := tg (lt_2 (List.mem_of_getElem? (i := 156) rfl)) rfl
theorem im_X4_blank : Cond.instanceMethod yX4_blank ∈ tA := tg (lt_2 (List.mem_of_getElem? (i := 157) rfl)) rfl
theorem se_X4_blank : Cond.selects RX4 yX4_blank yX4_blank ∈ tA := tg (lt_2 (List.mem_of_getElem? (i := 158) rfl)) rfl
theorem co_X4_blank : Cond.code yX4_blank cX4_blank 3 none ∈ tA := tg (lt_2 (List.mem_of_getElem? (i := 159) rfl)) rfl
theorem ml_X4_30 : Cond.methodLink RX4 30 yJ7_fill_031fb ∈ tA := tg (lt_2 (List.mem_of_getElem? (i := 160) rfl)) rfl
theorem st_J7_fill_031fb : Cond.static yJ7_fill_031fb ∈ tA := tg (lt_2 (List.mem_of_getElem? (i := 161) rfl)) rfl
theorem co_J7_fill_031fb : Cond.code yJ7_fill_031fb cJ7_fill_031fb 4 none ∈ tA := tg (lt_2 (List.mem_of_getElem? (i := 162) rfl)) rfl
theorem ml_L_48 : Cond.methodLink RL 48 yX8_lay ∈ tA := tg (lt_2 (List.mem_of_getElem? (i := 163) rfl)) rfl
theorem im_X8_lay : Cond.instanceMethod yX8_lay ∈ tA := tg (lt_2 (List.mem_of_getElem? (i := 164) rfl)) rfl
theorem se_X8_lay : Cond.selects RX8 yX8_lay yX8_lay ∈ tA := tg (lt_2 (List.mem_of_getElem? (i := 165) rfl)) rfl
theorem co_X8_lay : Cond.code yX8_lay cX8_lay 4 (some .int) ∈ tA := tg (lt_2 (List.mem_of_getElem? (i := 166) rfl)) rfl
theorem ml_X8_135 : Cond.methodLink RX8 135 yX4_isMissing ∈ tA := tg (lt_2 (List.mem_of_getElem? (i := 167) rfl)) rfl
theorem im_X4_isMissing : Cond.instanceMethod yX4_isMissing ∈ tA := tg (lt_2 (List.mem_of_getElem? (i := 168) rfl)) rfl
theorem se_X4_isMissing : Cond.selects RX4 yX4_isMissing yX4_isMissing ∈ tA := tg (lt_2 (List.mem_of_getElem? (i := 169) rfl)) rfl
theorem co_X4_isMissing : Cond.code yX4_isMissing cX4_isMissing 2 (some .boolean) ∈ tA := tg (lt_2 (List.mem_of_getElem? (i := 170) rfl)) rfl
theorem ml_X8_141 : Cond.methodLink RX8 141 yX4_replace ∈ tA := tg (lt_2 (List.mem_of_getElem? (i := 171) rfl)) rfl
theorem im_X4_replace : Cond.instanceMethod yX4_replace ∈ tA := tg (lt_2 (List.mem_of_getElem? (i := 172) rfl)) rfl
theorem se_X4_replace : Cond.selects RX4 yX4_replace yX4_replace ∈ tA := tg (lt_2 (List.mem_of_getElem? (i := 173) rfl)) rfl
theorem co_X4_replace : Cond.code yX4_replace cX4_replace 5 (some .int) ∈ tA := tg (lt_2 (List.mem_of_getElem? (i := 174) rfl)) rfl
theorem ml_L_52 : Cond.methodLink RL 52 yX8_tear ∈ tA := tg (lt_2 (List.mem_of_getElem? (i := 175) rfl)) rfl
theorem im_X8_tear : Cond.instanceMethod yX8_tear ∈ tA := tg (lt_2 (List.mem_of_getElem? (i := 176) rfl)) rfl
theorem se_X8_tear : Cond.selects RX8 yX8_tear yX8_tear ∈ tA := tg (lt_2 (List.mem_of_getElem? (i := 177) rfl)) rfl
theorem co_X8_tear : Cond.code yX8_tear cX8_tear 2 (some .int) ∈ tA := tg (lt_2 (List.mem_of_getElem? (i := 178) rfl)) rfl
theorem ml_L_56 : Cond.methodLink RL 56 yX8_copy ∈ tA := tg (lt_2 (List.mem_of_getElem? (i := 179) rfl)) rfl
theorem im_X8_copy : Cond.instanceMethod yX8_copy ∈ tA := tg (lt_2 (List.mem_of_getElem? (i := 180) rfl)) rfl
theorem se_X8_copy : Cond.selects RX8 yX8_copy yX8_copy ∈ tA := tg (lt_2 (List.mem_of_getElem? (i := 181) rfl)) rfl
theorem co_X8_copy : Cond.code yX8_copy cX8_copy 6 (some .int) ∈ tA := tg (lt_2 (List.mem_of_getElem? (i := 182) rfl)) rfl
theorem ml_X8_145 : Cond.methodLink RX8 145 yX4_holds ∈ tA := tg (lt_2 (List.mem_of_getElem? (i := 183) rfl)) rfl
theorem im_X4_holds : Cond.instanceMethod yX4_holds ∈ tA := tg (lt_2 (List.mem_of_getElem? (i := 184) rfl)) rfl
theorem se_X4_holds : Cond.selects RX4 yX4_holds yX4_holds ∈ tA := tg (lt_2 (List.mem_of_getElem? (i := 185) rfl)) rfl
theorem co_X4_holds : Cond.code yX4_holds cX4_holds 4 (some .boolean) ∈ tA := tg (lt_2 (List.mem_of_getElem? (i := 186) rfl)) rfl
theorem ml_X8_153 : Cond.methodLink RX8 153 arraycopyName ∈ tA := tg (lt_2 (List.mem_of_getElem? (i := 187) rfl)) rfl
theorem st_acopy : Cond.static arraycopyName ∈ tA := tg (lt_2 (List.mem_of_getElem? (i := 188) rfl)) rfl
theorem na_acopy : Cond.native arraycopyName ∈ tA := tg (lt_2 (List.mem_of_getElem? (i := 189) rfl)) rfl
theorem ml_L_61 : Cond.methodLink RL 61 yX8_prices ∈ tA := tg (lt_2 (List.mem_of_getElem? (i := 190) rfl)) rfl
theorem im_X8_prices : Cond.instanceMethod yX8_prices ∈ tA := tg (lt_2 (List.mem_of_getElem? (i := 191) rfl)) rfl
theorem se_X8_prices : Cond.selects RX8 yX8_prices yX8_prices ∈ tA := tg (lt_2 (List.mem_of_getElem? (i := 192) rfl)) rfl
theorem co_X8_prices : Cond.code yX8_prices cX8_prices 3 (some .int) ∈ tA := tg (lt_2 (List.mem_of_getElem? (i := 193) rfl)) rfl
theorem ml_L_65 : Cond.methodLink RL 65 yX8_price ∈ tA := tg (lt_2 (List.mem_of_getElem? (i := 194) rfl)) rfl
theorem im_X8_price : Cond.instanceMethod yX8_price ∈ tA := tg (lt_2 (List.mem_of_getElem? (i := 195) rfl)) rfl
theorem se_X8_price : Cond.selects RX8 yX8_price yX8_price ∈ tA := tg (lt_2 (List.mem_of_getElem? (i := 196) rfl)) rfl
theorem co_X8_price : Cond.code yX8_price cX8_price 2 (some .int) ∈ tA := tg (lt_2 (List.mem_of_getElem? (i := 197) rfl)) rfl
theorem ml_X8_162 : Cond.methodLink RX8 162 yX4_priceOf ∈ tA := tg (lt_2 (List.mem_of_getElem? (i := 198) rfl)) rfl
theorem im_X4_priceOf : Cond.instanceMethod yX4_priceOf ∈ tA := tg (lt_2 (List.mem_of_getElem? (i := 199) rfl)) rfl
theorem se_X4_priceOf : Cond.selects RX4 yX4_priceOf yX4_priceOf ∈ tA := tg (lt_2 (List.mem_of_getElem? (i := 200) rfl)) rfl
theorem co_X4_priceOf : Cond.code yX4_priceOf cX4_priceOf 2 (some .int) ∈ tA := tg (lt_2 (List.mem_of_getElem? (i := 201) rfl)) rfl
theorem ml_X4_33 : Cond.methodLink RX4 33 yX4_isMissing ∈ tA := tg (lt_2 (List.mem_of_getElem? (i := 202) rfl)) rfl
theorem ml_X4_37 : Cond.methodLink RX4 37 Lib.Math.min.name ∈ tA := tg (lt_2 (List.mem_of_getElem? (i := 203) rfl)) rfl
theorem st_min : Cond.static Lib.Math.min.name ∈ tA := tg (lt_2 (List.mem_of_getElem? (i := 204) rfl)) rfl
theorem co_min : Cond.code Lib.Math.min.name Lib.Math.min.code 2 (some .int) ∈ tA := tg (lt_2 (List.mem_of_getElem? (i := 205) rfl)) rfl
theorem ml_X4_43 : Cond.methodLink RX4 43 Lib.Math.max.name ∈ tA := tg (lt_2 (List.mem_of_getElem? (i := 206) rfl)) rfl
theorem st_max : Cond.static Lib.Math.max.name ∈ tA := tg (lt_2 (List.mem_of_getElem? (i := 207) rfl)) rfl
theorem co_max : Cond.code Lib.Math.max.name Lib.Math.max.code 2 (some .int) ∈ tA := tg (lt_2 (List.mem_of_getElem? (i := 208) rfl)) rfl
theorem ml_L_69 : Cond.methodLink RL 69 yX8_meet ∈ tA := tg (lt_2 (List.mem_of_getElem? (i := 209) rfl)) rfl
theorem im_X8_meet : Cond.instanceMethod yX8_meet ∈ tA := tg (lt_2 (List.mem_of_getElem? (i := 210) rfl)) rfl
theorem se_X8_meet : Cond.selects RX8 yX8_meet yX8_meet ∈ tA := tg (lt_2 (List.mem_of_getElem? (i := 211) rfl)) rfl
theorem co_X8_meet : Cond.code yX8_meet cX8_meet 2 (some .int) ∈ tA := tg (lt_2 (List.mem_of_getElem? (i := 212) rfl)) rfl
theorem ml_X8_165 : Cond.methodLink RX8 165 yX6_begin ∈ tA := tg (lt_2 (List.mem_of_getElem? (i := 213) rfl)) rfl
theorem im_X6_begin : Cond.instanceMethod yX6_begin ∈ tA := tg (lt_2 (List.mem_of_getElem? (i := 214) rfl)) rfl
theorem se_X6_begin : Cond.selects RX6 yX6_begin yX6_begin ∈ tA := tg (lt_2 (List.mem_of_getElem? (i := 215) rfl)) rfl
theorem co_X6_begin : Cond.code yX6_begin cX6_begin 2 none ∈ tA := tg (lt_2 (List.mem_of_getElem? (i := 216) rfl)) rfl
theorem ml_X6_44 : Cond.methodLink RX6 44 yJ7_fill_53178 ∈ tA := tg (lt_2 (List.mem_of_getElem? (i := 217) rfl)) rfl
theorem ml_X8_169 : Cond.methodLink RX8 169 yX3_clearScores ∈ tA := tg (lt_2 (List.mem_of_getElem? (i := 218) rfl)) rfl
theorem im_X3_clearScores : Cond.instanceMethod yX3_clearScores ∈ tA := tg (lt_2 (List.mem_of_getElem? (i := 219) rfl)) rfl
theorem se_X3_clearScores : Cond.selects RX3 yX3_clearScores yX3_clearScores ∈ tA := tg (lt_2 (List.mem_of_getElem? (i := 220) rfl)) rfl
theorem co_X3_clearScores : Cond.code yX3_clearScores cX3_clearScores 1 none ∈ tA := tg (lt_2 (List.mem_of_getElem? (i := 221) rfl)) rfl
theorem ml_X3_57 : Cond.methodLink RX3 57 yJ7_fill_53178 ∈ tA := tg (lt_2 (List.mem_of_getElem? (i := 222) rfl)) rfl
theorem ml_X8_172 : Cond.methodLink RX8 172 yX5_clear ∈ tA := tg (lt_2 (List.mem_of_getElem? (i := 223) rfl)) rfl
theorem im_X5_clear : Cond.instanceMethod yX5_clear ∈ tA := tg (lt_2 (List.mem_of_getElem? (i := 224) rfl)) rfl
theorem se_X5_clear : Cond.selects RX5 yX5_clear yX5_clear ∈ tA := tg (lt_2 (List.mem_of_getElem? (i := 225) rfl)) rfl
theorem co_X5_clear : Cond.code yX5_clear cX5_clear 1 none ∈ tA := tg (lt_2 (List.mem_of_getElem? (i := 226) rfl)) rfl
theorem ml_L_73 : Cond.methodLink RL 73 yX8_absent ∈ tA := tg (lt_2 (List.mem_of_getElem? (i := 227) rfl)) rfl
theorem im_X8_absent : Cond.instanceMethod yX8_absent ∈ tA := tg (lt_2 (List.mem_of_getElem? (i := 228) rfl)) rfl
theorem se_X8_absent : Cond.selects RX8 yX8_absent yX8_absent ∈ tA := tg (lt_2 (List.mem_of_getElem? (i := 229) rfl)) rfl
theorem co_X8_absent : Cond.code yX8_absent cX8_absent 5 (some .int) ∈ tA := tg (lt_2 (List.mem_of_getElem? (i := 230) rfl)) rfl
theorem ml_L_78 : Cond.methodLink RL 78 yX8_barred ∈ tA := tg (lt_2 (List.mem_of_getElem? (i := 231) rfl)) rfl
theorem im_X8_barred : Cond.instanceMethod yX8_barred ∈ tA := tg (lt_2 (List.mem_of_getElem? (i := 232) rfl)) rfl
theorem se_X8_barred : Cond.selects RX8 yX8_barred yX8_barred ∈ tA := tg (lt_2 (List.mem_of_getElem? (i := 233) rfl)) rfl
theorem co_X8_barred : Cond.code yX8_barred cX8_barred 3 (some .int) ∈ tA := tg (lt_2 (List.mem_of_getElem? (i := 234) rfl)) rfl
theorem ml_X8_178 : Cond.methodLink RX8 178 yX8_barsBetween ∈ tA := tg (lt_2 (List.mem_of_getElem? (i := 235) rfl)) rfl
theorem im_X8_barsBetween : Cond.instanceMethod yX8_barsBetween ∈ tA := tg (lt_2 (List.mem_of_getElem? (i := 237) rfl)) rfl
theorem co_X8_barsBetween : Cond.code yX8_barsBetween cX8_barsBetween 4 (some .int) ∈ tA := tg (lt_2 (List.mem_of_getElem? (i := 238) rfl)) rfl
theorem ml_X8_345 : Cond.methodLink RX8 345 yX6_haveMet ∈ tA := tg (lt_2 (List.mem_of_getElem? (i := 239) rfl)) rfl
theorem im_X6_haveMet : Cond.instanceMethod yX6_haveMet ∈ tA := tg (lt_3 (List.mem_of_getElem? (i := 0) rfl)) rfl
theorem se_X6_haveMet : Cond.selects RX6 yX6_haveMet yX6_haveMet ∈ tA := tg (lt_3 (List.mem_of_getElem? (i := 1) rfl)) rfl
theorem co_X6_haveMet : Cond.code yX6_haveMet cX6_haveMet 3 (some .boolean) ∈ tA := tg (lt_3 (List.mem_of_getElem? (i := 2) rfl)) rfl
theorem ml_L_82 : Cond.methodLink RL 82 yX8_draw ∈ tA := tg (lt_3 (List.mem_of_getElem? (i := 3) rfl)) rfl
theorem im_X8_draw : Cond.instanceMethod yX8_draw ∈ tA := tg (lt_3 (List.mem_of_getElem? (i := 4) rfl)) rfl
theorem se_X8_draw : Cond.selects RX8 yX8_draw yX8_draw ∈ tA := tg (lt_3 (List.mem_of_getElem? (i := 5) rfl)) rfl
theorem co_X8_draw : Cond.code yX8_draw cX8_draw 1 (some .int) ∈ tA := tg (lt_3 (List.mem_of_getElem? (i := 6) rfl)) rfl
theorem ml_X8_190 : Cond.methodLink RX8 190 yX8_gatherThosePresent ∈ tA := tg (lt_3 (List.mem_of_getElem? (i := 7) rfl)) rfl
theorem im_X8_gatherThosePresent : Cond.instanceMethod yX8_gatherThosePresent ∈ tA := tg (lt_3 (List.mem_of_getElem? (i := 9) rfl)) rfl
theorem co_X8_gatherThosePresent : Cond.code yX8_gatherThosePresent cX8_gatherThosePresent 3 none ∈ tA := tg (lt_3 (List.mem_of_getElem? (i := 10) rfl)) rfl
theorem ml_X8_193 : Cond.methodLink RX8 193 yX8_setCharges ∈ tA := tg (lt_3 (List.mem_of_getElem? (i := 11) rfl)) rfl
theorem im_X8_setCharges : Cond.instanceMethod yX8_setCharges ∈ tA := tg (lt_3 (List.mem_of_getElem? (i := 13) rfl)) rfl
theorem co_X8_setCharges : Cond.code yX8_setCharges cX8_setCharges 3 none ∈ tA := tg (lt_3 (List.mem_of_getElem? (i := 14) rfl)) rfl
theorem ml_X8_357 : Cond.methodLink RX8 357 yX8_chargeFor ∈ tA := tg (lt_3 (List.mem_of_getElem? (i := 15) rfl)) rfl
theorem im_X8_chargeFor : Cond.instanceMethod yX8_chargeFor ∈ tA := tg (lt_3 (List.mem_of_getElem? (i := 17) rfl)) rfl
theorem co_X8_chargeFor : Cond.code yX8_chargeFor cX8_chargeFor 4 (some .int) ∈ tA := tg (lt_3 (List.mem_of_getElem? (i := 18) rfl)) rfl
theorem ml_X8_360 : Cond.methodLink RX8 360 Lib.Math.abs.name ∈ tA := tg (lt_3 (List.mem_of_getElem? (i := 19) rfl)) rfl
theorem st_abs : Cond.static Lib.Math.abs.name ∈ tA := tg (lt_3 (List.mem_of_getElem? (i := 20) rfl)) rfl
theorem co_abs : Cond.code Lib.Math.abs.name Lib.Math.abs.code 1 (some .int) ∈ tA := tg (lt_3 (List.mem_of_getElem? (i := 21) rfl)) rfl
theorem ml_X8_196 : Cond.methodLink RX8 196 yX1_solve ∈ tA := tg (lt_3 (List.mem_of_getElem? (i := 22) rfl)) rfl
theorem im_X1_solve : Cond.instanceMethod yX1_solve ∈ tA := tg (lt_3 (List.mem_of_getElem? (i := 23) rfl)) rfl
theorem se_X1_solve : Cond.selects RX1 yX1_solve yX1_solve ∈ tA := tg (lt_3 (List.mem_of_getElem? (i := 24) rfl)) rfl
theorem co_X1_solve : Cond.code yX1_solve cX1_solve 6 (some .int) ∈ tA := tg (lt_3 (List.mem_of_getElem? (i := 25) rfl)) rfl
theorem ml_X1_30 : Cond.methodLink RX1 30 Lib.Math.min.name ∈ tA := tg (lt_3 (List.mem_of_getElem? (i := 26) rfl)) rfl
theorem ml_X1_36 : Cond.methodLink RX1 36 yJ7_fill_fda19 ∈ tA := tg (lt_3 (List.mem_of_getElem? (i := 27) rfl)) rfl
theorem st_J7_fill_fda19 : Cond.static yJ7_fill_fda19 ∈ tA := tg (lt_3 (List.mem_of_getElem? (i := 28) rfl)) rfl
theorem co_J7_fill_fda19 : Cond.code yJ7_fill_fda19 cJ7_fill_fda19 5 none ∈ tA := tg (lt_3 (List.mem_of_getElem? (i := 29) rfl)) rfl
theorem ml_J7_13 : Cond.methodLink RJ7 13 yJ7_rangeCheck_23922 ∈ tA := tg (lt_3 (List.mem_of_getElem? (i := 30) rfl)) rfl
theorem st_J7_rangeCheck_23922 : Cond.static yJ7_rangeCheck_23922 ∈ tA := tg (lt_3 (List.mem_of_getElem? (i := 31) rfl)) rfl
theorem co_J7_rangeCheck_23922 : Cond.code yJ7_rangeCheck_23922 cJ7_rangeCheck_23922 3 none ∈ tA := tg (lt_3 (List.mem_of_getElem? (i := 32) rfl)) rfl
theorem ml_X1_42 : Cond.methodLink RX1 42 yJ7_fill_53178 ∈ tA := tg (lt_3 (List.mem_of_getElem? (i := 33) rfl)) rfl
theorem ml_X1_45 : Cond.methodLink RX1 45 yX1_leastCost ∈ tA := tg (lt_3 (List.mem_of_getElem? (i := 34) rfl)) rfl
theorem st_X1_leastCost : Cond.static yX1_leastCost ∈ tA := tg (lt_3 (List.mem_of_getElem? (i := 35) rfl)) rfl
theorem co_X1_leastCost : Cond.code yX1_leastCost cX1_leastCost 9 (some .int) ∈ tA := tg (lt_3 (List.mem_of_getElem? (i := 36) rfl)) rfl
theorem ml_X1_49 : Cond.methodLink RX1 49 yX1_bitOf ∈ tA := tg (lt_3 (List.mem_of_getElem? (i := 37) rfl)) rfl
theorem im_X1_bitOf : Cond.instanceMethod yX1_bitOf ∈ tA := tg (lt_3 (List.mem_of_getElem? (i := 39) rfl)) rfl
theorem co_X1_bitOf : Cond.code yX1_bitOf cX1_bitOf 2 (some .int) ∈ tA := tg (lt_3 (List.mem_of_getElem? (i := 40) rfl)) rfl
theorem k_X1_57 : (Jvm.Cond.constant RX1 (57 : Nat) (1000000 : Int32)) ∈ tA := tg (lt_3 (List.mem_of_getElem? (i := 41) rfl)) rfl
theorem ml_X1_53 : Cond.methodLink RX1 53 yX1_uppermostMate ∈ tA := tg (lt_3 (List.mem_of_getElem? (i := 42) rfl)) rfl
theorem im_X1_uppermostMate : Cond.instanceMethod yX1_uppermostMate ∈ tA := tg (lt_3 (List.mem_of_getElem? (i := 44) rfl)) rfl
theorem co_X1_uppermostMate : Cond.code yX1_uppermostMate cX1_uppermostMate 6 (some .int) ∈ tA := tg (lt_3 (List.mem_of_getElem? (i := 45) rfl)) rfl
theorem ml_X8_203 : Cond.methodLink RX8 203 yX8_enterDay ∈ tA := tg (lt_3 (List.mem_of_getElem? (i := 46) rfl)) rfl
theorem im_X8_enterDay : Cond.instanceMethod yX8_enterDay ∈ tA := tg (lt_3 (List.mem_of_getElem? (i := 48) rfl)) rfl
theorem co_X8_enterDay : Cond.code yX8_enterDay cX8_enterDay 4 (some .int) ∈ tA := tg (lt_3 (List.mem_of_getElem? (i := 49) rfl)) rfl
theorem ml_X8_371 : Cond.methodLink RX8 371 yX6_addBout ∈ tA := tg (lt_3 (List.mem_of_getElem? (i := 50) rfl)) rfl
theorem im_X6_addBout : Cond.instanceMethod yX6_addBout ∈ tA := tg (lt_3 (List.mem_of_getElem? (i := 51) rfl)) rfl
theorem se_X6_addBout : Cond.selects RX6 yX6_addBout yX6_addBout ∈ tA := tg (lt_3 (List.mem_of_getElem? (i := 52) rfl)) rfl
theorem co_X6_addBout : Cond.code yX6_addBout cX6_addBout 3 none ∈ tA := tg (lt_3 (List.mem_of_getElem? (i := 53) rfl)) rfl
theorem ml_L_87 : Cond.methodLink RL 87 yX8_cost ∈ tA := tg (lt_3 (List.mem_of_getElem? (i := 54) rfl)) rfl
theorem im_X8_cost : Cond.instanceMethod yX8_cost ∈ tA := tg (lt_3 (List.mem_of_getElem? (i := 55) rfl)) rfl
theorem se_X8_cost : Cond.selects RX8 yX8_cost yX8_cost ∈ tA := tg (lt_3 (List.mem_of_getElem? (i := 56) rfl)) rfl
theorem co_X8_cost : Cond.code yX8_cost cX8_cost 1 (some .int) ∈ tA := tg (lt_3 (List.mem_of_getElem? (i := 57) rfl)) rfl
theorem ml_L_91 : Cond.methodLink RL 91 yX8_result ∈ tA := tg (lt_3 (List.mem_of_getElem? (i := 58) rfl)) rfl
theorem im_X8_result : Cond.instanceMethod yX8_result ∈ tA := tg (lt_3 (List.mem_of_getElem? (i := 59) rfl)) rfl
theorem se_X8_result : Cond.selects RX8 yX8_result yX8_result ∈ tA := tg (lt_3 (List.mem_of_getElem? (i := 60) rfl)) rfl
theorem co_X8_result : Cond.code yX8_result cX8_result 4 (some .int) ∈ tA := tg (lt_3 (List.mem_of_getElem? (i := 61) rfl)) rfl
theorem ml_X8_206 : Cond.methodLink RX8 206 yX6_knows ∈ tA := tg (lt_3 (List.mem_of_getElem? (i := 62) rfl)) rfl
theorem im_X6_knows : Cond.instanceMethod yX6_knows ∈ tA := tg (lt_3 (List.mem_of_getElem? (i := 63) rfl)) rfl
theorem se_X6_knows : Cond.selects RX6 yX6_knows yX6_knows ∈ tA := tg (lt_3 (List.mem_of_getElem? (i := 64) rfl)) rfl
theorem co_X6_knows : Cond.code yX6_knows cX6_knows 2 (some .boolean) ∈ tA := tg (lt_3 (List.mem_of_getElem? (i := 65) rfl)) rfl
theorem ml_X8_219 : Cond.methodLink RX8 219 yX6_loserOf ∈ tA := tg (lt_3 (List.mem_of_getElem? (i := 66) rfl)) rfl
theorem im_X6_loserOf : Cond.instanceMethod yX6_loserOf ∈ tA := tg (lt_3 (List.mem_of_getElem? (i := 67) rfl)) rfl
theorem se_X6_loserOf : Cond.selects RX6 yX6_loserOf yX6_loserOf ∈ tA := tg (lt_3 (List.mem_of_getElem? (i := 68) rfl)) rfl
theorem co_X6_loserOf : Cond.code yX6_loserOf cX6_loserOf 2 (some .int) ∈ tA := tg (lt_3 (List.mem_of_getElem? (i := 69) rfl)) rfl
theorem ml_L_95 : Cond.methodLink RL 95 yX8_bout ∈ tA := tg (lt_3 (List.mem_of_getElem? (i := 70) rfl)) rfl
theorem im_X8_bout : Cond.instanceMethod yX8_bout ∈ tA := tg (lt_3 (List.mem_of_getElem? (i := 71) rfl)) rfl
theorem se_X8_bout : Cond.selects RX8 yX8_bout yX8_bout ∈ tA := tg (lt_3 (List.mem_of_getElem? (i := 72) rfl)) rfl
theorem co_X8_bout : Cond.code yX8_bout cX8_bout 3 (some .int) ∈ tA := tg (lt_3 (List.mem_of_getElem? (i := 73) rfl)) rfl
theorem ml_X8_222 : Cond.methodLink RX8 222 yX6_fact ∈ tA := tg (lt_3 (List.mem_of_getElem? (i := 74) rfl)) rfl
theorem im_X6_fact : Cond.instanceMethod yX6_fact ∈ tA := tg (lt_3 (List.mem_of_getElem? (i := 75) rfl)) rfl
theorem se_X6_fact : Cond.selects RX6 yX6_fact yX6_fact ∈ tA := tg (lt_3 (List.mem_of_getElem? (i := 76) rfl)) rfl
theorem co_X6_fact : Cond.code yX6_fact cX6_fact 3 (some .int) ∈ tA := tg (lt_3 (List.mem_of_getElem? (i := 77) rfl)) rfl
theorem ml_L_99 : Cond.methodLink RL 99 yX8_sat ∈ tA := tg (lt_3 (List.mem_of_getElem? (i := 78) rfl)) rfl
theorem im_X8_sat : Cond.instanceMethod yX8_sat ∈ tA := tg (lt_3 (List.mem_of_getElem? (i := 79) rfl)) rfl
theorem se_X8_sat : Cond.selects RX8 yX8_sat yX8_sat ∈ tA := tg (lt_3 (List.mem_of_getElem? (i := 80) rfl)) rfl
theorem co_X8_sat : Cond.code yX8_sat cX8_sat 1 (some .int) ∈ tA := tg (lt_3 (List.mem_of_getElem? (i := 81) rfl)) rfl
theorem ml_L_103 : Cond.methodLink RL 103 yX8_line ∈ tA := tg (lt_3 (List.mem_of_getElem? (i := 82) rfl)) rfl
theorem im_X8_line : Cond.instanceMethod yX8_line ∈ tA := tg (lt_3 (List.mem_of_getElem? (i := 83) rfl)) rfl
theorem se_X8_line : Cond.selects RX8 yX8_line yX8_line ∈ tA := tg (lt_3 (List.mem_of_getElem? (i := 84) rfl)) rfl
theorem co_X8_line : Cond.code yX8_line cX8_line 4 (some .int) ∈ tA := tg (lt_3 (List.mem_of_getElem? (i := 85) rfl)) rfl
theorem ml_X8_229 : Cond.methodLink RX8 229 yX0_add ∈ tA := tg (lt_3 (List.mem_of_getElem? (i := 86) rfl)) rfl
theorem im_X0_add : Cond.instanceMethod yX0_add ∈ tA := tg (lt_3 (List.mem_of_getElem? (i := 87) rfl)) rfl
theorem se_X0_add : Cond.selects RX0 yX0_add yX0_add ∈ tA := tg (lt_3 (List.mem_of_getElem? (i := 88) rfl)) rfl
theorem co_X0_add : Cond.code yX0_add cX0_add 4 (some .int) ∈ tA := tg (lt_3 (List.mem_of_getElem? (i := 89) rfl)) rfl
theorem ml_L_107 : Cond.methodLink RL 107 yX8_anew ∈ tA := tg (lt_3 (List.mem_of_getElem? (i := 90) rfl)) rfl
theorem im_X8_anew : Cond.instanceMethod yX8_anew ∈ tA := tg (lt_3 (List.mem_of_getElem? (i := 91) rfl)) rfl
theorem se_X8_anew : Cond.selects RX8 yX8_anew yX8_anew ∈ tA := tg (lt_3 (List.mem_of_getElem? (i := 92) rfl)) rfl
theorem co_X8_anew : Cond.code yX8_anew cX8_anew 3 (some .int) ∈ tA := tg (lt_3 (List.mem_of_getElem? (i := 93) rfl)) rfl
theorem ml_X8_230 : Cond.methodLink RX8 230 yX6_isComplete ∈ tA := tg (lt_3 (List.mem_of_getElem? (i := 94) rfl)) rfl
theorem im_X6_isComplete : Cond.instanceMethod yX6_isComplete ∈ tA := tg (lt_3 (List.mem_of_getElem? (i := 95) rfl)) rfl
theorem se_X6_isComplete : Cond.selects RX6 yX6_isComplete yX6_isComplete ∈ tA := tg (lt_3 (List.mem_of_getElem? (i := 96) rfl)) rfl
theorem co_X6_isComplete : Cond.code yX6_isComplete cX6_isComplete 1 (some .boolean) ∈ tA := tg (lt_3 (List.mem_of_getElem? (i := 97) rfl)) rfl
theorem ml_X8_234 : Cond.methodLink RX8 234 yX5_goesOn ∈ tA := tg (lt_3 (List.mem_of_getElem? (i := 98) rfl)) rfl
theorem im_X5_goesOn : Cond.instanceMethod yX5_goesOn ∈ tA := tg (lt_3 (List.mem_of_getElem? (i := 99) rfl)) rfl
theorem se_X5_goesOn : Cond.selects RX5 yX5_goesOn yX5_goesOn ∈ tA := tg (lt_3 (List.mem_of_getElem? (i := 100) rfl)) rfl
theorem co_X5_goesOn : Cond.code yX5_goesOn cX5_goesOn 1 (some .boolean) ∈ tA := tg (lt_3 (List.mem_of_getElem? (i := 101) rfl)) rfl
theorem ml_X8_237 : Cond.methodLink RX8 237 yX7_recall ∈ tA := tg (lt_3 (List.mem_of_getElem? (i := 102) rfl)) rfl
theorem im_X7_recall : Cond.instanceMethod yX7_recall ∈ tA := tg (lt_3 (List.mem_of_getElem? (i := 103) rfl)) rfl
theorem se_X7_recall : Cond.selects RX7 yX7_recall yX7_recall ∈ tA := tg (lt_3 (List.mem_of_getElem? (i := 104) rfl)) rfl
theorem co_X7_recall : Cond.code yX7_recall cX7_recall 4 none ∈ tA := tg (lt_3 (List.mem_of_getElem? (i := 105) rfl)) rfl
theorem ml_X8_245 : Cond.methodLink RX8 245 yX8_moveByCustom ∈ tA := tg (lt_3 (List.mem_of_getElem? (i := 106) rfl)) rfl
theorem im_X8_moveByCustom : Cond.instanceMethod yX8_moveByCustom ∈ tA := tg (lt_3 (List.mem_of_getElem? (i := 108) rfl)) rfl
theorem co_X8_moveByCustom : Cond.code yX8_moveByCustom cX8_moveByCustom 5 none ∈ tA := tg (lt_3 (List.mem_of_getElem? (i := 109) rfl)) rfl
theorem ml_X8_279 : Cond.methodLink RX8 279 yX0_lineFor ∈ tA := tg (lt_3 (List.mem_of_getElem? (i := 110) rfl)) rfl
theorem im_X0_lineFor : Cond.instanceMethod yX0_lineFor ∈ tA := tg (lt_3 (List.mem_of_getElem? (i := 111) rfl)) rfl
theorem se_X0_lineFor : Cond.selects RX0 yX0_lineFor yX0_lineFor ∈ tA := tg (lt_3 (List.mem_of_getElem? (i := 112) rfl)) rfl
theorem co_X0_lineFor : Cond.code yX0_lineFor cX0_lineFor 4 (some .int) ∈ tA := tg (lt_3 (List.mem_of_getElem? (i := 113) rfl)) rfl
theorem ml_X8_285 : Cond.methodLink RX8 285 yX0_steps ∈ tA := tg (lt_3 (List.mem_of_getElem? (i := 114) rfl)) rfl
theorem im_X0_steps : Cond.instanceMethod yX0_steps ∈ tA := tg (lt_3 (List.mem_of_getElem? (i := 115) rfl)) rfl
theorem se_X0_steps : Cond.selects RX0 yX0_steps yX0_steps ∈ tA := tg (lt_3 (List.mem_of_getElem? (i := 116) rfl)) rfl
theorem co_X0_steps : Cond.code yX0_steps cX0_steps 4 (some .int) ∈ tA := tg (lt_3 (List.mem_of_getElem? (i := 117) rfl)) rfl
theorem ml_X0_25 : Cond.methodLink RX0 25 Lib.Math.max.name ∈ tA := tg (lt_3 (List.mem_of_getElem? (i := 118) rfl)) rfl
theorem ml_X8_288 : Cond.methodLink RX8 288 yX7_aimAt ∈ tA := tg (lt_3 (List.mem_of_getElem? (i := 119) rfl)) rfl
theorem im_X7_aimAt : Cond.instanceMethod yX7_aimAt ∈ tA := tg (lt_3 (List.mem_of_getElem? (i := 120) rfl)) rfl
theorem se_X7_aimAt : Cond.selects RX7 yX7_aimAt yX7_aimAt ∈ tA := tg (lt_3 (List.mem_of_getElem? (i := 121) rfl)) rfl
theorem co_X7_aimAt : Cond.code yX7_aimAt cX7_aimAt 4 none ∈ tA := tg (lt_3 (List.mem_of_getElem? (i := 122) rfl)) rfl
theorem ml_X8_248 : Cond.methodLink RX8 248 yX7_arrange ∈ tA := tg (lt_3 (List.mem_of_getElem? (i := 123) rfl)) rfl
theorem im_X7_arrange : Cond.instanceMethod yX7_arrange ∈ tA := tg (lt_3 (List.mem_of_getElem? (i := 124) rfl)) rfl
theorem se_X7_arrange : Cond.selects RX7 yX7_arrange yX7_arrange ∈ tA := tg (lt_3 (List.mem_of_getElem? (i := 125) rfl)) rfl
theorem co_X7_arrange : Cond.code yX7_arrange cX7_arrange 4 none ∈ tA := tg (lt_3 (List.mem_of_getElem? (i := 126) rfl)) rfl
theorem ml_X8_257 : Cond.methodLink RX8 257 yX3_place ∈ tA := tg (lt_3 (List.mem_of_getElem? (i := 127) rfl)) rfl
theorem ml_X8_263 : Cond.methodLink RX8 263 yX7_differing ∈ tA := tg (lt_3 (List.mem_of_getElem? (i := 128) rfl)) rfl
theorem im_X7_differing : Cond.instanceMethod yX7_differing ∈ tA := tg (lt_3 (List.mem_of_getElem? (i := 129) rfl)) rfl
theorem se_X7_differing : Cond.selects RX7 yX7_differing yX7_differing ∈ tA := tg (lt_3 (List.mem_of_getElem? (i := 130) rfl)) rfl
theorem co_X7_differing : Cond.code yX7_differing cX7_differing 5 (some .int) ∈ tA := tg (lt_3 (List.mem_of_getElem? (i := 131) rfl)) rfl
theorem ml_L_111 : Cond.methodLink RL 111 yX8_why ∈ tA := tg (lt_3 (List.mem_of_getElem? (i := 132) rfl)) rfl
theorem im_X8_why : Cond.instanceMethod yX8_why ∈ tA := tg (lt_3 (List.mem_of_getElem? (i := 133) rfl)) rfl
theorem se_X8_why : Cond.selects RX8 yX8_why yX8_why ∈ tA := tg (lt_3 (List.mem_of_getElem? (i := 134) rfl)) rfl
theorem co_X8_why : Cond.code yX8_why cX8_why 3 (some .int) ∈ tA := tg (lt_3 (List.mem_of_getElem? (i := 135) rfl)) rfl
theorem ml_L_115 : Cond.methodLink RL 115 yX8_passed ∈ tA := tg (lt_3 (List.mem_of_getElem? (i := 136) rfl)) rfl
theorem im_X8_passed : Cond.instanceMethod yX8_passed ∈ tA := tg (lt_3 (List.mem_of_getElem? (i := 137) rfl)) rfl
theorem se_X8_passed : Cond.selects RX8 yX8_passed yX8_passed ∈ tA := tg (lt_3 (List.mem_of_getElem? (i := 138) rfl)) rfl
theorem co_X8_passed : Cond.code yX8_passed cX8_passed 3 (some .int) ∈ tA := tg (lt_3 (List.mem_of_getElem? (i := 139) rfl)) rfl
theorem ml_X8_270 : Cond.methodLink RX8 270 yX7_overtook ∈ tA := tg (lt_3 (List.mem_of_getElem? (i := 140) rfl)) rfl
theorem im_X7_overtook : Cond.instanceMethod yX7_overtook ∈ tA := tg (lt_3 (List.mem_of_getElem? (i := 141) rfl)) rfl
theorem se_X7_overtook : Cond.selects RX7 yX7_overtook yX7_overtook ∈ tA := tg (lt_3 (List.mem_of_getElem? (i := 142) rfl)) rfl
theorem co_X7_overtook : Cond.code yX7_overtook cX7_overtook 3 (some .boolean) ∈ tA := tg (lt_3 (List.mem_of_getElem? (i := 143) rfl)) rfl
theorem ml_L_119 : Cond.methodLink RL 119 yX8_beside ∈ tA := tg (lt_3 (List.mem_of_getElem? (i := 144) rfl)) rfl
theorem im_X8_beside : Cond.instanceMethod yX8_beside ∈ tA := tg (lt_3 (List.mem_of_getElem? (i := 145) rfl)) rfl
theorem se_X8_beside : Cond.selects RX8 yX8_beside yX8_beside ∈ tA := tg (lt_3 (List.mem_of_getElem? (i := 146) rfl)) rfl
theorem co_X8_beside : Cond.code yX8_beside cX8_beside 5 (some .int) ∈ tA := tg (lt_3 (List.mem_of_getElem? (i := 147) rfl)) rfl
theorem ml_X8_273 : Cond.methodLink RX8 273 yX8_scoreWithout ∈ tA := tg (lt_3 (List.mem_of_getElem? (i := 148) rfl)) rfl
theorem im_X8_scoreWithout : Cond.instanceMethod yX8_scoreWithout ∈ tA := tg (lt_3 (List.mem_of_getElem? (i := 150) rfl)) rfl
theorem co_X8_scoreWithout : Cond.code yX8_scoreWithout cX8_scoreWithout 4 (some .int) ∈ tA := tg (lt_3 (List.mem_of_getElem? (i := 151) rfl)) rfl
theorem ml_L_123 : Cond.methodLink RL 123 yX8_rungBeside ∈ tA := tg (lt_3 (List.mem_of_getElem? (i := 152) rfl)) rfl
theorem im_X8_rungBeside : Cond.instanceMethod yX8_rungBeside ∈ tA := tg (lt_3 (List.mem_of_getElem? (i := 153) rfl)) rfl
theorem se_X8_rungBeside : Cond.selects RX8 yX8_rungBeside yX8_rungBeside ∈ tA := tg (lt_3 (List.mem_of_getElem? (i := 154) rfl)) rfl
theorem co_X8_rungBeside : Cond.code yX8_rungBeside cX8_rungBeside 3 (some .int) ∈ tA := tg (lt_3 (List.mem_of_getElem? (i := 155) rfl)) rfl
theorem ml_L_127 : Cond.methodLink RL 127 yX8_leaders ∈ tA := tg (lt_3 (List.mem_of_getElem? (i := 156) rfl)) rfl
theorem im_X8_leaders : Cond.instanceMethod yX8_leaders ∈ tA := tg (lt_3 (List.mem_of_getElem? (i := 157) rfl)) rfl
theorem se_X8_leaders : Cond.selects RX8 yX8_leaders yX8_leaders ∈ tA := tg (lt_3 (List.mem_of_getElem? (i := 158) rfl)) rfl
theorem co_X8_leaders : Cond.code yX8_leaders cX8_leaders 5 (some .int) ∈ tA := tg (lt_3 (List.mem_of_getElem? (i := 159) rfl)) rfl
theorem ml_X8_294 : Cond.methodLink RX8 294 yX3_mostWins ∈ tA := tg (lt_3 (List.mem_of_getElem? (i := 160) rfl)) rfl
theorem im_X3_mostWins : Cond.instanceMethod yX3_mostWins ∈ tA := tg (lt_3 (List.mem_of_getElem? (i := 161) rfl)) rfl
theorem se_X3_mostWins : Cond.selects RX3 yX3_mostWins yX3_mostWins ∈ tA := tg (lt_3 (List.mem_of_getElem? (i := 162) rfl)) rfl
theorem co_X3_mostWins : Cond.code yX3_mostWins cX3_mostWins 3 (some .int) ∈ tA := tg (lt_3 (List.mem_of_getElem? (i := 163) rfl)) rfl
theorem ml_X3_63 : Cond.methodLink RX3 63 Lib.Math.max.name ∈ tA := tg (lt_3 (List.mem_of_getElem? (i := 164) rfl)) rfl
theorem ml_L_131 : Cond.methodLink RL 131 yX8_playOff ∈ tA := tg (lt_3 (List.mem_of_getElem? (i := 165) rfl)) rfl
theorem im_X8_playOff : Cond.instanceMethod yX8_playOff ∈ tA := tg (lt_3 (List.mem_of_getElem? (i := 166) rfl)) rfl
theorem se_X8_playOff : Cond.selects RX8 yX8_playOff yX8_playOff ∈ tA := tg (lt_3 (List.mem_of_getElem? (i := 167) rfl)) rfl
theorem co_X8_playOff : Cond.code yX8_playOff cX8_playOff 4 (some .int) ∈ tA := tg (lt_3 (List.mem_of_getElem? (i := 168) rfl)) rfl
theorem ml_X8_300 : Cond.methodLink RX8 300 yX5_append ∈ tA := tg (lt_3 (List.mem_of_getElem? (i := 169) rfl)) rfl
theorem im_X5_append : Cond.instanceMethod yX5_append ∈ tA := tg (lt_3 (List.mem_of_getElem? (i := 170) rfl)) rfl
theorem se_X5_append : Cond.selects RX5 yX5_append yX5_append ∈ tA := tg (lt_3 (List.mem_of_getElem? (i := 171) rfl)) rfl
theorem co_X5_append : Cond.code yX5_append cX5_append 2 none ∈ tA := tg (lt_3 (List.mem_of_getElem? (i := 172) rfl)) rfl
theorem ml_X8_303 : Cond.methodLink RX8 303 yX8_crownIfAlone ∈ tA := tg (lt_3 (List.mem_of_getElem? (i := 173) rfl)) rfl
theorem im_X8_crownIfAlone : Cond.instanceMethod yX8_crownIfAlone ∈ tA := tg (lt_3 (List.mem_of_getElem? (i := 175) rfl)) rfl
theorem co_X8_crownIfAlone : Cond.code yX8_crownIfAlone cX8_crownIfAlone 1 none ∈ tA := tg (lt_3 (List.mem_of_getElem? (i := 176) rfl)) rfl
theorem ml_L_135 : Cond.methodLink RL 135 yX8_meets ∈ tA := tg (lt_3 (List.mem_of_getElem? (i := 177) rfl)) rfl
theorem im_X8_meets : Cond.instanceMethod yX8_meets ∈ tA := tg (lt_3 (List.mem_of_getElem? (i := 178) rfl)) rfl
theorem se_X8_meets : Cond.selects RX8 yX8_meets yX8_meets ∈ tA := tg (lt_3 (List.mem_of_getElem? (i := 179) rfl)) rfl
theorem co_X8_meets : Cond.code yX8_meets cX8_meets 2 (some .int) ∈ tA := tg (lt_3 (List.mem_of_getElem? (i := 180) rfl)) rfl
theorem ml_L_140 : Cond.methodLink RL 140 yX8_wins ∈ tA := tg (lt_3 (List.mem_of_getElem? (i := 181) rfl)) rfl
theorem im_X8_wins : Cond.instanceMethod yX8_wins ∈ tA := tg (lt_3 (List.mem_of_getElem? (i := 182) rfl)) rfl
theorem se_X8_wins : Cond.selects RX8 yX8_wins yX8_wins ∈ tA := tg (lt_3 (List.mem_of_getElem? (i := 183) rfl)) rfl
theorem co_X8_wins : Cond.code yX8_wins cX8_wins 2 (some .int) ∈ tA := tg (lt_3 (List.mem_of_getElem? (i := 184) rfl)) rfl
theorem ml_X8_312 : Cond.methodLink RX8 312 yX5_settle ∈ tA := tg (lt_3 (List.mem_of_getElem? (i := 185) rfl)) rfl
theorem im_X5_settle : Cond.instanceMethod yX5_settle ∈ tA := tg (lt_3 (List.mem_of_getElem? (i := 186) rfl)) rfl
theorem se_X5_settle : Cond.selects RX5 yX5_settle yX5_settle ∈ tA := tg (lt_3 (List.mem_of_getElem? (i := 187) rfl)) rfl
theorem co_X5_settle : Cond.code yX5_settle cX5_settle 4 none ∈ tA := tg (lt_3 (List.mem_of_getElem? (i := 188) rfl)) rfl
theorem ml_L_144 : Cond.methodLink RL 144 yX8_champion ∈ tA := tg (lt_3 (List.mem_of_getElem? (i := 189) rfl)) rfl
theorem im_X8_champion : Cond.instanceMethod yX8_champion ∈ tA := tg (lt_3 (List.mem_of_getElem? (i := 190) rfl)) rfl
theorem se_X8_champion : Cond.selects RX8 yX8_champion yX8_champion ∈ tA := tg (lt_3 (List.mem_of_getElem? (i := 191) rfl)) rfl
theorem co_X8_champion : Cond.code yX8_champion cX8_champion 1 (some .int) ∈ tA := tg (lt_3 (List.mem_of_getElem? (i := 192) rfl)) rfl
theorem ml_L_148 : Cond.methodLink RL 148 yX8_count ∈ tA := tg (lt_3 (List.mem_of_getElem? (i := 193) rfl)) rfl
theorem im_X8_count : Cond.instanceMethod yX8_count ∈ tA := tg (lt_3 (List.mem_of_getElem? (i := 194) rfl)) rfl
theorem se_X8_count : Cond.selects RX8 yX8_count yX8_count ∈ tA := tg (lt_3 (List.mem_of_getElem? (i := 195) rfl)) rfl
theorem co_X8_count : Cond.code yX8_count cX8_count 2 (some .int) ∈ tA := tg (lt_3 (List.mem_of_getElem? (i := 196) rfl)) rfl
theorem ml_X8_319 : Cond.methodLink RX8 319 yX8_tally ∈ tA := tg (lt_3 (List.mem_of_getElem? (i := 197) rfl)) rfl
theorem im_X8_tally : Cond.instanceMethod yX8_tally ∈ tA := tg (lt_3 (List.mem_of_getElem? (i := 199) rfl)) rfl
theorem co_X8_tally : Cond.code yX8_tally cX8_tally 2 (some .int) ∈ tA := tg (lt_3 (List.mem_of_getElem? (i := 200) rfl)) rfl
theorem ml_L_152 : Cond.methodLink RL 152 yX8_finding ∈ tA := tg (lt_3 (List.mem_of_getElem? (i := 201) rfl)) rfl
theorem im_X8_finding : Cond.instanceMethod yX8_finding ∈ tA := tg (lt_3 (List.mem_of_getElem? (i := 202) rfl)) rfl
theorem se_X8_finding : Cond.selects RX8 yX8_finding yX8_finding ∈ tA := tg (lt_3 (List.mem_of_getElem? (i := 203) rfl)) rfl
theorem co_X8_finding : Cond.code yX8_finding cX8_finding 1 (some .int) ∈ tA := tg (lt_3 (List.mem_of_getElem? (i := 204) rfl)) rfl
theorem ml_L_156 : Cond.methodLink RL 156 yX8_findings ∈ tA := tg (lt_3 (List.mem_of_getElem? (i := 205) rfl)) rfl
theorem im_X8_findings : Cond.instanceMethod yX8_findings ∈ tA := tg (lt_3 (List.mem_of_getElem? (i := 206) rfl)) rfl
theorem se_X8_findings : Cond.selects RX8 yX8_findings yX8_findings ∈ tA := tg (lt_3 (List.mem_of_getElem? (i := 207) rfl)) rfl
theorem co_X8_findings : Cond.code yX8_findings cX8_findings 2 (some .int) ∈ tA := tg (lt_3 (List.mem_of_getElem? (i := 208) rfl)) rfl
theorem ml_L_160 : Cond.methodLink RL 160 yX8_digest ∈ tA := tg (lt_3 (List.mem_of_getElem? (i := 209) rfl)) rfl
theorem im_X8_digest : Cond.instanceMethod yX8_digest ∈ tA := tg (lt_3 (List.mem_of_getElem? (i := 210) rfl)) rfl
theorem se_X8_digest : Cond.selects RX8 yX8_digest yX8_digest ∈ tA := tg (lt_3 (List.mem_of_getElem? (i := 211) rfl)) rfl
theorem co_X8_digest : Cond.code yX8_digest cX8_digest 5 (some .long) ∈ tA := tg (lt_3 (List.mem_of_getElem? (i := 212) rfl)) rfl
theorem k_X8_328 : (Jvm.Cond.constantLong RX8 (328 : Nat) (17 : Int64)) ∈ tA := tg (lt_3 (List.mem_of_getElem? (i := 213) rfl)) rfl
theorem ml_X8_330 : Cond.methodLink RX8 330 yX8_withWrestler ∈ tA := tg (lt_3 (List.mem_of_getElem? (i := 214) rfl)) rfl
theorem im_X8_withWrestler : Cond.instanceMethod yX8_withWrestler ∈ tA := tg (lt_3 (List.mem_of_getElem? (i := 216) rfl)) rfl
theorem co_X8_withWrestler : Cond.code yX8_withWrestler cX8_withWrestler 7 (some .long) ∈ tA := tg (lt_3 (List.mem_of_getElem? (i := 217) rfl)) rfl
theorem k_X8_334 : (Jvm.Cond.constantLong RX8 (334 : Nat) (31 : Int64)) ∈ tA := tg (lt_3 (List.mem_of_getElem? (i := 218) rfl)) rfl
theorem ml_X8_339 : Cond.methodLink RX8 339 yX8_withSheet ∈ tA := tg (lt_3 (List.mem_of_getElem? (i := 219) rfl)) rfl
theorem im_X8_withSheet : Cond.instanceMethod yX8_withSheet ∈ tA := tg (lt_3 (List.mem_of_getElem? (i := 221) rfl)) rfl
theorem co_X8_withSheet : Cond.code yX8_withSheet cX8_withSheet 7 (some .long) ∈ tA := tg (lt_3 (List.mem_of_getElem? (i := 222) rfl)) rfl
theorem cl_L_10 : Cond.classLink RL 10 RX9 ∈ tA := tg (lt_3 (List.mem_of_getElem? (i := 223) rfl)) rfl
theorem ib_X9 : Cond.instantiable RX9 52 ∈ tA := tg (lt_3 (List.mem_of_getElem? (i := 224) rfl)) rfl
theorem ml_L_12 : Cond.methodLink RL 12 yX9_init ∈ tA := tg (lt_3 (List.mem_of_getElem? (i := 225) rfl)) rfl
theorem im_X9_init : Cond.instanceMethod yX9_init ∈ tA := tg (lt_3 (List.mem_of_getElem? (i := 226) rfl)) rfl
theorem co_X9_init : Cond.code yX9_init cX9_init 2 none ∈ tA := tg (lt_3 (List.mem_of_getElem? (i := 227) rfl)) rfl
theorem ml_X9_1 : Cond.methodLink RX9 1 objectInit ∈ tA := tg (lt_3 (List.mem_of_getElem? (i := 228) rfl)) rfl
theorem k_X9_72 : (Jvm.Cond.constant RX9 (72 : Nat) (65536 : Int32)) ∈ tA := tg (lt_3 (List.mem_of_getElem? (i := 229) rfl)) rfl
theorem fl_X9_119 : Cond.fieldLink RX9 119 "RankBoardModel" "latest" "I" ∈ tA := tg (lt_3 (List.mem_of_getElem? (i := 230) rfl)) rfl
theorem fl_X9_7 : Cond.fieldLink RX9 7 "RankBoardModel" "came" "[I" ∈ tA := tg (lt_3 (List.mem_of_getElem? (i := 231) rfl)) rfl
theorem fl_X9_129 : Cond.fieldLink RX9 129 "RankBoardModel" "ever" "I" ∈ tA := tg (lt_3 (List.mem_of_getElem? (i := 232) rfl)) rfl
theorem fl_X9_13 : Cond.fieldLink RX9 13 "RankBoardModel" "kindOf" "[I" ∈ tA := tg (lt_3 (List.mem_of_getElem? (i := 233) rfl)) rfl
theorem fl_X9_16 : Cond.fieldLink RX9 16 "RankBoardModel" "stableOf" "[I" ∈ tA := tg (lt_3 (List.mem_of_getElem? (i := 234) rfl)) rfl
theorem fl_X9_19 : Cond.fieldLink RX9 19 "RankBoardModel" "kinOf" "[I" ∈ tA := tg (lt_3 (List.mem_of_getElem? (i := 235) rfl)) rfl
theorem fl_X9_22 : Cond.fieldLink RX9 22 "RankBoardModel" "hasLeft" "[Z" ∈ tA := tg (lt_3 (List.mem_of_getElem? (i := 236) rfl)) rfl
theorem fl_X9_26 : Cond.fieldLink RX9 26 "RankBoardModel" "isAbsent" "[Z" ∈ tA := tg (lt_3 (List.mem_of_getElem? (i := 237) rfl)) rfl
theorem fl_X9_29 : Cond.fieldLink RX9 29 "RankBoardModel" "winsOf" "[I" ∈ tA := tg (lt_3 (List.mem_of_getElem? (i := 238) rfl)) rfl
theorem fl_X9_32 : Cond.fieldLink RX9 32 "RankBoardModel" "lossesOf" "[I" ∈ tA := tg (lt_3 (List.mem_of_getElem? (i := 239) rfl)) rfl
theorem fl_X9_35 : Cond.fieldLink RX9 35 "RankBoardModel" "titles" "[I" ∈ tA := tg (lt_4 (List.mem_of_getElem? (i := 0) rfl)) rfl
theorem fl_X9_38 : Cond.fieldLink RX9 38 "RankBoardModel" "marks" "[I" ∈ tA := tg (lt_4 (List.mem_of_getElem? (i := 1) rfl)) rfl
theorem fl_X9_126 : Cond.fieldLink RX9 126 "RankBoardModel" "there" "I" ∈ tA := tg (lt_4 (List.mem_of_getElem? (i := 2) rfl)) rfl
theorem fl_X9_41 : Cond.fieldLink RX9 41 "RankBoardModel" "rungs" "[I" ∈ tA := tg (lt_4 (List.mem_of_getElem? (i := 3) rfl)) rfl
theorem fl_X9_132 : Cond.fieldLink RX9 132 "RankBoardModel" "isMeet" "Z" ∈ tA := tg (lt_4 (List.mem_of_getElem? (i := 4) rfl)) rfl
theorem fl_X9_44 : Cond.fieldLink RX9 44 "RankBoardModel" "sheetSize" "[I" ∈ tA := tg (lt_4 (List.mem_of_getElem? (i := 5) rfl)) rfl
theorem fl_X9_47 : Cond.fieldLink RX9 47 "RankBoardModel" "sheets" "[B" ∈ tA := tg (lt_4 (List.mem_of_getElem? (i := 6) rfl)) rfl
theorem fl_X9_112 : Cond.fieldLink RX9 112 "RankBoardModel" "priceSheet" "I" ∈ tA := tg (lt_4 (List.mem_of_getElem? (i := 7) rfl)) rfl
theorem fl_X9_51 : Cond.fieldLink RX9 51 "RankBoardModel" "copied" "[B" ∈ tA := tg (lt_4 (List.mem_of_getElem? (i := 8) rfl)) rfl
theorem fl_X9_164 : Cond.fieldLink RX9 164 "RankBoardModel" "days" "I" ∈ tA := tg (lt_4 (List.mem_of_getElem? (i := 9) rfl)) rfl
theorem fl_X9_167 : Cond.fieldLink RX9 167 "RankBoardModel" "drawn" "I" ∈ tA := tg (lt_4 (List.mem_of_getElem? (i := 10) rfl)) rfl
theorem fl_X9_170 : Cond.fieldLink RX9 170 "RankBoardModel" "bouts" "I" ∈ tA := tg (lt_4 (List.mem_of_getElem? (i := 11) rfl)) rfl
theorem fl_X9_54 : Cond.fieldLink RX9 54 "RankBoardModel" "boutDay" "[I" ∈ tA := tg (lt_4 (List.mem_of_getElem? (i := 12) rfl)) rfl
theorem fl_X9_57 : Cond.fieldLink RX9 57 "RankBoardModel" "boutUpper" "[I" ∈ tA := tg (lt_4 (List.mem_of_getElem? (i := 13) rfl)) rfl
theorem fl_X9_60 : Cond.fieldLink RX9 60 "RankBoardModel" "boutLower" "[I" ∈ tA := tg (lt_4 (List.mem_of_getElem? (i := 14) rfl)) rfl
theorem fl_X9_63 : Cond.fieldLink RX9 63 "RankBoardModel" "boutWon" "[I" ∈ tA := tg (lt_4 (List.mem_of_getElem? (i := 15) rfl)) rfl
theorem fl_X9_173 : Cond.fieldLink RX9 173 "RankBoardModel" "lacking" "I" ∈ tA := tg (lt_4 (List.mem_of_getElem? (i := 16) rfl)) rfl
theorem fl_X9_194 : Cond.fieldLink RX9 194 "RankBoardModel" "cost" "I" ∈ tA := tg (lt_4 (List.mem_of_getElem? (i := 17) rfl)) rfl
theorem fl_X9_197 : Cond.fieldLink RX9 197 "RankBoardModel" "satOut" "I" ∈ tA := tg (lt_4 (List.mem_of_getElem? (i := 18) rfl)) rfl
theorem fl_X9_66 : Cond.fieldLink RX9 66 "RankBoardModel" "present" "[I" ∈ tA := tg (lt_4 (List.mem_of_getElem? (i := 19) rfl)) rfl
theorem fl_X9_182 : Cond.fieldLink RX9 182 "RankBoardModel" "presentMany" "I" ∈ tA := tg (lt_4 (List.mem_of_getElem? (i := 20) rfl)) rfl
theorem fl_X9_69 : Cond.fieldLink RX9 69 "RankBoardModel" "pairCost" "[I" ∈ tA := tg (lt_4 (List.mem_of_getElem? (i := 21) rfl)) rfl
theorem fl_X9_73 : Cond.fieldLink RX9 73 "RankBoardModel" "leastOf" "[I" ∈ tA := tg (lt_4 (List.mem_of_getElem? (i := 22) rfl)) rfl
theorem fl_X9_207 : Cond.fieldLink RX9 207 "RankBoardModel" "lines" "I" ∈ tA := tg (lt_4 (List.mem_of_getElem? (i := 23) rfl)) rfl
theorem fl_X9_76 : Cond.fieldLink RX9 76 "RankBoardModel" "lineLow" "[I" ∈ tA := tg (lt_4 (List.mem_of_getElem? (i := 24) rfl)) rfl
theorem fl_X9_79 : Cond.fieldLink RX9 79 "RankBoardModel" "lineHigh" "[I" ∈ tA := tg (lt_4 (List.mem_of_getElem? (i := 25) rfl)) rfl
theorem fl_X9_82 : Cond.fieldLink RX9 82 "RankBoardModel" "lineUp" "[I" ∈ tA := tg (lt_4 (List.mem_of_getElem? (i := 26) rfl)) rfl
theorem fl_X9_226 : Cond.fieldLink RX9 226 "RankBoardModel" "writtenTimes" "I" ∈ tA := tg (lt_4 (List.mem_of_getElem? (i := 27) rfl)) rfl
theorem fl_X9_136 : Cond.fieldLink RX9 136 "RankBoardModel" "isWritten" "Z" ∈ tA := tg (lt_4 (List.mem_of_getElem? (i := 28) rfl)) rfl
theorem fl_X9_223 : Cond.fieldLink RX9 223 "RankBoardModel" "writtenLines" "I" ∈ tA := tg (lt_4 (List.mem_of_getElem? (i := 29) rfl)) rfl
theorem fl_X9_85 : Cond.fieldLink RX9 85 "RankBoardModel" "whyOf" "[I" ∈ tA := tg (lt_4 (List.mem_of_getElem? (i := 30) rfl)) rfl
theorem fl_X9_88 : Cond.fieldLink RX9 88 "RankBoardModel" "oldRung" "[I" ∈ tA := tg (lt_4 (List.mem_of_getElem? (i := 31) rfl)) rfl
theorem fl_X9_91 : Cond.fieldLink RX9 91 "RankBoardModel" "writtenRung" "[I" ∈ tA := tg (lt_4 (List.mem_of_getElem? (i := 32) rfl)) rfl
theorem fl_X9_94 : Cond.fieldLink RX9 94 "RankBoardModel" "besideRung" "[I" ∈ tA := tg (lt_4 (List.mem_of_getElem? (i := 33) rfl)) rfl
theorem fl_X9_97 : Cond.fieldLink RX9 97 "RankBoardModel" "aimOf" "[I" ∈ tA := tg (lt_4 (List.mem_of_getElem? (i := 34) rfl)) rfl
theorem fl_X9_100 : Cond.fieldLink RX9 100 "RankBoardModel" "ordered" "[I" ∈ tA := tg (lt_4 (List.mem_of_getElem? (i := 35) rfl)) rfl
theorem fl_X9_103 : Cond.fieldLink RX9 103 "RankBoardModel" "scores" "[I" ∈ tA := tg (lt_4 (List.mem_of_getElem? (i := 36) rfl)) rfl
theorem fl_X9_106 : Cond.fieldLink RX9 106 "RankBoardModel" "boardBefore" "[I" ∈ tA := tg (lt_4 (List.mem_of_getElem? (i := 37) rfl)) rfl
theorem fl_X9_176 : Cond.fieldLink RX9 176 "RankBoardModel" "hadPlayOff" "Z" ∈ tA := tg (lt_4 (List.mem_of_getElem? (i := 38) rfl)) rfl
theorem fl_X9_216 : Cond.fieldLink RX9 216 "RankBoardModel" "playMany" "I" ∈ tA := tg (lt_4 (List.mem_of_getElem? (i := 39) rfl)) rfl
theorem fl_X9_109 : Cond.fieldLink RX9 109 "RankBoardModel" "play" "[I" ∈ tA := tg (lt_4 (List.mem_of_getElem? (i := 40) rfl)) rfl
theorem fl_X9_116 : Cond.fieldLink RX9 116 "RankBoardModel" "champion" "I" ∈ tA := tg (lt_4 (List.mem_of_getElem? (i := 41) rfl)) rfl
theorem ml_L_155 : Cond.methodLink RL 155 yX9_finding ∈ tA := tg (lt_4 (List.mem_of_getElem? (i := 147) rfl)) rfl
theorem im_X9_finding : Cond.instanceMethod yX9_finding ∈ tA := tg (lt_4 (List.mem_of_getElem? (i := 148) rfl)) rfl
theorem se_X9_finding : Cond.selects RX9 yX9_finding yX9_finding ∈ tA := tg (lt_4 (List.mem_of_getElem? (i := 149) rfl)) rfl
theorem co_X9_finding : Cond.code yX9_finding cX9_finding 1 (some .int) ∈ tA := tg (lt_4 (List.mem_of_getElem? (i := 150) rfl)) rfl
theorem ml_L_159 : Cond.methodLink RL 159 yX9_findings ∈ tA := tg (lt_4 (List.mem_of_getElem? (i := 151) rfl)) rfl
theorem im_X9_findings : Cond.instanceMethod yX9_findings ∈ tA := tg (lt_4 (List.mem_of_getElem? (i := 152) rfl)) rfl
theorem se_X9_findings : Cond.selects RX9 yX9_findings yX9_findings ∈ tA := tg (lt_4 (List.mem_of_getElem? (i := 153) rfl)) rfl
theorem co_X9_findings : Cond.code yX9_findings cX9_findings 2 (some .int) ∈ tA := tg (lt_4 (List.mem_of_getElem? (i := 154) rfl)) rfl
theorem ml_X9_122 : Cond.methodLink RX9 122 yX9_in ∈ tA := tg (lt_4 (List.mem_of_getElem? (i := 155) rfl)) rfl
theorem st_X9_in : Cond.static yX9_in ∈ tA := tg (lt_4 (List.mem_of_getElem? (i := 156) rfl)) rfl
theorem co_X9_in : Cond.code yX9_in cX9_in 3 (some .boolean) ∈ tA := tg (lt_4 (List.mem_of_getElem? (i := 157) rfl)) rfl
theorem ml_L_17 : Cond.methodLink RL 17 yX9_wrestler ∈ tA := tg (lt_4 (List.mem_of_getElem? (i := 158) rfl)) rfl
theorem im_X9_wrestler : Cond.instanceMethod yX9_wrestler ∈ tA := tg (lt_4 (List.mem_of_getElem? (i := 159) rfl)) rfl
theorem se_X9_wrestler : Cond.selects RX9 yX9_wrestler yX9_wrestler ∈ tA := tg (lt_4 (List.mem_of_getElem? (i := 160) rfl)) rfl
theorem co_X9_wrestler : Cond.code yX9_wrestler cX9_wrestler 4 (some .int) ∈ tA := tg (lt_4 (List.mem_of_getElem? (i := 161) rfl)) rfl
theorem ml_L_22 : Cond.methodLink RL 22 yX9_leave ∈ tA := tg (lt_4 (List.mem_of_getElem? (i := 162) rfl)) rfl
theorem im_X9_leave : Cond.instanceMethod yX9_leave ∈ tA := tg (lt_4 (List.mem_of_getElem? (i := 163) rfl)) rfl
theorem se_X9_leave : Cond.selects RX9 yX9_leave yX9_leave ∈ tA := tg (lt_4 (List.mem_of_getElem? (i := 164) rfl)) rfl
theorem co_X9_leave : Cond.code yX9_leave cX9_leave 4 (some .int) ∈ tA := tg (lt_4 (List.mem_of_getElem? (i := 165) rfl)) rfl
theorem ml_X9_139 : Cond.methodLink RX9 139 yX9_isOne ∈ tA := tg (lt_4 (List.mem_of_getElem? (i := 166) rfl)) rfl
theorem im_X9_isOne : Cond.instanceMethod yX9_isOne ∈ tA := tg (lt_4 (List.mem_of_getElem? (i := 168) rfl)) rfl
theorem co_X9_isOne : Cond.code yX9_isOne cX9_isOne 2 (some .boolean) ∈ tA := tg (lt_4 (List.mem_of_getElem? (i := 169) rfl)) rfl
theorem ml_X9_143 : Cond.methodLink RX9 143 yX9_meets ∈ tA := tg (lt_4 (List.mem_of_getElem? (i := 170) rfl)) rfl
theorem im_X9_meets : Cond.instanceMethod yX9_meets ∈ tA := tg (lt_4 (List.mem_of_getElem? (i := 172) rfl)) rfl
theorem co_X9_meets : Cond.code yX9_meets cX9_meets 2 (some .int) ∈ tA := tg (lt_4 (List.mem_of_getElem? (i := 173) rfl)) rfl
theorem ml_X9_147 : Cond.methodLink RX9 147 yX9_rungOf ∈ tA := tg (lt_4 (List.mem_of_getElem? (i := 174) rfl)) rfl
theorem im_X9_rungOf : Cond.instanceMethod yX9_rungOf ∈ tA := tg (lt_4 (List.mem_of_getElem? (i := 176) rfl)) rfl
theorem co_X9_rungOf : Cond.code yX9_rungOf cX9_rungOf 3 (some .int) ∈ tA := tg (lt_4 (List.mem_of_getElem? (i := 177) rfl)) rfl
theorem ml_L_27 : Cond.methodLink RL 27 yX9_told ∈ tA := tg (lt_4 (List.mem_of_getElem? (i := 178) rfl)) rfl
theorem im_X9_told : Cond.instanceMethod yX9_told ∈ tA := tg (lt_4 (List.mem_of_getElem? (i := 179) rfl)) rfl
theorem se_X9_told : Cond.selects RX9 yX9_told yX9_told ∈ tA := tg (lt_4 (List.mem_of_getElem? (i := 180) rfl)) rfl
theorem co_X9_told : Cond.code yX9_told cX9_told 4 (some .int) ∈ tA := tg (lt_4 (List.mem_of_getElem? (i := 181) rfl)) rfl
theorem ml_X9_150 : Cond.methodLink RX9 150 yX9_need ∈ tA := tg (lt_4 (List.mem_of_getElem? (i := 182) rfl)) rfl
theorem im_X9_need : Cond.instanceMethod yX9_need ∈ tA := tg (lt_4 (List.mem_of_getElem? (i := 184) rfl)) rfl
theorem co_X9_need : Cond.code yX9_need cX9_need 3 (some .int) ∈ tA := tg (lt_4 (List.mem_of_getElem? (i := 185) rfl)) rfl
theorem ml_X9_154 : Cond.methodLink RX9 154 yX9_toldOf ∈ tA := tg (lt_4 (List.mem_of_getElem? (i := 186) rfl)) rfl
theorem im_X9_toldOf : Cond.instanceMethod yX9_toldOf ∈ tA := tg (lt_4 (List.mem_of_getElem? (i := 188) rfl)) rfl
theorem co_X9_toldOf : Cond.code yX9_toldOf cX9_toldOf 3 (some .int) ∈ tA := tg (lt_4 (List.mem_of_getElem? (i := 189) rfl)) rfl
theorem ml_L_31 : Cond.methodLink RL 31 yX9_is ∈ tA := tg (lt_4 (List.mem_of_getElem? (i := 190) rfl)) rfl
theorem im_X9_is : Cond.instanceMethod yX9_is ∈ tA := tg (lt_4 (List.mem_of_getElem? (i := 191) rfl)) rfl
theorem se_X9_is : Cond.selects RX9 yX9_is yX9_is ∈ tA := tg (lt_4 (List.mem_of_getElem? (i := 192) rfl)) rfl
theorem co_X9_is : Cond.code yX9_is cX9_is 4 (some .int) ∈ tA := tg (lt_4 (List.mem_of_getElem? (i := 193) rfl)) rfl
theorem ml_L_35 : Cond.methodLink RL 35 yX9_on ∈ tA := tg (lt_4 (List.mem_of_getElem? (i := 194) rfl)) rfl
theorem im_X9_on : Cond.instanceMethod yX9_on ∈ tA := tg (lt_4 (List.mem_of_getElem? (i := 195) rfl)) rfl
theorem se_X9_on : Cond.selects RX9 yX9_on yX9_on ∈ tA := tg (lt_4 (List.mem_of_getElem? (i := 196) rfl)) rfl
theorem co_X9_on : Cond.code yX9_on cX9_on 2 (some .int) ∈ tA := tg (lt_4 (List.mem_of_getElem? (i := 197) rfl)) rfl
theorem ml_L_39 : Cond.methodLink RL 39 yX9_mark ∈ tA := tg (lt_4 (List.mem_of_getElem? (i := 198) rfl)) rfl
theorem im_X9_mark : Cond.instanceMethod yX9_mark ∈ tA := tg (lt_4 (List.mem_of_getElem? (i := 199) rfl)) rfl
theorem se_X9_mark : Cond.selects RX9 yX9_mark yX9_mark ∈ tA := tg (lt_4 (List.mem_of_getElem? (i := 200) rfl)) rfl
theorem co_X9_mark : Cond.code yX9_mark cX9_mark 4 (some .int) ∈ tA := tg (lt_4 (List.mem_of_getElem? (i := 201) rfl)) rfl
theorem ml_L_43 : Cond.methodLink RL 43 yX9_mean ∈ tA := tg (lt_4 (List.mem_of_getElem? (i := 202) rfl)) rfl
theorem im_X9_mean : Cond.instanceMethod yX9_mean ∈ tA := tg (lt_4 (List.mem_of_getElem? (i := 203) rfl)) rfl
theorem se_X9_mean : Cond.selects RX9 yX9_mean yX9_mean ∈ tA := tg (lt_4 (List.mem_of_getElem? (i := 204) rfl)) rfl
theorem co_X9_mean : Cond.code yX9_mean cX9_mean 6 (some .int) ∈ tA := tg (lt_4 (List.mem_of_getElem? (i := 205) rfl)) rfl
theorem ml_L_47 : Cond.methodLink RL 47 yX9_sheet ∈ tA := tg (lt_4 (List.mem_of_getElem? (i := 206) rfl)) rfl
theorem im_X9_sheet : Cond.instanceMethod yX9_sheet ∈ tA := tg (lt_4 (List.mem_of_getElem? (i := 207) rfl)) rfl
theorem se_X9_sheet : Cond.selects RX9 yX9_sheet yX9_sheet ∈ tA := tg (lt_4 (List.mem_of_getElem? (i := 208) rfl)) rfl
theorem co_X9_sheet : Cond.code yX9_sheet cX9_sheet 4 (some .int) ∈ tA := tg (lt_4 (List.mem_of_getElem? (i := 209) rfl)) rfl
theorem ml_X9_158 : Cond.methodLink RX9 158 yX9_isSheet ∈ tA := tg (lt_4 (List.mem_of_getElem? (i := 210) rfl)) rfl
theorem st_X9_isSheet : Cond.static yX9_isSheet ∈ tA := tg (lt_4 (List.mem_of_getElem? (i := 211) rfl)) rfl
theorem co_X9_isSheet : Cond.code yX9_isSheet cX9_isSheet 1 (some .boolean) ∈ tA := tg (lt_4 (List.mem_of_getElem? (i := 212) rfl)) rfl
theorem ml_L_51 : Cond.methodLink RL 51 yX9_lay ∈ tA := tg (lt_4 (List.mem_of_getElem? (i := 213) rfl)) rfl
theorem im_X9_lay : Cond.instanceMethod yX9_lay ∈ tA := tg (lt_4 (List.mem_of_getElem? (i := 214) rfl)) rfl
theorem se_X9_lay : Cond.selects RX9 yX9_lay yX9_lay ∈ tA := tg (lt_4 (List.mem_of_getElem? (i := 215) rfl)) rfl
theorem co_X9_lay : Cond.code yX9_lay cX9_lay 5 (some .int) ∈ tA := tg (lt_4 (List.mem_of_getElem? (i := 216) rfl)) rfl
theorem ml_L_55 : Cond.methodLink RL 55 yX9_tear ∈ tA := tg (lt_4 (List.mem_of_getElem? (i := 217) rfl)) rfl
theorem im_X9_tear : Cond.instanceMethod yX9_tear ∈ tA := tg (lt_4 (List.mem_of_getElem? (i := 218) rfl)) rfl
theorem se_X9_tear : Cond.selects RX9 yX9_tear yX9_tear ∈ tA := tg (lt_4 (List.mem_of_getElem? (i := 219) rfl)) rfl
theorem co_X9_tear : Cond.code yX9_tear cX9_tear 2 (some .int) ∈ tA := tg (lt_4 (List.mem_of_getElem? (i := 220) rfl)) rfl
theorem ml_L_60 : Cond.methodLink RL 60 yX9_copy ∈ tA := tg (lt_4 (List.mem_of_getElem? (i := 221) rfl)) rfl
theorem im_X9_copy : Cond.instanceMethod yX9_copy ∈ tA := tg (lt_4 (List.mem_of_getElem? (i := 222) rfl)) rfl
theorem se_X9_copy : Cond.selects RX9 yX9_copy yX9_copy ∈ tA := tg (lt_4 (List.mem_of_getElem? (i := 223) rfl)) rfl
theorem co_X9_copy : Cond.code yX9_copy cX9_copy 7 (some .int) ∈ tA := tg (lt_4 (List.mem_of_getElem? (i := 224) rfl)) rfl
theorem ml_L_64 : Cond.methodLink RL 64 yX9_prices ∈ tA := tg (lt_4 (List.mem_of_getElem? (i := 225) rfl)) rfl
theorem im_X9_prices : Cond.instanceMethod yX9_prices ∈ tA := tg (lt_4 (List.mem_of_getElem? (i := 226) rfl)) rfl
theorem se_X9_prices : Cond.selects RX9 yX9_prices yX9_prices ∈ tA := tg (lt_4 (List.mem_of_getElem? (i := 227) rfl)) rfl
theorem co_X9_prices : Cond.code yX9_prices cX9_prices 3 (some .int) ∈ tA := tg (lt_4 (List.mem_of_getElem? (i := 228) rfl)) rfl
theorem ml_L_68 : Cond.methodLink RL 68 yX9_price ∈ tA := tg (lt_4 (List.mem_of_getElem? (i := 229) rfl)) rfl
theorem im_X9_price : Cond.instanceMethod yX9_price ∈ tA := tg (lt_4 (List.mem_of_getElem? (i := 230) rfl)) rfl
theorem se_X9_price : Cond.selects RX9 yX9_price yX9_price ∈ tA := tg (lt_4 (List.mem_of_getElem? (i := 231) rfl)) rfl
theorem co_X9_price : Cond.code yX9_price cX9_price 2 (some .int) ∈ tA := tg (lt_4 (List.mem_of_getElem? (i := 232) rfl)) rfl
theorem ml_X9_161 : Cond.methodLink RX9 161 yX9_priceOf ∈ tA := tg (lt_4 (List.mem_of_getElem? (i := 233) rfl)) rfl
theorem im_X9_priceOf : Cond.instanceMethod yX9_priceOf ∈ tA := tg (lt_4 (List.mem_of_getElem? (i := 235) rfl)) rfl
theorem co_X9_priceOf : Cond.code yX9_priceOf cX9_priceOf 4 (some .int) ∈ tA := tg (lt_4 (List.mem_of_getElem? (i := 236) rfl)) rfl
theorem ml_L_72 : Cond.methodLink RL 72 yX9_meet ∈ tA := tg (lt_4 (List.mem_of_getElem? (i := 237) rfl)) rfl
theorem im_X9_meet : Cond.instanceMethod yX9_meet ∈ tA := tg (lt_4 (List.mem_of_getElem? (i := 238) rfl)) rfl
theorem se_X9_meet : Cond.selects RX9 yX9_meet yX9_meet ∈ tA := tg (lt_4 (List.mem_of_getElem? (i := 239) rfl)) rfl
theorem co_X9_meet : Cond.code yX9_meet cX9_meet 3 (some .int) ∈ tA := tg (lt_5 (List.mem_of_getElem? (i := 0) rfl)) rfl
theorem ml_L_77 : Cond.methodLink RL 77 yX9_absent ∈ tA := tg (lt_5 (List.mem_of_getElem? (i := 1) rfl)) rfl
theorem im_X9_absent : Cond.instanceMethod yX9_absent ∈ tA := tg (lt_5 (List.mem_of_getElem? (i := 2) rfl)) rfl
theorem se_X9_absent : Cond.selects RX9 yX9_absent yX9_absent ∈ tA := tg (lt_5 (List.mem_of_getElem? (i := 3) rfl)) rfl
theorem co_X9_absent : Cond.code yX9_absent cX9_absent 5 (some .int) ∈ tA := tg (lt_5 (List.mem_of_getElem? (i := 4) rfl)) rfl
theorem ml_L_81 : Cond.methodLink RL 81 yX9_barred ∈ tA := tg (lt_5 (List.mem_of_getElem? (i := 5) rfl)) rfl
theorem im_X9_barred : Cond.instanceMethod yX9_barred ∈ tA := tg (lt_5 (List.mem_of_getElem? (i := 6) rfl)) rfl
theorem se_X9_barred : Cond.selects RX9 yX9_barred yX9_barred ∈ tA := tg (lt_5 (List.mem_of_getElem? (i := 7) rfl)) rfl
theorem co_X9_barred : Cond.code yX9_barred cX9_barred 3 (some .int) ∈ tA := tg (lt_5 (List.mem_of_getElem? (i := 8) rfl)) rfl
theorem ml_X9_179 : Cond.methodLink RX9 179 yX9_barredBits ∈ tA := tg (lt_5 (List.mem_of_getElem? (i := 9) rfl)) rfl
theorem im_X9_barredBits : Cond.instanceMethod yX9_barredBits ∈ tA := tg (lt_5 (List.mem_of_getElem? (i := 11) rfl)) rfl
theorem co_X9_barredBits : Cond.code yX9_barredBits cX9_barredBits 6 (some .int) ∈ tA := tg (lt_5 (List.mem_of_getElem? (i := 12) rfl)) rfl
theorem ml_L_86 : Cond.methodLink RL 86 yX9_draw ∈ tA := tg (lt_5 (List.mem_of_getElem? (i := 13) rfl)) rfl
theorem im_X9_draw : Cond.instanceMethod yX9_draw ∈ tA := tg (lt_5 (List.mem_of_getElem? (i := 14) rfl)) rfl
theorem se_X9_draw : Cond.selects RX9 yX9_draw yX9_draw ∈ tA := tg (lt_5 (List.mem_of_getElem? (i := 15) rfl)) rfl
theorem co_X9_draw : Cond.code yX9_draw cX9_draw 8 (some .int) ∈ tA := tg (lt_5 (List.mem_of_getElem? (i := 16) rfl)) rfl
theorem ml_X9_188 : Cond.methodLink RX9 188 yX9_layPairs ∈ tA := tg (lt_5 (List.mem_of_getElem? (i := 17) rfl)) rfl
theorem im_X9_layPairs : Cond.instanceMethod yX9_layPairs ∈ tA := tg (lt_5 (List.mem_of_getElem? (i := 19) rfl)) rfl
theorem co_X9_layPairs : Cond.code yX9_layPairs cX9_layPairs 7 none ∈ tA := tg (lt_5 (List.mem_of_getElem? (i := 20) rfl)) rfl
theorem ml_X9_191 : Cond.methodLink RX9 191 yX9_layLeast ∈ tA := tg (lt_5 (List.mem_of_getElem? (i := 21) rfl)) rfl
theorem im_X9_layLeast : Cond.instanceMethod yX9_layLeast ∈ tA := tg (lt_5 (List.mem_of_getElem? (i := 23) rfl)) rfl
theorem co_X9_layLeast : Cond.code yX9_layLeast cX9_layLeast 7 none ∈ tA := tg (lt_5 (List.mem_of_getElem? (i := 24) rfl)) rfl
theorem ml_X9_185 : Cond.methodLink RX9 185 yX9_first ∈ tA := tg (lt_5 (List.mem_of_getElem? (i := 25) rfl)) rfl
theorem im_X9_first : Cond.instanceMethod yX9_first ∈ tA := tg (lt_5 (List.mem_of_getElem? (i := 27) rfl)) rfl
theorem co_X9_first : Cond.code yX9_first cX9_first 3 (some .int) ∈ tA := tg (lt_5 (List.mem_of_getElem? (i := 28) rfl)) rfl
theorem ml_X9_200 : Cond.methodLink RX9 200 yX9_addBout ∈ tA := tg (lt_5 (List.mem_of_getElem? (i := 29) rfl)) rfl
theorem im_X9_addBout : Cond.instanceMethod yX9_addBout ∈ tA := tg (lt_5 (List.mem_of_getElem? (i := 31) rfl)) rfl
theorem co_X9_addBout : Cond.code yX9_addBout cX9_addBout 3 none ∈ tA := tg (lt_5 (List.mem_of_getElem? (i := 32) rfl)) rfl
theorem ml_L_90 : Cond.methodLink RL 90 yX9_cost ∈ tA := tg (lt_5 (List.mem_of_getElem? (i := 33) rfl)) rfl
theorem im_X9_cost : Cond.instanceMethod yX9_cost ∈ tA := tg (lt_5 (List.mem_of_getElem? (i := 34) rfl)) rfl
theorem se_X9_cost : Cond.selects RX9 yX9_cost yX9_cost ∈ tA := tg (lt_5 (List.mem_of_getElem? (i := 35) rfl)) rfl
theorem co_X9_cost : Cond.code yX9_cost cX9_cost 1 (some .int) ∈ tA := tg (lt_5 (List.mem_of_getElem? (i := 36) rfl)) rfl
theorem ml_L_94 : Cond.methodLink RL 94 yX9_result ∈ tA := tg (lt_5 (List.mem_of_getElem? (i := 37) rfl)) rfl
theorem im_X9_result : Cond.instanceMethod yX9_result ∈ tA := tg (lt_5 (List.mem_of_getElem? (i := 38) rfl)) rfl
theorem se_X9_result : Cond.selects RX9 yX9_result yX9_result ∈ tA := tg (lt_5 (List.mem_of_getElem? (i := 39) rfl)) rfl
theorem co_X9_result : Cond.code yX9_result cX9_result 3 (some .int) ∈ tA := tg (lt_5 (List.mem_of_getElem? (i := 40) rfl)) rfl
theorem ml_L_98 : Cond.methodLink RL 98 yX9_bout ∈ tA := tg (lt_5 (List.mem_of_getElem? (i := 41) rfl)) rfl
theorem im_X9_bout : Cond.instanceMethod yX9_bout ∈ tA := tg (lt_5 (List.mem_of_getElem? (i := 42) rfl)) rfl
theorem se_X9_bout : Cond.selects RX9 yX9_bout yX9_bout ∈ tA := tg (lt_5 (List.mem_of_getElem? (i := 43) rfl)) rfl
theorem co_X9_bout : Cond.code yX9_bout cX9_bout 3 (some .int) ∈ tA := tg (lt_5 (List.mem_of_getElem? (i := 44) rfl)) rfl
theorem ml_X9_204 : Cond.methodLink RX9 204 yX9_boutTold ∈ tA := tg (lt_5 (List.mem_of_getElem? (i := 45) rfl)) rfl
theorem im_X9_boutTold : Cond.instanceMethod yX9_boutTold ∈ tA := tg (lt_5 (List.mem_of_getElem? (i := 47) rfl)) rfl
theorem co_X9_boutTold : Cond.code yX9_boutTold cX9_boutTold 3 (some .int) ∈ tA := tg (lt_5 (List.mem_of_getElem? (i := 48) rfl)) rfl
theorem ml_L_102 : Cond.methodLink RL 102 yX9_sat ∈ tA := tg (lt_5 (List.mem_of_getElem? (i := 49) rfl)) rfl
theorem im_X9_sat : Cond.instanceMethod yX9_sat ∈ tA := tg (lt_5 (List.mem_of_getElem? (i := 50) rfl)) rfl
theorem se_X9_sat : Cond.selects RX9 yX9_sat yX9_sat ∈ tA := tg (lt_5 (List.mem_of_getElem? (i := 51) rfl)) rfl
theorem co_X9_sat : Cond.code yX9_sat cX9_sat 1 (some .int) ∈ tA := tg (lt_5 (List.mem_of_getElem? (i := 52) rfl)) rfl
theorem ml_L_106 : Cond.methodLink RL 106 yX9_line ∈ tA := tg (lt_5 (List.mem_of_getElem? (i := 53) rfl)) rfl
theorem im_X9_line : Cond.instanceMethod yX9_line ∈ tA := tg (lt_5 (List.mem_of_getElem? (i := 54) rfl)) rfl
theorem se_X9_line : Cond.selects RX9 yX9_line yX9_line ∈ tA := tg (lt_5 (List.mem_of_getElem? (i := 55) rfl)) rfl
theorem co_X9_line : Cond.code yX9_line cX9_line 4 (some .int) ∈ tA := tg (lt_5 (List.mem_of_getElem? (i := 56) rfl)) rfl
theorem ml_L_110 : Cond.methodLink RL 110 yX9_anew ∈ tA := tg (lt_5 (List.mem_of_getElem? (i := 57) rfl)) rfl
theorem im_X9_anew : Cond.instanceMethod yX9_anew ∈ tA := tg (lt_5 (List.mem_of_getElem? (i := 58) rfl)) rfl
theorem se_X9_anew : Cond.selects RX9 yX9_anew yX9_anew ∈ tA := tg (lt_5 (List.mem_of_getElem? (i := 59) rfl)) rfl
theorem co_X9_anew : Cond.code yX9_anew cX9_anew 4 (some .int) ∈ tA := tg (lt_5 (List.mem_of_getElem? (i := 60) rfl)) rfl
theorem ml_X9_210 : Cond.methodLink RX9 210 yX9_lineFor ∈ tA := tg (lt_5 (List.mem_of_getElem? (i := 61) rfl)) rfl
theorem im_X9_lineFor : Cond.instanceMethod yX9_lineFor ∈ tA := tg (lt_5 (List.mem_of_getElem? (i := 63) rfl)) rfl
theorem co_X9_lineFor : Cond.code yX9_lineFor cX9_lineFor 4 (some .int) ∈ tA := tg (lt_5 (List.mem_of_getElem? (i := 64) rfl)) rfl
theorem ml_X9_219 : Cond.methodLink RX9 219 yX9_order ∈ tA := tg (lt_5 (List.mem_of_getElem? (i := 65) rfl)) rfl
theorem im_X9_order : Cond.instanceMethod yX9_order ∈ tA := tg (lt_5 (List.mem_of_getElem? (i := 67) rfl)) rfl
theorem co_X9_order : Cond.code yX9_order cX9_order 8 none ∈ tA := tg (lt_5 (List.mem_of_getElem? (i := 68) rfl)) rfl
theorem ml_X9_213 : Cond.methodLink RX9 213 yX9_goesUp ∈ tA := tg (lt_5 (List.mem_of_getElem? (i := 69) rfl)) rfl
theorem im_X9_goesUp : Cond.instanceMethod yX9_goesUp ∈ tA := tg (lt_5 (List.mem_of_getElem? (i := 71) rfl)) rfl
theorem co_X9_goesUp : Cond.code yX9_goesUp cX9_goesUp 4 (some .int) ∈ tA := tg (lt_5 (List.mem_of_getElem? (i := 72) rfl)) rfl
theorem ml_L_114 : Cond.methodLink RL 114 yX9_why ∈ tA := tg (lt_5 (List.mem_of_getElem? (i := 73) rfl)) rfl
theorem im_X9_why : Cond.instanceMethod yX9_why ∈ tA := tg (lt_5 (List.mem_of_getElem? (i := 74) rfl)) rfl
theorem se_X9_why : Cond.selects RX9 yX9_why yX9_why ∈ tA := tg (lt_5 (List.mem_of_getElem? (i := 75) rfl)) rfl
theorem co_X9_why : Cond.code yX9_why cX9_why 3 (some .int) ∈ tA := tg (lt_5 (List.mem_of_getElem? (i := 76) rfl)) rfl
theorem ml_L_118 : Cond.methodLink RL 118 yX9_passed ∈ tA := tg (lt_5 (List.mem_of_getElem? (i := 77) rfl)) rfl
theorem im_X9_passed : Cond.instanceMethod yX9_passed ∈ tA := tg (lt_5 (List.mem_of_getElem? (i := 78) rfl)) rfl
theorem se_X9_passed : Cond.selects RX9 yX9_passed yX9_passed ∈ tA := tg (lt_5 (List.mem_of_getElem? (i := 79) rfl)) rfl
theorem co_X9_passed : Cond.code yX9_passed cX9_passed 4 (some .int) ∈ tA := tg (lt_5 (List.mem_of_getElem? (i := 80) rfl)) rfl
theorem ml_L_122 : Cond.methodLink RL 122 yX9_beside ∈ tA := tg (lt_5 (List.mem_of_getElem? (i := 81) rfl)) rfl
theorem im_X9_beside : Cond.instanceMethod yX9_beside ∈ tA := tg (lt_5 (List.mem_of_getElem? (i := 82) rfl)) rfl
theorem se_X9_beside : Cond.selects RX9 yX9_beside yX9_beside ∈ tA := tg (lt_5 (List.mem_of_getElem? (i := 83) rfl)) rfl
theorem co_X9_beside : Cond.code yX9_beside cX9_beside 4 (some .int) ∈ tA := tg (lt_5 (List.mem_of_getElem? (i := 84) rfl)) rfl
theorem ml_L_126 : Cond.methodLink RL 126 yX9_rungBeside ∈ tA := tg (lt_5 (List.mem_of_getElem? (i := 85) rfl)) rfl
theorem im_X9_rungBeside : Cond.instanceMethod yX9_rungBeside ∈ tA := tg (lt_5 (List.mem_of_getElem? (i := 86) rfl)) rfl
theorem se_X9_rungBeside : Cond.selects RX9 yX9_rungBeside yX9_rungBeside ∈ tA := tg (lt_5 (List.mem_of_getElem? (i := 87) rfl)) rfl
theorem co_X9_rungBeside : Cond.code yX9_rungBeside cX9_rungBeside 3 (some .int) ∈ tA := tg (lt_5 (List.mem_of_getElem? (i := 88) rfl)) rfl
theorem ml_L_130 : Cond.methodLink RL 130 yX9_leaders ∈ tA := tg (lt_5 (List.mem_of_getElem? (i := 89) rfl)) rfl
theorem im_X9_leaders : Cond.instanceMethod yX9_leaders ∈ tA := tg (lt_5 (List.mem_of_getElem? (i := 90) rfl)) rfl
theorem se_X9_leaders : Cond.selects RX9 yX9_leaders yX9_leaders ∈ tA := tg (lt_5 (List.mem_of_getElem? (i := 91) rfl)) rfl
theorem co_X9_leaders : Cond.code yX9_leaders cX9_leaders 1 (some .int) ∈ tA := tg (lt_5 (List.mem_of_getElem? (i := 92) rfl)) rfl
theorem ml_X9_229 : Cond.methodLink RX9 229 yX9_leaderBits ∈ tA := tg (lt_5 (List.mem_of_getElem? (i := 93) rfl)) rfl
theorem im_X9_leaderBits : Cond.instanceMethod yX9_leaderBits ∈ tA := tg (lt_5 (List.mem_of_getElem? (i := 95) rfl)) rfl
theorem co_X9_leaderBits : Cond.code yX9_leaderBits cX9_leaderBits 4 (some .int) ∈ tA := tg (lt_5 (List.mem_of_getElem? (i := 96) rfl)) rfl
theorem ml_L_134 : Cond.methodLink RL 134 yX9_playOff ∈ tA := tg (lt_5 (List.mem_of_getElem? (i := 97) rfl)) rfl
theorem im_X9_playOff : Cond.instanceMethod yX9_playOff ∈ tA := tg (lt_5 (List.mem_of_getElem? (i := 98) rfl)) rfl
theorem se_X9_playOff : Cond.selects RX9 yX9_playOff yX9_playOff ∈ tA := tg (lt_5 (List.mem_of_getElem? (i := 99) rfl)) rfl
theorem co_X9_playOff : Cond.code yX9_playOff cX9_playOff 3 (some .int) ∈ tA := tg (lt_5 (List.mem_of_getElem? (i := 100) rfl)) rfl
theorem ml_X9_233 : Cond.methodLink RX9 233 yX9_left ∈ tA := tg (lt_5 (List.mem_of_getElem? (i := 101) rfl)) rfl
theorem im_X9_left : Cond.instanceMethod yX9_left ∈ tA := tg (lt_5 (List.mem_of_getElem? (i := 103) rfl)) rfl
theorem co_X9_left : Cond.code yX9_left cX9_left 1 (some .int) ∈ tA := tg (lt_5 (List.mem_of_getElem? (i := 104) rfl)) rfl
theorem ml_L_139 : Cond.methodLink RL 139 yX9_meets_ ∈ tA := tg (lt_5 (List.mem_of_getElem? (i := 105) rfl)) rfl
theorem im_X9_meets_ : Cond.instanceMethod yX9_meets_ ∈ tA := tg (lt_5 (List.mem_of_getElem? (i := 106) rfl)) rfl
theorem se_X9_meets_ : Cond.selects RX9 yX9_meets_ yX9_meets_ ∈ tA := tg (lt_5 (List.mem_of_getElem? (i := 107) rfl)) rfl
theorem co_X9_meets_ : Cond.code yX9_meets_ cX9_meets_ 2 (some .int) ∈ tA := tg (lt_5 (List.mem_of_getElem? (i := 108) rfl)) rfl
theorem ml_L_143 : Cond.methodLink RL 143 yX9_wins ∈ tA := tg (lt_5 (List.mem_of_getElem? (i := 109) rfl)) rfl
theorem im_X9_wins : Cond.instanceMethod yX9_wins ∈ tA := tg (lt_5 (List.mem_of_getElem? (i := 110) rfl)) rfl
theorem se_X9_wins : Cond.selects RX9 yX9_wins yX9_wins ∈ tA := tg (lt_5 (List.mem_of_getElem? (i := 111) rfl)) rfl
theorem co_X9_wins : Cond.code yX9_wins cX9_wins 4 (some .int) ∈ tA := tg (lt_5 (List.mem_of_getElem? (i := 112) rfl)) rfl
theorem ml_L_147 : Cond.methodLink RL 147 yX9_champion ∈ tA := tg (lt_5 (List.mem_of_getElem? (i := 113) rfl)) rfl
theorem im_X9_champion : Cond.instanceMethod yX9_champion ∈ tA := tg (lt_5 (List.mem_of_getElem? (i := 114) rfl)) rfl
theorem se_X9_champion : Cond.selects RX9 yX9_champion yX9_champion ∈ tA := tg (lt_5 (List.mem_of_getElem? (i := 115) rfl)) rfl
theorem co_X9_champion : Cond.code yX9_champion cX9_champion 1 (some .int) ∈ tA := tg (lt_5 (List.mem_of_getElem? (i := 116) rfl)) rfl
theorem ml_L_151 : Cond.methodLink RL 151 yX9_count ∈ tA := tg (lt_5 (List.mem_of_getElem? (i := 117) rfl)) rfl
theorem im_X9_count : Cond.instanceMethod yX9_count ∈ tA := tg (lt_5 (List.mem_of_getElem? (i := 118) rfl)) rfl
theorem se_X9_count : Cond.selects RX9 yX9_count yX9_count ∈ tA := tg (lt_5 (List.mem_of_getElem? (i := 119) rfl)) rfl
theorem co_X9_count : Cond.code yX9_count cX9_count 2 (some .int) ∈ tA := tg (lt_5 (List.mem_of_getElem? (i := 120) rfl)) rfl
theorem ml_L_164 : Cond.methodLink RL 164 yX9_digest ∈ tA := tg (lt_5 (List.mem_of_getElem? (i := 121) rfl)) rfl
theorem im_X9_digest : Cond.instanceMethod yX9_digest ∈ tA := tg (lt_5 (List.mem_of_getElem? (i := 122) rfl)) rfl
theorem se_X9_digest : Cond.selects RX9 yX9_digest yX9_digest ∈ tA := tg (lt_5 (List.mem_of_getElem? (i := 123) rfl)) rfl
theorem co_X9_digest : Cond.code yX9_digest cX9_digest 5 (some .long) ∈ tA := tg (lt_5 (List.mem_of_getElem? (i := 124) rfl)) rfl
theorem k_X9_236 : (Jvm.Cond.constantLong RX9 (236 : Nat) (17 : Int64)) ∈ tA := tg (lt_5 (List.mem_of_getElem? (i := 125) rfl)) rfl
theorem k_X9_238 : (Jvm.Cond.constantLong RX9 (238 : Nat) (31 : Int64)) ∈ tA := tg (lt_5 (List.mem_of_getElem? (i := 126) rfl)) rfl
theorem ml_X9_240 : Cond.methodLink RX9 240 yX9_count ∈ tA := tg (lt_5 (List.mem_of_getElem? (i := 127) rfl)) rfl
theorem se_X8_refusalOf : Cond.selects RX8 yX8_refusalOf yX8_refusalOf ∈ tA := tg (List.mem_append_left _ (List.mem_of_getElem? (i := 0) rfl)) rfl
theorem se_X8_barsBetween : Cond.selects RX8 yX8_barsBetween yX8_barsBetween ∈ tA := tg (List.mem_append_left _ (List.mem_of_getElem? (i := 1) rfl)) rfl
theorem se_X8_gatherThosePresent : Cond.selects RX8 yX8_gatherThosePresent yX8_gatherThosePresent ∈ tA := tg (List.mem_append_left _ (List.mem_of_getElem? (i := 2) rfl)) rfl
theorem se_X8_setCharges : Cond.selects RX8 yX8_setCharges yX8_setCharges ∈ tA := tg (List.mem_append_left _ (List.mem_of_getElem? (i := 3) rfl)) rfl
theorem se_X8_chargeFor : Cond.selects RX8 yX8_chargeFor yX8_chargeFor ∈ tA := tg (List.mem_append_left _ (List.mem_of_getElem? (i := 4) rfl)) rfl
theorem se_X1_bitOf : Cond.selects RX1 yX1_bitOf yX1_bitOf ∈ tA := tg (List.mem_append_left _ (List.mem_of_getElem? (i := 5) rfl)) rfl
theorem se_X1_uppermostMate : Cond.selects RX1 yX1_uppermostMate yX1_uppermostMate ∈ tA := tg (List.mem_append_left _ (List.mem_of_getElem? (i := 6) rfl)) rfl
theorem se_X8_enterDay : Cond.selects RX8 yX8_enterDay yX8_enterDay ∈ tA := tg (List.mem_append_left _ (List.mem_of_getElem? (i := 7) rfl)) rfl
theorem se_X8_moveByCustom : Cond.selects RX8 yX8_moveByCustom yX8_moveByCustom ∈ tA := tg (List.mem_append_left _ (List.mem_of_getElem? (i := 8) rfl)) rfl
theorem se_X8_scoreWithout : Cond.selects RX8 yX8_scoreWithout yX8_scoreWithout ∈ tA := tg (List.mem_append_left _ (List.mem_of_getElem? (i := 9) rfl)) rfl
theorem se_X8_crownIfAlone : Cond.selects RX8 yX8_crownIfAlone yX8_crownIfAlone ∈ tA := tg (List.mem_append_left _ (List.mem_of_getElem? (i := 10) rfl)) rfl
theorem se_X8_tally : Cond.selects RX8 yX8_tally yX8_tally ∈ tA := tg (List.mem_append_left _ (List.mem_of_getElem? (i := 11) rfl)) rfl
theorem se_X8_withWrestler : Cond.selects RX8 yX8_withWrestler yX8_withWrestler ∈ tA := tg (List.mem_append_left _ (List.mem_of_getElem? (i := 12) rfl)) rfl
theorem se_X8_withSheet : Cond.selects RX8 yX8_withSheet yX8_withSheet ∈ tA := tg (List.mem_append_left _ (List.mem_of_getElem? (i := 13) rfl)) rfl
theorem se_X9_isOne : Cond.selects RX9 yX9_isOne yX9_isOne ∈ tA := tg (List.mem_append_left _ (List.mem_of_getElem? (i := 14) rfl)) rfl
theorem se_X9_meets : Cond.selects RX9 yX9_meets yX9_meets ∈ tA := tg (List.mem_append_left _ (List.mem_of_getElem? (i := 15) rfl)) rfl
theorem se_X9_rungOf : Cond.selects RX9 yX9_rungOf yX9_rungOf ∈ tA := tg (List.mem_append_left _ (List.mem_of_getElem? (i := 16) rfl)) rfl
theorem se_X9_need : Cond.selects RX9 yX9_need yX9_need ∈ tA := tg (List.mem_append_left _ (List.mem_of_getElem? (i := 17) rfl)) rfl
theorem se_X9_toldOf : Cond.selects RX9 yX9_toldOf yX9_toldOf ∈ tA := tg (List.mem_append_left _ (List.mem_of_getElem? (i := 18) rfl)) rfl
theorem se_X9_priceOf : Cond.selects RX9 yX9_priceOf yX9_priceOf ∈ tA := tg (List.mem_append_left _ (List.mem_of_getElem? (i := 19) rfl)) rfl
theorem se_X9_barredBits : Cond.selects RX9 yX9_barredBits yX9_barredBits ∈ tA := tg (List.mem_append_left _ (List.mem_of_getElem? (i := 20) rfl)) rfl
theorem se_X9_layPairs : Cond.selects RX9 yX9_layPairs yX9_layPairs ∈ tA := tg (List.mem_append_left _ (List.mem_of_getElem? (i := 21) rfl)) rfl
theorem se_X9_layLeast : Cond.selects RX9 yX9_layLeast yX9_layLeast ∈ tA := tg (List.mem_append_left _ (List.mem_of_getElem? (i := 22) rfl)) rfl
theorem se_X9_first : Cond.selects RX9 yX9_first yX9_first ∈ tA := tg (List.mem_append_left _ (List.mem_of_getElem? (i := 23) rfl)) rfl
theorem se_X9_addBout : Cond.selects RX9 yX9_addBout yX9_addBout ∈ tA := tg (List.mem_append_left _ (List.mem_of_getElem? (i := 24) rfl)) rfl
theorem se_X9_boutTold : Cond.selects RX9 yX9_boutTold yX9_boutTold ∈ tA := tg (List.mem_append_left _ (List.mem_of_getElem? (i := 25) rfl)) rfl
theorem se_X9_lineFor : Cond.selects RX9 yX9_lineFor yX9_lineFor ∈ tA := tg (List.mem_append_left _ (List.mem_of_getElem? (i := 26) rfl)) rfl
theorem se_X9_order : Cond.selects RX9 yX9_order yX9_order ∈ tA := tg (List.mem_append_left _ (List.mem_of_getElem? (i := 27) rfl)) rfl
theorem se_X9_goesUp : Cond.selects RX9 yX9_goesUp yX9_goesUp ∈ tA := tg (List.mem_append_left _ (List.mem_of_getElem? (i := 28) rfl)) rfl
theorem se_X9_leaderBits : Cond.selects RX9 yX9_leaderBits yX9_leaderBits ∈ tA := tg (List.mem_append_left _ (List.mem_of_getElem? (i := 29) rfl)) rfl
theorem se_X9_left : Cond.selects RX9 yX9_left yX9_left ∈ tA := tg (List.mem_append_left _ (List.mem_of_getElem? (i := 30) rfl)) rfl
theorem inX0 : ∀ w ∈ u_ws RX0 TX0 4, w ∈ tA := fun w h => tg ((by decide +kernel : ∀ w ∈ u_ws RX0 TX0 4, w ∈ lw_tbl) w h) ((by decide +kernel : ∀ w ∈ u_ws RX0 TX0 4, goodWord w = true) w h)
theorem inX1 : ∀ w ∈ u_ws RX1 TX1 5, w ∈ tA := fun w h => tg ((by decide +kernel : ∀ w ∈ u_ws RX1 TX1 5, w ∈ lw_tbl) w h) ((by decide +kernel : ∀ w ∈ u_ws RX1 TX1 5, goodWord w = true) w h)
theorem inX2 : ∀ w ∈ u_ws RX2 TX2 2, w ∈ tA := fun w h => tg ((by decide +kernel : ∀ w ∈ u_ws RX2 TX2 2, w ∈ lw_tbl) w h) ((by decide +kernel : ∀ w ∈ u_ws RX2 TX2 2, goodWord w = true) w h)
theorem inX3 : ∀ w ∈ u_ws RX3 TX3 13, w ∈ tA := fun w h => tg ((by decide +kernel : ∀ w ∈ u_ws RX3 TX3 13, w ∈ lw_tbl) w h) ((by decide +kernel : ∀ w ∈ u_ws RX3 TX3 13, goodWord w = true) w h)
theorem inX4 : ∀ w ∈ u_ws RX4 TX4 3, w ∈ tA := fun w h => tg ((by decide +kernel : ∀ w ∈ u_ws RX4 TX4 3, w ∈ lw_tbl) w h) ((by decide +kernel : ∀ w ∈ u_ws RX4 TX4 3, goodWord w = true) w h)
theorem inX5 : ∀ w ∈ u_ws RX5 TX5 4, w ∈ tA := fun w h => tg ((by decide +kernel : ∀ w ∈ u_ws RX5 TX5 4, w ∈ lw_tbl) w h) ((by decide +kernel : ∀ w ∈ u_ws RX5 TX5 4, goodWord w = true) w h)
theorem inX6 : ∀ w ∈ u_ws RX6 TX6 12, w ∈ tA := fun w h => tg ((by decide +kernel : ∀ w ∈ u_ws RX6 TX6 12, w ∈ lw_tbl) w h) ((by decide +kernel : ∀ w ∈ u_ws RX6 TX6 12, goodWord w = true) w h)
theorem inX7 : ∀ w ∈ u_ws RX7 TX7 11, w ∈ tA := fun w h => tg ((by decide +kernel : ∀ w ∈ u_ws RX7 TX7 11, w ∈ lw_tbl) w h) ((by decide +kernel : ∀ w ∈ u_ws RX7 TX7 11, goodWord w = true) w h)
theorem inX8 : ∀ w ∈ u_ws RX8 TX8 8, w ∈ tA := fun w h => tg ((by decide +kernel : ∀ w ∈ u_ws RX8 TX8 8, w ∈ lw_tbl) w h) ((by decide +kernel : ∀ w ∈ u_ws RX8 TX8 8, goodWord w = true) w h)
theorem inX9 : ∀ w ∈ u_ws RX9 TX9 52, w ∈ tA := fun w h => tg ((by decide +kernel : ∀ w ∈ u_ws RX9 TX9 52, w ∈ lw_tbl) w h) ((by decide +kernel : ∀ w ∈ u_ws RX9 TX9 52, goodWord w = true) w h)
