set_option maxRecDepth 100000 in
theorem inA0 : ∀ w ∈ u_ws RX0 TX0 4, w ∈ ALLW := fun w h => List.mem_append_right _ (List.mem_append_right _ (List.mem_append_right _ (List.mem_append_right _ (List.mem_append_right _ (List.mem_append_right _ (List.mem_append_right _ (List.mem_append_right _ (List.mem_append_right _ (List.mem_append_right _ (List.mem_append_right _ (List.mem_append_right _ (List.mem_append_right _ (List.mem_append_right _ (List.mem_append_left _ h))))))))))))))
set_option maxRecDepth 100000 in
theorem inA1 : ∀ w ∈ u_ws RX1 TX1 10, w ∈ ALLW := fun w h => List.mem_append_right _ (List.mem_append_right _ (List.mem_append_right _ (List.mem_append_right _ (List.mem_append_right _ (List.mem_append_right _ (List.mem_append_right _ (List.mem_append_right _ (List.mem_append_right _ (List.mem_append_right _ (List.mem_append_right _ (List.mem_append_right _ (List.mem_append_right _ (List.mem_append_right _ (List.mem_append_right _ (List.mem_append_left _ h)))))))))))))))
set_option maxRecDepth 100000 in
theorem inA2 : ∀ w ∈ u_ws RX2 TX2 7, w ∈ ALLW := fun w h => List.mem_append_right _ (List.mem_append_right _ (List.mem_append_right _ (List.mem_append_right _ (List.mem_append_right _ (List.mem_append_right _ (List.mem_append_right _ (List.mem_append_right _ (List.mem_append_right _ (List.mem_append_right _ (List.mem_append_right _ (List.mem_append_right _ (List.mem_append_right _ (List.mem_append_right _ (List.mem_append_right _ (List.mem_append_right _ (List.mem_append_left _ h))))))))))))))))
set_option maxRecDepth 100000 in
theorem inA3 : ∀ w ∈ u_ws RX3 TX3 8, w ∈ ALLW := fun w h => List.mem_append_right _ (List.mem_append_right _ (List.mem_append_right _ (List.mem_append_right _ (List.mem_append_right _ (List.mem_append_right _ (List.mem_append_right _ (List.mem_append_right _ (List.mem_append_right _ (List.mem_append_right _ (List.mem_append_right _ (List.mem_append_right _ (List.mem_append_right _ (List.mem_append_right _ (List.mem_append_right _ (List.mem_append_right _ (List.mem_append_right _ (List.mem_append_left _ h)))))))))))))))))
set_option maxRecDepth 100000 in
theorem inA4 : ∀ w ∈ u_ws RX4 TX4 15, w ∈ ALLW := fun w h => List.mem_append_right _ (List.mem_append_right _ (List.mem_append_right _ (List.mem_append_right _ (List.mem_append_right _ (List.mem_append_right _ (List.mem_append_right _ (List.mem_append_right _ (List.mem_append_right _ (List.mem_append_right _ (List.mem_append_right _ (List.mem_append_right _ (List.mem_append_right _ (List.mem_append_right _ (List.mem_append_right _ (List.mem_append_right _ (List.mem_append_right _ (List.mem_append_right _ (List.mem_append_left _ h))))))))))))))))))
set_option maxRecDepth 100000 in
theorem inA5 : ∀ w ∈ u_ws RX5 TX5 4, w ∈ ALLW := fun w h => List.mem_append_right _ (List.mem_append_right _ (List.mem_append_right _ (List.mem_append_right _ (List.mem_append_right _ (List.mem_append_right _ (List.mem_append_right _ (List.mem_append_right _ (List.mem_append_right _ (List.mem_append_right _ (List.mem_append_right _ (List.mem_append_right _ (List.mem_append_right _ (List.mem_append_right _ (List.mem_append_right _ (List.mem_append_right _ (List.mem_append_right _ (List.mem_append_right _ (List.mem_append_right _ (List.mem_append_left _ h)))))))))))))))))))
set_option maxRecDepth 100000 in
theorem inA6 : ∀ w ∈ u_ws RX6 TX6 2, w ∈ ALLW := fun w h => List.mem_append_right _ (List.mem_append_right _ (List.mem_append_right _ (List.mem_append_right _ (List.mem_append_right _ (List.mem_append_right _ (List.mem_append_right _ (List.mem_append_right _ (List.mem_append_right _ (List.mem_append_right _ (List.mem_append_right _ (List.mem_append_right _ (List.mem_append_right _ (List.mem_append_right _ (List.mem_append_right _ (List.mem_append_right _ (List.mem_append_right _ (List.mem_append_right _ (List.mem_append_right _ (List.mem_append_right _ (List.mem_append_left _ h))))))))))))))))))))
set_option maxRecDepth 100000 in
theorem inA7 : ∀ w ∈ u_ws RX7 TX7 18, w ∈ ALLW := fun w h => List.mem_append_right _ (List.mem_append_right _ (List.mem_append_right _ (List.mem_append_right _ (List.mem_append_right _ (List.mem_append_right _ (List.mem_append_right _ (List.mem_append_right _ (List.mem_append_right _ (List.mem_append_right _ (List.mem_append_right _ (List.mem_append_right _ (List.mem_append_right _ (List.mem_append_right _ (List.mem_append_right _ (List.mem_append_right _ (List.mem_append_right _ (List.mem_append_right _ (List.mem_append_right _ (List.mem_append_right _ (List.mem_append_right _ (List.mem_append_left _ h)))))))))))))))))))))
set_option maxRecDepth 100000 in
theorem inA8 : ∀ w ∈ u_ws RX8 TX8 15, w ∈ ALLW := fun w h => List.mem_append_right _ (List.mem_append_right _ (List.mem_append_right _ (List.mem_append_right _ (List.mem_append_right _ (List.mem_append_right _ (List.mem_append_right _ (List.mem_append_right _ (List.mem_append_right _ (List.mem_append_right _ (List.mem_append_right _ (List.mem_append_right _ (List.mem_append_right _ (List.mem_append_right _ (List.mem_append_right _ (List.mem_append_right _ (List.mem_append_right _ (List.mem_append_right _ (List.mem_append_right _ (List.mem_append_right _ (List.mem_append_right _ (List.mem_append_right _ (List.mem_append_left _ h))))))))))))))))))))))
set_option maxRecDepth 100000 in
theorem inA9 : ∀ w ∈ u_ws RX9 TX9 54, w ∈ ALLW := fun w h => List.mem_append_right _ (List.mem_append_right _ (List.mem_append_right _ (List.mem_append_right _ (List.mem_append_right _ (List.mem_append_right _ (List.mem_append_right _ (List.mem_append_right _ (List.mem_append_right _ (List.mem_append_right _ (List.mem_append_right _ (List.mem_append_right _ (List.mem_append_right _ (List.mem_append_right _ (List.mem_append_right _ (List.mem_append_right _ (List.mem_append_right _ (List.mem_append_right _ (List.mem_append_right _ (List.mem_append_right _ (List.mem_append_right _ (List.mem_append_right _ (List.mem_append_right _ (h)))))))))))))))))))))))
set_option maxRecDepth 100000 in
theorem w_0 : (.classLink RL 7 RX8 : Cond) ∈ ALLW := List.mem_append_left _ (List.mem_of_getElem? (i := 0) rfl)
set_option maxRecDepth 100000 in
theorem w_1 : (.instantiable RX8 15 : Cond) ∈ ALLW := List.mem_append_left _ (List.mem_of_getElem? (i := 1) rfl)
set_option maxRecDepth 100000 in
theorem w_2 : (.initialized RX8 : Cond) ∈ ALLW := List.mem_append_left _ (List.mem_of_getElem? (i := 2) rfl)
set_option maxRecDepth 100000 in
theorem w_3 : (.classLink RL 10 RX9 : Cond) ∈ ALLW := List.mem_append_left _ (List.mem_of_getElem? (i := 3) rfl)
set_option maxRecDepth 100000 in
theorem w_4 : (.instantiable RX9 54 : Cond) ∈ ALLW := List.mem_append_left _ (List.mem_of_getElem? (i := 4) rfl)
set_option maxRecDepth 100000 in
theorem w_5 : (.initialized RX9 : Cond) ∈ ALLW := List.mem_append_left _ (List.mem_of_getElem? (i := 5) rfl)
set_option maxRecDepth 100000 in
theorem w_6 : (.constantLong RL 188 (4294967295) : Cond) ∈ ALLW := List.mem_append_left _ (List.mem_of_getElem? (i := 6) rfl)
set_option maxRecDepth 100000 in
theorem w_7 : (.methodLink RL 9 yX8_init : Cond) ∈ ALLW := List.mem_append_left _ (List.mem_of_getElem? (i := 7) rfl)
set_option maxRecDepth 100000 in
theorem w_8 : (.instanceMethod yX8_init : Cond) ∈ ALLW := List.mem_append_left _ (List.mem_of_getElem? (i := 8) rfl)
set_option maxRecDepth 100000 in
theorem w_9 : (.code yX8_init cX8_init 2 none : Cond) ∈ ALLW := List.mem_append_left _ (List.mem_of_getElem? (i := 9) rfl)
set_option maxRecDepth 100000 in
theorem w_10 : (.methodLink RX8 1 objectInit : Cond) ∈ ALLW := List.mem_append_left _ (List.mem_of_getElem? (i := 10) rfl)
set_option maxRecDepth 100000 in
theorem w_11 : (.instanceMethod objectInit : Cond) ∈ ALLW := List.mem_append_left _ (List.mem_of_getElem? (i := 11) rfl)
set_option maxRecDepth 100000 in
theorem w_12 : (.code objectInit ⟨#[0xb1]⟩ 1 none : Cond) ∈ ALLW := List.mem_append_left _ (List.mem_of_getElem? (i := 12) rfl)
set_option maxRecDepth 100000 in
theorem w_13 : (.classLink RX8 7 RX6 : Cond) ∈ ALLW := List.mem_append_left _ (List.mem_of_getElem? (i := 13) rfl)
set_option maxRecDepth 100000 in
theorem w_14 : (.instantiable RX6 2 : Cond) ∈ ALLW := List.mem_append_left _ (List.mem_of_getElem? (i := 14) rfl)
set_option maxRecDepth 100000 in
theorem w_15 : (.initialized RX6 : Cond) ∈ ALLW := List.mem_append_left _ (List.mem_of_getElem? (i := 15) rfl)
set_option maxRecDepth 100000 in
theorem w_16 : (.fieldLink RX8 10 "OldestFirst" "tape" "LOldestFirst$Tape;" : Cond) ∈ ALLW := List.mem_append_left _ (List.mem_of_getElem? (i := 16) rfl)
set_option maxRecDepth 100000 in
theorem w_17 : (.classLink RX8 16 RX3 : Cond) ∈ ALLW := List.mem_append_left _ (List.mem_of_getElem? (i := 17) rfl)
set_option maxRecDepth 100000 in
theorem w_18 : (.instantiable RX3 8 : Cond) ∈ ALLW := List.mem_append_left _ (List.mem_of_getElem? (i := 18) rfl)
set_option maxRecDepth 100000 in
theorem w_19 : (.initialized RX3 : Cond) ∈ ALLW := List.mem_append_left _ (List.mem_of_getElem? (i := 19) rfl)
set_option maxRecDepth 100000 in
theorem w_20 : (.fieldLink RX8 21 "OldestFirst" "reader" "LOldestFirst$Reader;" : Cond) ∈ ALLW := List.mem_append_left _ (List.mem_of_getElem? (i := 20) rfl)
set_option maxRecDepth 100000 in
theorem w_21 : (.classLink RX8 25 RX7 : Cond) ∈ ALLW := List.mem_append_left _ (List.mem_of_getElem? (i := 21) rfl)
set_option maxRecDepth 100000 in
theorem w_22 : (.instantiable RX7 18 : Cond) ∈ ALLW := List.mem_append_left _ (List.mem_of_getElem? (i := 22) rfl)
set_option maxRecDepth 100000 in
theorem w_23 : (.initialized RX7 : Cond) ∈ ALLW := List.mem_append_left _ (List.mem_of_getElem? (i := 23) rfl)
set_option maxRecDepth 100000 in
theorem w_24 : (.fieldLink RX8 28 "OldestFirst" "current" "LOldestFirst$Town;" : Cond) ∈ ALLW := List.mem_append_left _ (List.mem_of_getElem? (i := 24) rfl)
set_option maxRecDepth 100000 in
theorem w_25 : (.fieldLink RX8 32 "OldestFirst" "images" "[LOldestFirst$Town;" : Cond) ∈ ALLW := List.mem_append_left _ (List.mem_of_getElem? (i := 25) rfl)
set_option maxRecDepth 100000 in
theorem w_26 : (.arrayClass .boolean : Cond) ∈ ALLW := List.mem_append_left _ (List.mem_of_getElem? (i := 26) rfl)
set_option maxRecDepth 100000 in
theorem w_27 : (.fieldLink RX8 36 "OldestFirst" "kept" "[Z" : Cond) ∈ ALLW := List.mem_append_left _ (List.mem_of_getElem? (i := 27) rfl)
set_option maxRecDepth 100000 in
theorem w_28 : (.classLink RX8 40 RX5 : Cond) ∈ ALLW := List.mem_append_left _ (List.mem_of_getElem? (i := 28) rfl)
set_option maxRecDepth 100000 in
theorem w_29 : (.fieldLink RX8 42 "OldestFirst" "slots" "[LOldestFirst$Slot;" : Cond) ∈ ALLW := List.mem_append_left _ (List.mem_of_getElem? (i := 29) rfl)
set_option maxRecDepth 100000 in
theorem w_30 : (.classLink RX8 46 RX0 : Cond) ∈ ALLW := List.mem_append_left _ (List.mem_of_getElem? (i := 30) rfl)
set_option maxRecDepth 100000 in
theorem w_31 : (.instantiable RX0 4 : Cond) ∈ ALLW := List.mem_append_left _ (List.mem_of_getElem? (i := 31) rfl)
set_option maxRecDepth 100000 in
theorem w_32 : (.initialized RX0 : Cond) ∈ ALLW := List.mem_append_left _ (List.mem_of_getElem? (i := 32) rfl)
set_option maxRecDepth 100000 in
theorem w_33 : (.fieldLink RX8 49 "OldestFirst" "diary" "LOldestFirst$Diary;" : Cond) ∈ ALLW := List.mem_append_left _ (List.mem_of_getElem? (i := 33) rfl)
set_option maxRecDepth 100000 in
theorem w_34 : (.classLink RX8 53 RX4 : Cond) ∈ ALLW := List.mem_append_left _ (List.mem_of_getElem? (i := 34) rfl)
set_option maxRecDepth 100000 in
theorem w_35 : (.instantiable RX4 15 : Cond) ∈ ALLW := List.mem_append_left _ (List.mem_of_getElem? (i := 35) rfl)
set_option maxRecDepth 100000 in
theorem w_36 : (.initialized RX4 : Cond) ∈ ALLW := List.mem_append_left _ (List.mem_of_getElem? (i := 36) rfl)
set_option maxRecDepth 100000 in
theorem w_37 : (.fieldLink RX8 58 "OldestFirst" "base" "LOldestFirst$Run;" : Cond) ∈ ALLW := List.mem_append_left _ (List.mem_of_getElem? (i := 37) rfl)
set_option maxRecDepth 100000 in
theorem w_38 : (.fieldLink RX8 62 "OldestFirst" "trial" "LOldestFirst$Run;" : Cond) ∈ ALLW := List.mem_append_left _ (List.mem_of_getElem? (i := 38) rfl)
set_option maxRecDepth 100000 in
theorem w_39 : (.classLink RX8 65 RX2 : Cond) ∈ ALLW := List.mem_append_left _ (List.mem_of_getElem? (i := 39) rfl)
set_option maxRecDepth 100000 in
theorem w_40 : (.instantiable RX2 7 : Cond) ∈ ALLW := List.mem_append_left _ (List.mem_of_getElem? (i := 40) rfl)
set_option maxRecDepth 100000 in
theorem w_41 : (.initialized RX2 : Cond) ∈ ALLW := List.mem_append_left _ (List.mem_of_getElem? (i := 41) rfl)
set_option maxRecDepth 100000 in
theorem w_42 : (.fieldLink RX8 68 "OldestFirst" "plan" "LOldestFirst$Plan;" : Cond) ∈ ALLW := List.mem_append_left _ (List.mem_of_getElem? (i := 42) rfl)
set_option maxRecDepth 100000 in
theorem w_43 : (.classLink RX8 72 RX1 : Cond) ∈ ALLW := List.mem_append_left _ (List.mem_of_getElem? (i := 43) rfl)
set_option maxRecDepth 100000 in
theorem w_44 : (.instantiable RX1 10 : Cond) ∈ ALLW := List.mem_append_left _ (List.mem_of_getElem? (i := 44) rfl)
set_option maxRecDepth 100000 in
theorem w_45 : (.initialized RX1 : Cond) ∈ ALLW := List.mem_append_left _ (List.mem_of_getElem? (i := 45) rfl)
set_option maxRecDepth 100000 in
theorem w_46 : (.fieldLink RX8 75 "OldestFirst" "orders" "LOldestFirst$Orders;" : Cond) ∈ ALLW := List.mem_append_left _ (List.mem_of_getElem? (i := 46) rfl)
set_option maxRecDepth 100000 in
theorem w_47 : (.arrayClass .int : Cond) ∈ ALLW := List.mem_append_left _ (List.mem_of_getElem? (i := 47) rfl)
set_option maxRecDepth 100000 in
theorem w_48 : (.fieldLink RX8 79 "OldestFirst" "unanswered" "[I" : Cond) ∈ ALLW := List.mem_append_left _ (List.mem_of_getElem? (i := 48) rfl)
set_option maxRecDepth 100000 in
theorem w_49 : (.fieldLink RX8 83 "OldestFirst" "baseKnown" "Z" : Cond) ∈ ALLW := List.mem_append_left _ (List.mem_of_getElem? (i := 49) rfl)
set_option maxRecDepth 100000 in
theorem w_50 : (.fieldLink RX8 87 "OldestFirst" "untieKnown" "Z" : Cond) ∈ ALLW := List.mem_append_left _ (List.mem_of_getElem? (i := 50) rfl)
set_option maxRecDepth 100000 in
theorem w_51 : (.fieldLink RX8 90 "OldestFirst" "untieSet" "I" : Cond) ∈ ALLW := List.mem_append_left _ (List.mem_of_getElem? (i := 51) rfl)
set_option maxRecDepth 100000 in
theorem w_52 : (.instantiable RX5 4 : Cond) ∈ ALLW := List.mem_append_left _ (List.mem_of_getElem? (i := 52) rfl)
set_option maxRecDepth 100000 in
theorem w_53 : (.initialized RX5 : Cond) ∈ ALLW := List.mem_append_left _ (List.mem_of_getElem? (i := 53) rfl)
set_option maxRecDepth 100000 in
theorem w_54 : (.instanceMethod yX6_init : Cond) ∈ ALLW := List.mem_append_left _ (List.mem_of_getElem? (i := 54) rfl)
set_option maxRecDepth 100000 in
theorem w_55 : (.code yX6_init cX6_init 1 none : Cond) ∈ ALLW := List.mem_append_left _ (List.mem_of_getElem? (i := 55) rfl)
set_option maxRecDepth 100000 in
theorem w_56 : (.methodLink RX6 3 objectInit : Cond) ∈ ALLW := List.mem_append_left _ (List.mem_of_getElem? (i := 56) rfl)
set_option maxRecDepth 100000 in
theorem w_57 : (.arrayClass .byte : Cond) ∈ ALLW := List.mem_append_left _ (List.mem_of_getElem? (i := 57) rfl)
set_option maxRecDepth 100000 in
theorem w_58 : (.fieldLink RX6 11 "OldestFirst$Tape" "bytes" "[B" : Cond) ∈ ALLW := List.mem_append_left _ (List.mem_of_getElem? (i := 58) rfl)
set_option maxRecDepth 100000 in
theorem w_59 : (.fieldLink RX6 15 "OldestFirst$Tape" "length" "I" : Cond) ∈ ALLW := List.mem_append_left _ (List.mem_of_getElem? (i := 59) rfl)
set_option maxRecDepth 100000 in
theorem w_60 : (.methodLink RX8 18 yX3_init : Cond) ∈ ALLW := List.mem_append_left _ (List.mem_of_getElem? (i := 60) rfl)
set_option maxRecDepth 100000 in
theorem w_61 : (.instanceMethod yX3_init : Cond) ∈ ALLW := List.mem_append_left _ (List.mem_of_getElem? (i := 61) rfl)
set_option maxRecDepth 100000 in
theorem w_62 : (.code yX3_init cX3_init 2 none : Cond) ∈ ALLW := List.mem_append_left _ (List.mem_of_getElem? (i := 62) rfl)
set_option maxRecDepth 100000 in
theorem w_63 : (.methodLink RX3 3 objectInit : Cond) ∈ ALLW := List.mem_append_left _ (List.mem_of_getElem? (i := 63) rfl)
set_option maxRecDepth 100000 in
theorem w_64 : (.classLink RX3 9 RX7 : Cond) ∈ ALLW := List.mem_append_left _ (List.mem_of_getElem? (i := 64) rfl)
set_option maxRecDepth 100000 in
theorem w_65 : (.fieldLink RX3 12 "OldestFirst$Reader" "town" "LOldestFirst$Town;" : Cond) ∈ ALLW := List.mem_append_left _ (List.mem_of_getElem? (i := 65) rfl)
set_option maxRecDepth 100000 in
theorem w_66 : (.fieldLink RX3 18 "OldestFirst$Reader" "token" "I" : Cond) ∈ ALLW := List.mem_append_left _ (List.mem_of_getElem? (i := 66) rfl)
set_option maxRecDepth 100000 in
theorem w_67 : (.fieldLink RX3 22 "OldestFirst$Reader" "start" "I" : Cond) ∈ ALLW := List.mem_append_left _ (List.mem_of_getElem? (i := 67) rfl)
set_option maxRecDepth 100000 in
theorem w_68 : (.fieldLink RX3 25 "OldestFirst$Reader" "next" "I" : Cond) ∈ ALLW := List.mem_append_left _ (List.mem_of_getElem? (i := 68) rfl)
set_option maxRecDepth 100000 in
theorem w_69 : (.fieldLink RX3 28 "OldestFirst$Reader" "value" "I" : Cond) ∈ ALLW := List.mem_append_left _ (List.mem_of_getElem? (i := 69) rfl)
set_option maxRecDepth 100000 in
theorem w_70 : (.fieldLink RX3 31 "OldestFirst$Reader" "fault" "I" : Cond) ∈ ALLW := List.mem_append_left _ (List.mem_of_getElem? (i := 70) rfl)
set_option maxRecDepth 100000 in
theorem w_71 : (.fieldLink RX3 34 "OldestFirst$Reader" "faultPlace" "I" : Cond) ∈ ALLW := List.mem_append_left _ (List.mem_of_getElem? (i := 71) rfl)
set_option maxRecDepth 100000 in
theorem w_72 : (.fieldLink RX3 37 "OldestFirst$Reader" "tape" "LOldestFirst$Tape;" : Cond) ∈ ALLW := List.mem_append_left _ (List.mem_of_getElem? (i := 72) rfl)
set_option maxRecDepth 100000 in
theorem w_73 : (.methodLink RX3 11 yX7_init : Cond) ∈ ALLW := List.mem_append_left _ (List.mem_of_getElem? (i := 73) rfl)
set_option maxRecDepth 100000 in
theorem w_74 : (.instanceMethod yX7_init : Cond) ∈ ALLW := List.mem_append_left _ (List.mem_of_getElem? (i := 74) rfl)
set_option maxRecDepth 100000 in
theorem w_75 : (.code yX7_init cX7_init 1 none : Cond) ∈ ALLW := List.mem_append_left _ (List.mem_of_getElem? (i := 75) rfl)
set_option maxRecDepth 100000 in
theorem w_76 : (.methodLink RX7 3 objectInit : Cond) ∈ ALLW := List.mem_append_left _ (List.mem_of_getElem? (i := 76) rfl)
set_option maxRecDepth 100000 in
theorem w_77 : (.fieldLink RX7 9 "OldestFirst$Town" "days" "I" : Cond) ∈ ALLW := List.mem_append_left _ (List.mem_of_getElem? (i := 77) rfl)
set_option maxRecDepth 100000 in
theorem w_78 : (.fieldLink RX7 15 "OldestFirst$Town" "post" "I" : Cond) ∈ ALLW := List.mem_append_left _ (List.mem_of_getElem? (i := 78) rfl)
set_option maxRecDepth 100000 in
theorem w_79 : (.fieldLink RX7 18 "OldestFirst$Town" "law" "I" : Cond) ∈ ALLW := List.mem_append_left _ (List.mem_of_getElem? (i := 79) rfl)
set_option maxRecDepth 100000 in
theorem w_80 : (.fieldLink RX7 21 "OldestFirst$Town" "seed" "I" : Cond) ∈ ALLW := List.mem_append_left _ (List.mem_of_getElem? (i := 80) rfl)
set_option maxRecDepth 100000 in
theorem w_81 : (.fieldLink RX7 24 "OldestFirst$Town" "lines" "I" : Cond) ∈ ALLW := List.mem_append_left _ (List.mem_of_getElem? (i := 81) rfl)
set_option maxRecDepth 100000 in
theorem w_82 : (.fieldLink RX7 27 "OldestFirst$Town" "people" "I" : Cond) ∈ ALLW := List.mem_append_left _ (List.mem_of_getElem? (i := 82) rfl)
set_option maxRecDepth 100000 in
theorem w_83 : (.fieldLink RX7 30 "OldestFirst$Town" "letters" "I" : Cond) ∈ ALLW := List.mem_append_left _ (List.mem_of_getElem? (i := 83) rfl)
set_option maxRecDepth 100000 in
theorem w_84 : (.fieldLink RX7 33 "OldestFirst$Town" "lawTold" "Z" : Cond) ∈ ALLW := List.mem_append_left _ (List.mem_of_getElem? (i := 84) rfl)
set_option maxRecDepth 100000 in
theorem w_85 : (.fieldLink RX7 37 "OldestFirst$Town" "hours" "[I" : Cond) ∈ ALLW := List.mem_append_left _ (List.mem_of_getElem? (i := 85) rfl)
set_option maxRecDepth 100000 in
theorem w_86 : (.fieldLink RX7 41 "OldestFirst$Town" "kind" "[I" : Cond) ∈ ALLW := List.mem_append_left _ (List.mem_of_getElem? (i := 86) rfl)
set_option maxRecDepth 100000 in
theorem w_87 : (.fieldLink RX7 44 "OldestFirst$Town" "master" "[I" : Cond) ∈ ALLW := List.mem_append_left _ (List.mem_of_getElem? (i := 87) rfl)
set_option maxRecDepth 100000 in
theorem w_88 : (.fieldLink RX7 47 "OldestFirst$Town" "from" "[I" : Cond) ∈ ALLW := List.mem_append_left _ (List.mem_of_getElem? (i := 88) rfl)
set_option maxRecDepth 100000 in
theorem w_89 : (.fieldLink RX7 50 "OldestFirst$Town" "to" "[I" : Cond) ∈ ALLW := List.mem_append_left _ (List.mem_of_getElem? (i := 89) rfl)
set_option maxRecDepth 100000 in
theorem w_90 : (.fieldLink RX7 53 "OldestFirst$Town" "on" "[I" : Cond) ∈ ALLW := List.mem_append_left _ (List.mem_of_getElem? (i := 90) rfl)
set_option maxRecDepth 100000 in
theorem w_91 : (.fieldLink RX7 56 "OldestFirst$Town" "told" "[I" : Cond) ∈ ALLW := List.mem_append_left _ (List.mem_of_getElem? (i := 91) rfl)
set_option maxRecDepth 100000 in
theorem w_92 : (.fieldLink RX7 59 "OldestFirst$Town" "after" "[I" : Cond) ∈ ALLW := List.mem_append_left _ (List.mem_of_getElem? (i := 92) rfl)
set_option maxRecDepth 100000 in
theorem w_93 : (.fieldLink RX7 62 "OldestFirst$Town" "worth" "[I" : Cond) ∈ ALLW := List.mem_append_left _ (List.mem_of_getElem? (i := 93) rfl)
set_option maxRecDepth 100000 in
theorem w_94 : (.fieldLink RX7 65 "OldestFirst$Town" "by" "[I" : Cond) ∈ ALLW := List.mem_append_left _ (List.mem_of_getElem? (i := 94) rfl)
set_option maxRecDepth 100000 in
theorem w_95 : (.methodLink RX7 68 yX7_clear : Cond) ∈ ALLW := List.mem_append_left _ (List.mem_of_getElem? (i := 95) rfl)
set_option maxRecDepth 100000 in
theorem w_96 : (.instanceMethod yX7_clear : Cond) ∈ ALLW := List.mem_append_left _ (List.mem_of_getElem? (i := 96) rfl)
set_option maxRecDepth 100000 in
theorem w_97 : (.selects RX7 yX7_clear yX7_clear : Cond) ∈ ALLW := List.mem_append_left _ (List.mem_of_getElem? (i := 97) rfl)
set_option maxRecDepth 100000 in
theorem w_98 : (.code yX7_clear cX7_clear 1 none : Cond) ∈ ALLW := List.mem_append_left _ (List.mem_of_getElem? (i := 98) rfl)
set_option maxRecDepth 100000 in
theorem w_99 : (.methodLink RX7 71 yJ7_fill_53178 : Cond) ∈ ALLW := List.mem_append_left _ (List.mem_of_getElem? (i := 99) rfl)
set_option maxRecDepth 100000 in
theorem w_100 : (.static yJ7_fill_53178 : Cond) ∈ ALLW := List.mem_append_right _ (List.mem_append_left _ (List.mem_of_getElem? (i := 0) rfl))
set_option maxRecDepth 100000 in
theorem w_101 : (.initialized RJ7 : Cond) ∈ ALLW := List.mem_append_right _ (List.mem_append_left _ (List.mem_of_getElem? (i := 1) rfl))
set_option maxRecDepth 100000 in
theorem w_102 : (.code yJ7_fill_53178 cJ7_fill_53178 4 none : Cond) ∈ ALLW := List.mem_append_right _ (List.mem_append_left _ (List.mem_of_getElem? (i := 2) rfl))
set_option maxRecDepth 100000 in
theorem w_103 : (.methodLink RX8 27 yX7_init : Cond) ∈ ALLW := List.mem_append_right _ (List.mem_append_left _ (List.mem_of_getElem? (i := 3) rfl))
set_option maxRecDepth 100000 in
theorem w_104 : (.instanceMethod yX0_init : Cond) ∈ ALLW := List.mem_append_right _ (List.mem_append_left _ (List.mem_of_getElem? (i := 4) rfl))
set_option maxRecDepth 100000 in
theorem w_105 : (.code yX0_init cX0_init 1 none : Cond) ∈ ALLW := List.mem_append_right _ (List.mem_append_left _ (List.mem_of_getElem? (i := 5) rfl))
set_option maxRecDepth 100000 in
theorem w_106 : (.methodLink RX0 3 objectInit : Cond) ∈ ALLW := List.mem_append_right _ (List.mem_append_left _ (List.mem_of_getElem? (i := 6) rfl))
set_option maxRecDepth 100000 in
theorem w_107 : (.arrayClass .long : Cond) ∈ ALLW := List.mem_append_right _ (List.mem_append_left _ (List.mem_of_getElem? (i := 7) rfl))
set_option maxRecDepth 100000 in
theorem w_108 : (.fieldLink RX0 9 "OldestFirst$Diary" "piles" "[J" : Cond) ∈ ALLW := List.mem_append_right _ (List.mem_append_left _ (List.mem_of_getElem? (i := 8) rfl))
set_option maxRecDepth 100000 in
theorem w_109 : (.fieldLink RX0 15 "OldestFirst$Diary" "idle" "[I" : Cond) ∈ ALLW := List.mem_append_right _ (List.mem_append_left _ (List.mem_of_getElem? (i := 9) rfl))
set_option maxRecDepth 100000 in
theorem w_110 : (.fieldLink RX0 19 "OldestFirst$Diary" "waits" "[I" : Cond) ∈ ALLW := List.mem_append_right _ (List.mem_append_left _ (List.mem_of_getElem? (i := 10) rfl))
set_option maxRecDepth 100000 in
theorem w_111 : (.fieldLink RX0 22 "OldestFirst$Diary" "needs" "[I" : Cond) ∈ ALLW := List.mem_append_right _ (List.mem_append_left _ (List.mem_of_getElem? (i := 11) rfl))
set_option maxRecDepth 100000 in
theorem w_112 : (.methodLink RX8 55 yX4_init : Cond) ∈ ALLW := List.mem_append_right _ (List.mem_append_left _ (List.mem_of_getElem? (i := 12) rfl))
set_option maxRecDepth 100000 in
theorem w_113 : (.instanceMethod yX4_init : Cond) ∈ ALLW := List.mem_append_right _ (List.mem_append_left _ (List.mem_of_getElem? (i := 13) rfl))
set_option maxRecDepth 100000 in
theorem w_114 : (.code yX4_init cX4_init 2 none : Cond) ∈ ALLW := List.mem_append_right _ (List.mem_append_left _ (List.mem_of_getElem? (i := 14) rfl))
set_option maxRecDepth 100000 in
theorem w_115 : (.methodLink RX4 3 objectInit : Cond) ∈ ALLW := List.mem_append_right _ (List.mem_append_left _ (List.mem_of_getElem? (i := 15) rfl))
set_option maxRecDepth 100000 in
theorem w_116 : (.fieldLink RX4 9 "OldestFirst$Run" "came" "[I" : Cond) ∈ ALLW := List.mem_append_right _ (List.mem_append_left _ (List.mem_of_getElem? (i := 16) rfl))
set_option maxRecDepth 100000 in
theorem w_117 : (.fieldLink RX4 15 "OldestFirst$Run" "doneOn" "[I" : Cond) ∈ ALLW := List.mem_append_right _ (List.mem_append_left _ (List.mem_of_getElem? (i := 17) rfl))
set_option maxRecDepth 100000 in
theorem w_118 : (.fieldLink RX4 18 "OldestFirst$Run" "left" "[I" : Cond) ∈ ALLW := List.mem_append_right _ (List.mem_append_left _ (List.mem_of_getElem? (i := 18) rfl))
set_option maxRecDepth 100000 in
theorem w_119 : (.fieldLink RX4 21 "OldestFirst$Run" "key" "[I" : Cond) ∈ ALLW := List.mem_append_right _ (List.mem_append_left _ (List.mem_of_getElem? (i := 19) rfl))
set_option maxRecDepth 100000 in
theorem w_120 : (.fieldLink RX4 24 "OldestFirst$Run" "heardOn" "[I" : Cond) ∈ ALLW := List.mem_append_right _ (List.mem_append_left _ (List.mem_of_getElem? (i := 20) rfl))
set_option maxRecDepth 100000 in
theorem w_121 : (.fieldLink RX4 27 "OldestFirst$Run" "standing" "[I" : Cond) ∈ ALLW := List.mem_append_right _ (List.mem_append_left _ (List.mem_of_getElem? (i := 21) rfl))
set_option maxRecDepth 100000 in
theorem w_122 : (.fieldLink RX4 30 "OldestFirst$Run" "pile" "[I" : Cond) ∈ ALLW := List.mem_append_right _ (List.mem_append_left _ (List.mem_of_getElem? (i := 22) rfl))
set_option maxRecDepth 100000 in
theorem w_123 : (.fieldLink RX4 33 "OldestFirst$Run" "size" "[I" : Cond) ∈ ALLW := List.mem_append_right _ (List.mem_append_left _ (List.mem_of_getElem? (i := 23) rfl))
set_option maxRecDepth 100000 in
theorem w_124 : (.fieldLink RX4 36 "OldestFirst$Run" "firstOf" "[I" : Cond) ∈ ALLW := List.mem_append_right _ (List.mem_append_left _ (List.mem_of_getElem? (i := 24) rfl))
set_option maxRecDepth 100000 in
theorem w_125 : (.fieldLink RX4 39 "OldestFirst$Run" "nextOf" "[I" : Cond) ∈ ALLW := List.mem_append_right _ (List.mem_append_left _ (List.mem_of_getElem? (i := 25) rfl))
set_option maxRecDepth 100000 in
theorem w_126 : (.fieldLink RX4 42 "OldestFirst$Run" "done" "[I" : Cond) ∈ ALLW := List.mem_append_right _ (List.mem_append_left _ (List.mem_of_getElem? (i := 26) rfl))
set_option maxRecDepth 100000 in
theorem w_127 : (.fieldLink RX4 45 "OldestFirst$Run" "doneCount" "I" : Cond) ∈ ALLW := List.mem_append_right _ (List.mem_append_left _ (List.mem_of_getElem? (i := 27) rfl))
set_option maxRecDepth 100000 in
theorem w_128 : (.fieldLink RX4 49 "OldestFirst$Run" "today" "I" : Cond) ∈ ALLW := List.mem_append_right _ (List.mem_append_left _ (List.mem_of_getElem? (i := 28) rfl))
set_option maxRecDepth 100000 in
theorem w_129 : (.fieldLink RX4 52 "OldestFirst$Run" "lot" "J" : Cond) ∈ ALLW := List.mem_append_right _ (List.mem_append_left _ (List.mem_of_getElem? (i := 29) rfl))
set_option maxRecDepth 100000 in
theorem w_130 : (.fieldLink RX4 56 "OldestFirst$Run" "diary" "LOldestFirst$Diary;" : Cond) ∈ ALLW := List.mem_append_right _ (List.mem_append_left _ (List.mem_of_getElem? (i := 30) rfl))
set_option maxRecDepth 100000 in
theorem w_131 : (.instanceMethod yX2_init : Cond) ∈ ALLW := List.mem_append_right _ (List.mem_append_left _ (List.mem_of_getElem? (i := 31) rfl))
set_option maxRecDepth 100000 in
theorem w_132 : (.code yX2_init cX2_init 1 none : Cond) ∈ ALLW := List.mem_append_right _ (List.mem_append_left _ (List.mem_of_getElem? (i := 32) rfl))
set_option maxRecDepth 100000 in
theorem w_133 : (.methodLink RX2 3 objectInit : Cond) ∈ ALLW := List.mem_append_right _ (List.mem_append_left _ (List.mem_of_getElem? (i := 33) rfl))
set_option maxRecDepth 100000 in
theorem w_134 : (.classLink RX2 9 RX7 : Cond) ∈ ALLW := List.mem_append_right _ (List.mem_append_left _ (List.mem_of_getElem? (i := 34) rfl))
set_option maxRecDepth 100000 in
theorem w_135 : (.fieldLink RX2 12 "OldestFirst$Plan" "town" "LOldestFirst$Town;" : Cond) ∈ ALLW := List.mem_append_right _ (List.mem_append_left _ (List.mem_of_getElem? (i := 35) rfl))
set_option maxRecDepth 100000 in
theorem w_136 : (.fieldLink RX2 18 "OldestFirst$Plan" "number" "[I" : Cond) ∈ ALLW := List.mem_append_right _ (List.mem_append_left _ (List.mem_of_getElem? (i := 36) rfl))
set_option maxRecDepth 100000 in
theorem w_137 : (.fieldLink RX2 22 "OldestFirst$Plan" "visitLetter" "I" : Cond) ∈ ALLW := List.mem_append_right _ (List.mem_append_left _ (List.mem_of_getElem? (i := 37) rfl))
set_option maxRecDepth 100000 in
theorem w_138 : (.fieldLink RX2 26 "OldestFirst$Plan" "visitDay" "I" : Cond) ∈ ALLW := List.mem_append_right _ (List.mem_append_left _ (List.mem_of_getElem? (i := 38) rfl))
set_option maxRecDepth 100000 in
theorem w_139 : (.fieldLink RX2 29 "OldestFirst$Plan" "visitHours" "I" : Cond) ∈ ALLW := List.mem_append_right _ (List.mem_append_left _ (List.mem_of_getElem? (i := 39) rfl))
set_option maxRecDepth 100000 in
theorem w_140 : (.fieldLink RX2 32 "OldestFirst$Plan" "burnPerson" "I" : Cond) ∈ ALLW := List.mem_append_right _ (List.mem_append_left _ (List.mem_of_getElem? (i := 40) rfl))
set_option maxRecDepth 100000 in
theorem w_141 : (.fieldLink RX2 35 "OldestFirst$Plan" "burnDay" "I" : Cond) ∈ ALLW := List.mem_append_right _ (List.mem_append_left _ (List.mem_of_getElem? (i := 41) rfl))
set_option maxRecDepth 100000 in
theorem w_142 : (.methodLink RX2 11 yX7_init : Cond) ∈ ALLW := List.mem_append_right _ (List.mem_append_left _ (List.mem_of_getElem? (i := 42) rfl))
set_option maxRecDepth 100000 in
theorem w_143 : (.instanceMethod yX1_init : Cond) ∈ ALLW := List.mem_append_right _ (List.mem_append_left _ (List.mem_of_getElem? (i := 43) rfl))
set_option maxRecDepth 100000 in
theorem w_144 : (.code yX1_init cX1_init 1 none : Cond) ∈ ALLW := List.mem_append_right _ (List.mem_append_left _ (List.mem_of_getElem? (i := 44) rfl))
set_option maxRecDepth 100000 in
theorem w_145 : (.methodLink RX1 3 objectInit : Cond) ∈ ALLW := List.mem_append_right _ (List.mem_append_left _ (List.mem_of_getElem? (i := 45) rfl))
set_option maxRecDepth 100000 in
theorem w_146 : (.fieldLink RX1 9 "OldestFirst$Orders" "letters" "[I" : Cond) ∈ ALLW := List.mem_append_right _ (List.mem_append_left _ (List.mem_of_getElem? (i := 46) rfl))
set_option maxRecDepth 100000 in
theorem w_147 : (.fieldLink RX1 15 "OldestFirst$Orders" "tried" "[I" : Cond) ∈ ALLW := List.mem_append_right _ (List.mem_append_left _ (List.mem_of_getElem? (i := 47) rfl))
set_option maxRecDepth 100000 in
theorem w_148 : (.fieldLink RX1 18 "OldestFirst$Orders" "best" "[I" : Cond) ∈ ALLW := List.mem_append_right _ (List.mem_append_left _ (List.mem_of_getElem? (i := 48) rfl))
set_option maxRecDepth 100000 in
theorem w_149 : (.fieldLink RX1 21 "OldestFirst$Orders" "known" "Z" : Cond) ∈ ALLW := List.mem_append_right _ (List.mem_append_left _ (List.mem_of_getElem? (i := 49) rfl))
set_option maxRecDepth 100000 in
theorem w_150 : (.fieldLink RX1 25 "OldestFirst$Orders" "weighed" "Z" : Cond) ∈ ALLW := List.mem_append_right _ (List.mem_append_left _ (List.mem_of_getElem? (i := 50) rfl))
set_option maxRecDepth 100000 in
theorem w_151 : (.fieldLink RX1 28 "OldestFirst$Orders" "person" "I" : Cond) ∈ ALLW := List.mem_append_right _ (List.mem_append_left _ (List.mem_of_getElem? (i := 51) rfl))
set_option maxRecDepth 100000 in
theorem w_152 : (.fieldLink RX1 32 "OldestFirst$Orders" "day" "I" : Cond) ∈ ALLW := List.mem_append_right _ (List.mem_append_left _ (List.mem_of_getElem? (i := 52) rfl))
set_option maxRecDepth 100000 in
theorem w_153 : (.fieldLink RX1 35 "OldestFirst$Orders" "count" "I" : Cond) ∈ ALLW := List.mem_append_right _ (List.mem_append_left _ (List.mem_of_getElem? (i := 53) rfl))
set_option maxRecDepth 100000 in
theorem w_154 : (.fieldLink RX1 38 "OldestFirst$Orders" "most" "I" : Cond) ∈ ALLW := List.mem_append_right _ (List.mem_append_left _ (List.mem_of_getElem? (i := 54) rfl))
set_option maxRecDepth 100000 in
theorem w_155 : (.fieldLink RX1 41 "OldestFirst$Orders" "least" "I" : Cond) ∈ ALLW := List.mem_append_right _ (List.mem_append_left _ (List.mem_of_getElem? (i := 55) rfl))
set_option maxRecDepth 100000 in
theorem w_156 : (.instanceMethod yX5_init : Cond) ∈ ALLW := List.mem_append_right _ (List.mem_append_left _ (List.mem_of_getElem? (i := 56) rfl))
set_option maxRecDepth 100000 in
theorem w_157 : (.code yX5_init cX5_init 1 none : Cond) ∈ ALLW := List.mem_append_right _ (List.mem_append_left _ (List.mem_of_getElem? (i := 57) rfl))
set_option maxRecDepth 100000 in
theorem w_158 : (.methodLink RX5 1 objectInit : Cond) ∈ ALLW := List.mem_append_right _ (List.mem_append_left _ (List.mem_of_getElem? (i := 58) rfl))
set_option maxRecDepth 100000 in
theorem w_159 : (.fieldLink RX5 9 "OldestFirst$Slot" "numbers" "[J" : Cond) ∈ ALLW := List.mem_append_right _ (List.mem_append_left _ (List.mem_of_getElem? (i := 59) rfl))
set_option maxRecDepth 100000 in
theorem w_160 : (.fieldLink RX5 13 "OldestFirst$Slot" "used" "Z" : Cond) ∈ ALLW := List.mem_append_right _ (List.mem_append_left _ (List.mem_of_getElem? (i := 60) rfl))
set_option maxRecDepth 100000 in
theorem w_161 : (.fieldLink RX5 17 "OldestFirst$Slot" "width" "I" : Cond) ∈ ALLW := List.mem_append_right _ (List.mem_append_left _ (List.mem_of_getElem? (i := 61) rfl))
set_option maxRecDepth 100000 in
theorem w_162 : (.fieldLink RX5 21 "OldestFirst$Slot" "length" "I" : Cond) ∈ ALLW := List.mem_append_right _ (List.mem_append_left _ (List.mem_of_getElem? (i := 62) rfl))
set_option maxRecDepth 100000 in
theorem w_163 : (.methodLink RL 12 yX9_init : Cond) ∈ ALLW := List.mem_append_right _ (List.mem_append_left _ (List.mem_of_getElem? (i := 63) rfl))
set_option maxRecDepth 100000 in
theorem w_164 : (.instanceMethod yX9_init : Cond) ∈ ALLW := List.mem_append_right _ (List.mem_append_left _ (List.mem_of_getElem? (i := 64) rfl))
set_option maxRecDepth 100000 in
theorem w_165 : (.code yX9_init cX9_init 2 none : Cond) ∈ ALLW := List.mem_append_right _ (List.mem_append_left _ (List.mem_of_getElem? (i := 65) rfl))
set_option maxRecDepth 100000 in
theorem w_166 : (.methodLink RX9 1 objectInit : Cond) ∈ ALLW := List.mem_append_right _ (List.mem_append_left _ (List.mem_of_getElem? (i := 66) rfl))
set_option maxRecDepth 100000 in
theorem w_167 : (.fieldLink RX9 7 "OldestFirstModel" "width" "[I" : Cond) ∈ ALLW := List.mem_append_right _ (List.mem_append_left _ (List.mem_of_getElem? (i := 67) rfl))
set_option maxRecDepth 100000 in
theorem w_168 : (.fieldLink RX9 13 "OldestFirstModel" "many" "[I" : Cond) ∈ ALLW := List.mem_append_right _ (List.mem_append_left _ (List.mem_of_getElem? (i := 68) rfl))
set_option maxRecDepth 100000 in
theorem w_169 : (.fieldLink RX9 16 "OldestFirstModel" "cells" "[J" : Cond) ∈ ALLW := List.mem_append_right _ (List.mem_append_left _ (List.mem_of_getElem? (i := 69) rfl))
set_option maxRecDepth 100000 in
theorem w_170 : (.fieldLink RX9 20 "OldestFirstModel" "moved" "[J" : Cond) ∈ ALLW := List.mem_append_right _ (List.mem_append_left _ (List.mem_of_getElem? (i := 70) rfl))
set_option maxRecDepth 100000 in
theorem w_171 : (.fieldLink RX9 23 "OldestFirstModel" "tape" "[B" : Cond) ∈ ALLW := List.mem_append_right _ (List.mem_append_left _ (List.mem_of_getElem? (i := 71) rfl))
set_option maxRecDepth 100000 in
theorem w_172 : (.fieldLink RX9 27 "OldestFirstModel" "faultPlace" "I" : Cond) ∈ ALLW := List.mem_append_right _ (List.mem_append_left _ (List.mem_of_getElem? (i := 72) rfl))
set_option maxRecDepth 100000 in
theorem w_173 : (.fieldLink RX9 31 "OldestFirstModel" "lines" "[I" : Cond) ∈ ALLW := List.mem_append_right _ (List.mem_append_left _ (List.mem_of_getElem? (i := 73) rfl))
set_option maxRecDepth 100000 in
theorem w_174 : (.fieldLink RX9 34 "OldestFirstModel" "has" "[I" : Cond) ∈ ALLW := List.mem_append_right _ (List.mem_append_left _ (List.mem_of_getElem? (i := 74) rfl))
set_option maxRecDepth 100000 in
theorem w_175 : (.fieldLink RX9 37 "OldestFirstModel" "person" "[I" : Cond) ∈ ALLW := List.mem_append_right _ (List.mem_append_left _ (List.mem_of_getElem? (i := 75) rfl))
set_option maxRecDepth 100000 in
theorem w_176 : (.fieldLink RX9 40 "OldestFirstModel" "letter" "[I" : Cond) ∈ ALLW := List.mem_append_right _ (List.mem_append_left _ (List.mem_of_getElem? (i := 76) rfl))
set_option maxRecDepth 100000 in
theorem w_177 : (.fieldLink RX9 43 "OldestFirstModel" "isKept" "[Z" : Cond) ∈ ALLW := List.mem_append_right _ (List.mem_append_left _ (List.mem_of_getElem? (i := 77) rfl))
set_option maxRecDepth 100000 in
theorem w_178 : (.fieldLink RX9 47 "OldestFirstModel" "more" "[I" : Cond) ∈ ALLW := List.mem_append_right _ (List.mem_append_left _ (List.mem_of_getElem? (i := 78) rfl))
set_option maxRecDepth 100000 in
theorem w_179 : (.fieldLink RX9 50 "OldestFirstModel" "came" "[I" : Cond) ∈ ALLW := List.mem_append_right _ (List.mem_append_left _ (List.mem_of_getElem? (i := 79) rfl))
set_option maxRecDepth 100000 in
theorem w_180 : (.fieldLink RX9 53 "OldestFirstModel" "answered" "[I" : Cond) ∈ ALLW := List.mem_append_right _ (List.mem_append_left _ (List.mem_of_getElem? (i := 80) rfl))
set_option maxRecDepth 100000 in
theorem w_181 : (.fieldLink RX9 56 "OldestFirstModel" "left" "[I" : Cond) ∈ ALLW := List.mem_append_right _ (List.mem_append_left _ (List.mem_of_getElem? (i := 81) rfl))
set_option maxRecDepth 100000 in
theorem w_182 : (.fieldLink RX9 59 "OldestFirstModel" "leftOn" "[I" : Cond) ∈ ALLW := List.mem_append_right _ (List.mem_append_left _ (List.mem_of_getElem? (i := 82) rfl))
set_option maxRecDepth 100000 in
theorem w_183 : (.fieldLink RX9 62 "OldestFirstModel" "isBurnt" "[Z" : Cond) ∈ ALLW := List.mem_append_right _ (List.mem_append_left _ (List.mem_of_getElem? (i := 83) rfl))
set_option maxRecDepth 100000 in
theorem w_184 : (.fieldLink RX9 65 "OldestFirstModel" "heard" "[I" : Cond) ∈ ALLW := List.mem_append_right _ (List.mem_append_left _ (List.mem_of_getElem? (i := 84) rfl))
set_option maxRecDepth 100000 in
theorem w_185 : (.fieldLink RX9 68 "OldestFirstModel" "waitsOn" "[I" : Cond) ∈ ALLW := List.mem_append_right _ (List.mem_append_left _ (List.mem_of_getElem? (i := 85) rfl))
set_option maxRecDepth 100000 in
theorem w_186 : (.fieldLink RX9 71 "OldestFirstModel" "idleOn" "[I" : Cond) ∈ ALLW := List.mem_append_right _ (List.mem_append_left _ (List.mem_of_getElem? (i := 86) rfl))
set_option maxRecDepth 100000 in
theorem w_187 : (.fieldLink RX9 74 "OldestFirstModel" "row" "[I" : Cond) ∈ ALLW := List.mem_append_right _ (List.mem_append_left _ (List.mem_of_getElem? (i := 87) rfl))
set_option maxRecDepth 100000 in
theorem w_188 : (.fieldLink RX9 77 "OldestFirstModel" "key" "[I" : Cond) ∈ ALLW := List.mem_append_right _ (List.mem_append_left _ (List.mem_of_getElem? (i := 88) rfl))
set_option maxRecDepth 100000 in
theorem w_189 : (.fieldLink RX9 80 "OldestFirstModel" "coming" "[I" : Cond) ∈ ALLW := List.mem_append_right _ (List.mem_append_left _ (List.mem_of_getElem? (i := 89) rfl))
set_option maxRecDepth 100000 in
theorem w_190 : (.fieldLink RX9 83 "OldestFirstModel" "tried" "[I" : Cond) ∈ ALLW := List.mem_append_right _ (List.mem_append_left _ (List.mem_of_getElem? (i := 90) rfl))
set_option maxRecDepth 100000 in
theorem w_191 : (.fieldLink RX9 86 "OldestFirstModel" "bestOrder" "[I" : Cond) ∈ ALLW := List.mem_append_right _ (List.mem_append_left _ (List.mem_of_getElem? (i := 91) rfl))
set_option maxRecDepth 100000 in
theorem w_192 : (.fieldLink RX9 89 "OldestFirstModel" "before" "[I" : Cond) ∈ ALLW := List.mem_append_right _ (List.mem_append_left _ (List.mem_of_getElem? (i := 92) rfl))
set_option maxRecDepth 100000 in
theorem w_193 : (.fieldLink RX9 92 "OldestFirstModel" "open" "[I" : Cond) ∈ ALLW := List.mem_append_right _ (List.mem_append_left _ (List.mem_of_getElem? (i := 93) rfl))
set_option maxRecDepth 100000 in
theorem w_194 : (.methodLink RL 13 yX8_feed : Cond) ∈ ALLW := List.mem_append_right _ (List.mem_append_left _ (List.mem_of_getElem? (i := 94) rfl))
set_option maxRecDepth 100000 in
theorem w_195 : (.instanceMethod yX8_feed : Cond) ∈ ALLW := List.mem_append_right _ (List.mem_append_left _ (List.mem_of_getElem? (i := 95) rfl))
set_option maxRecDepth 100000 in
theorem w_196 : (.selects RX8 yX8_feed yX8_feed : Cond) ∈ ALLW := List.mem_append_right _ (List.mem_append_left _ (List.mem_of_getElem? (i := 96) rfl))
set_option maxRecDepth 100000 in
theorem w_197 : (.code yX8_feed cX8_feed 6 (some .int) : Cond) ∈ ALLW := List.mem_append_right _ (List.mem_append_left _ (List.mem_of_getElem? (i := 97) rfl))
set_option maxRecDepth 100000 in
theorem w_198 : (.fieldLink RX8 103 "OldestFirst$Tape" "length" "I" : Cond) ∈ ALLW := List.mem_append_right _ (List.mem_append_left _ (List.mem_of_getElem? (i := 98) rfl))
set_option maxRecDepth 100000 in
theorem w_199 : (.methodLink RX8 95 yX6_hasRoom : Cond) ∈ ALLW := List.mem_append_right _ (List.mem_append_left _ (List.mem_of_getElem? (i := 99) rfl))
set_option maxRecDepth 100000 in
theorem w_200 : (.instanceMethod yX6_hasRoom : Cond) ∈ ALLW := List.mem_append_right _ (List.mem_append_right _ (List.mem_append_left _ (List.mem_of_getElem? (i := 0) rfl)))
set_option maxRecDepth 100000 in
theorem w_201 : (.selects RX6 yX6_hasRoom yX6_hasRoom : Cond) ∈ ALLW := List.mem_append_right _ (List.mem_append_right _ (List.mem_append_left _ (List.mem_of_getElem? (i := 1) rfl)))
set_option maxRecDepth 100000 in
theorem w_202 : (.code yX6_hasRoom cX6_hasRoom 1 (some .boolean) : Cond) ∈ ALLW := List.mem_append_right _ (List.mem_append_right _ (List.mem_append_left _ (List.mem_of_getElem? (i := 2) rfl)))
set_option maxRecDepth 100000 in
theorem w_203 : (.methodLink RX8 99 yX6_append : Cond) ∈ ALLW := List.mem_append_right _ (List.mem_append_right _ (List.mem_append_left _ (List.mem_of_getElem? (i := 3) rfl)))
set_option maxRecDepth 100000 in
theorem w_204 : (.instanceMethod yX6_append : Cond) ∈ ALLW := List.mem_append_right _ (List.mem_append_right _ (List.mem_append_left _ (List.mem_of_getElem? (i := 4) rfl)))
set_option maxRecDepth 100000 in
theorem w_205 : (.selects RX6 yX6_append yX6_append : Cond) ∈ ALLW := List.mem_append_right _ (List.mem_append_right _ (List.mem_append_left _ (List.mem_of_getElem? (i := 5) rfl)))
set_option maxRecDepth 100000 in
theorem w_206 : (.code yX6_append cX6_append 3 none : Cond) ∈ ALLW := List.mem_append_right _ (List.mem_append_right _ (List.mem_append_left _ (List.mem_of_getElem? (i := 6) rfl)))
set_option maxRecDepth 100000 in
theorem w_207 : (.methodLink RL 17 yX9_feed : Cond) ∈ ALLW := List.mem_append_right _ (List.mem_append_right _ (List.mem_append_left _ (List.mem_of_getElem? (i := 7) rfl)))
set_option maxRecDepth 100000 in
theorem w_208 : (.instanceMethod yX9_feed : Cond) ∈ ALLW := List.mem_append_right _ (List.mem_append_right _ (List.mem_append_left _ (List.mem_of_getElem? (i := 8) rfl)))
set_option maxRecDepth 100000 in
theorem w_209 : (.selects RX9 yX9_feed yX9_feed : Cond) ∈ ALLW := List.mem_append_right _ (List.mem_append_right _ (List.mem_append_left _ (List.mem_of_getElem? (i := 9) rfl)))
set_option maxRecDepth 100000 in
theorem w_210 : (.code yX9_feed cX9_feed 6 (some .int) : Cond) ∈ ALLW := List.mem_append_right _ (List.mem_append_right _ (List.mem_append_left _ (List.mem_of_getElem? (i := 10) rfl)))
set_option maxRecDepth 100000 in
theorem w_211 : (.fieldLink RX9 95 "OldestFirstModel" "thrown" "I" : Cond) ∈ ALLW := List.mem_append_right _ (List.mem_append_right _ (List.mem_append_left _ (List.mem_of_getElem? (i := 11) rfl)))
set_option maxRecDepth 100000 in
theorem w_212 : (.fieldLink RX9 112 "OldestFirstModel" "taped" "I" : Cond) ∈ ALLW := List.mem_append_right _ (List.mem_append_right _ (List.mem_append_left _ (List.mem_of_getElem? (i := 12) rfl)))
set_option maxRecDepth 100000 in
theorem w_213 : (.methodLink RX9 115 yX9_four : Cond) ∈ ALLW := List.mem_append_right _ (List.mem_append_right _ (List.mem_append_left _ (List.mem_of_getElem? (i := 13) rfl)))
set_option maxRecDepth 100000 in
theorem w_214 : (.instanceMethod yX9_four : Cond) ∈ ALLW := List.mem_append_right _ (List.mem_append_right _ (List.mem_append_left _ (List.mem_of_getElem? (i := 14) rfl)))
set_option maxRecDepth 100000 in
theorem w_215 : (.selects RX9 yX9_four yX9_four : Cond) ∈ ALLW := List.mem_append_right _ (List.mem_append_right _ (List.mem_append_left _ (List.mem_of_getElem? (i := 15) rfl)))
set_option maxRecDepth 100000 in
theorem w_216 : (.code yX9_four cX9_four 3 none : Cond) ∈ ALLW := List.mem_append_right _ (List.mem_append_right _ (List.mem_append_left _ (List.mem_of_getElem? (i := 16) rfl)))
set_option maxRecDepth 100000 in
theorem w_217 : (.methodLink RL 18 yX8_end : Cond) ∈ ALLW := List.mem_append_right _ (List.mem_append_right _ (List.mem_append_left _ (List.mem_of_getElem? (i := 17) rfl)))
set_option maxRecDepth 100000 in
theorem w_218 : (.instanceMethod yX8_end : Cond) ∈ ALLW := List.mem_append_right _ (List.mem_append_right _ (List.mem_append_left _ (List.mem_of_getElem? (i := 18) rfl)))
set_option maxRecDepth 100000 in
theorem w_219 : (.selects RX8 yX8_end yX8_end : Cond) ∈ ALLW := List.mem_append_right _ (List.mem_append_right _ (List.mem_append_left _ (List.mem_of_getElem? (i := 19) rfl)))
set_option maxRecDepth 100000 in
theorem w_220 : (.code yX8_end cX8_end 2 (some .int) : Cond) ∈ ALLW := List.mem_append_right _ (List.mem_append_right _ (List.mem_append_left _ (List.mem_of_getElem? (i := 20) rfl)))
set_option maxRecDepth 100000 in
theorem w_221 : (.methodLink RL 22 yX9_end : Cond) ∈ ALLW := List.mem_append_right _ (List.mem_append_right _ (List.mem_append_left _ (List.mem_of_getElem? (i := 21) rfl)))
set_option maxRecDepth 100000 in
theorem w_222 : (.instanceMethod yX9_end : Cond) ∈ ALLW := List.mem_append_right _ (List.mem_append_right _ (List.mem_append_left _ (List.mem_of_getElem? (i := 22) rfl)))
set_option maxRecDepth 100000 in
theorem w_223 : (.selects RX9 yX9_end yX9_end : Cond) ∈ ALLW := List.mem_append_right _ (List.mem_append_right _ (List.mem_append_left _ (List.mem_of_getElem? (i := 23) rfl)))
set_option maxRecDepth 100000 in
theorem w_224 : (.code yX9_end cX9_end 2 (some .int) : Cond) ∈ ALLW := List.mem_append_right _ (List.mem_append_right _ (List.mem_append_left _ (List.mem_of_getElem? (i := 24) rfl)))
set_option maxRecDepth 100000 in
theorem w_225 : (.methodLink RX9 100 yX9_in : Cond) ∈ ALLW := List.mem_append_right _ (List.mem_append_right _ (List.mem_append_left _ (List.mem_of_getElem? (i := 25) rfl)))
set_option maxRecDepth 100000 in
theorem w_226 : (.static yX9_in : Cond) ∈ ALLW := List.mem_append_right _ (List.mem_append_right _ (List.mem_append_left _ (List.mem_of_getElem? (i := 26) rfl)))
set_option maxRecDepth 100000 in
theorem w_227 : (.code yX9_in cX9_in 6 (some .boolean) : Cond) ∈ ALLW := List.mem_append_right _ (List.mem_append_right _ (List.mem_append_left _ (List.mem_of_getElem? (i := 27) rfl)))
set_option maxRecDepth 100000 in
theorem w_228 : (.methodLink RL 23 yX8_town : Cond) ∈ ALLW := List.mem_append_right _ (List.mem_append_right _ (List.mem_append_left _ (List.mem_of_getElem? (i := 28) rfl)))
set_option maxRecDepth 100000 in
theorem w_229 : (.instanceMethod yX8_town : Cond) ∈ ALLW := List.mem_append_right _ (List.mem_append_right _ (List.mem_append_left _ (List.mem_of_getElem? (i := 29) rfl)))
set_option maxRecDepth 100000 in
theorem w_230 : (.selects RX8 yX8_town yX8_town : Cond) ∈ ALLW := List.mem_append_right _ (List.mem_append_right _ (List.mem_append_left _ (List.mem_of_getElem? (i := 30) rfl)))
set_option maxRecDepth 100000 in
theorem w_231 : (.code yX8_town cX8_town 1 (some .int) : Cond) ∈ ALLW := List.mem_append_right _ (List.mem_append_right _ (List.mem_append_left _ (List.mem_of_getElem? (i := 31) rfl)))
set_option maxRecDepth 100000 in
theorem w_232 : (.fieldLink RX8 109 "OldestFirst$Reader" "town" "LOldestFirst$Town;" : Cond) ∈ ALLW := List.mem_append_right _ (List.mem_append_right _ (List.mem_append_left _ (List.mem_of_getElem? (i := 32) rfl)))
set_option maxRecDepth 100000 in
theorem w_233 : (.fieldLink RX8 119 "OldestFirst$Town" "lines" "I" : Cond) ∈ ALLW := List.mem_append_right _ (List.mem_append_right _ (List.mem_append_left _ (List.mem_of_getElem? (i := 33) rfl)))
set_option maxRecDepth 100000 in
theorem w_234 : (.methodLink RX8 106 yX3_readAll : Cond) ∈ ALLW := List.mem_append_right _ (List.mem_append_right _ (List.mem_append_left _ (List.mem_of_getElem? (i := 34) rfl)))
set_option maxRecDepth 100000 in
theorem w_235 : (.instanceMethod yX3_readAll : Cond) ∈ ALLW := List.mem_append_right _ (List.mem_append_right _ (List.mem_append_left _ (List.mem_of_getElem? (i := 35) rfl)))
set_option maxRecDepth 100000 in
theorem w_236 : (.selects RX3 yX3_readAll yX3_readAll : Cond) ∈ ALLW := List.mem_append_right _ (List.mem_append_right _ (List.mem_append_left _ (List.mem_of_getElem? (i := 36) rfl)))
set_option maxRecDepth 100000 in
theorem w_237 : (.code yX3_readAll cX3_readAll 2 (some .boolean) : Cond) ∈ ALLW := List.mem_append_right _ (List.mem_append_right _ (List.mem_append_left _ (List.mem_of_getElem? (i := 37) rfl)))
set_option maxRecDepth 100000 in
theorem w_238 : (.fieldLink RX3 57 "OldestFirst$Town" "lines" "I" : Cond) ∈ ALLW := List.mem_append_right _ (List.mem_append_right _ (List.mem_append_left _ (List.mem_of_getElem? (i := 38) rfl)))
set_option maxRecDepth 100000 in
theorem w_239 : (.methodLink RX3 41 yX7_clear : Cond) ∈ ALLW := List.mem_append_right _ (List.mem_append_right _ (List.mem_append_left _ (List.mem_of_getElem? (i := 39) rfl)))
set_option maxRecDepth 100000 in
theorem w_240 : (.methodLink RX3 44 yX3_step : Cond) ∈ ALLW := List.mem_append_right _ (List.mem_append_right _ (List.mem_append_left _ (List.mem_of_getElem? (i := 40) rfl)))
set_option maxRecDepth 100000 in
theorem w_241 : (.instanceMethod yX3_step : Cond) ∈ ALLW := List.mem_append_right _ (List.mem_append_right _ (List.mem_append_left _ (List.mem_of_getElem? (i := 41) rfl)))
set_option maxRecDepth 100000 in
theorem w_242 : (.selects RX3 yX3_step yX3_step : Cond) ∈ ALLW := List.mem_append_right _ (List.mem_append_right _ (List.mem_append_left _ (List.mem_of_getElem? (i := 42) rfl)))
set_option maxRecDepth 100000 in
theorem w_243 : (.code yX3_step cX3_step 2 none : Cond) ∈ ALLW := List.mem_append_right _ (List.mem_append_right _ (List.mem_append_left _ (List.mem_of_getElem? (i := 43) rfl)))
set_option maxRecDepth 100000 in
theorem w_244 : (.fieldLink RX3 200 "OldestFirst$Tape" "length" "I" : Cond) ∈ ALLW := List.mem_append_right _ (List.mem_append_right _ (List.mem_append_left _ (List.mem_of_getElem? (i := 44) rfl)))
set_option maxRecDepth 100000 in
theorem w_245 : (.constant RX3 211 (1000000) : Cond) ∈ ALLW := List.mem_append_right _ (List.mem_append_right _ (List.mem_append_left _ (List.mem_of_getElem? (i := 45) rfl)))
set_option maxRecDepth 100000 in
theorem w_246 : (.methodLink RX3 212 Lib.Math.min.name : Cond) ∈ ALLW := List.mem_append_right _ (List.mem_append_right _ (List.mem_append_left _ (List.mem_of_getElem? (i := 46) rfl)))
set_option maxRecDepth 100000 in
theorem w_247 : (.static Lib.Math.min.name : Cond) ∈ ALLW := List.mem_append_right _ (List.mem_append_right _ (List.mem_append_left _ (List.mem_of_getElem? (i := 47) rfl)))
set_option maxRecDepth 100000 in
theorem w_248 : (.initialized "java/lang/Math" : Cond) ∈ ALLW := List.mem_append_right _ (List.mem_append_right _ (List.mem_append_left _ (List.mem_of_getElem? (i := 48) rfl)))
set_option maxRecDepth 100000 in
theorem w_249 : (.code Lib.Math.min.name Lib.Math.min.code 2 (some .int) : Cond) ∈ ALLW := List.mem_append_right _ (List.mem_append_right _ (List.mem_append_left _ (List.mem_of_getElem? (i := 49) rfl)))
set_option maxRecDepth 100000 in
theorem w_250 : (.methodLink RX3 192 yX6_at : Cond) ∈ ALLW := List.mem_append_right _ (List.mem_append_right _ (List.mem_append_left _ (List.mem_of_getElem? (i := 50) rfl)))
set_option maxRecDepth 100000 in
theorem w_251 : (.instanceMethod yX6_at : Cond) ∈ ALLW := List.mem_append_right _ (List.mem_append_right _ (List.mem_append_left _ (List.mem_of_getElem? (i := 51) rfl)))
set_option maxRecDepth 100000 in
theorem w_252 : (.selects RX6 yX6_at yX6_at : Cond) ∈ ALLW := List.mem_append_right _ (List.mem_append_right _ (List.mem_append_left _ (List.mem_of_getElem? (i := 52) rfl)))
set_option maxRecDepth 100000 in
theorem w_253 : (.code yX6_at cX6_at 2 (some .int) : Cond) ∈ ALLW := List.mem_append_right _ (List.mem_append_right _ (List.mem_append_left _ (List.mem_of_getElem? (i := 53) rfl)))
set_option maxRecDepth 100000 in
theorem w_254 : (.methodLink RX3 202 yX3_isBlank : Cond) ∈ ALLW := List.mem_append_right _ (List.mem_append_right _ (List.mem_append_left _ (List.mem_of_getElem? (i := 54) rfl)))
set_option maxRecDepth 100000 in
theorem w_255 : (.static yX3_isBlank : Cond) ∈ ALLW := List.mem_append_right _ (List.mem_append_right _ (List.mem_append_left _ (List.mem_of_getElem? (i := 55) rfl)))
set_option maxRecDepth 100000 in
theorem w_256 : (.code yX3_isBlank cX3_isBlank 1 (some .boolean) : Cond) ∈ ALLW := List.mem_append_right _ (List.mem_append_right _ (List.mem_append_left _ (List.mem_of_getElem? (i := 56) rfl)))
set_option maxRecDepth 100000 in
theorem w_257 : (.methodLink RX3 205 yX3_isSmall : Cond) ∈ ALLW := List.mem_append_right _ (List.mem_append_right _ (List.mem_append_left _ (List.mem_of_getElem? (i := 57) rfl)))
set_option maxRecDepth 100000 in
theorem w_258 : (.static yX3_isSmall : Cond) ∈ ALLW := List.mem_append_right _ (List.mem_append_right _ (List.mem_append_left _ (List.mem_of_getElem? (i := 58) rfl)))
set_option maxRecDepth 100000 in
theorem w_259 : (.code yX3_isSmall cX3_isSmall 1 (some .boolean) : Cond) ∈ ALLW := List.mem_append_right _ (List.mem_append_right _ (List.mem_append_left _ (List.mem_of_getElem? (i := 59) rfl)))
set_option maxRecDepth 100000 in
theorem w_260 : (.methodLink RX3 208 yX3_isDigit : Cond) ∈ ALLW := List.mem_append_right _ (List.mem_append_right _ (List.mem_append_left _ (List.mem_of_getElem? (i := 60) rfl)))
set_option maxRecDepth 100000 in
theorem w_261 : (.static yX3_isDigit : Cond) ∈ ALLW := List.mem_append_right _ (List.mem_append_right _ (List.mem_append_left _ (List.mem_of_getElem? (i := 61) rfl)))
set_option maxRecDepth 100000 in
theorem w_262 : (.code yX3_isDigit cX3_isDigit 1 (some .boolean) : Cond) ∈ ALLW := List.mem_append_right _ (List.mem_append_right _ (List.mem_append_left _ (List.mem_of_getElem? (i := 62) rfl)))
set_option maxRecDepth 100000 in
theorem w_263 : (.methodLink RX3 49 yX3_readLine : Cond) ∈ ALLW := List.mem_append_right _ (List.mem_append_right _ (List.mem_append_left _ (List.mem_of_getElem? (i := 63) rfl)))
set_option maxRecDepth 100000 in
theorem w_264 : (.instanceMethod yX3_readLine : Cond) ∈ ALLW := List.mem_append_right _ (List.mem_append_right _ (List.mem_append_left _ (List.mem_of_getElem? (i := 64) rfl)))
set_option maxRecDepth 100000 in
theorem w_265 : (.selects RX3 yX3_readLine yX3_readLine : Cond) ∈ ALLW := List.mem_append_right _ (List.mem_append_right _ (List.mem_append_left _ (List.mem_of_getElem? (i := 65) rfl)))
set_option maxRecDepth 100000 in
theorem w_266 : (.code yX3_readLine cX3_readLine 1 (some .boolean) : Cond) ∈ ALLW := List.mem_append_right _ (List.mem_append_right _ (List.mem_append_left _ (List.mem_of_getElem? (i := 66) rfl)))
set_option maxRecDepth 100000 in
theorem w_267 : (.methodLink RX3 60 yX3_readTown : Cond) ∈ ALLW := List.mem_append_right _ (List.mem_append_right _ (List.mem_append_left _ (List.mem_of_getElem? (i := 67) rfl)))
set_option maxRecDepth 100000 in
theorem w_268 : (.instanceMethod yX3_readTown : Cond) ∈ ALLW := List.mem_append_right _ (List.mem_append_right _ (List.mem_append_left _ (List.mem_of_getElem? (i := 68) rfl)))
set_option maxRecDepth 100000 in
theorem w_269 : (.selects RX3 yX3_readTown yX3_readTown : Cond) ∈ ALLW := List.mem_append_right _ (List.mem_append_right _ (List.mem_append_left _ (List.mem_of_getElem? (i := 69) rfl)))
set_option maxRecDepth 100000 in
theorem w_270 : (.code yX3_readTown cX3_readTown 1 (some .boolean) : Cond) ∈ ALLW := List.mem_append_right _ (List.mem_append_right _ (List.mem_append_left _ (List.mem_of_getElem? (i := 70) rfl)))
set_option maxRecDepth 100000 in
theorem w_271 : (.fieldLink RX3 92 "OldestFirst$Town" "days" "I" : Cond) ∈ ALLW := List.mem_append_right _ (List.mem_append_right _ (List.mem_append_left _ (List.mem_of_getElem? (i := 71) rfl)))
set_option maxRecDepth 100000 in
theorem w_272 : (.fieldLink RX3 96 "OldestFirst$Town" "post" "I" : Cond) ∈ ALLW := List.mem_append_right _ (List.mem_append_right _ (List.mem_append_left _ (List.mem_of_getElem? (i := 72) rfl)))
set_option maxRecDepth 100000 in
theorem w_273 : (.fieldLink RX3 98 "OldestFirst$Town" "seed" "I" : Cond) ∈ ALLW := List.mem_append_right _ (List.mem_append_right _ (List.mem_append_left _ (List.mem_of_getElem? (i := 73) rfl)))
set_option maxRecDepth 100000 in
theorem w_274 : (.methodLink RX3 83 yX3_takeWord : Cond) ∈ ALLW := List.mem_append_right _ (List.mem_append_right _ (List.mem_append_left _ (List.mem_of_getElem? (i := 74) rfl)))
set_option maxRecDepth 100000 in
theorem w_275 : (.instanceMethod yX3_takeWord : Cond) ∈ ALLW := List.mem_append_right _ (List.mem_append_right _ (List.mem_append_left _ (List.mem_of_getElem? (i := 75) rfl)))
set_option maxRecDepth 100000 in
theorem w_276 : (.selects RX3 yX3_takeWord yX3_takeWord : Cond) ∈ ALLW := List.mem_append_right _ (List.mem_append_right _ (List.mem_append_left _ (List.mem_of_getElem? (i := 76) rfl)))
set_option maxRecDepth 100000 in
theorem w_277 : (.code yX3_takeWord cX3_takeWord 2 (some .boolean) : Cond) ∈ ALLW := List.mem_append_right _ (List.mem_append_right _ (List.mem_append_left _ (List.mem_of_getElem? (i := 77) rfl)))
set_option maxRecDepth 100000 in
theorem w_278 : (.methodLink RX3 65 yX3_isWord : Cond) ∈ ALLW := List.mem_append_right _ (List.mem_append_right _ (List.mem_append_left _ (List.mem_of_getElem? (i := 78) rfl)))
set_option maxRecDepth 100000 in
theorem w_279 : (.instanceMethod yX3_isWord : Cond) ∈ ALLW := List.mem_append_right _ (List.mem_append_right _ (List.mem_append_left _ (List.mem_of_getElem? (i := 79) rfl)))
set_option maxRecDepth 100000 in
theorem w_280 : (.selects RX3 yX3_isWord yX3_isWord : Cond) ∈ ALLW := List.mem_append_right _ (List.mem_append_right _ (List.mem_append_left _ (List.mem_of_getElem? (i := 80) rfl)))
set_option maxRecDepth 100000 in
theorem w_281 : (.code yX3_isWord cX3_isWord 3 (some .boolean) : Cond) ∈ ALLW := List.mem_append_right _ (List.mem_append_right _ (List.mem_append_left _ (List.mem_of_getElem? (i := 81) rfl)))
set_option maxRecDepth 100000 in
theorem w_282 : (.methodLink RX3 187 yJ0_length_8abf5 : Cond) ∈ ALLW := List.mem_append_right _ (List.mem_append_right _ (List.mem_append_left _ (List.mem_of_getElem? (i := 82) rfl)))
set_option maxRecDepth 100000 in
theorem w_283 : (.instanceMethod yJ0_length_8abf5 : Cond) ∈ ALLW := List.mem_append_right _ (List.mem_append_right _ (List.mem_append_left _ (List.mem_of_getElem? (i := 83) rfl)))
set_option maxRecDepth 100000 in
theorem w_284 : (.selects RJ0 yJ0_length_8abf5 yJ0_length_8abf5 : Cond) ∈ ALLW := List.mem_append_right _ (List.mem_append_right _ (List.mem_append_left _ (List.mem_of_getElem? (i := 84) rfl)))
set_option maxRecDepth 100000 in
theorem w_285 : (.initialized RJ0 : Cond) ∈ ALLW := List.mem_append_right _ (List.mem_append_right _ (List.mem_append_left _ (List.mem_of_getElem? (i := 85) rfl)))
set_option maxRecDepth 100000 in
theorem w_286 : (.code yJ0_length_8abf5 cJ0_length_8abf5 1 (some .int) : Cond) ∈ ALLW := List.mem_append_right _ (List.mem_append_right _ (List.mem_append_left _ (List.mem_of_getElem? (i := 86) rfl)))
set_option maxRecDepth 100000 in
theorem w_287 : (.fieldLink RJ0 9 "java/lang/String" "value" "[B" : Cond) ∈ ALLW := List.mem_append_right _ (List.mem_append_right _ (List.mem_append_left _ (List.mem_of_getElem? (i := 87) rfl)))
set_option maxRecDepth 100000 in
theorem w_288 : (.methodLink RJ0 335 yJ0_coder_7d493 : Cond) ∈ ALLW := List.mem_append_right _ (List.mem_append_right _ (List.mem_append_left _ (List.mem_of_getElem? (i := 88) rfl)))
set_option maxRecDepth 100000 in
theorem w_289 : (.instanceMethod yJ0_coder_7d493 : Cond) ∈ ALLW := List.mem_append_right _ (List.mem_append_right _ (List.mem_append_left _ (List.mem_of_getElem? (i := 89) rfl)))
set_option maxRecDepth 100000 in
theorem w_290 : (.selects RJ0 yJ0_coder_7d493 yJ0_coder_7d493 : Cond) ∈ ALLW := List.mem_append_right _ (List.mem_append_right _ (List.mem_append_left _ (List.mem_of_getElem? (i := 90) rfl)))
set_option maxRecDepth 100000 in
theorem w_291 : (.code yJ0_coder_7d493 cJ0_coder_7d493 1 (some .byte) : Cond) ∈ ALLW := List.mem_append_right _ (List.mem_append_right _ (List.mem_append_left _ (List.mem_of_getElem? (i := 91) rfl)))
set_option maxRecDepth 100000 in
theorem w_292 : (.fieldLink RJ0 38 "java/lang/String" "COMPACT_STRINGS" "Z" : Cond) ∈ ALLW := List.mem_append_right _ (List.mem_append_right _ (List.mem_append_left _ (List.mem_of_getElem? (i := 92) rfl)))
set_option maxRecDepth 100000 in
theorem w_293 : (.fieldLink RJ0 15 "java/lang/String" "coder" "B" : Cond) ∈ ALLW := List.mem_append_right _ (List.mem_append_right _ (List.mem_append_left _ (List.mem_of_getElem? (i := 93) rfl)))
set_option maxRecDepth 100000 in
theorem w_294 : (.methodLink RX3 196 yJ0_charAt_5068e : Cond) ∈ ALLW := List.mem_append_right _ (List.mem_append_right _ (List.mem_append_left _ (List.mem_of_getElem? (i := 94) rfl)))
set_option maxRecDepth 100000 in
theorem w_295 : (.instanceMethod yJ0_charAt_5068e : Cond) ∈ ALLW := List.mem_append_right _ (List.mem_append_right _ (List.mem_append_left _ (List.mem_of_getElem? (i := 95) rfl)))
set_option maxRecDepth 100000 in
theorem w_296 : (.selects RJ0 yJ0_charAt_5068e yJ0_charAt_5068e : Cond) ∈ ALLW := List.mem_append_right _ (List.mem_append_right _ (List.mem_append_left _ (List.mem_of_getElem? (i := 96) rfl)))
set_option maxRecDepth 100000 in
theorem w_297 : (.code yJ0_charAt_5068e cJ0_charAt_5068e 2 (some .char) : Cond) ∈ ALLW := List.mem_append_right _ (List.mem_append_right _ (List.mem_append_left _ (List.mem_of_getElem? (i := 97) rfl)))
set_option maxRecDepth 100000 in
theorem w_298 : (.methodLink RJ0 492 yJ0_isLatin1_aae02 : Cond) ∈ ALLW := List.mem_append_right _ (List.mem_append_right _ (List.mem_append_left _ (List.mem_of_getElem? (i := 98) rfl)))
set_option maxRecDepth 100000 in
theorem w_299 : (.instanceMethod yJ0_isLatin1_aae02 : Cond) ∈ ALLW := List.mem_append_right _ (List.mem_append_right _ (List.mem_append_left _ (List.mem_of_getElem? (i := 99) rfl)))
set_option maxRecDepth 100000 in
theorem w_300 : (.selects RJ0 yJ0_isLatin1_aae02 yJ0_isLatin1_aae02 : Cond) ∈ ALLW := List.mem_append_right _ (List.mem_append_right _ (List.mem_append_right _ (List.mem_append_left _ (List.mem_of_getElem? (i := 0) rfl))))
set_option maxRecDepth 100000 in
theorem w_301 : (.code yJ0_isLatin1_aae02 cJ0_isLatin1_aae02 1 (some .boolean) : Cond) ∈ ALLW := List.mem_append_right _ (List.mem_append_right _ (List.mem_append_right _ (List.mem_append_left _ (List.mem_of_getElem? (i := 1) rfl))))
set_option maxRecDepth 100000 in
theorem w_302 : (.methodLink RJ0 495 yJ1_charAt_3b067 : Cond) ∈ ALLW := List.mem_append_right _ (List.mem_append_right _ (List.mem_append_right _ (List.mem_append_left _ (List.mem_of_getElem? (i := 2) rfl))))
set_option maxRecDepth 100000 in
theorem w_303 : (.static yJ1_charAt_3b067 : Cond) ∈ ALLW := List.mem_append_right _ (List.mem_append_right _ (List.mem_append_right _ (List.mem_append_left _ (List.mem_of_getElem? (i := 3) rfl))))
set_option maxRecDepth 100000 in
theorem w_304 : (.initialized RJ1 : Cond) ∈ ALLW := List.mem_append_right _ (List.mem_append_right _ (List.mem_append_right _ (List.mem_append_left _ (List.mem_of_getElem? (i := 4) rfl))))
set_option maxRecDepth 100000 in
theorem w_305 : (.code yJ1_charAt_3b067 cJ1_charAt_3b067 2 (some .char) : Cond) ∈ ALLW := List.mem_append_right _ (List.mem_append_right _ (List.mem_append_right _ (List.mem_append_left _ (List.mem_of_getElem? (i := 5) rfl))))
set_option maxRecDepth 100000 in
theorem w_306 : (.methodLink RJ1 9 yJ0_checkIndex_df160 : Cond) ∈ ALLW := List.mem_append_right _ (List.mem_append_right _ (List.mem_append_right _ (List.mem_append_left _ (List.mem_of_getElem? (i := 6) rfl))))
set_option maxRecDepth 100000 in
theorem w_307 : (.static yJ0_checkIndex_df160 : Cond) ∈ ALLW := List.mem_append_right _ (List.mem_append_right _ (List.mem_append_right _ (List.mem_append_left _ (List.mem_of_getElem? (i := 7) rfl))))
set_option maxRecDepth 100000 in
theorem w_308 : (.code yJ0_checkIndex_df160 cJ0_checkIndex_df160 2 none : Cond) ∈ ALLW := List.mem_append_right _ (List.mem_append_right _ (List.mem_append_right _ (List.mem_append_left _ (List.mem_of_getElem? (i := 8) rfl))))
set_option maxRecDepth 100000 in
theorem w_309 : (.fieldLink RJ0 1053 "jdk/internal/util/Preconditions" "SIOOBE_FORMATTER" "Ljava/util/function/BiFunction;" : Cond) ∈ ALLW := List.mem_append_right _ (List.mem_append_right _ (List.mem_append_right _ (List.mem_append_left _ (List.mem_of_getElem? (i := 9) rfl))))
set_option maxRecDepth 100000 in
theorem w_310 : (.methodLink RJ0 1059 yJ3_checkIndex_8e157 : Cond) ∈ ALLW := List.mem_append_right _ (List.mem_append_right _ (List.mem_append_right _ (List.mem_append_left _ (List.mem_of_getElem? (i := 10) rfl))))
set_option maxRecDepth 100000 in
theorem w_311 : (.static yJ3_checkIndex_8e157 : Cond) ∈ ALLW := List.mem_append_right _ (List.mem_append_right _ (List.mem_append_right _ (List.mem_append_left _ (List.mem_of_getElem? (i := 11) rfl))))
set_option maxRecDepth 100000 in
theorem w_312 : (.initialized RJ3 : Cond) ∈ ALLW := List.mem_append_right _ (List.mem_append_right _ (List.mem_append_right _ (List.mem_append_left _ (List.mem_of_getElem? (i := 12) rfl))))
set_option maxRecDepth 100000 in
theorem w_313 : (.code yJ3_checkIndex_8e157 cJ3_checkIndex_8e157 3 (some .int) : Cond) ∈ ALLW := List.mem_append_right _ (List.mem_append_right _ (List.mem_append_right _ (List.mem_append_left _ (List.mem_of_getElem? (i := 13) rfl))))
set_option maxRecDepth 100000 in
theorem w_331 : (.methodLink RX3 53 yX3_fail : Cond) ∈ ALLW := List.mem_append_right _ (List.mem_append_right _ (List.mem_append_right _ (List.mem_append_left _ (List.mem_of_getElem? (i := 31) rfl))))
set_option maxRecDepth 100000 in
theorem w_332 : (.instanceMethod yX3_fail : Cond) ∈ ALLW := List.mem_append_right _ (List.mem_append_right _ (List.mem_append_right _ (List.mem_append_left _ (List.mem_of_getElem? (i := 32) rfl))))
set_option maxRecDepth 100000 in
theorem w_333 : (.selects RX3 yX3_fail yX3_fail : Cond) ∈ ALLW := List.mem_append_right _ (List.mem_append_right _ (List.mem_append_right _ (List.mem_append_left _ (List.mem_of_getElem? (i := 33) rfl))))
set_option maxRecDepth 100000 in
theorem w_334 : (.code yX3_fail cX3_fail 2 (some .boolean) : Cond) ∈ ALLW := List.mem_append_right _ (List.mem_append_right _ (List.mem_append_right _ (List.mem_append_left _ (List.mem_of_getElem? (i := 34) rfl))))
set_option maxRecDepth 100000 in
theorem w_335 : (.methodLink RX3 88 yX3_takeNumber : Cond) ∈ ALLW := List.mem_append_right _ (List.mem_append_right _ (List.mem_append_right _ (List.mem_append_left _ (List.mem_of_getElem? (i := 35) rfl))))
set_option maxRecDepth 100000 in
theorem w_336 : (.instanceMethod yX3_takeNumber : Cond) ∈ ALLW := List.mem_append_right _ (List.mem_append_right _ (List.mem_append_right _ (List.mem_append_left _ (List.mem_of_getElem? (i := 36) rfl))))
set_option maxRecDepth 100000 in
theorem w_337 : (.selects RX3 yX3_takeNumber yX3_takeNumber : Cond) ∈ ALLW := List.mem_append_right _ (List.mem_append_right _ (List.mem_append_right _ (List.mem_append_left _ (List.mem_of_getElem? (i := 37) rfl))))
set_option maxRecDepth 100000 in
theorem w_338 : (.code yX3_takeNumber cX3_takeNumber 3 (some .boolean) : Cond) ∈ ALLW := List.mem_append_right _ (List.mem_append_right _ (List.mem_append_right _ (List.mem_append_left _ (List.mem_of_getElem? (i := 38) rfl))))
set_option maxRecDepth 100000 in
theorem w_339 : (.methodLink RX3 69 yX3_readPerson : Cond) ∈ ALLW := List.mem_append_right _ (List.mem_append_right _ (List.mem_append_right _ (List.mem_append_left _ (List.mem_of_getElem? (i := 39) rfl))))
set_option maxRecDepth 100000 in
theorem w_340 : (.instanceMethod yX3_readPerson : Cond) ∈ ALLW := List.mem_append_right _ (List.mem_append_right _ (List.mem_append_right _ (List.mem_append_left _ (List.mem_of_getElem? (i := 40) rfl))))
set_option maxRecDepth 100000 in
theorem w_341 : (.selects RX3 yX3_readPerson yX3_readPerson : Cond) ∈ ALLW := List.mem_append_right _ (List.mem_append_right _ (List.mem_append_right _ (List.mem_append_left _ (List.mem_of_getElem? (i := 41) rfl))))
set_option maxRecDepth 100000 in
theorem w_342 : (.code yX3_readPerson cX3_readPerson 3 (some .boolean) : Cond) ∈ ALLW := List.mem_append_right _ (List.mem_append_right _ (List.mem_append_right _ (List.mem_append_left _ (List.mem_of_getElem? (i := 42) rfl))))
set_option maxRecDepth 100000 in
theorem w_343 : (.fieldLink RX3 101 "OldestFirst$Town" "people" "I" : Cond) ∈ ALLW := List.mem_append_right _ (List.mem_append_right _ (List.mem_append_right _ (List.mem_append_left _ (List.mem_of_getElem? (i := 43) rfl))))
set_option maxRecDepth 100000 in
theorem w_344 : (.fieldLink RX3 106 "OldestFirst$Town" "hours" "[I" : Cond) ∈ ALLW := List.mem_append_right _ (List.mem_append_right _ (List.mem_append_right _ (List.mem_append_left _ (List.mem_of_getElem? (i := 44) rfl))))
set_option maxRecDepth 100000 in
theorem w_345 : (.fieldLink RX3 113 "OldestFirst$Town" "kind" "[I" : Cond) ∈ ALLW := List.mem_append_right _ (List.mem_append_right _ (List.mem_append_right _ (List.mem_append_left _ (List.mem_of_getElem? (i := 45) rfl))))
set_option maxRecDepth 100000 in
theorem w_346 : (.fieldLink RX3 116 "OldestFirst$Town" "master" "[I" : Cond) ∈ ALLW := List.mem_append_right _ (List.mem_append_right _ (List.mem_append_right _ (List.mem_append_left _ (List.mem_of_getElem? (i := 46) rfl))))
set_option maxRecDepth 100000 in
theorem w_347 : (.methodLink RX3 109 yX3_kindTold : Cond) ∈ ALLW := List.mem_append_right _ (List.mem_append_right _ (List.mem_append_right _ (List.mem_append_left _ (List.mem_of_getElem? (i := 47) rfl))))
set_option maxRecDepth 100000 in
theorem w_348 : (.instanceMethod yX3_kindTold : Cond) ∈ ALLW := List.mem_append_right _ (List.mem_append_right _ (List.mem_append_right _ (List.mem_append_left _ (List.mem_of_getElem? (i := 48) rfl))))
set_option maxRecDepth 100000 in
theorem w_349 : (.selects RX3 yX3_kindTold yX3_kindTold : Cond) ∈ ALLW := List.mem_append_right _ (List.mem_append_right _ (List.mem_append_right _ (List.mem_append_left _ (List.mem_of_getElem? (i := 49) rfl))))
set_option maxRecDepth 100000 in
theorem w_350 : (.code yX3_kindTold cX3_kindTold 1 (some .int) : Cond) ∈ ALLW := List.mem_append_right _ (List.mem_append_right _ (List.mem_append_right _ (List.mem_append_left _ (List.mem_of_getElem? (i := 50) rfl))))
set_option maxRecDepth 100000 in
theorem w_351 : (.methodLink RX3 74 yX3_readLetter : Cond) ∈ ALLW := List.mem_append_right _ (List.mem_append_right _ (List.mem_append_right _ (List.mem_append_left _ (List.mem_of_getElem? (i := 51) rfl))))
set_option maxRecDepth 100000 in
theorem w_352 : (.instanceMethod yX3_readLetter : Cond) ∈ ALLW := List.mem_append_right _ (List.mem_append_right _ (List.mem_append_right _ (List.mem_append_left _ (List.mem_of_getElem? (i := 52) rfl))))
set_option maxRecDepth 100000 in
theorem w_353 : (.selects RX3 yX3_readLetter yX3_readLetter : Cond) ∈ ALLW := List.mem_append_right _ (List.mem_append_right _ (List.mem_append_right _ (List.mem_append_left _ (List.mem_of_getElem? (i := 53) rfl))))
set_option maxRecDepth 100000 in
theorem w_354 : (.code yX3_readLetter cX3_readLetter 2 (some .boolean) : Cond) ∈ ALLW := List.mem_append_right _ (List.mem_append_right _ (List.mem_append_right _ (List.mem_append_left _ (List.mem_of_getElem? (i := 54) rfl))))
set_option maxRecDepth 100000 in
theorem w_355 : (.fieldLink RX3 129 "OldestFirst$Town" "letters" "I" : Cond) ∈ ALLW := List.mem_append_right _ (List.mem_append_right _ (List.mem_append_right _ (List.mem_append_left _ (List.mem_of_getElem? (i := 55) rfl))))
set_option maxRecDepth 100000 in
theorem w_356 : (.fieldLink RX3 135 "OldestFirst$Town" "from" "[I" : Cond) ∈ ALLW := List.mem_append_right _ (List.mem_append_right _ (List.mem_append_right _ (List.mem_append_left _ (List.mem_of_getElem? (i := 56) rfl))))
set_option maxRecDepth 100000 in
theorem w_357 : (.fieldLink RX3 140 "OldestFirst$Town" "to" "[I" : Cond) ∈ ALLW := List.mem_append_right _ (List.mem_append_right _ (List.mem_append_right _ (List.mem_append_left _ (List.mem_of_getElem? (i := 57) rfl))))
set_option maxRecDepth 100000 in
theorem w_358 : (.fieldLink RX3 144 "OldestFirst$Town" "on" "[I" : Cond) ∈ ALLW := List.mem_append_right _ (List.mem_append_right _ (List.mem_append_right _ (List.mem_append_left _ (List.mem_of_getElem? (i := 58) rfl))))
set_option maxRecDepth 100000 in
theorem w_359 : (.fieldLink RX3 146 "OldestFirst$Town" "told" "[I" : Cond) ∈ ALLW := List.mem_append_right _ (List.mem_append_right _ (List.mem_append_right _ (List.mem_append_left _ (List.mem_of_getElem? (i := 59) rfl))))
set_option maxRecDepth 100000 in
theorem w_360 : (.methodLink RX3 132 yX3_takePerson : Cond) ∈ ALLW := List.mem_append_right _ (List.mem_append_right _ (List.mem_append_right _ (List.mem_append_left _ (List.mem_of_getElem? (i := 60) rfl))))
set_option maxRecDepth 100000 in
theorem w_361 : (.instanceMethod yX3_takePerson : Cond) ∈ ALLW := List.mem_append_right _ (List.mem_append_right _ (List.mem_append_right _ (List.mem_append_left _ (List.mem_of_getElem? (i := 61) rfl))))
set_option maxRecDepth 100000 in
theorem w_362 : (.selects RX3 yX3_takePerson yX3_takePerson : Cond) ∈ ALLW := List.mem_append_right _ (List.mem_append_right _ (List.mem_append_right _ (List.mem_append_left _ (List.mem_of_getElem? (i := 62) rfl))))
set_option maxRecDepth 100000 in
theorem w_363 : (.code yX3_takePerson cX3_takePerson 2 (some .boolean) : Cond) ∈ ALLW := List.mem_append_right _ (List.mem_append_right _ (List.mem_append_right _ (List.mem_append_left _ (List.mem_of_getElem? (i := 63) rfl))))
set_option maxRecDepth 100000 in
theorem w_364 : (.methodLink RX3 149 yX3_readWishes : Cond) ∈ ALLW := List.mem_append_right _ (List.mem_append_right _ (List.mem_append_right _ (List.mem_append_left _ (List.mem_of_getElem? (i := 64) rfl))))
set_option maxRecDepth 100000 in
theorem w_365 : (.instanceMethod yX3_readWishes : Cond) ∈ ALLW := List.mem_append_right _ (List.mem_append_right _ (List.mem_append_right _ (List.mem_append_left _ (List.mem_of_getElem? (i := 65) rfl))))
set_option maxRecDepth 100000 in
theorem w_366 : (.selects RX3 yX3_readWishes yX3_readWishes : Cond) ∈ ALLW := List.mem_append_right _ (List.mem_append_right _ (List.mem_append_right _ (List.mem_append_left _ (List.mem_of_getElem? (i := 66) rfl))))
set_option maxRecDepth 100000 in
theorem w_367 : (.code yX3_readWishes cX3_readWishes 2 (some .boolean) : Cond) ∈ ALLW := List.mem_append_right _ (List.mem_append_right _ (List.mem_append_right _ (List.mem_append_left _ (List.mem_of_getElem? (i := 67) rfl))))
set_option maxRecDepth 100000 in
theorem w_368 : (.fieldLink RX3 160 "OldestFirst$Town" "after" "[I" : Cond) ∈ ALLW := List.mem_append_right _ (List.mem_append_right _ (List.mem_append_right _ (List.mem_append_left _ (List.mem_of_getElem? (i := 68) rfl))))
set_option maxRecDepth 100000 in
theorem w_369 : (.fieldLink RX3 164 "OldestFirst$Town" "worth" "[I" : Cond) ∈ ALLW := List.mem_append_right _ (List.mem_append_right _ (List.mem_append_right _ (List.mem_append_left _ (List.mem_of_getElem? (i := 69) rfl))))
set_option maxRecDepth 100000 in
theorem w_370 : (.fieldLink RX3 168 "OldestFirst$Town" "by" "[I" : Cond) ∈ ALLW := List.mem_append_right _ (List.mem_append_right _ (List.mem_append_right _ (List.mem_append_left _ (List.mem_of_getElem? (i := 70) rfl))))
set_option maxRecDepth 100000 in
theorem w_371 : (.methodLink RX3 154 yX7_giveBack : Cond) ∈ ALLW := List.mem_append_right _ (List.mem_append_right _ (List.mem_append_right _ (List.mem_append_left _ (List.mem_of_getElem? (i := 71) rfl))))
set_option maxRecDepth 100000 in
theorem w_372 : (.instanceMethod yX7_giveBack : Cond) ∈ ALLW := List.mem_append_right _ (List.mem_append_right _ (List.mem_append_right _ (List.mem_append_left _ (List.mem_of_getElem? (i := 72) rfl))))
set_option maxRecDepth 100000 in
theorem w_373 : (.selects RX7 yX7_giveBack yX7_giveBack : Cond) ∈ ALLW := List.mem_append_right _ (List.mem_append_right _ (List.mem_append_right _ (List.mem_append_left _ (List.mem_of_getElem? (i := 73) rfl))))
set_option maxRecDepth 100000 in
theorem w_374 : (.code yX7_giveBack cX7_giveBack 4 none : Cond) ∈ ALLW := List.mem_append_right _ (List.mem_append_right _ (List.mem_append_right _ (List.mem_append_left _ (List.mem_of_getElem? (i := 74) rfl))))
set_option maxRecDepth 100000 in
theorem w_375 : (.methodLink RX3 79 yX3_readLaw : Cond) ∈ ALLW := List.mem_append_right _ (List.mem_append_right _ (List.mem_append_right _ (List.mem_append_left _ (List.mem_of_getElem? (i := 75) rfl))))
set_option maxRecDepth 100000 in
theorem w_376 : (.instanceMethod yX3_readLaw : Cond) ∈ ALLW := List.mem_append_right _ (List.mem_append_right _ (List.mem_append_right _ (List.mem_append_left _ (List.mem_of_getElem? (i := 76) rfl))))
set_option maxRecDepth 100000 in
theorem w_377 : (.selects RX3 yX3_readLaw yX3_readLaw : Cond) ∈ ALLW := List.mem_append_right _ (List.mem_append_right _ (List.mem_append_right _ (List.mem_append_left _ (List.mem_of_getElem? (i := 77) rfl))))
set_option maxRecDepth 100000 in
theorem w_378 : (.code yX3_readLaw cX3_readLaw 2 (some .boolean) : Cond) ∈ ALLW := List.mem_append_right _ (List.mem_append_right _ (List.mem_append_right _ (List.mem_append_left _ (List.mem_of_getElem? (i := 78) rfl))))
set_option maxRecDepth 100000 in
theorem w_379 : (.fieldLink RX3 170 "OldestFirst$Town" "lawTold" "Z" : Cond) ∈ ALLW := List.mem_append_right _ (List.mem_append_right _ (List.mem_append_right _ (List.mem_append_left _ (List.mem_of_getElem? (i := 79) rfl))))
set_option maxRecDepth 100000 in
theorem w_380 : (.fieldLink RX3 177 "OldestFirst$Town" "law" "I" : Cond) ∈ ALLW := List.mem_append_right _ (List.mem_append_right _ (List.mem_append_right _ (List.mem_append_left _ (List.mem_of_getElem? (i := 80) rfl))))
set_option maxRecDepth 100000 in
theorem w_381 : (.methodLink RX3 174 yX3_lawNamed : Cond) ∈ ALLW := List.mem_append_right _ (List.mem_append_right _ (List.mem_append_right _ (List.mem_append_left _ (List.mem_of_getElem? (i := 81) rfl))))
set_option maxRecDepth 100000 in
theorem w_382 : (.instanceMethod yX3_lawNamed : Cond) ∈ ALLW := List.mem_append_right _ (List.mem_append_right _ (List.mem_append_right _ (List.mem_append_left _ (List.mem_of_getElem? (i := 82) rfl))))
set_option maxRecDepth 100000 in
theorem w_383 : (.selects RX3 yX3_lawNamed yX3_lawNamed : Cond) ∈ ALLW := List.mem_append_right _ (List.mem_append_right _ (List.mem_append_right _ (List.mem_append_left _ (List.mem_of_getElem? (i := 83) rfl))))
set_option maxRecDepth 100000 in
theorem w_384 : (.code yX3_lawNamed cX3_lawNamed 1 (some .int) : Cond) ∈ ALLW := List.mem_append_right _ (List.mem_append_right _ (List.mem_append_right _ (List.mem_append_left _ (List.mem_of_getElem? (i := 84) rfl))))
set_option maxRecDepth 100000 in
theorem w_385 : (.methodLink RX8 112 yX7_copyFrom : Cond) ∈ ALLW := List.mem_append_right _ (List.mem_append_right _ (List.mem_append_right _ (List.mem_append_left _ (List.mem_of_getElem? (i := 85) rfl))))
set_option maxRecDepth 100000 in
theorem w_386 : (.instanceMethod yX7_copyFrom : Cond) ∈ ALLW := List.mem_append_right _ (List.mem_append_right _ (List.mem_append_right _ (List.mem_append_left _ (List.mem_of_getElem? (i := 86) rfl))))
set_option maxRecDepth 100000 in
theorem w_387 : (.selects RX7 yX7_copyFrom yX7_copyFrom : Cond) ∈ ALLW := List.mem_append_right _ (List.mem_append_right _ (List.mem_append_right _ (List.mem_append_left _ (List.mem_of_getElem? (i := 87) rfl))))
set_option maxRecDepth 100000 in
theorem w_388 : (.code yX7_copyFrom cX7_copyFrom 2 none : Cond) ∈ ALLW := List.mem_append_right _ (List.mem_append_right _ (List.mem_append_right _ (List.mem_append_left _ (List.mem_of_getElem? (i := 88) rfl))))
set_option maxRecDepth 100000 in
theorem w_389 : (.methodLink RX7 77 arraycopyName : Cond) ∈ ALLW := List.mem_append_right _ (List.mem_append_right _ (List.mem_append_right _ (List.mem_append_left _ (List.mem_of_getElem? (i := 89) rfl))))
set_option maxRecDepth 100000 in
theorem w_390 : (.native arraycopyName : Cond) ∈ ALLW := List.mem_append_right _ (List.mem_append_right _ (List.mem_append_right _ (List.mem_append_left _ (List.mem_of_getElem? (i := 90) rfl))))
set_option maxRecDepth 100000 in
theorem w_391 : (.static arraycopyName : Cond) ∈ ALLW := List.mem_append_right _ (List.mem_append_right _ (List.mem_append_right _ (List.mem_append_left _ (List.mem_of_getElem? (i := 91) rfl))))
set_option maxRecDepth 100000 in
theorem w_392 : (.initialized "java/lang/System" : Cond) ∈ ALLW := List.mem_append_right _ (List.mem_append_right _ (List.mem_append_right _ (List.mem_append_left _ (List.mem_of_getElem? (i := 92) rfl))))
set_option maxRecDepth 100000 in
theorem w_393 : (.methodLink RX8 116 yX8_changed : Cond) ∈ ALLW := List.mem_append_right _ (List.mem_append_right _ (List.mem_append_right _ (List.mem_append_left _ (List.mem_of_getElem? (i := 93) rfl))))
set_option maxRecDepth 100000 in
theorem w_394 : (.instanceMethod yX8_changed : Cond) ∈ ALLW := List.mem_append_right _ (List.mem_append_right _ (List.mem_append_right _ (List.mem_append_left _ (List.mem_of_getElem? (i := 94) rfl))))
set_option maxRecDepth 100000 in
theorem w_395 : (.selects RX8 yX8_changed yX8_changed : Cond) ∈ ALLW := List.mem_append_right _ (List.mem_append_right _ (List.mem_append_right _ (List.mem_append_left _ (List.mem_of_getElem? (i := 95) rfl))))
set_option maxRecDepth 100000 in
theorem w_396 : (.code yX8_changed cX8_changed 1 none : Cond) ∈ ALLW := List.mem_append_right _ (List.mem_append_right _ (List.mem_append_right _ (List.mem_append_left _ (List.mem_of_getElem? (i := 96) rfl))))
set_option maxRecDepth 100000 in
theorem w_397 : (.fieldLink RX8 351 "OldestFirst$Orders" "known" "Z" : Cond) ∈ ALLW := List.mem_append_right _ (List.mem_append_right _ (List.mem_append_right _ (List.mem_append_left _ (List.mem_of_getElem? (i := 97) rfl))))
set_option maxRecDepth 100000 in
theorem w_398 : (.methodLink RL 27 yX9_town : Cond) ∈ ALLW := List.mem_append_right _ (List.mem_append_right _ (List.mem_append_right _ (List.mem_append_left _ (List.mem_of_getElem? (i := 98) rfl))))
set_option maxRecDepth 100000 in
theorem w_399 : (.instanceMethod yX9_town : Cond) ∈ ALLW := List.mem_append_right _ (List.mem_append_right _ (List.mem_append_right _ (List.mem_append_left _ (List.mem_of_getElem? (i := 99) rfl))))
set_option maxRecDepth 100000 in
theorem w_400 : (.selects RX9 yX9_town yX9_town : Cond) ∈ ALLW := List.mem_append_right _ (List.mem_append_right _ (List.mem_append_right _ (List.mem_append_right _ (List.mem_append_left _ (List.mem_of_getElem? (i := 0) rfl)))))
set_option maxRecDepth 100000 in
theorem w_401 : (.code yX9_town cX9_town 1 (some .int) : Cond) ∈ ALLW := List.mem_append_right _ (List.mem_append_right _ (List.mem_append_right _ (List.mem_append_right _ (List.mem_append_left _ (List.mem_of_getElem? (i := 1) rfl)))))
set_option maxRecDepth 100000 in
theorem w_402 : (.fieldLink RX9 136 "OldestFirstModel" "token" "I" : Cond) ∈ ALLW := List.mem_append_right _ (List.mem_append_right _ (List.mem_append_right _ (List.mem_append_right _ (List.mem_append_left _ (List.mem_of_getElem? (i := 2) rfl)))))
set_option maxRecDepth 100000 in
theorem w_403 : (.constantLong RX9 247 (405230) : Cond) ∈ ALLW := List.mem_append_right _ (List.mem_append_right _ (List.mem_append_right _ (List.mem_append_right _ (List.mem_append_left _ (List.mem_of_getElem? (i := 3) rfl)))))
set_option maxRecDepth 100000 in
theorem w_404 : (.constantLong RX9 249 (80155) : Cond) ∈ ALLW := List.mem_append_right _ (List.mem_append_right _ (List.mem_append_right _ (List.mem_append_right _ (List.mem_append_left _ (List.mem_of_getElem? (i := 4) rfl)))))
set_option maxRecDepth 100000 in
theorem w_405 : (.constantLong RX9 251 (326396) : Cond) ∈ ALLW := List.mem_append_right _ (List.mem_append_right _ (List.mem_append_right _ (List.mem_append_right _ (List.mem_append_left _ (List.mem_of_getElem? (i := 5) rfl)))))
set_option maxRecDepth 100000 in
theorem w_406 : (.fieldLink RX9 147 "OldestFirstModel" "bad" "I" : Cond) ∈ ALLW := List.mem_append_right _ (List.mem_append_right _ (List.mem_append_right _ (List.mem_append_right _ (List.mem_append_left _ (List.mem_of_getElem? (i := 6) rfl)))))
set_option maxRecDepth 100000 in
theorem w_407 : (.methodLink RX9 237 yX9_clears : Cond) ∈ ALLW := List.mem_append_right _ (List.mem_append_right _ (List.mem_append_right _ (List.mem_append_right _ (List.mem_append_left _ (List.mem_of_getElem? (i := 7) rfl)))))
set_option maxRecDepth 100000 in
theorem w_408 : (.instanceMethod yX9_clears : Cond) ∈ ALLW := List.mem_append_right _ (List.mem_append_right _ (List.mem_append_right _ (List.mem_append_right _ (List.mem_append_left _ (List.mem_of_getElem? (i := 8) rfl)))))
set_option maxRecDepth 100000 in
theorem w_409 : (.selects RX9 yX9_clears yX9_clears : Cond) ∈ ALLW := List.mem_append_right _ (List.mem_append_right _ (List.mem_append_right _ (List.mem_append_right _ (List.mem_append_left _ (List.mem_of_getElem? (i := 9) rfl)))))
set_option maxRecDepth 100000 in
theorem w_410 : (.code yX9_clears cX9_clears 2 none : Cond) ∈ ALLW := List.mem_append_right _ (List.mem_append_right _ (List.mem_append_right _ (List.mem_append_right _ (List.mem_append_left _ (List.mem_of_getElem? (i := 10) rfl)))))
set_option maxRecDepth 100000 in
theorem w_411 : (.fieldLink RX9 224 "OldestFirstModel" "isLawTold" "Z" : Cond) ∈ ALLW := List.mem_append_right _ (List.mem_append_right _ (List.mem_append_right _ (List.mem_append_right _ (List.mem_append_left _ (List.mem_of_getElem? (i := 11) rfl)))))
set_option maxRecDepth 100000 in
theorem w_412 : (.methodLink RX9 240 yX9_begins : Cond) ∈ ALLW := List.mem_append_right _ (List.mem_append_right _ (List.mem_append_right _ (List.mem_append_right _ (List.mem_append_left _ (List.mem_of_getElem? (i := 12) rfl)))))
set_option maxRecDepth 100000 in
theorem w_413 : (.instanceMethod yX9_begins : Cond) ∈ ALLW := List.mem_append_right _ (List.mem_append_right _ (List.mem_append_right _ (List.mem_append_right _ (List.mem_append_left _ (List.mem_of_getElem? (i := 13) rfl)))))
set_option maxRecDepth 100000 in
theorem w_414 : (.selects RX9 yX9_begins yX9_begins : Cond) ∈ ALLW := List.mem_append_right _ (List.mem_append_right _ (List.mem_append_right _ (List.mem_append_right _ (List.mem_append_left _ (List.mem_of_getElem? (i := 14) rfl)))))
set_option maxRecDepth 100000 in
theorem w_415 : (.code yX9_begins cX9_begins 1 none : Cond) ∈ ALLW := List.mem_append_right _ (List.mem_append_right _ (List.mem_append_right _ (List.mem_append_right _ (List.mem_append_left _ (List.mem_of_getElem? (i := 15) rfl)))))
set_option maxRecDepth 100000 in
theorem w_416 : (.fieldLink RX9 150 "OldestFirstModel" "badPlace" "I" : Cond) ∈ ALLW := List.mem_append_right _ (List.mem_append_right _ (List.mem_append_right _ (List.mem_append_right _ (List.mem_append_left _ (List.mem_of_getElem? (i := 16) rfl)))))
set_option maxRecDepth 100000 in
theorem w_417 : (.fieldLink RX9 119 "OldestFirstModel" "at" "I" : Cond) ∈ ALLW := List.mem_append_right _ (List.mem_append_right _ (List.mem_append_right _ (List.mem_append_right _ (List.mem_append_left _ (List.mem_of_getElem? (i := 17) rfl)))))
set_option maxRecDepth 100000 in
theorem w_418 : (.methodLink RX9 157 yX9_next : Cond) ∈ ALLW := List.mem_append_right _ (List.mem_append_right _ (List.mem_append_right _ (List.mem_append_right _ (List.mem_append_left _ (List.mem_of_getElem? (i := 18) rfl)))))
set_option maxRecDepth 100000 in
theorem w_419 : (.instanceMethod yX9_next : Cond) ∈ ALLW := List.mem_append_right _ (List.mem_append_right _ (List.mem_append_right _ (List.mem_append_right _ (List.mem_append_left _ (List.mem_of_getElem? (i := 19) rfl)))))
set_option maxRecDepth 100000 in
theorem w_420 : (.selects RX9 yX9_next yX9_next : Cond) ∈ ALLW := List.mem_append_right _ (List.mem_append_right _ (List.mem_append_right _ (List.mem_append_right _ (List.mem_append_left _ (List.mem_of_getElem? (i := 20) rfl)))))
set_option maxRecDepth 100000 in
theorem w_421 : (.code yX9_next cX9_next 2 none : Cond) ∈ ALLW := List.mem_append_right _ (List.mem_append_right _ (List.mem_append_right _ (List.mem_append_right _ (List.mem_append_left _ (List.mem_of_getElem? (i := 21) rfl)))))
set_option maxRecDepth 100000 in
theorem w_422 : (.fieldLink RX9 126 "OldestFirstModel" "place" "I" : Cond) ∈ ALLW := List.mem_append_right _ (List.mem_append_right _ (List.mem_append_right _ (List.mem_append_right _ (List.mem_append_left _ (List.mem_of_getElem? (i := 22) rfl)))))
set_option maxRecDepth 100000 in
theorem w_423 : (.fieldLink RX9 129 "OldestFirstModel" "value" "I" : Cond) ∈ ALLW := List.mem_append_right _ (List.mem_append_right _ (List.mem_append_right _ (List.mem_append_right _ (List.mem_append_left _ (List.mem_of_getElem? (i := 23) rfl)))))
set_option maxRecDepth 100000 in
theorem w_424 : (.fieldLink RX9 132 "OldestFirstModel" "word" "J" : Cond) ∈ ALLW := List.mem_append_right _ (List.mem_append_right _ (List.mem_append_right _ (List.mem_append_right _ (List.mem_append_left _ (List.mem_of_getElem? (i := 24) rfl)))))
set_option maxRecDepth 100000 in
theorem w_425 : (.constantLong RX9 139 (-1) : Cond) ∈ ALLW := List.mem_append_right _ (List.mem_append_right _ (List.mem_append_right _ (List.mem_append_right _ (List.mem_append_left _ (List.mem_of_getElem? (i := 25) rfl)))))
set_option maxRecDepth 100000 in
theorem w_426 : (.constantLong RX9 141 (27) : Cond) ∈ ALLW := List.mem_append_right _ (List.mem_append_right _ (List.mem_append_right _ (List.mem_append_right _ (List.mem_append_left _ (List.mem_of_getElem? (i := 26) rfl)))))
set_option maxRecDepth 100000 in
theorem w_427 : (.constantLong RX9 143 (96) : Cond) ∈ ALLW := List.mem_append_right _ (List.mem_append_right _ (List.mem_append_right _ (List.mem_append_right _ (List.mem_append_left _ (List.mem_of_getElem? (i := 27) rfl)))))
set_option maxRecDepth 100000 in
theorem w_428 : (.constant RX9 145 (100000) : Cond) ∈ ALLW := List.mem_append_right _ (List.mem_append_right _ (List.mem_append_right _ (List.mem_append_right _ (List.mem_append_left _ (List.mem_of_getElem? (i := 28) rfl)))))
set_option maxRecDepth 100000 in
theorem w_429 : (.constant RX9 146 (1000000) : Cond) ∈ ALLW := List.mem_append_right _ (List.mem_append_right _ (List.mem_append_right _ (List.mem_append_right _ (List.mem_append_left _ (List.mem_of_getElem? (i := 29) rfl)))))
set_option maxRecDepth 100000 in
theorem w_430 : (.methodLink RX9 122 yX9_isByte : Cond) ∈ ALLW := List.mem_append_right _ (List.mem_append_right _ (List.mem_append_right _ (List.mem_append_right _ (List.mem_append_left _ (List.mem_of_getElem? (i := 30) rfl)))))
set_option maxRecDepth 100000 in
theorem w_431 : (.instanceMethod yX9_isByte : Cond) ∈ ALLW := List.mem_append_right _ (List.mem_append_right _ (List.mem_append_right _ (List.mem_append_right _ (List.mem_append_left _ (List.mem_of_getElem? (i := 31) rfl)))))
set_option maxRecDepth 100000 in
theorem w_432 : (.selects RX9 yX9_isByte yX9_isByte : Cond) ∈ ALLW := List.mem_append_right _ (List.mem_append_right _ (List.mem_append_right _ (List.mem_append_right _ (List.mem_append_left _ (List.mem_of_getElem? (i := 32) rfl)))))
set_option maxRecDepth 100000 in
theorem w_433 : (.code yX9_isByte cX9_isByte 4 (some .boolean) : Cond) ∈ ALLW := List.mem_append_right _ (List.mem_append_right _ (List.mem_append_right _ (List.mem_append_right _ (List.mem_append_left _ (List.mem_of_getElem? (i := 33) rfl)))))
set_option maxRecDepth 100000 in
theorem w_434 : (.methodLink RX9 243 yX9_isGood : Cond) ∈ ALLW := List.mem_append_right _ (List.mem_append_right _ (List.mem_append_right _ (List.mem_append_right _ (List.mem_append_left _ (List.mem_of_getElem? (i := 34) rfl)))))
set_option maxRecDepth 100000 in
theorem w_435 : (.instanceMethod yX9_isGood : Cond) ∈ ALLW := List.mem_append_right _ (List.mem_append_right _ (List.mem_append_right _ (List.mem_append_right _ (List.mem_append_left _ (List.mem_of_getElem? (i := 35) rfl)))))
set_option maxRecDepth 100000 in
theorem w_436 : (.selects RX9 yX9_isGood yX9_isGood : Cond) ∈ ALLW := List.mem_append_right _ (List.mem_append_right _ (List.mem_append_right _ (List.mem_append_right _ (List.mem_append_left _ (List.mem_of_getElem? (i := 36) rfl)))))
set_option maxRecDepth 100000 in
theorem w_437 : (.code yX9_isGood cX9_isGood 1 (some .boolean) : Cond) ∈ ALLW := List.mem_append_right _ (List.mem_append_right _ (List.mem_append_right _ (List.mem_append_right _ (List.mem_append_left _ (List.mem_of_getElem? (i := 37) rfl)))))
set_option maxRecDepth 100000 in
theorem w_438 : (.methodLink RX9 166 yX9_asks : Cond) ∈ ALLW := List.mem_append_right _ (List.mem_append_right _ (List.mem_append_right _ (List.mem_append_right _ (List.mem_append_left _ (List.mem_of_getElem? (i := 38) rfl)))))
set_option maxRecDepth 100000 in
theorem w_439 : (.instanceMethod yX9_asks : Cond) ∈ ALLW := List.mem_append_right _ (List.mem_append_right _ (List.mem_append_right _ (List.mem_append_right _ (List.mem_append_left _ (List.mem_of_getElem? (i := 39) rfl)))))
set_option maxRecDepth 100000 in
theorem w_440 : (.selects RX9 yX9_asks yX9_asks : Cond) ∈ ALLW := List.mem_append_right _ (List.mem_append_right _ (List.mem_append_right _ (List.mem_append_right _ (List.mem_append_left _ (List.mem_of_getElem? (i := 40) rfl)))))
set_option maxRecDepth 100000 in
theorem w_441 : (.code yX9_asks cX9_asks 3 none : Cond) ∈ ALLW := List.mem_append_right _ (List.mem_append_right _ (List.mem_append_right _ (List.mem_append_right _ (List.mem_append_left _ (List.mem_of_getElem? (i := 41) rfl)))))
set_option maxRecDepth 100000 in
theorem w_442 : (.methodLink RX9 160 yX9_takes : Cond) ∈ ALLW := List.mem_append_right _ (List.mem_append_right _ (List.mem_append_right _ (List.mem_append_right _ (List.mem_append_left _ (List.mem_of_getElem? (i := 42) rfl)))))
set_option maxRecDepth 100000 in
theorem w_443 : (.instanceMethod yX9_takes : Cond) ∈ ALLW := List.mem_append_right _ (List.mem_append_right _ (List.mem_append_right _ (List.mem_append_right _ (List.mem_append_left _ (List.mem_of_getElem? (i := 43) rfl)))))
set_option maxRecDepth 100000 in
theorem w_444 : (.selects RX9 yX9_takes yX9_takes : Cond) ∈ ALLW := List.mem_append_right _ (List.mem_append_right _ (List.mem_append_right _ (List.mem_append_right _ (List.mem_append_left _ (List.mem_of_getElem? (i := 44) rfl)))))
set_option maxRecDepth 100000 in
theorem w_445 : (.code yX9_takes cX9_takes 3 (some .boolean) : Cond) ∈ ALLW := List.mem_append_right _ (List.mem_append_right _ (List.mem_append_right _ (List.mem_append_right _ (List.mem_append_left _ (List.mem_of_getElem? (i := 45) rfl)))))
set_option maxRecDepth 100000 in
theorem w_446 : (.methodLink RX9 153 yX9_is : Cond) ∈ ALLW := List.mem_append_right _ (List.mem_append_right _ (List.mem_append_right _ (List.mem_append_right _ (List.mem_append_left _ (List.mem_of_getElem? (i := 46) rfl)))))
set_option maxRecDepth 100000 in
theorem w_447 : (.instanceMethod yX9_is : Cond) ∈ ALLW := List.mem_append_right _ (List.mem_append_right _ (List.mem_append_right _ (List.mem_append_right _ (List.mem_append_left _ (List.mem_of_getElem? (i := 47) rfl)))))
set_option maxRecDepth 100000 in
theorem w_448 : (.selects RX9 yX9_is yX9_is : Cond) ∈ ALLW := List.mem_append_right _ (List.mem_append_right _ (List.mem_append_right _ (List.mem_append_right _ (List.mem_append_left _ (List.mem_of_getElem? (i := 48) rfl)))))
set_option maxRecDepth 100000 in
theorem w_449 : (.code yX9_is cX9_is 3 (some .boolean) : Cond) ∈ ALLW := List.mem_append_right _ (List.mem_append_right _ (List.mem_append_right _ (List.mem_append_right _ (List.mem_append_left _ (List.mem_of_getElem? (i := 49) rfl)))))
set_option maxRecDepth 100000 in
theorem w_450 : (.methodLink RX9 163 yX9_fails : Cond) ∈ ALLW := List.mem_append_right _ (List.mem_append_right _ (List.mem_append_right _ (List.mem_append_right _ (List.mem_append_left _ (List.mem_of_getElem? (i := 50) rfl)))))
set_option maxRecDepth 100000 in
theorem w_451 : (.instanceMethod yX9_fails : Cond) ∈ ALLW := List.mem_append_right _ (List.mem_append_right _ (List.mem_append_right _ (List.mem_append_right _ (List.mem_append_left _ (List.mem_of_getElem? (i := 51) rfl)))))
set_option maxRecDepth 100000 in
theorem w_452 : (.selects RX9 yX9_fails yX9_fails : Cond) ∈ ALLW := List.mem_append_right _ (List.mem_append_right _ (List.mem_append_right _ (List.mem_append_right _ (List.mem_append_left _ (List.mem_of_getElem? (i := 52) rfl)))))
set_option maxRecDepth 100000 in
theorem w_453 : (.code yX9_fails cX9_fails 2 none : Cond) ∈ ALLW := List.mem_append_right _ (List.mem_append_right _ (List.mem_append_right _ (List.mem_append_right _ (List.mem_append_left _ (List.mem_of_getElem? (i := 53) rfl)))))
set_option maxRecDepth 100000 in
theorem w_454 : (.methodLink RX9 182 yX9_number_ : Cond) ∈ ALLW := List.mem_append_right _ (List.mem_append_right _ (List.mem_append_right _ (List.mem_append_right _ (List.mem_append_left _ (List.mem_of_getElem? (i := 54) rfl)))))
set_option maxRecDepth 100000 in
theorem w_455 : (.instanceMethod yX9_number_ : Cond) ∈ ALLW := List.mem_append_right _ (List.mem_append_right _ (List.mem_append_right _ (List.mem_append_right _ (List.mem_append_left _ (List.mem_of_getElem? (i := 55) rfl)))))
set_option maxRecDepth 100000 in
theorem w_456 : (.selects RX9 yX9_number_ yX9_number_ : Cond) ∈ ALLW := List.mem_append_right _ (List.mem_append_right _ (List.mem_append_right _ (List.mem_append_right _ (List.mem_append_left _ (List.mem_of_getElem? (i := 56) rfl)))))
set_option maxRecDepth 100000 in
theorem w_457 : (.code yX9_number_ cX9_number_ 5 (some .int) : Cond) ∈ ALLW := List.mem_append_right _ (List.mem_append_right _ (List.mem_append_right _ (List.mem_append_right _ (List.mem_append_left _ (List.mem_of_getElem? (i := 57) rfl)))))
set_option maxRecDepth 100000 in
theorem w_458 : (.methodLink RX9 170 yX9_number : Cond) ∈ ALLW := List.mem_append_right _ (List.mem_append_right _ (List.mem_append_right _ (List.mem_append_right _ (List.mem_append_left _ (List.mem_of_getElem? (i := 58) rfl)))))
set_option maxRecDepth 100000 in
theorem w_459 : (.instanceMethod yX9_number : Cond) ∈ ALLW := List.mem_append_right _ (List.mem_append_right _ (List.mem_append_right _ (List.mem_append_right _ (List.mem_append_left _ (List.mem_of_getElem? (i := 59) rfl)))))
set_option maxRecDepth 100000 in
theorem w_460 : (.selects RX9 yX9_number yX9_number : Cond) ∈ ALLW := List.mem_append_right _ (List.mem_append_right _ (List.mem_append_right _ (List.mem_append_right _ (List.mem_append_left _ (List.mem_of_getElem? (i := 60) rfl)))))
set_option maxRecDepth 100000 in
theorem w_461 : (.code yX9_number cX9_number 4 (some .int) : Cond) ∈ ALLW := List.mem_append_right _ (List.mem_append_right _ (List.mem_append_right _ (List.mem_append_right _ (List.mem_append_left _ (List.mem_of_getElem? (i := 61) rfl)))))
set_option maxRecDepth 100000 in
theorem w_462 : (.methodLink RX9 253 yX9_line : Cond) ∈ ALLW := List.mem_append_right _ (List.mem_append_right _ (List.mem_append_right _ (List.mem_append_right _ (List.mem_append_left _ (List.mem_of_getElem? (i := 62) rfl)))))
set_option maxRecDepth 100000 in
theorem w_463 : (.instanceMethod yX9_line : Cond) ∈ ALLW := List.mem_append_right _ (List.mem_append_right _ (List.mem_append_right _ (List.mem_append_right _ (List.mem_append_left _ (List.mem_of_getElem? (i := 63) rfl)))))
set_option maxRecDepth 100000 in
theorem w_464 : (.selects RX9 yX9_line yX9_line : Cond) ∈ ALLW := List.mem_append_right _ (List.mem_append_right _ (List.mem_append_right _ (List.mem_append_right _ (List.mem_append_left _ (List.mem_of_getElem? (i := 64) rfl)))))
set_option maxRecDepth 100000 in
theorem w_465 : (.code yX9_line cX9_line 4 none : Cond) ∈ ALLW := List.mem_append_right _ (List.mem_append_right _ (List.mem_append_right _ (List.mem_append_right _ (List.mem_append_left _ (List.mem_of_getElem? (i := 65) rfl)))))
set_option maxRecDepth 100000 in
theorem w_466 : (.constantLong RX9 218 (232608281) : Cond) ∈ ALLW := List.mem_append_right _ (List.mem_append_right _ (List.mem_append_right _ (List.mem_append_right _ (List.mem_append_left _ (List.mem_of_getElem? (i := 66) rfl)))))
set_option maxRecDepth 100000 in
theorem w_467 : (.constantLong RX9 220 (175252482) : Cond) ∈ ALLW := List.mem_append_right _ (List.mem_append_right _ (List.mem_append_right _ (List.mem_append_right _ (List.mem_append_left _ (List.mem_of_getElem? (i := 67) rfl)))))
set_option maxRecDepth 100000 in
theorem w_468 : (.constantLong RX9 222 (8798) : Cond) ∈ ALLW := List.mem_append_right _ (List.mem_append_right _ (List.mem_append_right _ (List.mem_append_right _ (List.mem_append_left _ (List.mem_of_getElem? (i := 68) rfl)))))
set_option maxRecDepth 100000 in
theorem w_469 : (.methodLink RX9 177 yX9_many : Cond) ∈ ALLW := List.mem_append_right _ (List.mem_append_right _ (List.mem_append_right _ (List.mem_append_right _ (List.mem_append_left _ (List.mem_of_getElem? (i := 69) rfl)))))
set_option maxRecDepth 100000 in
theorem w_470 : (.instanceMethod yX9_many : Cond) ∈ ALLW := List.mem_append_right _ (List.mem_append_right _ (List.mem_append_right _ (List.mem_append_right _ (List.mem_append_left _ (List.mem_of_getElem? (i := 70) rfl)))))
set_option maxRecDepth 100000 in
theorem w_471 : (.selects RX9 yX9_many yX9_many : Cond) ∈ ALLW := List.mem_append_right _ (List.mem_append_right _ (List.mem_append_right _ (List.mem_append_right _ (List.mem_append_left _ (List.mem_of_getElem? (i := 71) rfl)))))
set_option maxRecDepth 100000 in
theorem w_472 : (.code yX9_many cX9_many 2 (some .int) : Cond) ∈ ALLW := List.mem_append_right _ (List.mem_append_right _ (List.mem_append_right _ (List.mem_append_right _ (List.mem_append_left _ (List.mem_of_getElem? (i := 72) rfl)))))
set_option maxRecDepth 100000 in
theorem w_473 : (.methodLink RX9 228 yX9_personLine : Cond) ∈ ALLW := List.mem_append_right _ (List.mem_append_right _ (List.mem_append_right _ (List.mem_append_right _ (List.mem_append_left _ (List.mem_of_getElem? (i := 73) rfl)))))
set_option maxRecDepth 100000 in
theorem w_474 : (.instanceMethod yX9_personLine : Cond) ∈ ALLW := List.mem_append_right _ (List.mem_append_right _ (List.mem_append_right _ (List.mem_append_right _ (List.mem_append_left _ (List.mem_of_getElem? (i := 74) rfl)))))
set_option maxRecDepth 100000 in
theorem w_475 : (.selects RX9 yX9_personLine yX9_personLine : Cond) ∈ ALLW := List.mem_append_right _ (List.mem_append_right _ (List.mem_append_right _ (List.mem_append_right _ (List.mem_append_left _ (List.mem_of_getElem? (i := 75) rfl)))))
set_option maxRecDepth 100000 in
theorem w_476 : (.code yX9_personLine cX9_personLine 3 none : Cond) ∈ ALLW := List.mem_append_right _ (List.mem_append_right _ (List.mem_append_right _ (List.mem_append_right _ (List.mem_append_left _ (List.mem_of_getElem? (i := 76) rfl)))))
set_option maxRecDepth 100000 in
theorem w_477 : (.constantLong RX9 180 (4562587) : Cond) ∈ ALLW := List.mem_append_right _ (List.mem_append_right _ (List.mem_append_right _ (List.mem_append_right _ (List.mem_append_left _ (List.mem_of_getElem? (i := 77) rfl)))))
set_option maxRecDepth 100000 in
theorem w_478 : (.constantLong RX9 185 (133743) : Cond) ∈ ALLW := List.mem_append_right _ (List.mem_append_right _ (List.mem_append_right _ (List.mem_append_right _ (List.mem_append_left _ (List.mem_of_getElem? (i := 78) rfl)))))
set_option maxRecDepth 100000 in
theorem w_479 : (.constantLong RX9 187 (10266284) : Cond) ∈ ALLW := List.mem_append_right _ (List.mem_append_right _ (List.mem_append_right _ (List.mem_append_right _ (List.mem_append_left _ (List.mem_of_getElem? (i := 79) rfl)))))
set_option maxRecDepth 100000 in
theorem w_480 : (.constantLong RX9 189 (284068024) : Cond) ∈ ALLW := List.mem_append_right _ (List.mem_append_right _ (List.mem_append_right _ (List.mem_append_right _ (List.mem_append_left _ (List.mem_of_getElem? (i := 80) rfl)))))
set_option maxRecDepth 100000 in
theorem w_481 : (.constantLong RX9 191 (9135831798) : Cond) ∈ ALLW := List.mem_append_right _ (List.mem_append_right _ (List.mem_append_right _ (List.mem_append_right _ (List.mem_append_left _ (List.mem_of_getElem? (i := 81) rfl)))))
set_option maxRecDepth 100000 in
theorem w_482 : (.constantLong RX9 193 (1834661) : Cond) ∈ ALLW := List.mem_append_right _ (List.mem_append_right _ (List.mem_append_right _ (List.mem_append_right _ (List.mem_append_left _ (List.mem_of_getElem? (i := 82) rfl)))))
set_option maxRecDepth 100000 in
theorem w_483 : (.methodLink RX9 231 yX9_letterLine : Cond) ∈ ALLW := List.mem_append_right _ (List.mem_append_right _ (List.mem_append_right _ (List.mem_append_right _ (List.mem_append_left _ (List.mem_of_getElem? (i := 83) rfl)))))
set_option maxRecDepth 100000 in
theorem w_484 : (.instanceMethod yX9_letterLine : Cond) ∈ ALLW := List.mem_append_right _ (List.mem_append_right _ (List.mem_append_right _ (List.mem_append_right _ (List.mem_append_left _ (List.mem_of_getElem? (i := 84) rfl)))))
set_option maxRecDepth 100000 in
theorem w_485 : (.selects RX9 yX9_letterLine yX9_letterLine : Cond) ∈ ALLW := List.mem_append_right _ (List.mem_append_right _ (List.mem_append_right _ (List.mem_append_right _ (List.mem_append_left _ (List.mem_of_getElem? (i := 85) rfl)))))
set_option maxRecDepth 100000 in
theorem w_486 : (.code yX9_letterLine cX9_letterLine 2 none : Cond) ∈ ALLW := List.mem_append_right _ (List.mem_append_right _ (List.mem_append_right _ (List.mem_append_right _ (List.mem_append_left _ (List.mem_of_getElem? (i := 86) rfl)))))
set_option maxRecDepth 100000 in
theorem w_487 : (.constantLong RX9 195 (555) : Cond) ∈ ALLW := List.mem_append_right _ (List.mem_append_right _ (List.mem_append_right _ (List.mem_append_right _ (List.mem_append_left _ (List.mem_of_getElem? (i := 87) rfl)))))
set_option maxRecDepth 100000 in
theorem w_488 : (.constantLong RX9 200 (419) : Cond) ∈ ALLW := List.mem_append_right _ (List.mem_append_right _ (List.mem_append_right _ (List.mem_append_right _ (List.mem_append_left _ (List.mem_of_getElem? (i := 88) rfl)))))
set_option maxRecDepth 100000 in
theorem w_489 : (.constantLong RX9 202 (40187) : Cond) ∈ ALLW := List.mem_append_right _ (List.mem_append_right _ (List.mem_append_right _ (List.mem_append_right _ (List.mem_append_left _ (List.mem_of_getElem? (i := 89) rfl)))))
set_option maxRecDepth 100000 in
theorem w_490 : (.constantLong RX9 204 (664272) : Cond) ∈ ALLW := List.mem_append_right _ (List.mem_append_right _ (List.mem_append_right _ (List.mem_append_right _ (List.mem_append_left _ (List.mem_of_getElem? (i := 90) rfl)))))
set_option maxRecDepth 100000 in
theorem w_491 : (.constantLong RX9 206 (12532058) : Cond) ∈ ALLW := List.mem_append_right _ (List.mem_append_right _ (List.mem_append_right _ (List.mem_append_right _ (List.mem_append_left _ (List.mem_of_getElem? (i := 91) rfl)))))
set_option maxRecDepth 100000 in
theorem w_492 : (.constantLong RX9 208 (79) : Cond) ∈ ALLW := List.mem_append_right _ (List.mem_append_right _ (List.mem_append_right _ (List.mem_append_right _ (List.mem_append_left _ (List.mem_of_getElem? (i := 92) rfl)))))
set_option maxRecDepth 100000 in
theorem w_493 : (.methodLink RX9 197 yX9_other : Cond) ∈ ALLW := List.mem_append_right _ (List.mem_append_right _ (List.mem_append_right _ (List.mem_append_right _ (List.mem_append_left _ (List.mem_of_getElem? (i := 93) rfl)))))
set_option maxRecDepth 100000 in
theorem w_494 : (.instanceMethod yX9_other : Cond) ∈ ALLW := List.mem_append_right _ (List.mem_append_right _ (List.mem_append_right _ (List.mem_append_right _ (List.mem_append_left _ (List.mem_of_getElem? (i := 94) rfl)))))
set_option maxRecDepth 100000 in
theorem w_495 : (.selects RX9 yX9_other yX9_other : Cond) ∈ ALLW := List.mem_append_right _ (List.mem_append_right _ (List.mem_append_right _ (List.mem_append_right _ (List.mem_append_left _ (List.mem_of_getElem? (i := 95) rfl)))))
set_option maxRecDepth 100000 in
theorem w_496 : (.code yX9_other cX9_other 2 (some .int) : Cond) ∈ ALLW := List.mem_append_right _ (List.mem_append_right _ (List.mem_append_right _ (List.mem_append_right _ (List.mem_append_left _ (List.mem_of_getElem? (i := 96) rfl)))))
set_option maxRecDepth 100000 in
theorem w_497 : (.methodLink RX9 234 yX9_lawLine : Cond) ∈ ALLW := List.mem_append_right _ (List.mem_append_right _ (List.mem_append_right _ (List.mem_append_right _ (List.mem_append_left _ (List.mem_of_getElem? (i := 97) rfl)))))
set_option maxRecDepth 100000 in
theorem w_498 : (.instanceMethod yX9_lawLine : Cond) ∈ ALLW := List.mem_append_right _ (List.mem_append_right _ (List.mem_append_right _ (List.mem_append_right _ (List.mem_append_left _ (List.mem_of_getElem? (i := 98) rfl)))))
set_option maxRecDepth 100000 in
theorem w_499 : (.selects RX9 yX9_lawLine yX9_lawLine : Cond) ∈ ALLW := List.mem_append_right _ (List.mem_append_right _ (List.mem_append_right _ (List.mem_append_right _ (List.mem_append_left _ (List.mem_of_getElem? (i := 99) rfl)))))
set_option maxRecDepth 100000 in
theorem w_500 : (.code yX9_lawLine cX9_lawLine 2 none : Cond) ∈ ALLW := List.mem_append_right _ (List.mem_append_right _ (List.mem_append_right _ (List.mem_append_right _ (List.mem_append_right _ (List.mem_append_left _ (List.mem_of_getElem? (i := 0) rfl))))))
set_option maxRecDepth 100000 in
theorem w_501 : (.constantLong RX9 210 (221693807) : Cond) ∈ ALLW := List.mem_append_right _ (List.mem_append_right _ (List.mem_append_right _ (List.mem_append_right _ (List.mem_append_right _ (List.mem_append_left _ (List.mem_of_getElem? (i := 1) rfl))))))
set_option maxRecDepth 100000 in
theorem w_502 : (.constantLong RX9 212 (203998790) : Cond) ∈ ALLW := List.mem_append_right _ (List.mem_append_right _ (List.mem_append_right _ (List.mem_append_right _ (List.mem_append_right _ (List.mem_append_left _ (List.mem_of_getElem? (i := 2) rfl))))))
set_option maxRecDepth 100000 in
theorem w_503 : (.constantLong RX9 214 (1622316404) : Cond) ∈ ALLW := List.mem_append_right _ (List.mem_append_right _ (List.mem_append_right _ (List.mem_append_right _ (List.mem_append_right _ (List.mem_append_left _ (List.mem_of_getElem? (i := 3) rfl))))))
set_option maxRecDepth 100000 in
theorem w_504 : (.constantLong RX9 216 (9173) : Cond) ∈ ALLW := List.mem_append_right _ (List.mem_append_right _ (List.mem_append_right _ (List.mem_append_right _ (List.mem_append_right _ (List.mem_append_left _ (List.mem_of_getElem? (i := 4) rfl))))))
set_option maxRecDepth 100000 in
theorem w_505 : (.methodLink RX9 256 yX9_ends : Cond) ∈ ALLW := List.mem_append_right _ (List.mem_append_right _ (List.mem_append_right _ (List.mem_append_right _ (List.mem_append_right _ (List.mem_append_left _ (List.mem_of_getElem? (i := 5) rfl))))))
set_option maxRecDepth 100000 in
theorem w_506 : (.instanceMethod yX9_ends : Cond) ∈ ALLW := List.mem_append_right _ (List.mem_append_right _ (List.mem_append_right _ (List.mem_append_right _ (List.mem_append_right _ (List.mem_append_left _ (List.mem_of_getElem? (i := 6) rfl))))))
set_option maxRecDepth 100000 in
theorem w_507 : (.selects RX9 yX9_ends yX9_ends : Cond) ∈ ALLW := List.mem_append_right _ (List.mem_append_right _ (List.mem_append_right _ (List.mem_append_right _ (List.mem_append_right _ (List.mem_append_left _ (List.mem_of_getElem? (i := 7) rfl))))))
set_option maxRecDepth 100000 in
theorem w_508 : (.code yX9_ends cX9_ends 1 none : Cond) ∈ ALLW := List.mem_append_right _ (List.mem_append_right _ (List.mem_append_right _ (List.mem_append_right _ (List.mem_append_right _ (List.mem_append_left _ (List.mem_of_getElem? (i := 8) rfl))))))
set_option maxRecDepth 100000 in
theorem w_509 : (.methodLink RX9 259 yX9_isOver : Cond) ∈ ALLW := List.mem_append_right _ (List.mem_append_right _ (List.mem_append_right _ (List.mem_append_right _ (List.mem_append_right _ (List.mem_append_left _ (List.mem_of_getElem? (i := 9) rfl))))))
set_option maxRecDepth 100000 in
theorem w_510 : (.instanceMethod yX9_isOver : Cond) ∈ ALLW := List.mem_append_right _ (List.mem_append_right _ (List.mem_append_right _ (List.mem_append_right _ (List.mem_append_right _ (List.mem_append_left _ (List.mem_of_getElem? (i := 10) rfl))))))
set_option maxRecDepth 100000 in
theorem w_511 : (.selects RX9 yX9_isOver yX9_isOver : Cond) ∈ ALLW := List.mem_append_right _ (List.mem_append_right _ (List.mem_append_right _ (List.mem_append_right _ (List.mem_append_right _ (List.mem_append_left _ (List.mem_of_getElem? (i := 11) rfl))))))
set_option maxRecDepth 100000 in
theorem w_512 : (.code yX9_isOver cX9_isOver 1 none : Cond) ∈ ALLW := List.mem_append_right _ (List.mem_append_right _ (List.mem_append_right _ (List.mem_append_right _ (List.mem_append_right _ (List.mem_append_left _ (List.mem_of_getElem? (i := 12) rfl))))))
set_option maxRecDepth 100000 in
theorem w_513 : (.fieldLink RX9 174 "OldestFirstModel" "fault" "I" : Cond) ∈ ALLW := List.mem_append_right _ (List.mem_append_right _ (List.mem_append_right _ (List.mem_append_right _ (List.mem_append_right _ (List.mem_append_left _ (List.mem_of_getElem? (i := 13) rfl))))))
set_option maxRecDepth 100000 in
theorem w_514 : (.methodLink RX9 262 yX9_copyTown : Cond) ∈ ALLW := List.mem_append_right _ (List.mem_append_right _ (List.mem_append_right _ (List.mem_append_right _ (List.mem_append_right _ (List.mem_append_left _ (List.mem_of_getElem? (i := 14) rfl))))))
set_option maxRecDepth 100000 in
theorem w_515 : (.instanceMethod yX9_copyTown : Cond) ∈ ALLW := List.mem_append_right _ (List.mem_append_right _ (List.mem_append_right _ (List.mem_append_right _ (List.mem_append_right _ (List.mem_append_left _ (List.mem_of_getElem? (i := 15) rfl))))))
set_option maxRecDepth 100000 in
theorem w_516 : (.selects RX9 yX9_copyTown yX9_copyTown : Cond) ∈ ALLW := List.mem_append_right _ (List.mem_append_right _ (List.mem_append_right _ (List.mem_append_right _ (List.mem_append_right _ (List.mem_append_left _ (List.mem_of_getElem? (i := 16) rfl))))))
set_option maxRecDepth 100000 in
theorem w_517 : (.code yX9_copyTown cX9_copyTown 3 none : Cond) ∈ ALLW := List.mem_append_right _ (List.mem_append_right _ (List.mem_append_right _ (List.mem_append_right _ (List.mem_append_right _ (List.mem_append_left _ (List.mem_of_getElem? (i := 17) rfl))))))
set_option maxRecDepth 100000 in
theorem w_518 : (.methodLink RX9 266 yX9_copyRow : Cond) ∈ ALLW := List.mem_append_right _ (List.mem_append_right _ (List.mem_append_right _ (List.mem_append_right _ (List.mem_append_right _ (List.mem_append_left _ (List.mem_of_getElem? (i := 18) rfl))))))
set_option maxRecDepth 100000 in
theorem w_519 : (.static yX9_copyRow : Cond) ∈ ALLW := List.mem_append_right _ (List.mem_append_right _ (List.mem_append_right _ (List.mem_append_right _ (List.mem_append_right _ (List.mem_append_left _ (List.mem_of_getElem? (i := 19) rfl))))))
set_option maxRecDepth 100000 in
theorem w_520 : (.code yX9_copyRow cX9_copyRow 5 none : Cond) ∈ ALLW := List.mem_append_right _ (List.mem_append_right _ (List.mem_append_right _ (List.mem_append_right _ (List.mem_append_right _ (List.mem_append_left _ (List.mem_of_getElem? (i := 20) rfl))))))
set_option maxRecDepth 100000 in
theorem w_521 : (.methodLink RL 28 yX8_fault : Cond) ∈ ALLW := List.mem_append_right _ (List.mem_append_right _ (List.mem_append_right _ (List.mem_append_right _ (List.mem_append_right _ (List.mem_append_left _ (List.mem_of_getElem? (i := 21) rfl))))))
set_option maxRecDepth 100000 in
theorem w_522 : (.instanceMethod yX8_fault : Cond) ∈ ALLW := List.mem_append_right _ (List.mem_append_right _ (List.mem_append_right _ (List.mem_append_right _ (List.mem_append_right _ (List.mem_append_left _ (List.mem_of_getElem? (i := 22) rfl))))))
set_option maxRecDepth 100000 in
theorem w_523 : (.selects RX8 yX8_fault yX8_fault : Cond) ∈ ALLW := List.mem_append_right _ (List.mem_append_right _ (List.mem_append_right _ (List.mem_append_right _ (List.mem_append_right _ (List.mem_append_left _ (List.mem_of_getElem? (i := 23) rfl))))))
set_option maxRecDepth 100000 in
theorem w_524 : (.code yX8_fault cX8_fault 2 (some .int) : Cond) ∈ ALLW := List.mem_append_right _ (List.mem_append_right _ (List.mem_append_right _ (List.mem_append_right _ (List.mem_append_right _ (List.mem_append_left _ (List.mem_of_getElem? (i := 24) rfl))))))
set_option maxRecDepth 100000 in
theorem w_525 : (.fieldLink RX8 122 "OldestFirst$Reader" "fault" "I" : Cond) ∈ ALLW := List.mem_append_right _ (List.mem_append_right _ (List.mem_append_right _ (List.mem_append_right _ (List.mem_append_right _ (List.mem_append_left _ (List.mem_of_getElem? (i := 25) rfl))))))
set_option maxRecDepth 100000 in
theorem w_526 : (.fieldLink RX8 125 "OldestFirst$Reader" "faultPlace" "I" : Cond) ∈ ALLW := List.mem_append_right _ (List.mem_append_right _ (List.mem_append_right _ (List.mem_append_right _ (List.mem_append_right _ (List.mem_append_left _ (List.mem_of_getElem? (i := 26) rfl))))))
set_option maxRecDepth 100000 in
theorem w_527 : (.methodLink RL 31 yX9_fault : Cond) ∈ ALLW := List.mem_append_right _ (List.mem_append_right _ (List.mem_append_right _ (List.mem_append_right _ (List.mem_append_right _ (List.mem_append_left _ (List.mem_of_getElem? (i := 27) rfl))))))
set_option maxRecDepth 100000 in
theorem w_528 : (.instanceMethod yX9_fault : Cond) ∈ ALLW := List.mem_append_right _ (List.mem_append_right _ (List.mem_append_right _ (List.mem_append_right _ (List.mem_append_right _ (List.mem_append_left _ (List.mem_of_getElem? (i := 28) rfl))))))
set_option maxRecDepth 100000 in
theorem w_529 : (.selects RX9 yX9_fault yX9_fault : Cond) ∈ ALLW := List.mem_append_right _ (List.mem_append_right _ (List.mem_append_right _ (List.mem_append_right _ (List.mem_append_right _ (List.mem_append_left _ (List.mem_of_getElem? (i := 29) rfl))))))
set_option maxRecDepth 100000 in
theorem w_530 : (.code yX9_fault cX9_fault 2 (some .int) : Cond) ∈ ALLW := List.mem_append_right _ (List.mem_append_right _ (List.mem_append_right _ (List.mem_append_right _ (List.mem_append_right _ (List.mem_append_left _ (List.mem_of_getElem? (i := 30) rfl))))))
set_option maxRecDepth 100000 in
theorem w_531 : (.methodLink RL 32 yX8_person : Cond) ∈ ALLW := List.mem_append_right _ (List.mem_append_right _ (List.mem_append_right _ (List.mem_append_right _ (List.mem_append_right _ (List.mem_append_left _ (List.mem_of_getElem? (i := 31) rfl))))))
set_option maxRecDepth 100000 in
theorem w_532 : (.instanceMethod yX8_person : Cond) ∈ ALLW := List.mem_append_right _ (List.mem_append_right _ (List.mem_append_right _ (List.mem_append_right _ (List.mem_append_right _ (List.mem_append_left _ (List.mem_of_getElem? (i := 32) rfl))))))
set_option maxRecDepth 100000 in
theorem w_533 : (.selects RX8 yX8_person yX8_person : Cond) ∈ ALLW := List.mem_append_right _ (List.mem_append_right _ (List.mem_append_right _ (List.mem_append_right _ (List.mem_append_right _ (List.mem_append_left _ (List.mem_of_getElem? (i := 33) rfl))))))
