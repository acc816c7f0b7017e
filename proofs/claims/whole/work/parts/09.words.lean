theorem ao_w0 {w : Cond} (h : w ∈ k2_sels lw_privs) : w ∈ lw_tbl := List.mem_append_left _ h
theorem ao_w1 {w : Cond} (h : w ∈ tables_1_1) : w ∈ lw_tbl := List.mem_append_right _ (List.mem_append_left _ h)
theorem ao_w2 {w : Cond} (h : w ∈ tables_1_2) : w ∈ lw_tbl := List.mem_append_right _ (List.mem_append_right _ (List.mem_append_left _ h))
theorem ao_w3 {w : Cond} (h : w ∈ tables_1_3) : w ∈ lw_tbl := List.mem_append_right _ (List.mem_append_right _ (List.mem_append_right _ (List.mem_append_left _ h)))
theorem ao_w4 {w : Cond} (h : w ∈ tables_1_4) : w ∈ lw_tbl := List.mem_append_right _ (List.mem_append_right _ (List.mem_append_right _ (List.mem_append_right _ (List.mem_append_left _ h))))
theorem ao_w5 {w : Cond} (h : w ∈ tables_1_5) : w ∈ lw_tbl := List.mem_append_right _ (List.mem_append_right _ (List.mem_append_right _ (List.mem_append_right _ (List.mem_append_right _ (List.mem_append_left _ h)))))
theorem ao_w6 {w : Cond} (h : w ∈ tables_1_6) : w ∈ lw_tbl := List.mem_append_right _ (List.mem_append_right _ (List.mem_append_right _ (List.mem_append_right _ (List.mem_append_right _ (List.mem_append_right _ (List.mem_append_left _ h))))))
theorem ao_w7 {w : Cond} (h : w ∈ tables_1_7) : w ∈ lw_tbl := List.mem_append_right _ (List.mem_append_right _ (List.mem_append_right _ (List.mem_append_right _ (List.mem_append_right _ (List.mem_append_right _ (List.mem_append_right _ (List.mem_append_left _ h)))))))
theorem ao_w8 {w : Cond} (h : w ∈ tables_1_8) : w ∈ lw_tbl := List.mem_append_right _ (List.mem_append_right _ (List.mem_append_right _ (List.mem_append_right _ (List.mem_append_right _ (List.mem_append_right _ (List.mem_append_right _ (List.mem_append_right _ (List.mem_append_left _ h))))))))
theorem ao_w9 {w : Cond} (h : w ∈ tables_1_9) : w ∈ lw_tbl := List.mem_append_right _ (List.mem_append_right _ (List.mem_append_right _ (List.mem_append_right _ (List.mem_append_right _ (List.mem_append_right _ (List.mem_append_right _ (List.mem_append_right _ (List.mem_append_right _ (h)))))))))
/-! ===== words by their places ===== -/
theorem lf_X10_9 : Cond.fieldLink RX10 9 "AsOneHouse" "tape" "[B" ∈ ao_G := ao_Gm (ao_w2 (List.mem_of_getElem? (i := 212) rfl)) rfl
theorem lf_X10_16 : Cond.fieldLink RX10 16 "AsOneHouse" "parser" "LAsOneHouse$Parser;" ∈ ao_G := ao_Gm (ao_w2 (List.mem_of_getElem? (i := 213) rfl)) rfl
theorem lf_X10_23 : Cond.fieldLink RX10 23 "AsOneHouse" "engine" "LAsOneHouse$Engine;" ∈ ao_G := ao_Gm (ao_w2 (List.mem_of_getElem? (i := 214) rfl)) rfl
theorem lf_X10_30 : Cond.fieldLink RX10 30 "AsOneHouse" "arbiter" "LAsOneHouse$Arbiter;" ∈ ao_G := ao_Gm (ao_w2 (List.mem_of_getElem? (i := 215) rfl)) rfl
theorem lf_X10_34 : Cond.fieldLink RX10 34 "AsOneHouse" "tapeLength" "I" ∈ ao_G := ao_Gm (ao_w2 (List.mem_of_getElem? (i := 216) rfl)) rfl
theorem lf_X10_38 : Cond.fieldLink RX10 38 "AsOneHouse" "brokenAt" "I" ∈ ao_G := ao_Gm (ao_w2 (List.mem_of_getElem? (i := 217) rfl)) rfl
theorem lf_X10_67 : Cond.fieldLink RX10 67 "AsOneHouse$Engine" "runners" "[LAsOneHouse$Runner;" ∈ ao_G := ao_Gm (ao_w2 (List.mem_of_getElem? (i := 163) rfl)) rfl
theorem lf_X10_71 : Cond.fieldLink RX10 71 "AsOneHouse$Runner" "state" "I" ∈ ao_G := ao_Gm (ao_w2 (List.mem_of_getElem? (i := 88) rfl)) rfl
theorem lf_X10_85 : Cond.fieldLink RX10 85 "AsOneHouse$Parser" "brokenAt" "I" ∈ ao_G := ao_Gm (ao_w1 (List.mem_of_getElem? (i := 124) rfl)) rfl
theorem lf_X10_91 : Cond.fieldLink RX10 91 "AsOneHouse$Parser" "code" "LAsOneHouse$Code;" ∈ ao_G := ao_Gm (ao_w1 (List.mem_of_getElem? (i := 122) rfl)) rfl
theorem lf_X10_101 : Cond.fieldLink RX10 101 "AsOneHouse$Runner" "code" "LAsOneHouse$Code;" ∈ ao_G := ao_Gm (ao_w2 (List.mem_of_getElem? (i := 84) rfl)) rfl
theorem lf_X10_105 : Cond.fieldLink RX10 105 "AsOneHouse$Code" "statements" "I" ∈ ao_G := ao_Gm (ao_w1 (List.mem_of_getElem? (i := 105) rfl)) rfl
theorem lf_X10_110 : Cond.fieldLink RX10 110 "AsOneHouse$Engine" "places" "LAsOneHouse$Places;" ∈ ao_G := ao_Gm (ao_w2 (List.mem_of_getElem? (i := 161) rfl)) rfl
theorem lf_X10_114 : Cond.fieldLink RX10 114 "AsOneHouse$Places" "takenBy" "[I" ∈ ao_G := ao_Gm (ao_w1 (List.mem_of_getElem? (i := 155) rfl)) rfl
theorem lf_X10_122 : Cond.fieldLink RX10 122 "AsOneHouse$Places" "clock" "I" ∈ ao_G := ao_Gm (ao_w1 (List.mem_of_getElem? (i := 162) rfl)) rfl
theorem lf_X10_129 : Cond.fieldLink RX10 129 "AsOneHouse$Places" "atFirst" "[I" ∈ ao_G := ao_Gm (ao_w1 (List.mem_of_getElem? (i := 159) rfl)) rfl
theorem lf_X10_132 : Cond.fieldLink RX10 132 "AsOneHouse$Engine" "turns" "I" ∈ ao_G := ao_Gm (ao_w2 (List.mem_of_getElem? (i := 169) rfl)) rfl
theorem lf_X10_151 : Cond.fieldLink RX10 151 "AsOneHouse$Places" "value" "[I" ∈ ao_G := ao_Gm (ao_w1 (List.mem_of_getElem? (i := 149) rfl)) rfl
theorem lf_X10_162 : Cond.fieldLink RX10 162 "AsOneHouse$Runner" "registers" "[I" ∈ ao_G := ao_Gm (ao_w2 (List.mem_of_getElem? (i := 95) rfl)) rfl
theorem lf_X10_165 : Cond.fieldLink RX10 165 "AsOneHouse$Engine" "sayings" "LAsOneHouse$Sayings;" ∈ ao_G := ao_Gm (ao_w2 (List.mem_of_getElem? (i := 165) rfl)) rfl
theorem lf_X10_169 : Cond.fieldLink RX10 169 "AsOneHouse$Sayings" "size" "I" ∈ ao_G := ao_Gm (ao_w1 (List.mem_of_getElem? (i := 204) rfl)) rfl
theorem lf_X10_176 : Cond.fieldLink RX10 176 "AsOneHouse$Sayings" "thread" "[I" ∈ ao_G := ao_Gm (ao_w1 (List.mem_of_getElem? (i := 199) rfl)) rfl
theorem lf_X10_179 : Cond.fieldLink RX10 179 "AsOneHouse$Sayings" "value" "[I" ∈ ao_G := ao_Gm (ao_w1 (List.mem_of_getElem? (i := 201) rfl)) rfl
theorem lf_X10_186 : Cond.fieldLink RX10 186 "AsOneHouse$Engine" "records" "LAsOneHouse$Records;" ∈ ao_G := ao_Gm (ao_w2 (List.mem_of_getElem? (i := 167) rfl)) rfl
theorem lf_X10_194 : Cond.fieldLink RX10 194 "AsOneHouse$Arbiter" "told" "I" ∈ ao_G := ao_Gm (ao_w2 (List.mem_of_getElem? (i := 197) rfl)) rfl
theorem lf_X10_199 : Cond.fieldLink RX10 199 "AsOneHouse$Arbiter" "sequence" "[I" ∈ ao_G := ao_Gm (ao_w2 (List.mem_of_getElem? (i := 195) rfl)) rfl
theorem lf_X10_204 : Cond.fieldLink RX10 204 "AsOneHouse$Records" "size" "I" ∈ ao_G := ao_Gm (ao_w1 (List.mem_of_getElem? (i := 232) rfl)) rfl
theorem lf_X0_9 : Cond.fieldLink RX0 9 "AsOneHouse$Arbiter" "sequence" "[I" ∈ ao_G := ao_Gm (ao_w2 (List.mem_of_getElem? (i := 194) rfl)) rfl
theorem lf_X0_17 : Cond.fieldLink RX0 17 "AsOneHouse$Arbiter" "behind" "[[I" ∈ ao_G := ao_Gm (ao_w2 (List.mem_of_getElem? (i := 198) rfl)) rfl
theorem lf_X0_20 : Cond.fieldLink RX0 20 "AsOneHouse$Arbiter" "aheadMask" "[I" ∈ ao_G := ao_Gm (ao_w2 (List.mem_of_getElem? (i := 199) rfl)) rfl
theorem lf_X0_23 : Cond.fieldLink RX0 23 "AsOneHouse$Arbiter" "told" "I" ∈ ao_G := ao_Gm (ao_w2 (List.mem_of_getElem? (i := 196) rfl)) rfl
theorem lf_X0_27 : Cond.fieldLink RX0 27 "AsOneHouse$Records" "size" "I" ∈ ao_G := ao_Gm (ao_w1 (List.mem_of_getElem? (i := 230) rfl)) rfl
theorem lf_X0_36 : Cond.fieldLink RX0 36 "AsOneHouse$Places" "atFirst" "[I" ∈ ao_G := ao_Gm (ao_w1 (List.mem_of_getElem? (i := 158) rfl)) rfl
theorem lf_X0_47 : Cond.fieldLink RX0 47 "AsOneHouse$Arbiter" "tried" "I" ∈ ao_G := ao_Gm (ao_w2 (List.mem_of_getElem? (i := 200) rfl)) rfl
theorem lf_X0_70 : Cond.fieldLink RX0 70 "AsOneHouse$Places" "takenBy" "[I" ∈ ao_G := ao_Gm (ao_w1 (List.mem_of_getElem? (i := 154) rfl)) rfl
theorem lf_X0_73 : Cond.fieldLink RX0 73 "AsOneHouse$Places" "value" "[I" ∈ ao_G := ao_Gm (ao_w1 (List.mem_of_getElem? (i := 148) rfl)) rfl
theorem lf_X1_7 : Cond.fieldLink RX1 7 "AsOneHouse$Code" "room" "I" ∈ ao_G := ao_Gm (ao_w1 (List.mem_of_getElem? (i := 94) rfl)) rfl
theorem lf_X1_13 : Cond.fieldLink RX1 13 "AsOneHouse$Code" "op" "[I" ∈ ao_G := ao_Gm (ao_w1 (List.mem_of_getElem? (i := 96) rfl)) rfl
theorem lf_X1_17 : Cond.fieldLink RX1 17 "AsOneHouse$Code" "first" "[I" ∈ ao_G := ao_Gm (ao_w1 (List.mem_of_getElem? (i := 98) rfl)) rfl
theorem lf_X1_20 : Cond.fieldLink RX1 20 "AsOneHouse$Code" "second" "[I" ∈ ao_G := ao_Gm (ao_w1 (List.mem_of_getElem? (i := 100) rfl)) rfl
theorem lf_X1_23 : Cond.fieldLink RX1 23 "AsOneHouse$Code" "length" "I" ∈ ao_G := ao_Gm (ao_w1 (List.mem_of_getElem? (i := 101) rfl)) rfl
theorem lf_X1_26 : Cond.fieldLink RX1 26 "AsOneHouse$Code" "statements" "I" ∈ ao_G := ao_Gm (ao_w1 (List.mem_of_getElem? (i := 104) rfl)) rfl
theorem lf_X2_12 : Cond.fieldLink RX2 12 "AsOneHouse$Engine" "places" "LAsOneHouse$Places;" ∈ ao_G := ao_Gm (ao_w2 (List.mem_of_getElem? (i := 160) rfl)) rfl
theorem lf_X2_21 : Cond.fieldLink RX2 21 "AsOneHouse$Engine" "sayings" "LAsOneHouse$Sayings;" ∈ ao_G := ao_Gm (ao_w2 (List.mem_of_getElem? (i := 164) rfl)) rfl
theorem lf_X2_28 : Cond.fieldLink RX2 28 "AsOneHouse$Engine" "records" "LAsOneHouse$Records;" ∈ ao_G := ao_Gm (ao_w2 (List.mem_of_getElem? (i := 166) rfl)) rfl
theorem lf_X2_34 : Cond.fieldLink RX2 34 "AsOneHouse$Engine" "runners" "[LAsOneHouse$Runner;" ∈ ao_G := ao_Gm (ao_w2 (List.mem_of_getElem? (i := 162) rfl)) rfl
theorem lf_X2_41 : Cond.fieldLink RX2 41 "AsOneHouse$Engine" "way" "I" ∈ ao_G := ao_Gm (ao_w2 (List.mem_of_getElem? (i := 170) rfl)) rfl
theorem lf_X2_45 : Cond.fieldLink RX2 45 "AsOneHouse$Engine" "turns" "I" ∈ ao_G := ao_Gm (ao_w2 (List.mem_of_getElem? (i := 168) rfl)) rfl
theorem lf_X2_51 : Cond.fieldLink RX2 51 "AsOneHouse$Sayings" "size" "I" ∈ ao_G := ao_Gm (ao_w1 (List.mem_of_getElem? (i := 203) rfl)) rfl
theorem lf_X2_55 : Cond.fieldLink RX2 55 "AsOneHouse$Runner" "state" "I" ∈ ao_G := ao_Gm (ao_w2 (List.mem_of_getElem? (i := 87) rfl)) rfl
theorem lf_X2_61 : Cond.fieldLink RX2 61 "AsOneHouse$Places" "clock" "I" ∈ ao_G := ao_Gm (ao_w1 (List.mem_of_getElem? (i := 161) rfl)) rfl
theorem lf_X2_64 : Cond.fieldLink RX2 64 "AsOneHouse$Records" "size" "I" ∈ ao_G := ao_Gm (ao_w1 (List.mem_of_getElem? (i := 231) rfl)) rfl
theorem lf_X2_77 : Cond.fieldLink RX2 77 "AsOneHouse$Engine" "now" "I" ∈ ao_G := ao_Gm (ao_w2 (List.mem_of_getElem? (i := 171) rfl)) rfl
theorem lf_X2_88 : Cond.fieldLink RX2 88 "AsOneHouse$Runner" "code" "LAsOneHouse$Code;" ∈ ao_G := ao_Gm (ao_w2 (List.mem_of_getElem? (i := 85) rfl)) rfl
theorem lf_X2_92 : Cond.fieldLink RX2 92 "AsOneHouse$Runner" "at" "I" ∈ ao_G := ao_Gm (ao_w2 (List.mem_of_getElem? (i := 90) rfl)) rfl
theorem lf_X2_95 : Cond.fieldLink RX2 95 "AsOneHouse$Code" "length" "I" ∈ ao_G := ao_Gm (ao_w1 (List.mem_of_getElem? (i := 102) rfl)) rfl
theorem lf_X2_100 : Cond.fieldLink RX2 100 "AsOneHouse$Code" "room" "I" ∈ ao_G := ao_Gm (ao_w1 (List.mem_of_getElem? (i := 95) rfl)) rfl
theorem lf_X2_103 : Cond.fieldLink RX2 103 "AsOneHouse$Code" "first" "[I" ∈ ao_G := ao_Gm (ao_w1 (List.mem_of_getElem? (i := 99) rfl)) rfl
theorem lf_X2_107 : Cond.fieldLink RX2 107 "AsOneHouse$Code" "op" "[I" ∈ ao_G := ao_Gm (ao_w1 (List.mem_of_getElem? (i := 97) rfl)) rfl
theorem lf_X2_155 : Cond.fieldLink RX2 155 "AsOneHouse$Runner" "registers" "[I" ∈ ao_G := ao_Gm (ao_w2 (List.mem_of_getElem? (i := 94) rfl)) rfl
theorem lf_X2_165 : Cond.fieldLink RX2 165 "AsOneHouse$Runner" "depth" "I" ∈ ao_G := ao_Gm (ao_w2 (List.mem_of_getElem? (i := 98) rfl)) rfl
theorem lf_X2_171 : Cond.fieldLink RX2 171 "AsOneHouse$Runner" "thread" "I" ∈ ao_G := ao_Gm (ao_w2 (List.mem_of_getElem? (i := 82) rfl)) rfl
theorem lf_X2_188 : Cond.fieldLink RX2 188 "AsOneHouse$Places" "value" "[I" ∈ ao_G := ao_Gm (ao_w1 (List.mem_of_getElem? (i := 150) rfl)) rfl
theorem lf_X2_206 : Cond.fieldLink RX2 206 "AsOneHouse$Places" "version" "[I" ∈ ao_G := ao_Gm (ao_w1 (List.mem_of_getElem? (i := 152) rfl)) rfl
theorem lf_X2_221 : Cond.fieldLink RX2 221 "AsOneHouse$Level" "written" "[I" ∈ ao_G := ao_Gm (ao_w2 (List.mem_of_getElem? (i := 44) rfl)) rfl
theorem lf_X2_224 : Cond.fieldLink RX2 224 "AsOneHouse$Runner" "startClock" "I" ∈ ao_G := ao_Gm (ao_w2 (List.mem_of_getElem? (i := 108) rfl)) rfl
theorem lf_X2_245 : Cond.fieldLink RX2 245 "AsOneHouse$Places" "takenBy" "[I" ∈ ao_G := ao_Gm (ao_w1 (List.mem_of_getElem? (i := 156) rfl)) rfl
theorem lf_X2_254 : Cond.fieldLink RX2 254 "AsOneHouse$Runner" "firstTurn" "I" ∈ ao_G := ao_Gm (ao_w2 (List.mem_of_getElem? (i := 110) rfl)) rfl
theorem lf_X2_257 : Cond.fieldLink RX2 257 "AsOneHouse$Level" "reads" "I" ∈ ao_G := ao_Gm (ao_w2 (List.mem_of_getElem? (i := 41) rfl)) rfl
theorem lf_X2_264 : Cond.fieldLink RX2 264 "AsOneHouse$Level" "readPlace" "[I" ∈ ao_G := ao_Gm (ao_w2 (List.mem_of_getElem? (i := 34) rfl)) rfl
theorem lf_X2_267 : Cond.fieldLink RX2 267 "AsOneHouse$Level" "readValue" "[I" ∈ ao_G := ao_Gm (ao_w2 (List.mem_of_getElem? (i := 36) rfl)) rfl
theorem lf_X2_270 : Cond.fieldLink RX2 270 "AsOneHouse$Level" "readVersion" "[I" ∈ ao_G := ao_Gm (ao_w2 (List.mem_of_getElem? (i := 38) rfl)) rfl
theorem lf_X2_279 : Cond.fieldLink RX2 279 "AsOneHouse$Level" "inOr" "Z" ∈ ao_G := ao_Gm (ao_w2 (List.mem_of_getElem? (i := 53) rfl)) rfl
theorem lf_X2_286 : Cond.fieldLink RX2 286 "AsOneHouse$Runner" "fromTurn" "I" ∈ ao_G := ao_Gm (ao_w2 (List.mem_of_getElem? (i := 112) rfl)) rfl
theorem lf_X2_289 : Cond.fieldLink RX2 289 "AsOneHouse$Runner" "restarts" "I" ∈ ao_G := ao_Gm (ao_w2 (List.mem_of_getElem? (i := 114) rfl)) rfl
theorem lf_X2_292 : Cond.fieldLink RX2 292 "AsOneHouse$Level" "begin" "I" ∈ ao_G := ao_Gm (ao_w2 (List.mem_of_getElem? (i := 51) rfl)) rfl
theorem lf_X2_304 : Cond.fieldLink RX2 304 "AsOneHouse$Level" "writeMask" "I" ∈ ao_G := ao_Gm (ao_w2 (List.mem_of_getElem? (i := 47) rfl)) rfl
theorem lf_X2_320 : Cond.fieldLink RX2 320 "AsOneHouse$Runner" "heldSize" "I" ∈ ao_G := ao_Gm (ao_w2 (List.mem_of_getElem? (i := 106) rfl)) rfl
theorem lf_X2_340 : Cond.fieldLink RX2 340 "AsOneHouse$Runner" "held" "[I" ∈ ao_G := ao_Gm (ao_w2 (List.mem_of_getElem? (i := 104) rfl)) rfl
theorem lf_X2_343 : Cond.fieldLink RX2 343 "AsOneHouse$Runner" "ended" "I" ∈ ao_G := ao_Gm (ao_w2 (List.mem_of_getElem? (i := 116) rfl)) rfl
theorem lf_X2_361 : Cond.fieldLink RX2 361 "AsOneHouse$Runner" "tries" "I" ∈ ao_G := ao_Gm (ao_w2 (List.mem_of_getElem? (i := 102) rfl)) rfl
theorem lf_X2_364 : Cond.fieldLink RX2 364 "AsOneHouse$Runner" "failedWith" "I" ∈ ao_G := ao_Gm (ao_w2 (List.mem_of_getElem? (i := 118) rfl)) rfl
theorem lf_X3_9 : Cond.fieldLink RX3 9 "AsOneHouse$Level" "readPlace" "[I" ∈ ao_G := ao_Gm (ao_w2 (List.mem_of_getElem? (i := 33) rfl)) rfl
theorem lf_X3_15 : Cond.fieldLink RX3 15 "AsOneHouse$Level" "readValue" "[I" ∈ ao_G := ao_Gm (ao_w2 (List.mem_of_getElem? (i := 35) rfl)) rfl
theorem lf_X3_18 : Cond.fieldLink RX3 18 "AsOneHouse$Level" "readVersion" "[I" ∈ ao_G := ao_Gm (ao_w2 (List.mem_of_getElem? (i := 37) rfl)) rfl
theorem lf_X3_21 : Cond.fieldLink RX3 21 "AsOneHouse$Level" "written" "[I" ∈ ao_G := ao_Gm (ao_w2 (List.mem_of_getElem? (i := 43) rfl)) rfl
theorem lf_X3_24 : Cond.fieldLink RX3 24 "AsOneHouse$Level" "registers" "[I" ∈ ao_G := ao_Gm (ao_w2 (List.mem_of_getElem? (i := 48) rfl)) rfl
theorem lf_X3_27 : Cond.fieldLink RX3 27 "AsOneHouse$Level" "reads" "I" ∈ ao_G := ao_Gm (ao_w2 (List.mem_of_getElem? (i := 39) rfl)) rfl
theorem lf_X3_31 : Cond.fieldLink RX3 31 "AsOneHouse$Level" "readMask" "I" ∈ ao_G := ao_Gm (ao_w2 (List.mem_of_getElem? (i := 42) rfl)) rfl
theorem lf_X3_34 : Cond.fieldLink RX3 34 "AsOneHouse$Level" "writeMask" "I" ∈ ao_G := ao_Gm (ao_w2 (List.mem_of_getElem? (i := 45) rfl)) rfl
theorem lf_X4_12 : Cond.fieldLink RX4 12 "AsOneHouse$Parser" "scanner" "LAsOneHouse$Scanner;" ∈ ao_G := ao_Gm (ao_w1 (List.mem_of_getElem? (i := 120) rfl)) rfl
theorem lf_X4_23 : Cond.fieldLink RX4 23 "AsOneHouse$Parser" "code" "LAsOneHouse$Code;" ∈ ao_G := ao_Gm (ao_w1 (List.mem_of_getElem? (i := 121) rfl)) rfl
theorem lf_X4_27 : Cond.fieldLink RX4 27 "AsOneHouse$Parser" "brokenAt" "I" ∈ ao_G := ao_Gm (ao_w1 (List.mem_of_getElem? (i := 123) rfl)) rfl
theorem lf_X4_42 : Cond.fieldLink RX4 42 "AsOneHouse$Scanner" "kind" "I" ∈ ao_G := ao_Gm (ao_w1 (List.mem_of_getElem? (i := 58) rfl)) rfl
theorem lf_X4_49 : Cond.fieldLink RX4 49 "AsOneHouse$Scanner" "begin" "I" ∈ ao_G := ao_Gm (ao_w1 (List.mem_of_getElem? (i := 60) rfl)) rfl
theorem lf_X4_66 : Cond.fieldLink RX4 66 "AsOneHouse$Code" "statements" "I" ∈ ao_G := ao_Gm (ao_w1 (List.mem_of_getElem? (i := 106) rfl)) rfl
theorem lf_X4_90 : Cond.fieldLink RX4 90 "AsOneHouse$Scanner" "value" "I" ∈ ao_G := ao_Gm (ao_w1 (List.mem_of_getElem? (i := 62) rfl)) rfl
theorem lf_X4_106 : Cond.fieldLink RX4 106 "AsOneHouse$Code" "length" "I" ∈ ao_G := ao_Gm (ao_w1 (List.mem_of_getElem? (i := 103) rfl)) rfl
theorem lf_X5_9 : Cond.fieldLink RX5 9 "AsOneHouse$Places" "value" "[I" ∈ ao_G := ao_Gm (ao_w1 (List.mem_of_getElem? (i := 147) rfl)) rfl
theorem lf_X5_15 : Cond.fieldLink RX5 15 "AsOneHouse$Places" "version" "[I" ∈ ao_G := ao_Gm (ao_w1 (List.mem_of_getElem? (i := 151) rfl)) rfl
theorem lf_X5_18 : Cond.fieldLink RX5 18 "AsOneHouse$Places" "takenBy" "[I" ∈ ao_G := ao_Gm (ao_w1 (List.mem_of_getElem? (i := 153) rfl)) rfl
theorem lf_X5_21 : Cond.fieldLink RX5 21 "AsOneHouse$Places" "atFirst" "[I" ∈ ao_G := ao_Gm (ao_w1 (List.mem_of_getElem? (i := 157) rfl)) rfl
theorem lf_X5_24 : Cond.fieldLink RX5 24 "AsOneHouse$Places" "latest" "[I" ∈ ao_G := ao_Gm (ao_w1 (List.mem_of_getElem? (i := 163) rfl)) rfl
theorem lf_X5_27 : Cond.fieldLink RX5 27 "AsOneHouse$Places" "room" "I" ∈ ao_G := ao_Gm (ao_w1 (List.mem_of_getElem? (i := 167) rfl)) rfl
theorem lf_X5_31 : Cond.fieldLink RX5 31 "AsOneHouse$Places" "pastClock" "[I" ∈ ao_G := ao_Gm (ao_w1 (List.mem_of_getElem? (i := 164) rfl)) rfl
theorem lf_X5_34 : Cond.fieldLink RX5 34 "AsOneHouse$Places" "pastValue" "[I" ∈ ao_G := ao_Gm (ao_w1 (List.mem_of_getElem? (i := 165) rfl)) rfl
theorem lf_X5_37 : Cond.fieldLink RX5 37 "AsOneHouse$Places" "pastBefore" "[I" ∈ ao_G := ao_Gm (ao_w1 (List.mem_of_getElem? (i := 166) rfl)) rfl
theorem lf_X5_46 : Cond.fieldLink RX5 46 "AsOneHouse$Places" "clock" "I" ∈ ao_G := ao_Gm (ao_w1 (List.mem_of_getElem? (i := 160) rfl)) rfl
theorem lf_X5_49 : Cond.fieldLink RX5 49 "AsOneHouse$Places" "pasts" "I" ∈ ao_G := ao_Gm (ao_w1 (List.mem_of_getElem? (i := 168) rfl)) rfl
theorem lf_X6_9 : Cond.fieldLink RX6 9 "AsOneHouse$Records" "thread" "[I" ∈ ao_G := ao_Gm (ao_w1 (List.mem_of_getElem? (i := 220) rfl)) rfl
theorem lf_X6_15 : Cond.fieldLink RX6 15 "AsOneHouse$Records" "reads" "[I" ∈ ao_G := ao_Gm (ao_w1 (List.mem_of_getElem? (i := 221) rfl)) rfl
theorem lf_X6_18 : Cond.fieldLink RX6 18 "AsOneHouse$Records" "writes" "[I" ∈ ao_G := ao_Gm (ao_w1 (List.mem_of_getElem? (i := 222) rfl)) rfl
theorem lf_X6_21 : Cond.fieldLink RX6 21 "AsOneHouse$Records" "from" "[I" ∈ ao_G := ao_Gm (ao_w1 (List.mem_of_getElem? (i := 223) rfl)) rfl
theorem lf_X6_24 : Cond.fieldLink RX6 24 "AsOneHouse$Records" "to" "[I" ∈ ao_G := ao_Gm (ao_w1 (List.mem_of_getElem? (i := 224) rfl)) rfl
theorem lf_X6_29 : Cond.fieldLink RX6 29 "AsOneHouse$Records" "readPlace" "[[I" ∈ ao_G := ao_Gm (ao_w1 (List.mem_of_getElem? (i := 225) rfl)) rfl
theorem lf_X6_32 : Cond.fieldLink RX6 32 "AsOneHouse$Records" "readValue" "[[I" ∈ ao_G := ao_Gm (ao_w1 (List.mem_of_getElem? (i := 226) rfl)) rfl
theorem lf_X6_35 : Cond.fieldLink RX6 35 "AsOneHouse$Records" "writePlace" "[[I" ∈ ao_G := ao_Gm (ao_w1 (List.mem_of_getElem? (i := 227) rfl)) rfl
theorem lf_X6_38 : Cond.fieldLink RX6 38 "AsOneHouse$Records" "writeValue" "[[I" ∈ ao_G := ao_Gm (ao_w1 (List.mem_of_getElem? (i := 228) rfl)) rfl
theorem lf_X6_41 : Cond.fieldLink RX6 41 "AsOneHouse$Records" "size" "I" ∈ ao_G := ao_Gm (ao_w1 (List.mem_of_getElem? (i := 229) rfl)) rfl
theorem lf_X6_45 : Cond.fieldLink RX6 45 "AsOneHouse$Records" "isKept" "Z" ∈ ao_G := ao_Gm (ao_w1 (List.mem_of_getElem? (i := 233) rfl)) rfl
theorem lf_X7_9 : Cond.fieldLink RX7 9 "AsOneHouse$Runner" "thread" "I" ∈ ao_G := ao_Gm (ao_w2 (List.mem_of_getElem? (i := 81) rfl)) rfl
theorem lf_X7_20 : Cond.fieldLink RX7 20 "AsOneHouse$Runner" "code" "LAsOneHouse$Code;" ∈ ao_G := ao_Gm (ao_w2 (List.mem_of_getElem? (i := 83) rfl)) rfl
theorem lf_X7_24 : Cond.fieldLink RX7 24 "AsOneHouse$Runner" "state" "I" ∈ ao_G := ao_Gm (ao_w2 (List.mem_of_getElem? (i := 86) rfl)) rfl
theorem lf_X7_27 : Cond.fieldLink RX7 27 "AsOneHouse$Runner" "stack" "[I" ∈ ao_G := ao_Gm (ao_w2 (List.mem_of_getElem? (i := 91) rfl)) rfl
theorem lf_X7_31 : Cond.fieldLink RX7 31 "AsOneHouse$Runner" "registers" "[I" ∈ ao_G := ao_Gm (ao_w2 (List.mem_of_getElem? (i := 93) rfl)) rfl
theorem lf_X7_36 : Cond.fieldLink RX7 36 "AsOneHouse$Runner" "levels" "[LAsOneHouse$Level;" ∈ ao_G := ao_Gm (ao_w2 (List.mem_of_getElem? (i := 96) rfl)) rfl
theorem lf_X7_41 : Cond.fieldLink RX7 41 "AsOneHouse$Runner" "tryAt" "[I" ∈ ao_G := ao_Gm (ao_w2 (List.mem_of_getElem? (i := 99) rfl)) rfl
theorem lf_X7_44 : Cond.fieldLink RX7 44 "AsOneHouse$Runner" "tryDepth" "[I" ∈ ao_G := ao_Gm (ao_w2 (List.mem_of_getElem? (i := 100) rfl)) rfl
theorem lf_X7_47 : Cond.fieldLink RX7 47 "AsOneHouse$Runner" "held" "[I" ∈ ao_G := ao_Gm (ao_w2 (List.mem_of_getElem? (i := 103) rfl)) rfl
theorem lf_X7_50 : Cond.fieldLink RX7 50 "AsOneHouse$Runner" "at" "I" ∈ ao_G := ao_Gm (ao_w2 (List.mem_of_getElem? (i := 89) rfl)) rfl
theorem lf_X7_53 : Cond.fieldLink RX7 53 "AsOneHouse$Runner" "stacked" "I" ∈ ao_G := ao_Gm (ao_w2 (List.mem_of_getElem? (i := 92) rfl)) rfl
theorem lf_X7_62 : Cond.fieldLink RX7 62 "AsOneHouse$Runner" "depth" "I" ∈ ao_G := ao_Gm (ao_w2 (List.mem_of_getElem? (i := 97) rfl)) rfl
theorem lf_X7_65 : Cond.fieldLink RX7 65 "AsOneHouse$Runner" "tries" "I" ∈ ao_G := ao_Gm (ao_w2 (List.mem_of_getElem? (i := 101) rfl)) rfl
theorem lf_X7_68 : Cond.fieldLink RX7 68 "AsOneHouse$Runner" "heldSize" "I" ∈ ao_G := ao_Gm (ao_w2 (List.mem_of_getElem? (i := 105) rfl)) rfl
theorem lf_X7_71 : Cond.fieldLink RX7 71 "AsOneHouse$Runner" "startClock" "I" ∈ ao_G := ao_Gm (ao_w2 (List.mem_of_getElem? (i := 107) rfl)) rfl
theorem lf_X7_74 : Cond.fieldLink RX7 74 "AsOneHouse$Runner" "firstTurn" "I" ∈ ao_G := ao_Gm (ao_w2 (List.mem_of_getElem? (i := 109) rfl)) rfl
theorem lf_X7_77 : Cond.fieldLink RX7 77 "AsOneHouse$Runner" "fromTurn" "I" ∈ ao_G := ao_Gm (ao_w2 (List.mem_of_getElem? (i := 111) rfl)) rfl
theorem lf_X7_80 : Cond.fieldLink RX7 80 "AsOneHouse$Runner" "restarts" "I" ∈ ao_G := ao_Gm (ao_w2 (List.mem_of_getElem? (i := 113) rfl)) rfl
theorem lf_X7_83 : Cond.fieldLink RX7 83 "AsOneHouse$Runner" "ended" "I" ∈ ao_G := ao_Gm (ao_w2 (List.mem_of_getElem? (i := 115) rfl)) rfl
theorem lf_X7_86 : Cond.fieldLink RX7 86 "AsOneHouse$Runner" "failedWith" "I" ∈ ao_G := ao_Gm (ao_w2 (List.mem_of_getElem? (i := 117) rfl)) rfl
theorem lf_X7_99 : Cond.fieldLink RX7 99 "AsOneHouse$Level" "begin" "I" ∈ ao_G := ao_Gm (ao_w2 (List.mem_of_getElem? (i := 50) rfl)) rfl
theorem lf_X7_102 : Cond.fieldLink RX7 102 "AsOneHouse$Level" "inOr" "Z" ∈ ao_G := ao_Gm (ao_w2 (List.mem_of_getElem? (i := 52) rfl)) rfl
theorem lf_X7_106 : Cond.fieldLink RX7 106 "AsOneHouse$Level" "heldBefore" "I" ∈ ao_G := ao_Gm (ao_w2 (List.mem_of_getElem? (i := 54) rfl)) rfl
theorem lf_X7_109 : Cond.fieldLink RX7 109 "AsOneHouse$Level" "triesBefore" "I" ∈ ao_G := ao_Gm (ao_w2 (List.mem_of_getElem? (i := 55) rfl)) rfl
theorem lf_X7_112 : Cond.fieldLink RX7 112 "AsOneHouse$Level" "registers" "[I" ∈ ao_G := ao_Gm (ao_w2 (List.mem_of_getElem? (i := 49) rfl)) rfl
theorem lf_X7_135 : Cond.fieldLink RX7 135 "AsOneHouse$Level" "reads" "I" ∈ ao_G := ao_Gm (ao_w2 (List.mem_of_getElem? (i := 40) rfl)) rfl
theorem lf_X7_138 : Cond.fieldLink RX7 138 "AsOneHouse$Level" "writeMask" "I" ∈ ao_G := ao_Gm (ao_w2 (List.mem_of_getElem? (i := 46) rfl)) rfl
theorem lf_X8_9 : Cond.fieldLink RX8 9 "AsOneHouse$Sayings" "thread" "[I" ∈ ao_G := ao_Gm (ao_w1 (List.mem_of_getElem? (i := 198) rfl)) rfl
theorem lf_X8_15 : Cond.fieldLink RX8 15 "AsOneHouse$Sayings" "value" "[I" ∈ ao_G := ao_Gm (ao_w1 (List.mem_of_getElem? (i := 200) rfl)) rfl
theorem lf_X8_18 : Cond.fieldLink RX8 18 "AsOneHouse$Sayings" "size" "I" ∈ ao_G := ao_Gm (ao_w1 (List.mem_of_getElem? (i := 202) rfl)) rfl
theorem lf_X9_9 : Cond.fieldLink RX9 9 "AsOneHouse$Scanner" "text" "[B" ∈ ao_G := ao_Gm (ao_w1 (List.mem_of_getElem? (i := 49) rfl)) rfl
theorem lf_X9_15 : Cond.fieldLink RX9 15 "AsOneHouse$Scanner" "kinds" "[I" ∈ ao_G := ao_Gm (ao_w1 (List.mem_of_getElem? (i := 52) rfl)) rfl
theorem lf_X9_19 : Cond.fieldLink RX9 19 "AsOneHouse$Scanner" "begins" "[I" ∈ ao_G := ao_Gm (ao_w1 (List.mem_of_getElem? (i := 53) rfl)) rfl
theorem lf_X9_22 : Cond.fieldLink RX9 22 "AsOneHouse$Scanner" "values" "[I" ∈ ao_G := ao_Gm (ao_w1 (List.mem_of_getElem? (i := 54) rfl)) rfl
theorem lf_X9_25 : Cond.fieldLink RX9 25 "AsOneHouse$Scanner" "length" "I" ∈ ao_G := ao_Gm (ao_w1 (List.mem_of_getElem? (i := 50) rfl)) rfl
theorem lf_X9_29 : Cond.fieldLink RX9 29 "AsOneHouse$Scanner" "next" "I" ∈ ao_G := ao_Gm (ao_w1 (List.mem_of_getElem? (i := 51) rfl)) rfl
theorem lf_X9_32 : Cond.fieldLink RX9 32 "AsOneHouse$Scanner" "kind" "I" ∈ ao_G := ao_Gm (ao_w1 (List.mem_of_getElem? (i := 57) rfl)) rfl
theorem lf_X9_35 : Cond.fieldLink RX9 35 "AsOneHouse$Scanner" "tokens" "I" ∈ ao_G := ao_Gm (ao_w1 (List.mem_of_getElem? (i := 55) rfl)) rfl
theorem lf_X9_41 : Cond.fieldLink RX9 41 "AsOneHouse$Scanner" "begin" "I" ∈ ao_G := ao_Gm (ao_w1 (List.mem_of_getElem? (i := 59) rfl)) rfl
theorem lf_X9_44 : Cond.fieldLink RX9 44 "AsOneHouse$Scanner" "value" "I" ∈ ao_G := ao_Gm (ao_w1 (List.mem_of_getElem? (i := 61) rfl)) rfl
theorem lf_X9_47 : Cond.fieldLink RX9 47 "AsOneHouse$Scanner" "cursor" "I" ∈ ao_G := ao_Gm (ao_w1 (List.mem_of_getElem? (i := 56) rfl)) rfl
theorem lf_X12_1 : Cond.fieldLink RX12 1 "AsOneHouseModel" "thrown" "I" ∈ ao_G := ao_Gm (ao_w6 (List.mem_of_getElem? (i := 165) rfl)) rfl
theorem lf_X12_7 : Cond.fieldLink RX12 7 "AsOneHouseModel" "broken" "I" ∈ ao_G := ao_Gm (ao_w6 (List.mem_of_getElem? (i := 167) rfl)) rfl
theorem lf_X12_10 : Cond.fieldLink RX12 10 "AsOneHouseModel" "brokenHere" "LAsOneHouseModel$Broken;" ∈ ao_G := ao_Gm (ao_w6 (List.mem_of_getElem? (i := 166) rfl)) rfl
theorem lf_X12_14 : Cond.fieldLink RX12 14 "AsOneHouseModel" "length" "I" ∈ ao_G := ao_Gm (ao_w6 (List.mem_of_getElem? (i := 172) rfl)) rfl
theorem lf_X12_17 : Cond.fieldLink RX12 17 "AsOneHouseModel" "source" "[B" ∈ ao_G := ao_Gm (ao_w6 (List.mem_of_getElem? (i := 170) rfl)) rfl
theorem lf_X12_32 : Cond.fieldLink RX12 32 "AsOneHouseModel" "readAt" "I" ∈ ao_G := ao_Gm (ao_w6 (List.mem_of_getElem? (i := 173) rfl)) rfl
theorem lf_X12_39 : Cond.fieldLink RX12 39 "AsOneHouseModel" "at" "I" ∈ ao_G := ao_Gm (ao_w6 (List.mem_of_getElem? (i := 176) rfl)) rfl
theorem lf_X12_42 : Cond.fieldLink RX12 42 "AsOneHouseModel" "kind" "I" ∈ ao_G := ao_Gm (ao_w6 (List.mem_of_getElem? (i := 174) rfl)) rfl
theorem lf_X12_49 : Cond.fieldLink RX12 49 "AsOneHouseModel" "what" "I" ∈ ao_G := ao_Gm (ao_w6 (List.mem_of_getElem? (i := 175) rfl)) rfl
theorem lf_X12_74 : Cond.fieldLink RX12 74 "AsOneHouseModel" "made" "[I" ∈ ao_G := ao_Gm (ao_w6 (List.mem_of_getElem? (i := 177) rfl)) rfl
theorem lf_X12_78 : Cond.fieldLink RX12 78 "AsOneHouseModel" "instructions" "I" ∈ ao_G := ao_Gm (ao_w6 (List.mem_of_getElem? (i := 178) rfl)) rfl
theorem lf_X12_81 : Cond.fieldLink RX12 81 "AsOneHouseModel" "deep" "I" ∈ ao_G := ao_Gm (ao_w6 (List.mem_of_getElem? (i := 179) rfl)) rfl
theorem lf_X12_110 : Cond.fieldLink RX12 110 "AsOneHouseModel" "within" "I" ∈ ao_G := ao_Gm (ao_w6 (List.mem_of_getElem? (i := 181) rfl)) rfl
theorem lf_X12_113 : Cond.fieldLink RX12 113 "AsOneHouseModel" "statements" "I" ∈ ao_G := ao_Gm (ao_w6 (List.mem_of_getElem? (i := 180) rfl)) rfl
theorem lf_X12_132 : Cond.fieldLink RX12 132 "AsOneHouseModel" "pasts" "I" ∈ ao_G := ao_Gm (ao_w6 (List.mem_of_getElem? (i := 190) rfl)) rfl
theorem lf_X12_135 : Cond.fieldLink RX12 135 "AsOneHouseModel" "pastVersion" "[I" ∈ ao_G := ao_Gm (ao_w6 (List.mem_of_getElem? (i := 187) rfl)) rfl
theorem lf_X12_142 : Cond.fieldLink RX12 142 "AsOneHouseModel" "pastValue" "[I" ∈ ao_G := ao_Gm (ao_w6 (List.mem_of_getElem? (i := 188) rfl)) rfl
theorem lf_X12_145 : Cond.fieldLink RX12 145 "AsOneHouseModel" "pastBefore" "[I" ∈ ao_G := ao_Gm (ao_w6 (List.mem_of_getElem? (i := 189) rfl)) rfl
theorem lf_X12_148 : Cond.fieldLink RX12 148 "AsOneHouseModel" "clock" "I" ∈ ao_G := ao_Gm (ao_w6 (List.mem_of_getElem? (i := 191) rfl)) rfl
theorem lf_X12_151 : Cond.fieldLink RX12 151 "AsOneHouseModel" "value" "[I" ∈ ao_G := ao_Gm (ao_w6 (List.mem_of_getElem? (i := 182) rfl)) rfl
theorem lf_X12_154 : Cond.fieldLink RX12 154 "AsOneHouseModel" "lastPast" "[I" ∈ ao_G := ao_Gm (ao_w6 (List.mem_of_getElem? (i := 186) rfl)) rfl
theorem lf_X12_157 : Cond.fieldLink RX12 157 "AsOneHouseModel" "version" "[I" ∈ ao_G := ao_Gm (ao_w6 (List.mem_of_getElem? (i := 183) rfl)) rfl
theorem lf_X12_171 : Cond.fieldLink RX12 171 "AsOneHouseModel" "told" "I" ∈ ao_G := ao_Gm (ao_w6 (List.mem_of_getElem? (i := 168) rfl)) rfl
theorem lf_X12_174 : Cond.fieldLink RX12 174 "AsOneHouseModel" "tape" "[B" ∈ ao_G := ao_Gm (ao_w6 (List.mem_of_getElem? (i := 169) rfl)) rfl
theorem lf_X12_177 : Cond.fieldLink RX12 177 "AsOneHouseModel" "taken" "[I" ∈ ao_G := ao_Gm (ao_w6 (List.mem_of_getElem? (i := 184) rfl)) rfl
theorem lf_X12_180 : Cond.fieldLink RX12 180 "AsOneHouseModel" "atFirst" "[I" ∈ ao_G := ao_Gm (ao_w6 (List.mem_of_getElem? (i := 185) rfl)) rfl
theorem lf_X12_184 : Cond.fieldLink RX12 184 "AsOneHouseModel" "code" "[I" ∈ ao_G := ao_Gm (ao_w6 (List.mem_of_getElem? (i := 193) rfl)) rfl
theorem lf_X12_187 : Cond.fieldLink RX12 187 "AsOneHouseModel" "mode" "[I" ∈ ao_G := ao_Gm (ao_w6 (List.mem_of_getElem? (i := 194) rfl)) rfl
theorem lf_X12_190 : Cond.fieldLink RX12 190 "AsOneHouseModel" "pc" "[I" ∈ ao_G := ao_Gm (ao_w6 (List.mem_of_getElem? (i := 195) rfl)) rfl
theorem lf_X12_193 : Cond.fieldLink RX12 193 "AsOneHouseModel" "register" "[I" ∈ ao_G := ao_Gm (ao_w6 (List.mem_of_getElem? (i := 196) rfl)) rfl
theorem lf_X12_196 : Cond.fieldLink RX12 196 "AsOneHouseModel" "stack" "[I" ∈ ao_G := ao_Gm (ao_w6 (List.mem_of_getElem? (i := 197) rfl)) rfl
theorem lf_X12_199 : Cond.fieldLink RX12 199 "AsOneHouseModel" "top" "[I" ∈ ao_G := ao_Gm (ao_w6 (List.mem_of_getElem? (i := 198) rfl)) rfl
theorem lf_X12_202 : Cond.fieldLink RX12 202 "AsOneHouseModel" "levels" "[I" ∈ ao_G := ao_Gm (ao_w6 (List.mem_of_getElem? (i := 199) rfl)) rfl
theorem lf_X12_205 : Cond.fieldLink RX12 205 "AsOneHouseModel" "scopes" "[I" ∈ ao_G := ao_Gm (ao_w6 (List.mem_of_getElem? (i := 200) rfl)) rfl
theorem lf_X12_208 : Cond.fieldLink RX12 208 "AsOneHouseModel" "tries" "[I" ∈ ao_G := ao_Gm (ao_w6 (List.mem_of_getElem? (i := 201) rfl)) rfl
theorem lf_X12_211 : Cond.fieldLink RX12 211 "AsOneHouseModel" "restarts" "[I" ∈ ao_G := ao_Gm (ao_w6 (List.mem_of_getElem? (i := 202) rfl)) rfl
theorem lf_X12_214 : Cond.fieldLink RX12 214 "AsOneHouseModel" "start" "[I" ∈ ao_G := ao_Gm (ao_w6 (List.mem_of_getElem? (i := 203) rfl)) rfl
theorem lf_X12_217 : Cond.fieldLink RX12 217 "AsOneHouseModel" "deadOf" "[I" ∈ ao_G := ao_Gm (ao_w6 (List.mem_of_getElem? (i := 204) rfl)) rfl
theorem lf_X12_220 : Cond.fieldLink RX12 220 "AsOneHouseModel" "ended" "[I" ∈ ao_G := ao_Gm (ao_w6 (List.mem_of_getElem? (i := 205) rfl)) rfl
theorem lf_X12_223 : Cond.fieldLink RX12 223 "AsOneHouseModel" "birth" "[I" ∈ ao_G := ao_Gm (ao_w6 (List.mem_of_getElem? (i := 206) rfl)) rfl
theorem lf_X12_226 : Cond.fieldLink RX12 226 "AsOneHouseModel" "fromTurn" "[I" ∈ ao_G := ao_Gm (ao_w6 (List.mem_of_getElem? (i := 207) rfl)) rfl
theorem lf_X12_229 : Cond.fieldLink RX12 229 "AsOneHouseModel" "scopeLevel" "[I" ∈ ao_G := ao_Gm (ao_w6 (List.mem_of_getElem? (i := 208) rfl)) rfl
theorem lf_X12_232 : Cond.fieldLink RX12 232 "AsOneHouseModel" "tryCatch" "[I" ∈ ao_G := ao_Gm (ao_w6 (List.mem_of_getElem? (i := 209) rfl)) rfl
theorem lf_X12_235 : Cond.fieldLink RX12 235 "AsOneHouseModel" "tryRegister" "[I" ∈ ao_G := ao_Gm (ao_w6 (List.mem_of_getElem? (i := 210) rfl)) rfl
theorem lf_X12_238 : Cond.fieldLink RX12 238 "AsOneHouseModel" "tryLevels" "[I" ∈ ao_G := ao_Gm (ao_w6 (List.mem_of_getElem? (i := 211) rfl)) rfl
theorem lf_X12_241 : Cond.fieldLink RX12 241 "AsOneHouseModel" "tryScopes" "[I" ∈ ao_G := ao_Gm (ao_w6 (List.mem_of_getElem? (i := 212) rfl)) rfl
theorem lf_X12_244 : Cond.fieldLink RX12 244 "AsOneHouseModel" "beginAt" "[I" ∈ ao_G := ao_Gm (ao_w6 (List.mem_of_getElem? (i := 213) rfl)) rfl
theorem lf_X12_247 : Cond.fieldLink RX12 247 "AsOneHouseModel" "orAt" "[I" ∈ ao_G := ao_Gm (ao_w6 (List.mem_of_getElem? (i := 214) rfl)) rfl
theorem lf_X12_250 : Cond.fieldLink RX12 250 "AsOneHouseModel" "overAt" "[I" ∈ ao_G := ao_Gm (ao_w6 (List.mem_of_getElem? (i := 215) rfl)) rfl
theorem lf_X12_253 : Cond.fieldLink RX12 253 "AsOneHouseModel" "levelScopes" "[I" ∈ ao_G := ao_Gm (ao_w6 (List.mem_of_getElem? (i := 216) rfl)) rfl
theorem lf_X12_256 : Cond.fieldLink RX12 256 "AsOneHouseModel" "levelTries" "[I" ∈ ao_G := ao_Gm (ao_w6 (List.mem_of_getElem? (i := 217) rfl)) rfl
theorem lf_X12_259 : Cond.fieldLink RX12 259 "AsOneHouseModel" "kept" "[I" ∈ ao_G := ao_Gm (ao_w6 (List.mem_of_getElem? (i := 218) rfl)) rfl
theorem lf_X12_262 : Cond.fieldLink RX12 262 "AsOneHouseModel" "inOr" "[Z" ∈ ao_G := ao_Gm (ao_w6 (List.mem_of_getElem? (i := 219) rfl)) rfl
theorem lf_X12_266 : Cond.fieldLink RX12 266 "AsOneHouseModel" "reads" "[Z" ∈ ao_G := ao_Gm (ao_w6 (List.mem_of_getElem? (i := 220) rfl)) rfl
theorem lf_X12_269 : Cond.fieldLink RX12 269 "AsOneHouseModel" "writes" "[Z" ∈ ao_G := ao_Gm (ao_w6 (List.mem_of_getElem? (i := 221) rfl)) rfl
theorem lf_X12_272 : Cond.fieldLink RX12 272 "AsOneHouseModel" "readValue" "[I" ∈ ao_G := ao_Gm (ao_w6 (List.mem_of_getElem? (i := 222) rfl)) rfl
theorem lf_X12_275 : Cond.fieldLink RX12 275 "AsOneHouseModel" "readVersion" "[I" ∈ ao_G := ao_Gm (ao_w6 (List.mem_of_getElem? (i := 223) rfl)) rfl
theorem lf_X12_278 : Cond.fieldLink RX12 278 "AsOneHouseModel" "readOrder" "[I" ∈ ao_G := ao_Gm (ao_w6 (List.mem_of_getElem? (i := 224) rfl)) rfl
theorem lf_X12_281 : Cond.fieldLink RX12 281 "AsOneHouseModel" "writeValue" "[I" ∈ ao_G := ao_Gm (ao_w6 (List.mem_of_getElem? (i := 225) rfl)) rfl
theorem lf_X12_284 : Cond.fieldLink RX12 284 "AsOneHouseModel" "held" "[I" ∈ ao_G := ao_Gm (ao_w6 (List.mem_of_getElem? (i := 226) rfl)) rfl
theorem lf_X12_287 : Cond.fieldLink RX12 287 "AsOneHouseModel" "heldMany" "[I" ∈ ao_G := ao_Gm (ao_w6 (List.mem_of_getElem? (i := 227) rfl)) rfl
theorem lf_X12_290 : Cond.fieldLink RX12 290 "AsOneHouseModel" "said" "[I" ∈ ao_G := ao_Gm (ao_w6 (List.mem_of_getElem? (i := 231) rfl)) rfl
theorem lf_X12_293 : Cond.fieldLink RX12 293 "AsOneHouseModel" "saidBy" "[I" ∈ ao_G := ao_Gm (ao_w6 (List.mem_of_getElem? (i := 232) rfl)) rfl
theorem lf_X12_296 : Cond.fieldLink RX12 296 "AsOneHouseModel" "recordThread" "[I" ∈ ao_G := ao_Gm (ao_w6 (List.mem_of_getElem? (i := 234) rfl)) rfl
theorem lf_X12_299 : Cond.fieldLink RX12 299 "AsOneHouseModel" "recordFrom" "[I" ∈ ao_G := ao_Gm (ao_w6 (List.mem_of_getElem? (i := 235) rfl)) rfl
theorem lf_X12_302 : Cond.fieldLink RX12 302 "AsOneHouseModel" "recordTo" "[I" ∈ ao_G := ao_Gm (ao_w6 (List.mem_of_getElem? (i := 236) rfl)) rfl
theorem lf_X12_305 : Cond.fieldLink RX12 305 "AsOneHouseModel" "recordRead" "[I" ∈ ao_G := ao_Gm (ao_w6 (List.mem_of_getElem? (i := 237) rfl)) rfl
theorem lf_X12_308 : Cond.fieldLink RX12 308 "AsOneHouseModel" "recordWrite" "[I" ∈ ao_G := ao_Gm (ao_w6 (List.mem_of_getElem? (i := 238) rfl)) rfl
theorem lf_X12_311 : Cond.fieldLink RX12 311 "AsOneHouseModel" "hasRead" "[Z" ∈ ao_G := ao_Gm (ao_w6 (List.mem_of_getElem? (i := 239) rfl)) rfl
theorem lf_X12_314 : Cond.fieldLink RX12 314 "AsOneHouseModel" "hasWrite" "[Z" ∈ ao_G := ao_Gm (ao_w7 (List.mem_of_getElem? (i := 0) rfl)) rfl
theorem lf_X12_317 : Cond.fieldLink RX12 317 "AsOneHouseModel" "order" "[I" ∈ ao_G := ao_Gm (ao_w7 (List.mem_of_getElem? (i := 3) rfl)) rfl
theorem lf_X12_320 : Cond.fieldLink RX12 320 "AsOneHouseModel" "next" "[I" ∈ ao_G := ao_Gm (ao_w7 (List.mem_of_getElem? (i := 4) rfl)) rfl
theorem lf_X12_323 : Cond.fieldLink RX12 323 "AsOneHouseModel" "state" "[I" ∈ ao_G := ao_Gm (ao_w7 (List.mem_of_getElem? (i := 5) rfl)) rfl
theorem lf_X12_326 : Cond.fieldLink RX12 326 "AsOneHouseModel" "isUsed" "[Z" ∈ ao_G := ao_Gm (ao_w7 (List.mem_of_getElem? (i := 6) rfl)) rfl
theorem lf_X12_332 : Cond.fieldLink RX12 332 "AsOneHouseModel" "way" "I" ∈ ao_G := ao_Gm (ao_w6 (List.mem_of_getElem? (i := 192) rfl)) rfl
theorem lf_X12_335 : Cond.fieldLink RX12 335 "AsOneHouseModel" "saidMany" "I" ∈ ao_G := ao_Gm (ao_w6 (List.mem_of_getElem? (i := 233) rfl)) rfl
theorem lf_X12_338 : Cond.fieldLink RX12 338 "AsOneHouseModel" "records" "I" ∈ ao_G := ao_Gm (ao_w7 (List.mem_of_getElem? (i := 1) rfl)) rfl
theorem lf_X12_341 : Cond.fieldLink RX12 341 "AsOneHouseModel" "turns" "I" ∈ ao_G := ao_Gm (ao_w6 (List.mem_of_getElem? (i := 230) rfl)) rfl
theorem lf_X12_344 : Cond.fieldLink RX12 344 "AsOneHouseModel" "births" "I" ∈ ao_G := ao_Gm (ao_w6 (List.mem_of_getElem? (i := 228) rfl)) rfl
theorem lf_X12_347 : Cond.fieldLink RX12 347 "AsOneHouseModel" "orderMany" "I" ∈ ao_G := ao_Gm (ao_w7 (List.mem_of_getElem? (i := 7) rfl)) rfl
theorem lf_X12_366 : Cond.fieldLink RX12 366 "AsOneHouseModel" "readCount" "I" ∈ ao_G := ao_Gm (ao_w6 (List.mem_of_getElem? (i := 229) rfl)) rfl
theorem lf_X12_405 : Cond.fieldLink RX12 405 "AsOneHouseModel" "lookedUp" "I" ∈ ao_G := ao_Gm (ao_w7 (List.mem_of_getElem? (i := 2) rfl)) rfl
theorem lf_X12_494 : Cond.fieldLink RX12 494 "AsOneHouseModel" "taped" "I" ∈ ao_G := ao_Gm (ao_w6 (List.mem_of_getElem? (i := 171) rfl)) rfl
theorem lf_J0_9 : Cond.fieldLink RJ0 9 "java/lang/String" "value" "[B" ∈ ao_G := ao_Gm (ao_w9 (List.mem_of_getElem? (i := 61) rfl)) rfl
theorem lf_J0_15 : Cond.fieldLink RJ0 15 "java/lang/String" "coder" "B" ∈ ao_G := ao_Gm (ao_w9 (List.mem_of_getElem? (i := 62) rfl)) rfl
theorem lf_J0_38 : Cond.fieldLink RJ0 38 "java/lang/String" "COMPACT_STRINGS" "Z" ∈ ao_G := ao_Gm (ao_w3 (List.mem_of_getElem? (i := 239) rfl)) rfl
theorem lf_J0_1053 : Cond.fieldLink RJ0 1053 "jdk/internal/util/Preconditions" "SIOOBE_FORMATTER" "Ljava/util/function/BiFunction;" ∈ ao_G := ao_Gm (ao_w4 (List.mem_of_getElem? (i := 15) rfl)) rfl
theorem lk_X2_84 : Cond.constant RX2 84 1000000 ∈ ao_G := ao_Gm (ao_w5 (List.mem_of_getElem? (i := 48) rfl)) rfl
theorem lk_X5_52 : Cond.constant RX5 52 65536 ∈ ao_G := ao_Gm (ao_w4 (List.mem_of_getElem? (i := 199) rfl)) rfl
theorem lk_X9_119 : Cond.constant RX9 119 1000000 ∈ ao_G := ao_Gm (ao_w4 (List.mem_of_getElem? (i := 57) rfl)) rfl
theorem lk_X12_59 : Cond.constant RX12 59 1000000 ∈ ao_G := ao_Gm (ao_w7 (List.mem_of_getElem? (i := 228) rfl)) rfl
theorem lk_X12_183 : Cond.constant RX12 183 108000 ∈ ao_G := ao_Gm (ao_w6 (List.mem_of_getElem? (i := 144) rfl)) rfl
theorem lk_J6_265 : Cond.constant RJ6 265 1431655765 ∈ ao_G := ao_Gm (ao_w6 (List.mem_of_getElem? (i := 71) rfl)) rfl
theorem lk_J6_266 : Cond.constant RJ6 266 858993459 ∈ ao_G := ao_Gm (ao_w6 (List.mem_of_getElem? (i := 72) rfl)) rfl
theorem lk_J6_267 : Cond.constant RJ6 267 252645135 ∈ ao_G := ao_Gm (ao_w6 (List.mem_of_getElem? (i := 73) rfl)) rfl
theorem lmn_J7_304 : Cond.methodLink RJ7 304 Lib.Math.min.name ∈ ao_G := ao_Gm (ao_w4 (List.mem_of_getElem? (i := 210) rfl)) rfl
theorem lcp_X0_41 : Cond.methodLink RX0 41 arraycopyName ∈ ao_G := ao_Gm (ao_w3 (List.mem_of_getElem? (i := 10) rfl)) rfl
theorem lcp_X7_113 : Cond.methodLink RX7 113 arraycopyName ∈ ao_G := ao_Gm (ao_w5 (List.mem_of_getElem? (i := 34) rfl)) rfl
theorem lcp_J7_150 : Cond.methodLink RJ7 150 arraycopyName ∈ ao_G := ao_Gm (ao_w4 (List.mem_of_getElem? (i := 213) rfl)) rfl
theorem lnw_X10_13 : Cond.classLink RX10 13 RX4 ∈ ao_G ∧ Cond.instantiable RX4 3 ∈ ao_G ∧ Cond.initialized RX4 ∈ ao_G := ⟨ao_Gm (ao_w1 (List.mem_of_getElem? (i := 37) rfl)) rfl, ao_Gm (ao_w1 (List.mem_of_getElem? (i := 38) rfl)) rfl, ao_Gm (ao_w1 (List.mem_of_getElem? (i := 2) rfl)) rfl⟩
theorem lnw_X10_20 : Cond.classLink RX10 20 RX2 ∈ ao_G ∧ Cond.instantiable RX2 7 ∈ ao_G ∧ Cond.initialized RX2 ∈ ao_G := ⟨ao_Gm (ao_w1 (List.mem_of_getElem? (i := 132) rfl)) rfl, ao_Gm (ao_w1 (List.mem_of_getElem? (i := 133) rfl)) rfl, ao_Gm (ao_w1 (List.mem_of_getElem? (i := 5) rfl)) rfl⟩
theorem lnw_X10_27 : Cond.classLink RX10 27 RX0 ∈ ao_G ∧ Cond.instantiable RX0 5 ∈ ao_G ∧ Cond.initialized RX0 ∈ ao_G := ⟨ao_Gm (ao_w2 (List.mem_of_getElem? (i := 187) rfl)) rfl, ao_Gm (ao_w2 (List.mem_of_getElem? (i := 188) rfl)) rfl, ao_Gm (ao_w1 (List.mem_of_getElem? (i := 12) rfl)) rfl⟩
theorem lnw_X1_8 : Cond.classLink RX1 8 RX1 ∈ ao_G ∧ Cond.instantiable RX1 6 ∈ ao_G ∧ Cond.initialized RX1 ∈ ao_G := ⟨ao_Gm (ao_w4 (List.mem_of_getElem? (i := 183) rfl)) rfl, ao_Gm (ao_w1 (List.mem_of_getElem? (i := 89) rfl)) rfl, ao_Gm (ao_w1 (List.mem_of_getElem? (i := 4) rfl)) rfl⟩
theorem lnw_X2_9 : Cond.classLink RX2 9 RX5 ∈ ao_G ∧ Cond.instantiable RX5 11 ∈ ao_G ∧ Cond.initialized RX5 ∈ ao_G := ⟨ao_Gm (ao_w1 (List.mem_of_getElem? (i := 138) rfl)) rfl, ao_Gm (ao_w1 (List.mem_of_getElem? (i := 139) rfl)) rfl, ao_Gm (ao_w1 (List.mem_of_getElem? (i := 6) rfl)) rfl⟩
theorem lnw_X2_18 : Cond.classLink RX2 18 RX8 ∈ ao_G ∧ Cond.instantiable RX8 3 ∈ ao_G ∧ Cond.initialized RX8 ∈ ao_G := ⟨ao_Gm (ao_w1 (List.mem_of_getElem? (i := 192) rfl)) rfl, ao_Gm (ao_w1 (List.mem_of_getElem? (i := 193) rfl)) rfl, ao_Gm (ao_w1 (List.mem_of_getElem? (i := 8) rfl)) rfl⟩
theorem lnw_X2_25 : Cond.classLink RX2 25 RX6 ∈ ao_G ∧ Cond.instantiable RX6 11 ∈ ao_G ∧ Cond.initialized RX6 ∈ ao_G := ⟨ao_Gm (ao_w1 (List.mem_of_getElem? (i := 212) rfl)) rfl, ao_Gm (ao_w1 (List.mem_of_getElem? (i := 213) rfl)) rfl, ao_Gm (ao_w1 (List.mem_of_getElem? (i := 9) rfl)) rfl⟩
theorem lnw_X2_32 : Cond.classLink RX2 32 RX7 ∈ ao_G ∧ Cond.instantiable RX7 20 ∈ ao_G ∧ Cond.initialized RX7 ∈ ao_G := ⟨ao_Gm (ao_w2 (List.mem_of_getElem? (i := 17) rfl)) rfl, ao_Gm (ao_w2 (List.mem_of_getElem? (i := 19) rfl)) rfl, ao_Gm (ao_w1 (List.mem_of_getElem? (i := 10) rfl)) rfl⟩
theorem lnw_X4_9 : Cond.classLink RX4 9 RX9 ∈ ao_G ∧ Cond.instantiable RX9 11 ∈ ao_G ∧ Cond.initialized RX9 ∈ ao_G := ⟨ao_Gm (ao_w1 (List.mem_of_getElem? (i := 43) rfl)) rfl, ao_Gm (ao_w1 (List.mem_of_getElem? (i := 44) rfl)) rfl, ao_Gm (ao_w1 (List.mem_of_getElem? (i := 3) rfl)) rfl⟩
theorem lnw_X4_18 : Cond.classLink RX4 18 RX1 ∈ ao_G ∧ Cond.instantiable RX1 6 ∈ ao_G ∧ Cond.initialized RX1 ∈ ao_G := ⟨ao_Gm (ao_w1 (List.mem_of_getElem? (i := 88) rfl)) rfl, ao_Gm (ao_w1 (List.mem_of_getElem? (i := 89) rfl)) rfl, ao_Gm (ao_w1 (List.mem_of_getElem? (i := 4) rfl)) rfl⟩
theorem lnw_X7_15 : Cond.classLink RX7 15 RX1 ∈ ao_G ∧ Cond.instantiable RX1 6 ∈ ao_G ∧ Cond.initialized RX1 ∈ ao_G := ⟨ao_Gm (ao_w2 (List.mem_of_getElem? (i := 24) rfl)) rfl, ao_Gm (ao_w1 (List.mem_of_getElem? (i := 89) rfl)) rfl, ao_Gm (ao_w1 (List.mem_of_getElem? (i := 4) rfl)) rfl⟩
theorem lnw_X7_34 : Cond.classLink RX7 34 RX3 ∈ ao_G ∧ Cond.instantiable RX3 12 ∈ ao_G ∧ Cond.initialized RX3 ∈ ao_G := ⟨ao_Gm (ao_w2 (List.mem_of_getElem? (i := 26) rfl)) rfl, ao_Gm (ao_w2 (List.mem_of_getElem? (i := 28) rfl)) rfl, ao_Gm (ao_w1 (List.mem_of_getElem? (i := 11) rfl)) rfl⟩
theorem lth_X10_43 : ao_tW RX10 41 43 45 "java/lang/IndexOutOfBoundsException" "the tape has no room" ["java/lang/RuntimeException", "java/lang/Exception"] := ⟨by decide +kernel, by decide +kernel, ao_Gm (ao_w3 (List.mem_of_getElem? (i := 37) rfl)) rfl, ao_Gm (ao_w1 (List.mem_of_getElem? (i := 18) rfl)) rfl, ao_w3 (List.mem_of_getElem? (i := 80) rfl), by decide +kernel, by decide +kernel, by decide +kernel, by decide⟩
theorem lth_X10_174 : ao_tW RX10 41 174 45 "java/lang/IndexOutOfBoundsException" "not said" ["java/lang/RuntimeException", "java/lang/Exception"] := ⟨by decide +kernel, by decide +kernel, ao_Gm (ao_w3 (List.mem_of_getElem? (i := 37) rfl)) rfl, ao_Gm (ao_w1 (List.mem_of_getElem? (i := 18) rfl)) rfl, ao_w6 (List.mem_of_getElem? (i := 47) rfl), by decide +kernel, by decide +kernel, by decide +kernel, by decide⟩
theorem lth_X10_197 : ao_tW RX10 41 197 45 "java/lang/IndexOutOfBoundsException" "not in the order" ["java/lang/RuntimeException", "java/lang/Exception"] := ⟨by decide +kernel, by decide +kernel, ao_Gm (ao_w3 (List.mem_of_getElem? (i := 37) rfl)) rfl, ao_Gm (ao_w1 (List.mem_of_getElem? (i := 18) rfl)) rfl, ao_w6 (List.mem_of_getElem? (i := 81) rfl), by decide +kernel, by decide +kernel, by decide +kernel, by decide⟩
theorem lth_X10_207 : ao_tW RX10 41 207 45 "java/lang/IndexOutOfBoundsException" "not a record" ["java/lang/RuntimeException", "java/lang/Exception"] := ⟨by decide +kernel, by decide +kernel, ao_Gm (ao_w3 (List.mem_of_getElem? (i := 37) rfl)) rfl, ao_Gm (ao_w1 (List.mem_of_getElem? (i := 18) rfl)) rfl, ao_w6 (List.mem_of_getElem? (i := 90) rfl), by decide +kernel, by decide +kernel, by decide +kernel, by decide⟩
theorem lth_X10_54 : ao_tW RX10 52 54 56 "java/lang/IllegalArgumentException" "not a length of the tape" ["java/lang/RuntimeException", "java/lang/Exception"] := ⟨by decide +kernel, by decide +kernel, ao_Gm (ao_w3 (List.mem_of_getElem? (i := 118) rfl)) rfl, ao_Gm (ao_w1 (List.mem_of_getElem? (i := 19) rfl)) rfl, ao_w3 (List.mem_of_getElem? (i := 127) rfl), by decide +kernel, by decide +kernel, by decide +kernel, by decide⟩
theorem lth_X10_57 : ao_tW RX10 52 57 56 "java/lang/IllegalArgumentException" "not a way" ["java/lang/RuntimeException", "java/lang/Exception"] := ⟨by decide +kernel, by decide +kernel, ao_Gm (ao_w3 (List.mem_of_getElem? (i := 118) rfl)) rfl, ao_Gm (ao_w1 (List.mem_of_getElem? (i := 19) rfl)) rfl, ao_w3 (List.mem_of_getElem? (i := 141) rfl), by decide +kernel, by decide +kernel, by decide +kernel, by decide⟩
theorem lth_X10_65 : ao_tW RX10 52 65 56 "java/lang/IllegalArgumentException" "not a thread" ["java/lang/RuntimeException", "java/lang/Exception"] := ⟨by decide +kernel, by decide +kernel, ao_Gm (ao_w3 (List.mem_of_getElem? (i := 118) rfl)) rfl, ao_Gm (ao_w1 (List.mem_of_getElem? (i := 19) rfl)) rfl, ao_w3 (List.mem_of_getElem? (i := 172) rfl), by decide +kernel, by decide +kernel, by decide +kernel, by decide⟩
theorem lth_X10_108 : ao_tW RX10 52 108 56 "java/lang/IllegalArgumentException" "not a place" ["java/lang/RuntimeException", "java/lang/Exception"] := ⟨by decide +kernel, by decide +kernel, ao_Gm (ao_w3 (List.mem_of_getElem? (i := 118) rfl)) rfl, ao_Gm (ao_w1 (List.mem_of_getElem? (i := 19) rfl)) rfl, ao_w4 (List.mem_of_getElem? (i := 193) rfl), by decide +kernel, by decide +kernel, by decide +kernel, by decide⟩
theorem lth_X10_141 : ao_tW RX10 52 141 56 "java/lang/IllegalArgumentException" "not a number of turns" ["java/lang/RuntimeException", "java/lang/Exception"] := ⟨by decide +kernel, by decide +kernel, ao_Gm (ao_w3 (List.mem_of_getElem? (i := 118) rfl)) rfl, ao_Gm (ao_w1 (List.mem_of_getElem? (i := 19) rfl)) rfl, ao_w6 (List.mem_of_getElem? (i := 10) rfl), by decide +kernel, by decide +kernel, by decide +kernel, by decide⟩
theorem lth_X10_154 : ao_tW RX10 52 154 56 "java/lang/IllegalArgumentException" "not a place, or not a clock that was" ["java/lang/RuntimeException", "java/lang/Exception"] := ⟨by decide +kernel, by decide +kernel, ao_Gm (ao_w3 (List.mem_of_getElem? (i := 118) rfl)) rfl, ao_Gm (ao_w1 (List.mem_of_getElem? (i := 19) rfl)) rfl, ao_w6 (List.mem_of_getElem? (i := 30) rfl), by decide +kernel, by decide +kernel, by decide +kernel, by decide⟩
theorem lth_X10_160 : ao_tW RX10 52 160 56 "java/lang/IllegalArgumentException" "not a thread, or not a register" ["java/lang/RuntimeException", "java/lang/Exception"] := ⟨by decide +kernel, by decide +kernel, ao_Gm (ao_w3 (List.mem_of_getElem? (i := 118) rfl)) rfl, ao_Gm (ao_w1 (List.mem_of_getElem? (i := 19) rfl)) rfl, ao_w6 (List.mem_of_getElem? (i := 39) rfl), by decide +kernel, by decide +kernel, by decide +kernel, by decide⟩
theorem lth_X10_180 : ao_tW RX10 52 180 56 "java/lang/IllegalArgumentException" "not a thread, or nothing to look at" ["java/lang/RuntimeException", "java/lang/Exception"] := ⟨by decide +kernel, by decide +kernel, ao_Gm (ao_w3 (List.mem_of_getElem? (i := 118) rfl)) rfl, ao_Gm (ao_w1 (List.mem_of_getElem? (i := 19) rfl)) rfl, ao_w6 (List.mem_of_getElem? (i := 55) rfl), by decide +kernel, by decide +kernel, by decide +kernel, by decide⟩
theorem lth_X10_202 : ao_tW RX10 52 202 56 "java/lang/IllegalArgumentException" "nothing to tell of a record" ["java/lang/RuntimeException", "java/lang/Exception"] := ⟨by decide +kernel, by decide +kernel, ao_Gm (ao_w3 (List.mem_of_getElem? (i := 118) rfl)) rfl, ao_Gm (ao_w1 (List.mem_of_getElem? (i := 19) rfl)) rfl, ao_w6 (List.mem_of_getElem? (i := 89) rfl), by decide +kernel, by decide +kernel, by decide +kernel, by decide⟩
theorem lth_X10_211 : ao_tW RX10 52 211 56 "java/lang/IllegalArgumentException" "nothing to count" ["java/lang/RuntimeException", "java/lang/Exception"] := ⟨by decide +kernel, by decide +kernel, ao_Gm (ao_w3 (List.mem_of_getElem? (i := 118) rfl)) rfl, ao_Gm (ao_w1 (List.mem_of_getElem? (i := 19) rfl)) rfl, ao_w6 (List.mem_of_getElem? (i := 102) rfl), by decide +kernel, by decide +kernel, by decide +kernel, by decide⟩
theorem lth_X10_78 : ao_tW RX10 76 78 80 "java/lang/IllegalStateException" "the thread is within a block" ["java/lang/RuntimeException", "java/lang/Exception"] := ⟨by decide +kernel, by decide +kernel, ao_Gm (ao_w3 (List.mem_of_getElem? (i := 173) rfl)) rfl, ao_Gm (ao_w1 (List.mem_of_getElem? (i := 20) rfl)) rfl, ao_w3 (List.mem_of_getElem? (i := 182) rfl), by decide +kernel, by decide +kernel, by decide +kernel, by decide⟩
theorem lth_X10_120 : ao_tW RX10 76 120 80 "java/lang/IllegalStateException" "the place is taken" ["java/lang/RuntimeException", "java/lang/Exception"] := ⟨by decide +kernel, by decide +kernel, ao_Gm (ao_w3 (List.mem_of_getElem? (i := 173) rfl)) rfl, ao_Gm (ao_w1 (List.mem_of_getElem? (i := 20) rfl)) rfl, ao_w4 (List.mem_of_getElem? (i := 194) rfl), by decide +kernel, by decide +kernel, by decide +kernel, by decide⟩
theorem lth_X10_135 : ao_tW RX10 76 135 80 "java/lang/IllegalStateException" "all turns were taken" ["java/lang/RuntimeException", "java/lang/Exception"] := ⟨by decide +kernel, by decide +kernel, ao_Gm (ao_w3 (List.mem_of_getElem? (i := 173) rfl)) rfl, ao_Gm (ao_w1 (List.mem_of_getElem? (i := 20) rfl)) rfl, ao_w4 (List.mem_of_getElem? (i := 221) rfl), by decide +kernel, by decide +kernel, by decide +kernel, by decide⟩
theorem lth_X10_88 : ao_tW RX10 86 88 90 "java/lang/UnsupportedOperationException" "the text is broken" ["java/lang/RuntimeException", "java/lang/Exception"] := ⟨by decide +kernel, by decide +kernel, ao_Gm (ao_w4 (List.mem_of_getElem? (i := 163) rfl)) rfl, ao_Gm (ao_w1 (List.mem_of_getElem? (i := 25) rfl)) rfl, ao_w4 (List.mem_of_getElem? (i := 172) rfl), by decide +kernel, by decide +kernel, by decide +kernel, by decide⟩
theorem lan_X2_32 : Cond.classLink RX2 32 RX7 ∈ ao_G ∧ (RX7 = RX7 ∨ RX7 = RX3) := ⟨ao_Gm (ao_w2 (List.mem_of_getElem? (i := 17) rfl)) rfl, Or.inl rfl⟩
theorem lan_X7_34 : Cond.classLink RX7 34 RX3 ∈ ao_G ∧ (RX3 = RX7 ∨ RX3 = RX3) := ⟨ao_Gm (ao_w2 (List.mem_of_getElem? (i := 26) rfl)) rfl, Or.inr rfl⟩
theorem lcl_L_13 : Cond.classLink RL 13 "java/lang/IndexOutOfBoundsException" ∈ ao_G := ao_Gm (ao_w3 (List.mem_of_getElem? (i := 32) rfl)) rfl
theorem lcl_L_19 : Cond.classLink RL 19 "java/lang/IllegalArgumentException" ∈ ao_G := ao_Gm (ao_w3 (List.mem_of_getElem? (i := 113) rfl)) rfl
theorem lcl_L_28 : Cond.classLink RL 28 "java/lang/IllegalStateException" ∈ ao_G := ao_Gm (ao_w3 (List.mem_of_getElem? (i := 166) rfl)) rfl
theorem lcl_L_30 : Cond.classLink RL 30 "java/lang/UnsupportedOperationException" ∈ ao_G := ao_Gm (ao_w3 (List.mem_of_getElem? (i := 167) rfl)) rfl
theorem lcl_X12_168 : Cond.classLink RX12 168 "AsOneHouseModel$Broken" ∈ ao_G := ao_Gm (ao_w6 (List.mem_of_getElem? (i := 121) rfl)) rfl
theorem loi_X10_1 : Cond.methodLink RX10 1 Lib.objectInit ∈ ao_G := ao_Gm (ao_w1 (List.mem_of_getElem? (i := 34) rfl)) rfl
theorem loi_X0_3 : Cond.methodLink RX0 3 Lib.objectInit ∈ ao_G := ao_Gm (ao_w2 (List.mem_of_getElem? (i := 192) rfl)) rfl
theorem loi_X1_1 : Cond.methodLink RX1 1 Lib.objectInit ∈ ao_G := ao_Gm (ao_w1 (List.mem_of_getElem? (i := 93) rfl)) rfl
theorem loi_X2_3 : Cond.methodLink RX2 3 Lib.objectInit ∈ ao_G := ao_Gm (ao_w1 (List.mem_of_getElem? (i := 137) rfl)) rfl
theorem loi_X3_3 : Cond.methodLink RX3 3 Lib.objectInit ∈ ao_G := ao_Gm (ao_w2 (List.mem_of_getElem? (i := 32) rfl)) rfl
theorem loi_X4_3 : Cond.methodLink RX4 3 Lib.objectInit ∈ ao_G := ao_Gm (ao_w1 (List.mem_of_getElem? (i := 42) rfl)) rfl
theorem loi_X5_3 : Cond.methodLink RX5 3 Lib.objectInit ∈ ao_G := ao_Gm (ao_w1 (List.mem_of_getElem? (i := 143) rfl)) rfl
theorem loi_X6_3 : Cond.methodLink RX6 3 Lib.objectInit ∈ ao_G := ao_Gm (ao_w1 (List.mem_of_getElem? (i := 217) rfl)) rfl
theorem loi_X7_3 : Cond.methodLink RX7 3 Lib.objectInit ∈ ao_G := ao_Gm (ao_w2 (List.mem_of_getElem? (i := 23) rfl)) rfl
theorem loi_X8_3 : Cond.methodLink RX8 3 Lib.objectInit ∈ ao_G := ao_Gm (ao_w1 (List.mem_of_getElem? (i := 197) rfl)) rfl
theorem loi_X9_3 : Cond.methodLink RX9 3 Lib.objectInit ∈ ao_G := ao_Gm (ao_w1 (List.mem_of_getElem? (i := 48) rfl)) rfl
theorem loi_X12_163 : Cond.methodLink RX12 163 Lib.objectInit ∈ ao_G := ao_Gm (ao_w6 (List.mem_of_getElem? (i := 120) rfl)) rfl
theorem lma_X0_15 : Cond.classLink RX0 15 "[[I" ∈ ao_G := ao_Gm (ao_w2 (List.mem_of_getElem? (i := 193) rfl)) rfl
theorem lma_X6_27 : Cond.classLink RX6 27 "[[I" ∈ ao_G := ao_Gm (ao_w1 (List.mem_of_getElem? (i := 218) rfl)) rfl
theorem lna_0 : Cond.arrayClass (ao_et 0) ∈ ao_G := ao_Gm (by decide +kernel) rfl
theorem lna_1 : Cond.arrayClass (ao_et 1) ∈ ao_G := ao_Gm (by decide +kernel) rfl
theorem lna_2 : Cond.arrayClass (ao_et 2) ∈ ao_G := ao_Gm (by decide +kernel) rfl
theorem lc_X10_15 : ao_cB RX10 15 yX4_init cX4_init 1 none 0 := ⟨ao_Gm (ao_w1 (List.mem_of_getElem? (i := 39) rfl)) rfl, ao_Gm (ao_w1 (List.mem_of_getElem? (i := 41) rfl)) rfl, ao_Gm (ao_w1 (List.mem_of_getElem? (i := 2) rfl)) rfl, by decide, by decide, by decide +kernel⟩
theorem lc_X10_22 : ao_cB RX10 22 yX2_init cX2_init 2 none 0 := ⟨ao_Gm (ao_w1 (List.mem_of_getElem? (i := 134) rfl)) rfl, ao_Gm (ao_w1 (List.mem_of_getElem? (i := 136) rfl)) rfl, ao_Gm (ao_w1 (List.mem_of_getElem? (i := 5) rfl)) rfl, by decide, by decide, by decide +kernel⟩
theorem lc_X10_29 : ao_cB RX10 29 yX0_init cX0_init 1 none 0 := ⟨ao_Gm (ao_w2 (List.mem_of_getElem? (i := 189) rfl)) rfl, ao_Gm (ao_w2 (List.mem_of_getElem? (i := 191) rfl)) rfl, ao_Gm (ao_w1 (List.mem_of_getElem? (i := 12) rfl)) rfl, by decide, by decide, by decide +kernel⟩
theorem lc_X10_48 : ao_cB RX10 48 yX10_addToTape cX10_addToTape 3 none 1 := ⟨ao_Gm (ao_w3 (List.mem_of_getElem? (i := 106) rfl)) rfl, ao_Gm (ao_w3 (List.mem_of_getElem? (i := 109) rfl)) rfl, ao_Gm (ao_w1 (List.mem_of_getElem? (i := 1) rfl)) rfl, by decide, by decide, by decide +kernel⟩
theorem lc_X10_59 : ao_cB RX10 59 yX2_startAgain cX2_startAgain 3 none 1 := ⟨ao_Gm (ao_w3 (List.mem_of_getElem? (i := 142) rfl)) rfl, ao_Gm (ao_w3 (List.mem_of_getElem? (i := 145) rfl)) rfl, ao_Gm (ao_w1 (List.mem_of_getElem? (i := 5) rfl)) rfl, by decide, by decide, by decide +kernel⟩
theorem lc_X10_62 : ao_cB RX10 62 yX0_forget cX0_forget 1 none 0 := ⟨ao_Gm (ao_w3 (List.mem_of_getElem? (i := 159) rfl)) rfl, ao_Gm (ao_w3 (List.mem_of_getElem? (i := 162) rfl)) rfl, ao_Gm (ao_w1 (List.mem_of_getElem? (i := 12) rfl)) rfl, by decide, by decide, by decide +kernel⟩
theorem lc_X10_81 : ao_cB RX10 81 yX4_parse cX4_parse 3 (some .boolean) 2 := ⟨ao_Gm (ao_w3 (List.mem_of_getElem? (i := 189) rfl)) rfl, ao_Gm (ao_w3 (List.mem_of_getElem? (i := 192) rfl)) rfl, ao_Gm (ao_w1 (List.mem_of_getElem? (i := 2) rfl)) rfl, by decide, by decide, by decide +kernel⟩
theorem lc_X10_95 : ao_cB RX10 95 yX1_copy cX1_copy 3 (some (.object "AsOneHouse$Code")) 0 := ⟨ao_Gm (ao_w4 (List.mem_of_getElem? (i := 179) rfl)) rfl, ao_Gm (ao_w4 (List.mem_of_getElem? (i := 182) rfl)) rfl, ao_Gm (ao_w1 (List.mem_of_getElem? (i := 4) rfl)) rfl, by decide, by decide, by decide +kernel⟩
theorem lc_X10_102 : ao_cB RX10 102 yX7_renew cX7_renew 1 none 0 := ⟨ao_Gm (ao_w4 (List.mem_of_getElem? (i := 185) rfl)) rfl, ao_Gm (ao_w3 (List.mem_of_getElem? (i := 157) rfl)) rfl, ao_Gm (ao_w1 (List.mem_of_getElem? (i := 10) rfl)) rfl, by decide, by decide, by decide +kernel⟩
theorem lc_X10_125 : ao_cB RX10 125 yX5_change cX5_change 3 none 2 := ⟨ao_Gm (ao_w4 (List.mem_of_getElem? (i := 195) rfl)) rfl, ao_Gm (ao_w4 (List.mem_of_getElem? (i := 198) rfl)) rfl, ao_Gm (ao_w1 (List.mem_of_getElem? (i := 6) rfl)) rfl, by decide, by decide, by decide +kernel⟩
theorem lc_X10_137 : ao_cB RX10 137 yX2_takeTurn cX2_takeTurn 4 (some .int) 1 := ⟨ao_Gm (ao_w4 (List.mem_of_getElem? (i := 222) rfl)) rfl, ao_Gm (ao_w4 (List.mem_of_getElem? (i := 225) rfl)) rfl, ao_Gm (ao_w1 (List.mem_of_getElem? (i := 5) rfl)) rfl, by decide, by decide, by decide +kernel⟩
theorem lc_X10_143 : ao_cB RX10 143 yX2_howManyAreLeft cX2_howManyAreLeft 3 (some .int) 0 := ⟨ao_Gm (ao_w6 (List.mem_of_getElem? (i := 11) rfl)) rfl, ao_Gm (ao_w6 (List.mem_of_getElem? (i := 14) rfl)) rfl, ao_Gm (ao_w1 (List.mem_of_getElem? (i := 5) rfl)) rfl, by decide, by decide, by decide +kernel⟩
theorem lc_X10_147 : ao_cB RX10 147 yX7_isLeft cX7_isLeft 1 (some .boolean) 0 := ⟨ao_Gm (ao_w6 (List.mem_of_getElem? (i := 15) rfl)) rfl, ao_Gm (ao_w5 (List.mem_of_getElem? (i := 47) rfl)) rfl, ao_Gm (ao_w1 (List.mem_of_getElem? (i := 10) rfl)) rfl, by decide, by decide, by decide +kernel⟩
theorem lc_X10_156 : ao_cB RX10 156 yX5_valueAt cX5_valueAt 5 (some .int) 2 := ⟨ao_Gm (ao_w6 (List.mem_of_getElem? (i := 31) rfl)) rfl, ao_Gm (ao_w5 (List.mem_of_getElem? (i := 80) rfl)) rfl, ao_Gm (ao_w1 (List.mem_of_getElem? (i := 6) rfl)) rfl, by decide, by decide, by decide +kernel⟩
theorem lc_X10_182 : ao_cB RX10 182 yX7_tellOf cX7_tellOf 2 (some .int) 1 := ⟨ao_Gm (ao_w6 (List.mem_of_getElem? (i := 56) rfl)) rfl, ao_Gm (ao_w6 (List.mem_of_getElem? (i := 59) rfl)) rfl, ao_Gm (ao_w1 (List.mem_of_getElem? (i := 10) rfl)) rfl, by decide, by decide, by decide +kernel⟩
theorem lc_X10_190 : ao_cB RX10 190 yX0_decide cX0_decide 5 (some .int) 2 := ⟨ao_Gm (ao_w2 (List.mem_of_getElem? (i := 239) rfl)) rfl, ao_Gm (ao_w3 (List.mem_of_getElem? (i := 2) rfl)) rfl, ao_Gm (ao_w1 (List.mem_of_getElem? (i := 12) rfl)) rfl, by decide, by decide, by decide +kernel⟩
theorem lc_X10_209 : ao_cB RX10 209 yX6_tellOf cX6_tellOf 3 (some .int) 2 := ⟨ao_Gm (ao_w6 (List.mem_of_getElem? (i := 91) rfl)) rfl, ao_Gm (ao_w6 (List.mem_of_getElem? (i := 94) rfl)) rfl, ao_Gm (ao_w1 (List.mem_of_getElem? (i := 9) rfl)) rfl, by decide, by decide, by decide +kernel⟩
theorem lc_X10_213 : ao_cB RX10 213 yX2_tellOf cX2_tellOf 2 (some .int) 1 := ⟨ao_Gm (ao_w6 (List.mem_of_getElem? (i := 103) rfl)) rfl, ao_Gm (ao_w6 (List.mem_of_getElem? (i := 106) rfl)) rfl, ao_Gm (ao_w1 (List.mem_of_getElem? (i := 5) rfl)) rfl, by decide, by decide, by decide +kernel⟩
theorem lc_X0_32 : ao_cB RX0 32 yX0_maskAhead cX0_maskAhead 5 (some .int) 3 := ⟨ao_Gm (ao_w3 (List.mem_of_getElem? (i := 3) rfl)) rfl, ao_Gm (ao_w3 (List.mem_of_getElem? (i := 5) rfl)) rfl, ao_Gm (ao_w1 (List.mem_of_getElem? (i := 12) rfl)) rfl, by decide, by decide, by decide +kernel⟩
theorem lc_X0_50 : ao_cB RX0 50 yX0_tryFrom cX0_tryFrom 8 (some .int) 4 := ⟨ao_Gm (ao_w3 (List.mem_of_getElem? (i := 13) rfl)) rfl, ao_Gm (ao_w3 (List.mem_of_getElem? (i := 16) rfl)) rfl, ao_Gm (ao_w1 (List.mem_of_getElem? (i := 12) rfl)) rfl, by decide, by decide, by decide +kernel⟩
theorem lc_X0_54 : ao_cB RX0 54 yX6_isAhead cX6_isAhead 3 (some .boolean) 2 := ⟨ao_Gm (ao_w3 (List.mem_of_getElem? (i := 6) rfl)) rfl, ao_Gm (ao_w3 (List.mem_of_getElem? (i := 9) rfl)) rfl, ao_Gm (ao_w1 (List.mem_of_getElem? (i := 9) rfl)) rfl, by decide, by decide, by decide +kernel⟩
theorem lc_X0_58 : ao_cB RX0 58 yX0_isAsItIs cX0_isAsItIs 4 (some .boolean) 2 := ⟨ao_Gm (ao_w3 (List.mem_of_getElem? (i := 17) rfl)) rfl, ao_Gm (ao_w3 (List.mem_of_getElem? (i := 20) rfl)) rfl, ao_Gm (ao_w1 (List.mem_of_getElem? (i := 12) rfl)) rfl, by decide, by decide, by decide +kernel⟩
theorem lc_X0_62 : ao_cB RX0 62 yX6_readsAreRight cX6_readsAreRight 5 (some .boolean) 2 := ⟨ao_Gm (ao_w3 (List.mem_of_getElem? (i := 21) rfl)) rfl, ao_Gm (ao_w3 (List.mem_of_getElem? (i := 24) rfl)) rfl, ao_Gm (ao_w1 (List.mem_of_getElem? (i := 9) rfl)) rfl, by decide, by decide, by decide +kernel⟩
theorem lc_X0_66 : ao_cB RX0 66 yX6_apply cX6_apply 5 none 2 := ⟨ao_Gm (ao_w3 (List.mem_of_getElem? (i := 25) rfl)) rfl, ao_Gm (ao_w3 (List.mem_of_getElem? (i := 28) rfl)) rfl, ao_Gm (ao_w1 (List.mem_of_getElem? (i := 9) rfl)) rfl, by decide, by decide, by decide +kernel⟩
theorem lc_X1_29 : ao_cB RX1 29 yX1_init cX1_init 2 none 1 := ⟨ao_Gm (ao_w4 (List.mem_of_getElem? (i := 184) rfl)) rfl, ao_Gm (ao_w1 (List.mem_of_getElem? (i := 92) rfl)) rfl, ao_Gm (ao_w1 (List.mem_of_getElem? (i := 4) rfl)) rfl, by decide, by decide, by decide +kernel⟩
theorem lc_X2_11 : ao_cB RX2 11 yX5_init cX5_init 1 none 0 := ⟨ao_Gm (ao_w1 (List.mem_of_getElem? (i := 140) rfl)) rfl, ao_Gm (ao_w1 (List.mem_of_getElem? (i := 142) rfl)) rfl, ao_Gm (ao_w1 (List.mem_of_getElem? (i := 6) rfl)) rfl, by decide, by decide, by decide +kernel⟩
theorem lc_X2_20 : ao_cB RX2 20 yX8_init cX8_init 1 none 0 := ⟨ao_Gm (ao_w1 (List.mem_of_getElem? (i := 194) rfl)) rfl, ao_Gm (ao_w1 (List.mem_of_getElem? (i := 196) rfl)) rfl, ao_Gm (ao_w1 (List.mem_of_getElem? (i := 8) rfl)) rfl, by decide, by decide, by decide +kernel⟩
theorem lc_X2_27 : ao_cB RX2 27 yX6_init cX6_init 1 none 0 := ⟨ao_Gm (ao_w1 (List.mem_of_getElem? (i := 214) rfl)) rfl, ao_Gm (ao_w1 (List.mem_of_getElem? (i := 216) rfl)) rfl, ao_Gm (ao_w1 (List.mem_of_getElem? (i := 9) rfl)) rfl, by decide, by decide, by decide +kernel⟩
theorem lc_X2_38 : ao_cB RX2 38 yX7_init cX7_init 3 none 1 := ⟨ao_Gm (ao_w2 (List.mem_of_getElem? (i := 20) rfl)) rfl, ao_Gm (ao_w2 (List.mem_of_getElem? (i := 22) rfl)) rfl, ao_Gm (ao_w1 (List.mem_of_getElem? (i := 10) rfl)) rfl, by decide, by decide, by decide +kernel⟩
theorem lc_X2_48 : ao_cB RX2 48 yX5_clear cX5_clear 1 none 0 := ⟨ao_Gm (ao_w3 (List.mem_of_getElem? (i := 146) rfl)) rfl, ao_Gm (ao_w3 (List.mem_of_getElem? (i := 149) rfl)) rfl, ao_Gm (ao_w1 (List.mem_of_getElem? (i := 6) rfl)) rfl, by decide, by decide, by decide +kernel⟩
theorem lc_X2_54 : ao_cB RX2 54 yX6_clear cX6_clear 1 none 0 := ⟨ao_Gm (ao_w3 (List.mem_of_getElem? (i := 150) rfl)) rfl, ao_Gm (ao_w3 (List.mem_of_getElem? (i := 153) rfl)) rfl, ao_Gm (ao_w1 (List.mem_of_getElem? (i := 9) rfl)) rfl, by decide, by decide, by decide +kernel⟩
theorem lc_X2_58 : ao_cB RX2 58 yX7_renew cX7_renew 1 none 0 := ⟨ao_Gm (ao_w3 (List.mem_of_getElem? (i := 154) rfl)) rfl, ao_Gm (ao_w3 (List.mem_of_getElem? (i := 157) rfl)) rfl, ao_Gm (ao_w1 (List.mem_of_getElem? (i := 10) rfl)) rfl, by decide, by decide, by decide +kernel⟩
theorem lc_X2_65 : ao_cB RX2 65 yX2_howManyAre cX2_howManyAre 4 (some .int) 1 := ⟨ao_Gm (ao_w5 (List.mem_of_getElem? (i := 6) rfl)) rfl, ao_Gm (ao_w5 (List.mem_of_getElem? (i := 9) rfl)) rfl, ao_Gm (ao_w1 (List.mem_of_getElem? (i := 5) rfl)) rfl, by decide, by decide, by decide +kernel⟩
theorem lc_X2_69 : ao_cB RX2 69 yX5_howManyTaken cX5_howManyTaken 3 (some .int) 0 := ⟨ao_Gm (ao_w6 (List.mem_of_getElem? (i := 107) rfl)) rfl, ao_Gm (ao_w6 (List.mem_of_getElem? (i := 110) rfl)) rfl, ao_Gm (ao_w1 (List.mem_of_getElem? (i := 6) rfl)) rfl, by decide, by decide, by decide +kernel⟩
theorem lc_X2_73 : ao_cB RX2 73 yX7_isLeft cX7_isLeft 1 (some .boolean) 0 := ⟨ao_Gm (ao_w5 (List.mem_of_getElem? (i := 44) rfl)) rfl, ao_Gm (ao_w5 (List.mem_of_getElem? (i := 47) rfl)) rfl, ao_Gm (ao_w1 (List.mem_of_getElem? (i := 10) rfl)) rfl, by decide, by decide, by decide +kernel⟩
theorem lc_X2_80 : ao_cB RX2 80 yX2_stir cX2_stir 2 (some .int) 1 := ⟨ao_Gm (ao_w4 (List.mem_of_getElem? (i := 226) rfl)) rfl, ao_Gm (ao_w4 (List.mem_of_getElem? (i := 229) rfl)) rfl, ao_Gm (ao_w1 (List.mem_of_getElem? (i := 5) rfl)) rfl, by decide, by decide, by decide +kernel⟩
theorem lc_X2_85 : ao_cB RX2 85 yX2_step cX2_step 5 (some .int) 1 := ⟨ao_Gm (ao_w5 (List.mem_of_getElem? (i := 49) rfl)) rfl, ao_Gm (ao_w5 (List.mem_of_getElem? (i := 52) rfl)) rfl, ao_Gm (ao_w1 (List.mem_of_getElem? (i := 5) rfl)) rfl, by decide, by decide, by decide +kernel⟩
theorem lc_X2_110 : ao_cB RX2 110 yX2_see cX2_see 3 (some .int) 2 := ⟨ao_Gm (ao_w5 (List.mem_of_getElem? (i := 53) rfl)) rfl, ao_Gm (ao_w5 (List.mem_of_getElem? (i := 56) rfl)) rfl, ao_Gm (ao_w1 (List.mem_of_getElem? (i := 5) rfl)) rfl, by decide, by decide, by decide +kernel⟩
theorem lc_X2_114 : ao_cB RX2 114 yX7_pop cX7_pop 1 (some .int) 0 := ⟨ao_Gm (ao_w5 (List.mem_of_getElem? (i := 114) rfl)) rfl, ao_Gm (ao_w5 (List.mem_of_getElem? (i := 117) rfl)) rfl, ao_Gm (ao_w1 (List.mem_of_getElem? (i := 10) rfl)) rfl, by decide, by decide, by decide +kernel⟩
theorem lc_X2_117 : ao_cB RX2 117 yX2_write cX2_write 4 (some .int) 3 := ⟨ao_Gm (ao_w5 (List.mem_of_getElem? (i := 118) rfl)) rfl, ao_Gm (ao_w5 (List.mem_of_getElem? (i := 121) rfl)) rfl, ao_Gm (ao_w1 (List.mem_of_getElem? (i := 5) rfl)) rfl, by decide, by decide, by decide +kernel⟩
theorem lc_X2_121 : ao_cB RX2 121 yX2_say cX2_say 3 (some .int) 2 := ⟨ao_Gm (ao_w5 (List.mem_of_getElem? (i := 131) rfl)) rfl, ao_Gm (ao_w5 (List.mem_of_getElem? (i := 134) rfl)) rfl, ao_Gm (ao_w1 (List.mem_of_getElem? (i := 5) rfl)) rfl, by decide, by decide, by decide +kernel⟩
theorem lc_X2_124 : ao_cB RX2 124 yX2_beginLevel cX2_beginLevel 3 (some .int) 2 := ⟨ao_Gm (ao_w5 (List.mem_of_getElem? (i := 143) rfl)) rfl, ao_Gm (ao_w5 (List.mem_of_getElem? (i := 146) rfl)) rfl, ao_Gm (ao_w1 (List.mem_of_getElem? (i := 5) rfl)) rfl, by decide, by decide, by decide +kernel⟩
theorem lc_X2_127 : ao_cB RX2 127 yX2_closeLevel cX2_closeLevel 3 (some .int) 1 := ⟨ao_Gm (ao_w5 (List.mem_of_getElem? (i := 153) rfl)) rfl, ao_Gm (ao_w5 (List.mem_of_getElem? (i := 156) rfl)) rfl, ao_Gm (ao_w1 (List.mem_of_getElem? (i := 5) rfl)) rfl, by decide, by decide, by decide +kernel⟩
theorem lc_X2_130 : ao_cB RX2 130 yX2_retry cX2_retry 4 (some .int) 1 := ⟨ao_Gm (ao_w5 (List.mem_of_getElem? (i := 183) rfl)) rfl, ao_Gm (ao_w5 (List.mem_of_getElem? (i := 186) rfl)) rfl, ao_Gm (ao_w1 (List.mem_of_getElem? (i := 5) rfl)) rfl, by decide, by decide, by decide +kernel⟩
theorem lc_X2_133 : ao_cB RX2 133 yX2_quit cX2_quit 3 (some .int) 1 := ⟨ao_Gm (ao_w5 (List.mem_of_getElem? (i := 203) rfl)) rfl, ao_Gm (ao_w5 (List.mem_of_getElem? (i := 206) rfl)) rfl, ao_Gm (ao_w1 (List.mem_of_getElem? (i := 5) rfl)) rfl, by decide, by decide, by decide +kernel⟩
theorem lc_X2_136 : ao_cB RX2 136 yX2_fail cX2_fail 5 (some .int) 2 := ⟨ao_Gm (ao_w5 (List.mem_of_getElem? (i := 211) rfl)) rfl, ao_Gm (ao_w5 (List.mem_of_getElem? (i := 214) rfl)) rfl, ao_Gm (ao_w1 (List.mem_of_getElem? (i := 5) rfl)) rfl, by decide, by decide, by decide +kernel⟩
theorem lc_X2_139 : ao_cB RX2 139 yX2_again cX2_again 2 (some .int) 2 := ⟨ao_Gm (ao_w5 (List.mem_of_getElem? (i := 226) rfl)) rfl, ao_Gm (ao_w5 (List.mem_of_getElem? (i := 228) rfl)) rfl, ao_Gm (ao_w1 (List.mem_of_getElem? (i := 5) rfl)) rfl, by decide, by decide, by decide +kernel⟩
theorem lc_X2_142 : ao_cB RX2 142 yX7_enterTry cX7_enterTry 2 none 1 := ⟨ao_Gm (ao_w5 (List.mem_of_getElem? (i := 229) rfl)) rfl, ao_Gm (ao_w5 (List.mem_of_getElem? (i := 232) rfl)) rfl, ao_Gm (ao_w1 (List.mem_of_getElem? (i := 10) rfl)) rfl, by decide, by decide, by decide +kernel⟩
theorem lc_X2_145 : ao_cB RX2 145 yX7_leaveTry cX7_leaveTry 1 none 0 := ⟨ao_Gm (ao_w5 (List.mem_of_getElem? (i := 233) rfl)) rfl, ao_Gm (ao_w5 (List.mem_of_getElem? (i := 236) rfl)) rfl, ao_Gm (ao_w1 (List.mem_of_getElem? (i := 10) rfl)) rfl, by decide, by decide, by decide +kernel⟩
theorem lc_X2_148 : ao_cB RX2 148 yX2_onTheWay cX2_onTheWay 4 none 3 := ⟨ao_Gm (ao_w5 (List.mem_of_getElem? (i := 237) rfl)) rfl, ao_Gm (ao_w5 (List.mem_of_getElem? (i := 239) rfl)) rfl, ao_Gm (ao_w1 (List.mem_of_getElem? (i := 5) rfl)) rfl, by decide, by decide, by decide +kernel⟩
theorem lc_X2_152 : ao_cB RX2 152 yX7_push cX7_push 2 none 1 := ⟨ao_Gm (ao_w5 (List.mem_of_getElem? (i := 65) rfl)) rfl, ao_Gm (ao_w5 (List.mem_of_getElem? (i := 68) rfl)) rfl, ao_Gm (ao_w1 (List.mem_of_getElem? (i := 10) rfl)) rfl, by decide, by decide, by decide +kernel⟩
theorem lc_X2_158 : ao_cB RX2 158 yX2_setRegister cX2_setRegister 3 none 3 := ⟨ao_Gm (ao_w5 (List.mem_of_getElem? (i := 223) rfl)) rfl, ao_Gm (ao_w5 (List.mem_of_getElem? (i := 225) rfl)) rfl, ao_Gm (ao_w1 (List.mem_of_getElem? (i := 5) rfl)) rfl, by decide, by decide, by decide +kernel⟩
theorem lc_X2_161 : ao_cB RX2 161 yX2_compute cX2_compute 3 (some .int) 3 := ⟨ao_Gm (ao_w6 (List.mem_of_getElem? (i := 0) rfl)) rfl, ao_Gm (ao_w6 (List.mem_of_getElem? (i := 2) rfl)) rfl, ao_Gm (ao_w1 (List.mem_of_getElem? (i := 5) rfl)) rfl, by decide, by decide, by decide +kernel⟩
theorem lc_X2_168 : ao_cB RX2 168 yX7_hold cX7_hold 2 none 1 := ⟨ao_Gm (ao_w5 (List.mem_of_getElem? (i := 135) rfl)) rfl, ao_Gm (ao_w5 (List.mem_of_getElem? (i := 138) rfl)) rfl, ao_Gm (ao_w1 (List.mem_of_getElem? (i := 10) rfl)) rfl, by decide, by decide, by decide +kernel⟩
theorem lc_X2_174 : ao_cB RX2 174 yX8_add cX8_add 3 none 2 := ⟨ao_Gm (ao_w5 (List.mem_of_getElem? (i := 139) rfl)) rfl, ao_Gm (ao_w5 (List.mem_of_getElem? (i := 142) rfl)) rfl, ao_Gm (ao_w1 (List.mem_of_getElem? (i := 8) rfl)) rfl, by decide, by decide, by decide +kernel⟩
theorem lc_X2_178 : ao_cB RX2 178 yX2_writesAtOnce cX2_writesAtOnce 1 (some .boolean) 0 := ⟨ao_Gm (ao_w5 (List.mem_of_getElem? (i := 18) rfl)) rfl, ao_Gm (ao_w5 (List.mem_of_getElem? (i := 21) rfl)) rfl, ao_Gm (ao_w1 (List.mem_of_getElem? (i := 5) rfl)) rfl, by decide, by decide, by decide +kernel⟩
theorem lc_X2_181 : ao_cB RX2 181 yX2_seeHeld cX2_seeHeld 6 (some .int) 2 := ⟨ao_Gm (ao_w5 (List.mem_of_getElem? (i := 57) rfl)) rfl, ao_Gm (ao_w5 (List.mem_of_getElem? (i := 60) rfl)) rfl, ao_Gm (ao_w1 (List.mem_of_getElem? (i := 5) rfl)) rfl, by decide, by decide, by decide +kernel⟩
theorem lc_X2_184 : ao_cB RX2 184 yX6_begin cX6_begin 4 none 3 := ⟨ao_Gm (ao_w5 (List.mem_of_getElem? (i := 90) rfl)) rfl, ao_Gm (ao_w5 (List.mem_of_getElem? (i := 93) rfl)) rfl, ao_Gm (ao_w1 (List.mem_of_getElem? (i := 9) rfl)) rfl, by decide, by decide, by decide +kernel⟩
theorem lc_X2_191 : ao_cB RX2 191 yX6_addRead cX6_addRead 3 none 2 := ⟨ao_Gm (ao_w5 (List.mem_of_getElem? (i := 94) rfl)) rfl, ao_Gm (ao_w5 (List.mem_of_getElem? (i := 97) rfl)) rfl, ao_Gm (ao_w1 (List.mem_of_getElem? (i := 9) rfl)) rfl, by decide, by decide, by decide +kernel⟩
theorem lc_X2_194 : ao_cB RX2 194 yX5_isTakenBy cX5_isTakenBy 3 (some .boolean) 2 := ⟨ao_Gm (ao_w5 (List.mem_of_getElem? (i := 102) rfl)) rfl, ao_Gm (ao_w5 (List.mem_of_getElem? (i := 105) rfl)) rfl, ao_Gm (ao_w1 (List.mem_of_getElem? (i := 6) rfl)) rfl, by decide, by decide, by decide +kernel⟩
theorem lc_X2_198 : ao_cB RX2 198 yX2_mayTouch cX2_mayTouch 5 (some .boolean) 2 := ⟨ao_Gm (ao_w5 (List.mem_of_getElem? (i := 106) rfl)) rfl, ao_Gm (ao_w5 (List.mem_of_getElem? (i := 109) rfl)) rfl, ao_Gm (ao_w1 (List.mem_of_getElem? (i := 5) rfl)) rfl, by decide, by decide, by decide +kernel⟩
theorem lc_X2_202 : ao_cB RX2 202 yX7_innermost cX7_innermost 1 (some (.object "AsOneHouse$Level")) 0 := ⟨ao_Gm (ao_w5 (List.mem_of_getElem? (i := 81) rfl)) rfl, ao_Gm (ao_w5 (List.mem_of_getElem? (i := 84) rfl)) rfl, ao_Gm (ao_w1 (List.mem_of_getElem? (i := 10) rfl)) rfl, by decide, by decide, by decide +kernel⟩
theorem lc_X2_209 : ao_cB RX2 209 yX3_addRead cX3_addRead 4 none 3 := ⟨ao_Gm (ao_w5 (List.mem_of_getElem? (i := 86) rfl)) rfl, ao_Gm (ao_w5 (List.mem_of_getElem? (i := 89) rfl)) rfl, ao_Gm (ao_w1 (List.mem_of_getElem? (i := 11) rfl)) rfl, by decide, by decide, by decide +kernel⟩
theorem lc_X2_213 : ao_cB RX2 213 yX7_level cX7_level 2 (some (.object "AsOneHouse$Level")) 1 := ⟨ao_Gm (ao_w4 (List.mem_of_getElem? (i := 234) rfl)) rfl, ao_Gm (ao_w4 (List.mem_of_getElem? (i := 237) rfl)) rfl, ao_Gm (ao_w1 (List.mem_of_getElem? (i := 10) rfl)) rfl, by decide, by decide, by decide +kernel⟩
theorem lc_X2_217 : ao_cB RX2 217 yX3_wrote cX3_wrote 2 (some .boolean) 1 := ⟨ao_Gm (ao_w5 (List.mem_of_getElem? (i := 61) rfl)) rfl, ao_Gm (ao_w5 (List.mem_of_getElem? (i := 64) rfl)) rfl, ao_Gm (ao_w1 (List.mem_of_getElem? (i := 11) rfl)) rfl, by decide, by decide, by decide +kernel⟩
theorem lc_X2_227 : ao_cB RX2 227 yX2_outermostWrong cX2_outermostWrong 5 (some .int) 1 := ⟨ao_Gm (ao_w5 (List.mem_of_getElem? (i := 69) rfl)) rfl, ao_Gm (ao_w5 (List.mem_of_getElem? (i := 72) rfl)) rfl, ao_Gm (ao_w1 (List.mem_of_getElem? (i := 5) rfl)) rfl, by decide, by decide, by decide +kernel⟩
theorem lc_X2_230 : ao_cB RX2 230 yX2_restart cX2_restart 4 none 2 := ⟨ao_Gm (ao_w5 (List.mem_of_getElem? (i := 10) rfl)) rfl, ao_Gm (ao_w5 (List.mem_of_getElem? (i := 13) rfl)) rfl, ao_Gm (ao_w1 (List.mem_of_getElem? (i := 5) rfl)) rfl, by decide, by decide, by decide +kernel⟩
theorem lc_X2_234 : ao_cB RX2 234 yX5_valueAt cX5_valueAt 5 (some .int) 2 := ⟨ao_Gm (ao_w5 (List.mem_of_getElem? (i := 77) rfl)) rfl, ao_Gm (ao_w5 (List.mem_of_getElem? (i := 80) rfl)) rfl, ao_Gm (ao_w1 (List.mem_of_getElem? (i := 6) rfl)) rfl, by decide, by decide, by decide +kernel⟩
theorem lc_X2_238 : ao_cB RX2 238 yX5_change cX5_change 3 none 2 := ⟨ao_Gm (ao_w5 (List.mem_of_getElem? (i := 122) rfl)) rfl, ao_Gm (ao_w4 (List.mem_of_getElem? (i := 198) rfl)) rfl, ao_Gm (ao_w1 (List.mem_of_getElem? (i := 6) rfl)) rfl, by decide, by decide, by decide +kernel⟩
theorem lc_X2_241 : ao_cB RX2 241 yX6_addWrite cX6_addWrite 3 none 2 := ⟨ao_Gm (ao_w5 (List.mem_of_getElem? (i := 123) rfl)) rfl, ao_Gm (ao_w5 (List.mem_of_getElem? (i := 126) rfl)) rfl, ao_Gm (ao_w1 (List.mem_of_getElem? (i := 9) rfl)) rfl, by decide, by decide, by decide +kernel⟩
theorem lc_X2_244 : ao_cB RX2 244 yX3_addWrite cX3_addWrite 3 none 2 := ⟨ao_Gm (ao_w5 (List.mem_of_getElem? (i := 127) rfl)) rfl, ao_Gm (ao_w5 (List.mem_of_getElem? (i := 130) rfl)) rfl, ao_Gm (ao_w1 (List.mem_of_getElem? (i := 11) rfl)) rfl, by decide, by decide, by decide +kernel⟩
theorem lc_X2_248 : ao_cB RX2 248 yX2_loserAbout cX2_loserAbout 4 (some .int) 2 := ⟨ao_Gm (ao_w5 (List.mem_of_getElem? (i := 110) rfl)) rfl, ao_Gm (ao_w5 (List.mem_of_getElem? (i := 113) rfl)) rfl, ao_Gm (ao_w1 (List.mem_of_getElem? (i := 5) rfl)) rfl, by decide, by decide, by decide +kernel⟩
theorem lc_X2_251 : ao_cB RX2 251 yX5_isTakenByOther cX5_isTakenByOther 3 (some .boolean) 2 := ⟨ao_Gm (ao_w4 (List.mem_of_getElem? (i := 238) rfl)) rfl, ao_Gm (ao_w5 (List.mem_of_getElem? (i := 1) rfl)) rfl, ao_Gm (ao_w1 (List.mem_of_getElem? (i := 6) rfl)) rfl, by decide, by decide, by decide +kernel⟩
theorem lc_X2_260 : ao_cB RX2 260 yX2_isWrong cX2_isWrong 5 (some .boolean) 3 := ⟨ao_Gm (ao_w5 (List.mem_of_getElem? (i := 73) rfl)) rfl, ao_Gm (ao_w5 (List.mem_of_getElem? (i := 76) rfl)) rfl, ao_Gm (ao_w1 (List.mem_of_getElem? (i := 5) rfl)) rfl, by decide, by decide, by decide +kernel⟩
theorem lc_X2_273 : ao_cB RX2 273 yX2_takeBack cX2_takeBack 5 none 2 := ⟨ao_Gm (ao_w5 (List.mem_of_getElem? (i := 14) rfl)) rfl, ao_Gm (ao_w5 (List.mem_of_getElem? (i := 17) rfl)) rfl, ao_Gm (ao_w1 (List.mem_of_getElem? (i := 5) rfl)) rfl, by decide, by decide, by decide +kernel⟩
theorem lc_X2_276 : ao_cB RX2 276 yX3_forgetReads cX3_forgetReads 1 none 0 := ⟨ao_Gm (ao_w5 (List.mem_of_getElem? (i := 35) rfl)) rfl, ao_Gm (ao_w5 (List.mem_of_getElem? (i := 38) rfl)) rfl, ao_Gm (ao_w1 (List.mem_of_getElem? (i := 11) rfl)) rfl, by decide, by decide, by decide +kernel⟩
theorem lc_X2_283 : ao_cB RX2 283 yX5_release cX5_release 4 none 1 := ⟨ao_Gm (ao_w5 (List.mem_of_getElem? (i := 39) rfl)) rfl, ao_Gm (ao_w5 (List.mem_of_getElem? (i := 42) rfl)) rfl, ao_Gm (ao_w1 (List.mem_of_getElem? (i := 6) rfl)) rfl, by decide, by decide, by decide +kernel⟩
theorem lc_X2_294 : ao_cB RX2 294 yX2_giveBack cX2_giveBack 3 none 1 := ⟨ao_Gm (ao_w5 (List.mem_of_getElem? (i := 22) rfl)) rfl, ao_Gm (ao_w5 (List.mem_of_getElem? (i := 25) rfl)) rfl, ao_Gm (ao_w1 (List.mem_of_getElem? (i := 5) rfl)) rfl, by decide, by decide, by decide +kernel⟩
theorem lc_X2_298 : ao_cB RX2 298 yX3_forgetWrites cX3_forgetWrites 1 none 0 := ⟨ao_Gm (ao_w5 (List.mem_of_getElem? (i := 26) rfl)) rfl, ao_Gm (ao_w5 (List.mem_of_getElem? (i := 29) rfl)) rfl, ao_Gm (ao_w1 (List.mem_of_getElem? (i := 11) rfl)) rfl, by decide, by decide, by decide +kernel⟩
theorem lc_X2_301 : ao_cB RX2 301 yX7_setBackTo cX7_setBackTo 2 none 1 := ⟨ao_Gm (ao_w5 (List.mem_of_getElem? (i := 30) rfl)) rfl, ao_Gm (ao_w5 (List.mem_of_getElem? (i := 33) rfl)) rfl, ao_Gm (ao_w1 (List.mem_of_getElem? (i := 10) rfl)) rfl, by decide, by decide, by decide +kernel⟩
theorem lc_X2_307 : ao_cB RX2 307 yX3_takeReadsOf cX3_takeReadsOf 3 none 1 := ⟨ao_Gm (ao_w5 (List.mem_of_getElem? (i := 165) rfl)) rfl, ao_Gm (ao_w5 (List.mem_of_getElem? (i := 168) rfl)) rfl, ao_Gm (ao_w1 (List.mem_of_getElem? (i := 11) rfl)) rfl, by decide, by decide, by decide +kernel⟩
theorem lc_X2_310 : ao_cB RX2 310 yX2_foldReads cX2_foldReads 3 none 2 := ⟨ao_Gm (ao_w5 (List.mem_of_getElem? (i := 199) rfl)) rfl, ao_Gm (ao_w5 (List.mem_of_getElem? (i := 201) rfl)) rfl, ao_Gm (ao_w1 (List.mem_of_getElem? (i := 5) rfl)) rfl, by decide, by decide, by decide +kernel⟩
theorem lc_X2_313 : ao_cB RX2 313 yX7_enterLevel cX7_enterLevel 3 none 1 := ⟨ao_Gm (ao_w5 (List.mem_of_getElem? (i := 147) rfl)) rfl, ao_Gm (ao_w5 (List.mem_of_getElem? (i := 150) rfl)) rfl, ao_Gm (ao_w1 (List.mem_of_getElem? (i := 10) rfl)) rfl, by decide, by decide, by decide +kernel⟩
theorem lc_X2_316 : ao_cB RX2 316 yX2_isBusy cX2_isBusy 2 (some .boolean) 1 := ⟨ao_Gm (ao_w5 (List.mem_of_getElem? (i := 2) rfl)) rfl, ao_Gm (ao_w5 (List.mem_of_getElem? (i := 5) rfl)) rfl, ao_Gm (ao_w1 (List.mem_of_getElem? (i := 5) rfl)) rfl, by decide, by decide, by decide +kernel⟩
theorem lc_X2_323 : ao_cB RX2 323 yX1_secondAt cX1_secondAt 2 (some .int) 1 := ⟨ao_Gm (ao_w5 (List.mem_of_getElem? (i := 157) rfl)) rfl, ao_Gm (ao_w5 (List.mem_of_getElem? (i := 160) rfl)) rfl, ao_Gm (ao_w1 (List.mem_of_getElem? (i := 4) rfl)) rfl, by decide, by decide, by decide +kernel⟩
theorem lc_X2_326 : ao_cB RX2 326 yX2_joinAround cX2_joinAround 5 none 1 := ⟨ao_Gm (ao_w5 (List.mem_of_getElem? (i := 161) rfl)) rfl, ao_Gm (ao_w5 (List.mem_of_getElem? (i := 164) rfl)) rfl, ao_Gm (ao_w1 (List.mem_of_getElem? (i := 5) rfl)) rfl, by decide, by decide, by decide +kernel⟩
theorem lc_X2_330 : ao_cB RX2 330 yX2_mayEnd cX2_mayEnd 5 (some .boolean) 1 := ⟨ao_Gm (ao_w5 (List.mem_of_getElem? (i := 171) rfl)) rfl, ao_Gm (ao_w5 (List.mem_of_getElem? (i := 174) rfl)) rfl, ao_Gm (ao_w1 (List.mem_of_getElem? (i := 5) rfl)) rfl, by decide, by decide, by decide +kernel⟩
theorem lc_X2_333 : ao_cB RX2 333 yX2_finish cX2_finish 4 none 1 := ⟨ao_Gm (ao_w5 (List.mem_of_getElem? (i := 175) rfl)) rfl, ao_Gm (ao_w5 (List.mem_of_getElem? (i := 178) rfl)) rfl, ao_Gm (ao_w1 (List.mem_of_getElem? (i := 5) rfl)) rfl, by decide, by decide, by decide +kernel⟩
theorem lc_X2_336 : ao_cB RX2 336 yX2_writeRecord cX2_writeRecord 4 none 2 := ⟨ao_Gm (ao_w5 (List.mem_of_getElem? (i := 179) rfl)) rfl, ao_Gm (ao_w5 (List.mem_of_getElem? (i := 182) rfl)) rfl, ao_Gm (ao_w1 (List.mem_of_getElem? (i := 5) rfl)) rfl, by decide, by decide, by decide +kernel⟩
theorem lc_X2_346 : ao_cB RX2 346 yX7_levelWithOr cX7_levelWithOr 2 (some .int) 0 := ⟨ao_Gm (ao_w5 (List.mem_of_getElem? (i := 187) rfl)) rfl, ao_Gm (ao_w5 (List.mem_of_getElem? (i := 190) rfl)) rfl, ao_Gm (ao_w1 (List.mem_of_getElem? (i := 10) rfl)) rfl, by decide, by decide, by decide +kernel⟩
theorem lc_X2_349 : ao_cB RX2 349 yX2_fallAsleep cX2_fallAsleep 2 (some .int) 1 := ⟨ao_Gm (ao_w5 (List.mem_of_getElem? (i := 195) rfl)) rfl, ao_Gm (ao_w5 (List.mem_of_getElem? (i := 198) rfl)) rfl, ao_Gm (ao_w1 (List.mem_of_getElem? (i := 5) rfl)) rfl, by decide, by decide, by decide +kernel⟩
theorem lc_X2_352 : ao_cB RX2 352 yX1_firstAt cX1_firstAt 2 (some .int) 1 := ⟨ao_Gm (ao_w5 (List.mem_of_getElem? (i := 202) rfl)) rfl, ao_Gm (ao_w5 (List.mem_of_getElem? (i := 194) rfl)) rfl, ao_Gm (ao_w1 (List.mem_of_getElem? (i := 4) rfl)) rfl, by decide, by decide, by decide +kernel⟩
theorem lc_X2_355 : ao_cB RX2 355 yX2_hasNews cX2_hasNews 5 (some .boolean) 1 := ⟨ao_Gm (ao_w4 (List.mem_of_getElem? (i := 230) rfl)) rfl, ao_Gm (ao_w4 (List.mem_of_getElem? (i := 233) rfl)) rfl, ao_Gm (ao_w1 (List.mem_of_getElem? (i := 5) rfl)) rfl, by decide, by decide, by decide +kernel⟩
theorem lc_X2_358 : ao_cB RX2 358 yX2_leaveFrom cX2_leaveFrom 3 none 2 := ⟨ao_Gm (ao_w5 (List.mem_of_getElem? (i := 207) rfl)) rfl, ao_Gm (ao_w5 (List.mem_of_getElem? (i := 210) rfl)) rfl, ao_Gm (ao_w1 (List.mem_of_getElem? (i := 5) rfl)) rfl, by decide, by decide, by decide +kernel⟩
theorem lc_X2_367 : ao_cB RX2 367 yX7_tryAtOf cX7_tryAtOf 2 (some .int) 1 := ⟨ao_Gm (ao_w5 (List.mem_of_getElem? (i := 215) rfl)) rfl, ao_Gm (ao_w5 (List.mem_of_getElem? (i := 218) rfl)) rfl, ao_Gm (ao_w1 (List.mem_of_getElem? (i := 10) rfl)) rfl, by decide, by decide, by decide +kernel⟩
theorem lc_X2_370 : ao_cB RX2 370 yX7_tryDepthOf cX7_tryDepthOf 2 (some .int) 1 := ⟨ao_Gm (ao_w5 (List.mem_of_getElem? (i := 219) rfl)) rfl, ao_Gm (ao_w5 (List.mem_of_getElem? (i := 222) rfl)) rfl, ao_Gm (ao_w1 (List.mem_of_getElem? (i := 10) rfl)) rfl, by decide, by decide, by decide +kernel⟩
theorem lc_X3_37 : ao_cB RX3 37 yX3_addRead cX3_addRead 4 none 3 := ⟨ao_Gm (ao_w5 (List.mem_of_getElem? (i := 169) rfl)) rfl, ao_Gm (ao_w5 (List.mem_of_getElem? (i := 89) rfl)) rfl, ao_Gm (ao_w1 (List.mem_of_getElem? (i := 11) rfl)) rfl, by decide, by decide, by decide +kernel⟩
theorem lc_X3_41 : ao_cB RX3 41 yX3_forgetReads cX3_forgetReads 1 none 0 := ⟨ao_Gm (ao_w5 (List.mem_of_getElem? (i := 170) rfl)) rfl, ao_Gm (ao_w5 (List.mem_of_getElem? (i := 38) rfl)) rfl, ao_Gm (ao_w1 (List.mem_of_getElem? (i := 11) rfl)) rfl, by decide, by decide, by decide +kernel⟩
theorem lc_X4_11 : ao_cB RX4 11 yX9_init cX9_init 1 none 0 := ⟨ao_Gm (ao_w1 (List.mem_of_getElem? (i := 45) rfl)) rfl, ao_Gm (ao_w1 (List.mem_of_getElem? (i := 47) rfl)) rfl, ao_Gm (ao_w1 (List.mem_of_getElem? (i := 3) rfl)) rfl, by decide, by decide, by decide +kernel⟩
theorem lc_X4_20 : ao_cB RX4 20 yX1_init cX1_init 2 none 1 := ⟨ao_Gm (ao_w1 (List.mem_of_getElem? (i := 90) rfl)) rfl, ao_Gm (ao_w1 (List.mem_of_getElem? (i := 92) rfl)) rfl, ao_Gm (ao_w1 (List.mem_of_getElem? (i := 4) rfl)) rfl, by decide, by decide, by decide +kernel⟩
theorem lc_X4_31 : ao_cB RX4 31 yX1_clear cX1_clear 1 none 0 := ⟨ao_Gm (ao_w3 (List.mem_of_getElem? (i := 193) rfl)) rfl, ao_Gm (ao_w3 (List.mem_of_getElem? (i := 196) rfl)) rfl, ao_Gm (ao_w1 (List.mem_of_getElem? (i := 4) rfl)) rfl, by decide, by decide, by decide +kernel⟩
theorem lc_X4_34 : ao_cB RX4 34 yX9_read cX9_read 4 none 2 := ⟨ao_Gm (ao_w3 (List.mem_of_getElem? (i := 197) rfl)) rfl, ao_Gm (ao_w3 (List.mem_of_getElem? (i := 200) rfl)) rfl, ao_Gm (ao_w1 (List.mem_of_getElem? (i := 3) rfl)) rfl, by decide, by decide, by decide +kernel⟩
theorem lc_X4_38 : ao_cB RX4 38 yX4_statements cX4_statements 4 (some .boolean) 2 := ⟨ao_Gm (ao_w4 (List.mem_of_getElem? (i := 70) rfl)) rfl, ao_Gm (ao_w4 (List.mem_of_getElem? (i := 73) rfl)) rfl, ao_Gm (ao_w1 (List.mem_of_getElem? (i := 2) rfl)) rfl, by decide, by decide, by decide +kernel⟩
theorem lc_X4_45 : ao_cB RX4 45 yX4_broken cX4_broken 1 (some .boolean) 0 := ⟨ao_Gm (ao_w4 (List.mem_of_getElem? (i := 78) rfl)) rfl, ao_Gm (ao_w4 (List.mem_of_getElem? (i := 81) rfl)) rfl, ao_Gm (ao_w1 (List.mem_of_getElem? (i := 2) rfl)) rfl, by decide, by decide, by decide +kernel⟩
theorem lc_X4_52 : ao_cB RX4 52 yX9_advance cX9_advance 1 none 0 := ⟨ao_Gm (ao_w4 (List.mem_of_getElem? (i := 86) rfl)) rfl, ao_Gm (ao_w4 (List.mem_of_getElem? (i := 69) rfl)) rfl, ao_Gm (ao_w1 (List.mem_of_getElem? (i := 3) rfl)) rfl, by decide, by decide, by decide +kernel⟩
theorem lc_X4_55 : ao_cB RX4 55 yX4_expect cX4_expect 2 (some .boolean) 1 := ⟨ao_Gm (ao_w4 (List.mem_of_getElem? (i := 87) rfl)) rfl, ao_Gm (ao_w4 (List.mem_of_getElem? (i := 90) rfl)) rfl, ao_Gm (ao_w1 (List.mem_of_getElem? (i := 2) rfl)) rfl, by decide, by decide, by decide +kernel⟩
theorem lc_X4_59 : ao_cB RX4 59 yX4_statement cX4_statement 3 (some .boolean) 2 := ⟨ao_Gm (ao_w4 (List.mem_of_getElem? (i := 74) rfl)) rfl, ao_Gm (ao_w4 (List.mem_of_getElem? (i := 77) rfl)) rfl, ao_Gm (ao_w1 (List.mem_of_getElem? (i := 2) rfl)) rfl, by decide, by decide, by decide +kernel⟩
theorem lc_X4_62 : ao_cB RX4 62 yX4_expectNested cX4_expectNested 3 (some .boolean) 2 := ⟨ao_Gm (ao_w4 (List.mem_of_getElem? (i := 115) rfl)) rfl, ao_Gm (ao_w4 (List.mem_of_getElem? (i := 118) rfl)) rfl, ao_Gm (ao_w1 (List.mem_of_getElem? (i := 2) rfl)) rfl, by decide, by decide, by decide +kernel⟩
theorem lc_X4_68 : ao_cB RX4 68 yX4_assignment cX4_assignment 4 (some .boolean) 2 := ⟨ao_Gm (ao_w4 (List.mem_of_getElem? (i := 82) rfl)) rfl, ao_Gm (ao_w4 (List.mem_of_getElem? (i := 85) rfl)) rfl, ao_Gm (ao_w1 (List.mem_of_getElem? (i := 2) rfl)) rfl, by decide, by decide, by decide +kernel⟩
theorem lc_X4_71 : ao_cB RX4 71 yX4_ifStatement cX4_ifStatement 5 (some .boolean) 2 := ⟨ao_Gm (ao_w4 (List.mem_of_getElem? (i := 119) rfl)) rfl, ao_Gm (ao_w4 (List.mem_of_getElem? (i := 122) rfl)) rfl, ao_Gm (ao_w1 (List.mem_of_getElem? (i := 2) rfl)) rfl, by decide, by decide, by decide +kernel⟩
theorem lc_X4_74 : ao_cB RX4 74 yX4_whileStatement cX4_whileStatement 5 (some .boolean) 2 := ⟨ao_Gm (ao_w4 (List.mem_of_getElem? (i := 135) rfl)) rfl, ao_Gm (ao_w4 (List.mem_of_getElem? (i := 138) rfl)) rfl, ao_Gm (ao_w1 (List.mem_of_getElem? (i := 2) rfl)) rfl, by decide, by decide, by decide +kernel⟩
theorem lc_X4_77 : ao_cB RX4 77 yX4_valueStatement cX4_valueStatement 3 (some .boolean) 2 := ⟨ao_Gm (ao_w4 (List.mem_of_getElem? (i := 139) rfl)) rfl, ao_Gm (ao_w4 (List.mem_of_getElem? (i := 142) rfl)) rfl, ao_Gm (ao_w1 (List.mem_of_getElem? (i := 2) rfl)) rfl, by decide, by decide, by decide +kernel⟩
theorem lc_X4_80 : ao_cB RX4 80 yX4_levelStatement cX4_levelStatement 5 (some .boolean) 2 := ⟨ao_Gm (ao_w4 (List.mem_of_getElem? (i := 143) rfl)) rfl, ao_Gm (ao_w4 (List.mem_of_getElem? (i := 146) rfl)) rfl, ao_Gm (ao_w1 (List.mem_of_getElem? (i := 2) rfl)) rfl, by decide, by decide, by decide +kernel⟩
theorem lc_X4_83 : ao_cB RX4 83 yX4_bareStatement cX4_bareStatement 3 (some .boolean) 2 := ⟨ao_Gm (ao_w4 (List.mem_of_getElem? (i := 155) rfl)) rfl, ao_Gm (ao_w4 (List.mem_of_getElem? (i := 158) rfl)) rfl, ao_Gm (ao_w1 (List.mem_of_getElem? (i := 2) rfl)) rfl, by decide, by decide, by decide +kernel⟩
theorem lc_X4_87 : ao_cB RX4 87 yX4_tryStatement cX4_tryStatement 5 (some .boolean) 2 := ⟨ao_Gm (ao_w4 (List.mem_of_getElem? (i := 159) rfl)) rfl, ao_Gm (ao_w4 (List.mem_of_getElem? (i := 162) rfl)) rfl, ao_Gm (ao_w1 (List.mem_of_getElem? (i := 2) rfl)) rfl, by decide, by decide, by decide +kernel⟩
theorem lc_X4_93 : ao_cB RX4 93 yX4_expression cX4_expression 3 (some .boolean) 1 := ⟨ao_Gm (ao_w4 (List.mem_of_getElem? (i := 91) rfl)) rfl, ao_Gm (ao_w4 (List.mem_of_getElem? (i := 94) rfl)) rfl, ao_Gm (ao_w1 (List.mem_of_getElem? (i := 2) rfl)) rfl, by decide, by decide, by decide +kernel⟩
theorem lc_X4_96 : ao_cB RX4 96 yX1_add cX1_add 4 (some .int) 2 := ⟨ao_Gm (ao_w4 (List.mem_of_getElem? (i := 111) rfl)) rfl, ao_Gm (ao_w4 (List.mem_of_getElem? (i := 114) rfl)) rfl, ao_Gm (ao_w1 (List.mem_of_getElem? (i := 4) rfl)) rfl, by decide, by decide, by decide +kernel⟩
theorem lc_X4_100 : ao_cB RX4 100 yX4_condition cX4_condition 2 (some .boolean) 1 := ⟨ao_Gm (ao_w4 (List.mem_of_getElem? (i := 123) rfl)) rfl, ao_Gm (ao_w4 (List.mem_of_getElem? (i := 126) rfl)) rfl, ao_Gm (ao_w1 (List.mem_of_getElem? (i := 2) rfl)) rfl, by decide, by decide, by decide +kernel⟩
theorem lc_X4_103 : ao_cB RX4 103 yX4_block cX4_block 3 (some .boolean) 2 := ⟨ao_Gm (ao_w4 (List.mem_of_getElem? (i := 127) rfl)) rfl, ao_Gm (ao_w4 (List.mem_of_getElem? (i := 130) rfl)) rfl, ao_Gm (ao_w1 (List.mem_of_getElem? (i := 2) rfl)) rfl, by decide, by decide, by decide +kernel⟩
theorem lc_X4_109 : ao_cB RX4 109 yX1_setFirst cX1_setFirst 3 none 2 := ⟨ao_Gm (ao_w4 (List.mem_of_getElem? (i := 131) rfl)) rfl, ao_Gm (ao_w4 (List.mem_of_getElem? (i := 134) rfl)) rfl, ao_Gm (ao_w1 (List.mem_of_getElem? (i := 4) rfl)) rfl, by decide, by decide, by decide +kernel⟩
theorem lc_X4_113 : ao_cB RX4 113 yX1_setOp cX1_setOp 3 none 2 := ⟨ao_Gm (ao_w4 (List.mem_of_getElem? (i := 147) rfl)) rfl, ao_Gm (ao_w4 (List.mem_of_getElem? (i := 150) rfl)) rfl, ao_Gm (ao_w1 (List.mem_of_getElem? (i := 4) rfl)) rfl, by decide, by decide, by decide +kernel⟩
theorem lc_X4_116 : ao_cB RX4 116 yX1_setSecond cX1_setSecond 3 none 2 := ⟨ao_Gm (ao_w4 (List.mem_of_getElem? (i := 151) rfl)) rfl, ao_Gm (ao_w4 (List.mem_of_getElem? (i := 154) rfl)) rfl, ao_Gm (ao_w1 (List.mem_of_getElem? (i := 4) rfl)) rfl, by decide, by decide, by decide +kernel⟩
theorem lc_X4_119 : ao_cB RX4 119 yX4_sum cX4_sum 4 (some .boolean) 1 := ⟨ao_Gm (ao_w4 (List.mem_of_getElem? (i := 95) rfl)) rfl, ao_Gm (ao_w4 (List.mem_of_getElem? (i := 98) rfl)) rfl, ao_Gm (ao_w1 (List.mem_of_getElem? (i := 2) rfl)) rfl, by decide, by decide, by decide +kernel⟩
theorem lc_X4_122 : ao_cB RX4 122 yX4_product cX4_product 3 (some .boolean) 1 := ⟨ao_Gm (ao_w4 (List.mem_of_getElem? (i := 99) rfl)) rfl, ao_Gm (ao_w4 (List.mem_of_getElem? (i := 102) rfl)) rfl, ao_Gm (ao_w1 (List.mem_of_getElem? (i := 2) rfl)) rfl, by decide, by decide, by decide +kernel⟩
theorem lc_X4_125 : ao_cB RX4 125 yX4_simple cX4_simple 2 (some .boolean) 1 := ⟨ao_Gm (ao_w4 (List.mem_of_getElem? (i := 103) rfl)) rfl, ao_Gm (ao_w4 (List.mem_of_getElem? (i := 106) rfl)) rfl, ao_Gm (ao_w1 (List.mem_of_getElem? (i := 2) rfl)) rfl, by decide, by decide, by decide +kernel⟩
theorem lc_X4_128 : ao_cB RX4 128 yX4_leaf cX4_leaf 2 (some .boolean) 1 := ⟨ao_Gm (ao_w4 (List.mem_of_getElem? (i := 107) rfl)) rfl, ao_Gm (ao_w4 (List.mem_of_getElem? (i := 110) rfl)) rfl, ao_Gm (ao_w1 (List.mem_of_getElem? (i := 2) rfl)) rfl, by decide, by decide, by decide +kernel⟩
theorem lc_X5_40 : ao_cB RX5 40 yJ7_fill_53178 cJ7_fill_53178 4 none 2 := ⟨ao_Gm (ao_w1 (List.mem_of_getElem? (i := 144) rfl)) rfl, ao_Gm (ao_w1 (List.mem_of_getElem? (i := 146) rfl)) rfl, ao_Gm (ao_w1 (List.mem_of_getElem? (i := 7) rfl)) rfl, by decide, by decide, by decide +kernel⟩
theorem lc_X5_53 : ao_cB RX5 53 yJ7_copyOf_59c91 cJ7_copyOf_59c91 3 (some (.array .int)) 2 := ⟨ao_Gm (ao_w4 (List.mem_of_getElem? (i := 200) rfl)) rfl, ao_Gm (ao_w4 (List.mem_of_getElem? (i := 202) rfl)) rfl, ao_Gm (ao_w1 (List.mem_of_getElem? (i := 7) rfl)) rfl, by decide, by decide, by decide +kernel⟩
theorem lc_X5_57 : ao_cB RX5 57 yX5_change cX5_change 3 none 2 := ⟨ao_Gm (ao_w5 (List.mem_of_getElem? (i := 43) rfl)) rfl, ao_Gm (ao_w4 (List.mem_of_getElem? (i := 198) rfl)) rfl, ao_Gm (ao_w1 (List.mem_of_getElem? (i := 6) rfl)) rfl, by decide, by decide, by decide +kernel⟩
theorem lc_X6_49 : ao_cB RX6 49 yX6_note cX6_note 8 none 5 := ⟨ao_Gm (ao_w5 (List.mem_of_getElem? (i := 98) rfl)) rfl, ao_Gm (ao_w5 (List.mem_of_getElem? (i := 101) rfl)) rfl, ao_Gm (ao_w1 (List.mem_of_getElem? (i := 9) rfl)) rfl, by decide, by decide, by decide +kernel⟩
theorem lc_X7_17 : ao_cB RX7 17 yX1_init cX1_init 2 none 1 := ⟨ao_Gm (ao_w2 (List.mem_of_getElem? (i := 25) rfl)) rfl, ao_Gm (ao_w1 (List.mem_of_getElem? (i := 92) rfl)) rfl, ao_Gm (ao_w1 (List.mem_of_getElem? (i := 4) rfl)) rfl, by decide, by decide, by decide +kernel⟩
theorem lc_X7_40 : ao_cB RX7 40 yX3_init cX3_init 1 none 0 := ⟨ao_Gm (ao_w2 (List.mem_of_getElem? (i := 29) rfl)) rfl, ao_Gm (ao_w2 (List.mem_of_getElem? (i := 31) rfl)) rfl, ao_Gm (ao_w1 (List.mem_of_getElem? (i := 11) rfl)) rfl, by decide, by decide, by decide +kernel⟩
theorem lc_X7_56 : ao_cB RX7 56 yJ7_fill_53178 cJ7_fill_53178 4 none 2 := ⟨ao_Gm (ao_w3 (List.mem_of_getElem? (i := 158) rfl)) rfl, ao_Gm (ao_w1 (List.mem_of_getElem? (i := 146) rfl)) rfl, ao_Gm (ao_w1 (List.mem_of_getElem? (i := 7) rfl)) rfl, by decide, by decide, by decide +kernel⟩
theorem lc_X7_89 : ao_cB RX7 89 yX7_level cX7_level 2 (some (.object "AsOneHouse$Level")) 1 := ⟨ao_Gm (ao_w5 (List.mem_of_getElem? (i := 85) rfl)) rfl, ao_Gm (ao_w4 (List.mem_of_getElem? (i := 237) rfl)) rfl, ao_Gm (ao_w1 (List.mem_of_getElem? (i := 10) rfl)) rfl, by decide, by decide, by decide +kernel⟩
theorem lc_X7_93 : ao_cB RX7 93 yX3_forgetReads cX3_forgetReads 1 none 0 := ⟨ao_Gm (ao_w5 (List.mem_of_getElem? (i := 151) rfl)) rfl, ao_Gm (ao_w5 (List.mem_of_getElem? (i := 38) rfl)) rfl, ao_Gm (ao_w1 (List.mem_of_getElem? (i := 11) rfl)) rfl, by decide, by decide, by decide +kernel⟩
theorem lc_X7_96 : ao_cB RX7 96 yX3_forgetWrites cX3_forgetWrites 1 none 0 := ⟨ao_Gm (ao_w5 (List.mem_of_getElem? (i := 152) rfl)) rfl, ao_Gm (ao_w5 (List.mem_of_getElem? (i := 29) rfl)) rfl, ao_Gm (ao_w1 (List.mem_of_getElem? (i := 11) rfl)) rfl, by decide, by decide, by decide +kernel⟩
theorem lc_X7_119 : ao_cB RX7 119 yX1_firstAt cX1_firstAt 2 (some .int) 1 := ⟨ao_Gm (ao_w5 (List.mem_of_getElem? (i := 191) rfl)) rfl, ao_Gm (ao_w5 (List.mem_of_getElem? (i := 194) rfl)) rfl, ao_Gm (ao_w1 (List.mem_of_getElem? (i := 4) rfl)) rfl, by decide, by decide, by decide +kernel⟩
theorem lc_X7_123 : ao_cB RX7 123 yX7_readsOfAll cX7_readsOfAll 3 (some .int) 0 := ⟨ao_Gm (ao_w6 (List.mem_of_getElem? (i := 60) rfl)) rfl, ao_Gm (ao_w6 (List.mem_of_getElem? (i := 63) rfl)) rfl, ao_Gm (ao_w1 (List.mem_of_getElem? (i := 10) rfl)) rfl, by decide, by decide, by decide +kernel⟩
theorem lc_X7_127 : ao_cB RX7 127 yX7_writesOfAll cX7_writesOfAll 3 (some .int) 0 := ⟨ao_Gm (ao_w6 (List.mem_of_getElem? (i := 64) rfl)) rfl, ao_Gm (ao_w6 (List.mem_of_getElem? (i := 67) rfl)) rfl, ao_Gm (ao_w1 (List.mem_of_getElem? (i := 10) rfl)) rfl, by decide, by decide, by decide +kernel⟩
theorem lc_X7_130 : ao_cB RX7 130 yJ6_bitCount_0f7a4 cJ6_bitCount_0f7a4 1 (some .int) 1 := ⟨ao_Gm (ao_w6 (List.mem_of_getElem? (i := 68) rfl)) rfl, ao_Gm (ao_w6 (List.mem_of_getElem? (i := 70) rfl)) rfl, ao_Gm (ao_w1 (List.mem_of_getElem? (i := 28) rfl)) rfl, by decide, by decide, by decide +kernel⟩
theorem lc_X9_38 : ao_cB RX9 38 yX9_scan cX9_scan 2 none 0 := ⟨ao_Gm (ao_w3 (List.mem_of_getElem? (i := 201) rfl)) rfl, ao_Gm (ao_w3 (List.mem_of_getElem? (i := 204) rfl)) rfl, ao_Gm (ao_w1 (List.mem_of_getElem? (i := 3) rfl)) rfl, by decide, by decide, by decide +kernel⟩
theorem lc_X9_50 : ao_cB RX9 50 yX9_advance cX9_advance 1 none 0 := ⟨ao_Gm (ao_w4 (List.mem_of_getElem? (i := 66) rfl)) rfl, ao_Gm (ao_w4 (List.mem_of_getElem? (i := 69) rfl)) rfl, ao_Gm (ao_w1 (List.mem_of_getElem? (i := 3) rfl)) rfl, by decide, by decide, by decide +kernel⟩
theorem lc_X9_53 : ao_cB RX9 53 yX9_byteAt cX9_byteAt 2 (some .int) 1 := ⟨ao_Gm (ao_w3 (List.mem_of_getElem? (i := 205) rfl)) rfl, ao_Gm (ao_w3 (List.mem_of_getElem? (i := 208) rfl)) rfl, ao_Gm (ao_w1 (List.mem_of_getElem? (i := 3) rfl)) rfl, by decide, by decide, by decide +kernel⟩
theorem lc_X9_57 : ao_cB RX9 57 yX9_isBlank cX9_isBlank 1 (some .boolean) 1 := ⟨ao_Gm (ao_w3 (List.mem_of_getElem? (i := 209) rfl)) rfl, ao_Gm (ao_w3 (List.mem_of_getElem? (i := 211) rfl)) rfl, ao_Gm (ao_w1 (List.mem_of_getElem? (i := 3) rfl)) rfl, by decide, by decide, by decide +kernel⟩
theorem lc_X9_61 : ao_cB RX9 61 yX9_isLetter cX9_isLetter 1 (some .boolean) 1 := ⟨ao_Gm (ao_w3 (List.mem_of_getElem? (i := 212) rfl)) rfl, ao_Gm (ao_w3 (List.mem_of_getElem? (i := 214) rfl)) rfl, ao_Gm (ao_w1 (List.mem_of_getElem? (i := 3) rfl)) rfl, by decide, by decide, by decide +kernel⟩
theorem lc_X9_64 : ao_cB RX9 64 yX9_wordKind cX9_wordKind 2 (some .int) 0 := ⟨ao_Gm (ao_w3 (List.mem_of_getElem? (i := 218) rfl)) rfl, ao_Gm (ao_w3 (List.mem_of_getElem? (i := 221) rfl)) rfl, ao_Gm (ao_w1 (List.mem_of_getElem? (i := 3) rfl)) rfl, by decide, by decide, by decide +kernel⟩
theorem lc_X9_68 : ao_cB RX9 68 yX9_isDigit cX9_isDigit 1 (some .boolean) 1 := ⟨ao_Gm (ao_w4 (List.mem_of_getElem? (i := 50) rfl)) rfl, ao_Gm (ao_w4 (List.mem_of_getElem? (i := 52) rfl)) rfl, ao_Gm (ao_w1 (List.mem_of_getElem? (i := 3) rfl)) rfl, by decide, by decide, by decide +kernel⟩
theorem lc_X9_71 : ao_cB RX9 71 yX9_numberKind cX9_numberKind 1 (some .int) 0 := ⟨ao_Gm (ao_w4 (List.mem_of_getElem? (i := 53) rfl)) rfl, ao_Gm (ao_w4 (List.mem_of_getElem? (i := 56) rfl)) rfl, ao_Gm (ao_w1 (List.mem_of_getElem? (i := 3) rfl)) rfl, by decide, by decide, by decide +kernel⟩
theorem lc_X9_74 : ao_cB RX9 74 yX9_signKind cX9_signKind 2 (some .int) 1 := ⟨ao_Gm (ao_w4 (List.mem_of_getElem? (i := 58) rfl)) rfl, ao_Gm (ao_w4 (List.mem_of_getElem? (i := 61) rfl)) rfl, ao_Gm (ao_w1 (List.mem_of_getElem? (i := 3) rfl)) rfl, by decide, by decide, by decide +kernel⟩
theorem lc_X9_77 : ao_cB RX9 77 yX9_isSmall cX9_isSmall 1 (some .boolean) 1 := ⟨ao_Gm (ao_w3 (List.mem_of_getElem? (i := 215) rfl)) rfl, ao_Gm (ao_w3 (List.mem_of_getElem? (i := 217) rfl)) rfl, ao_Gm (ao_w1 (List.mem_of_getElem? (i := 3) rfl)) rfl, by decide, by decide, by decide +kernel⟩
theorem lc_X9_80 : ao_cB RX9 80 yX9_keywordKind cX9_keywordKind 1 (some .int) 0 := ⟨ao_Gm (ao_w3 (List.mem_of_getElem? (i := 222) rfl)) rfl, ao_Gm (ao_w3 (List.mem_of_getElem? (i := 225) rfl)) rfl, ao_Gm (ao_w1 (List.mem_of_getElem? (i := 3) rfl)) rfl, by decide, by decide, by decide +kernel⟩
theorem lc_X9_85 : ao_cB RX9 85 yX9_isWord cX9_isWord 3 (some .boolean) 1 := ⟨ao_Gm (ao_w3 (List.mem_of_getElem? (i := 227) rfl)) rfl, ao_Gm (ao_w3 (List.mem_of_getElem? (i := 230) rfl)) rfl, ao_Gm (ao_w1 (List.mem_of_getElem? (i := 3) rfl)) rfl, by decide, by decide, by decide +kernel⟩
theorem lc_X9_111 : ao_cB RX9 111 yJ0_length_8abf5 cJ0_length_8abf5 1 (some .int) 0 := ⟨ao_Gm (ao_w3 (List.mem_of_getElem? (i := 231) rfl)) rfl, ao_Gm (ao_w3 (List.mem_of_getElem? (i := 234) rfl)) rfl, ao_Gm (ao_w1 (List.mem_of_getElem? (i := 21) rfl)) rfl, by decide, by decide, by decide +kernel⟩
theorem lc_X9_115 : ao_cB RX9 115 yJ0_charAt_5068e cJ0_charAt_5068e 2 (some .char) 1 := ⟨ao_Gm (ao_w4 (List.mem_of_getElem? (i := 1) rfl)) rfl, ao_Gm (ao_w4 (List.mem_of_getElem? (i := 4) rfl)) rfl, ao_Gm (ao_w1 (List.mem_of_getElem? (i := 21) rfl)) rfl, by decide, by decide, by decide +kernel⟩
theorem lc_X9_120 : ao_cB RX9 120 yX9_equalsKind cX9_equalsKind 1 (some .int) 0 := ⟨ao_Gm (ao_w4 (List.mem_of_getElem? (i := 62) rfl)) rfl, ao_Gm (ao_w4 (List.mem_of_getElem? (i := 65) rfl)) rfl, ao_Gm (ao_w1 (List.mem_of_getElem? (i := 3) rfl)) rfl, by decide, by decide, by decide +kernel⟩
theorem lc_L_7 : ao_cB RL 7 yX10_feed cX10_feed 6 (some .int) 5 := ⟨ao_Gm (ao_w3 (List.mem_of_getElem? (i := 33) rfl)) rfl, ao_Gm (ao_w3 (List.mem_of_getElem? (i := 36) rfl)) rfl, ao_Gm (ao_w1 (List.mem_of_getElem? (i := 1) rfl)) rfl, by decide, by decide, by decide +kernel⟩
theorem lc_L_15 : ao_cB RL 15 yX10_end cX10_end 2 (some .int) 1 := ⟨ao_Gm (ao_w3 (List.mem_of_getElem? (i := 114) rfl)) rfl, ao_Gm (ao_w3 (List.mem_of_getElem? (i := 117) rfl)) rfl, ao_Gm (ao_w1 (List.mem_of_getElem? (i := 1) rfl)) rfl, by decide, by decide, by decide +kernel⟩
theorem lc_L_21 : ao_cB RL 21 yX10_start cX10_start 2 none 1 := ⟨ao_Gm (ao_w3 (List.mem_of_getElem? (i := 137) rfl)) rfl, ao_Gm (ao_w3 (List.mem_of_getElem? (i := 140) rfl)) rfl, ao_Gm (ao_w1 (List.mem_of_getElem? (i := 1) rfl)) rfl, by decide, by decide, by decide +kernel⟩
theorem lc_L_25 : ao_cB RL 25 yX10_program cX10_program 4 (some .int) 1 := ⟨ao_Gm (ao_w3 (List.mem_of_getElem? (i := 168) rfl)) rfl, ao_Gm (ao_w3 (List.mem_of_getElem? (i := 171) rfl)) rfl, ao_Gm (ao_w1 (List.mem_of_getElem? (i := 1) rfl)) rfl, by decide, by decide, by decide +kernel⟩
theorem lc_L_32 : ao_cB RL 32 yX10_put cX10_put 4 (some .int) 2 := ⟨ao_Gm (ao_w4 (List.mem_of_getElem? (i := 189) rfl)) rfl, ao_Gm (ao_w4 (List.mem_of_getElem? (i := 192) rfl)) rfl, ao_Gm (ao_w1 (List.mem_of_getElem? (i := 1) rfl)) rfl, by decide, by decide, by decide +kernel⟩
theorem lc_L_36 : ao_cB RL 36 yX10_turn cX10_turn 2 (some .int) 1 := ⟨ao_Gm (ao_w4 (List.mem_of_getElem? (i := 217) rfl)) rfl, ao_Gm (ao_w4 (List.mem_of_getElem? (i := 220) rfl)) rfl, ao_Gm (ao_w1 (List.mem_of_getElem? (i := 1) rfl)) rfl, by decide, by decide, by decide +kernel⟩
theorem lc_L_39 : ao_cB RL 39 yX10_round cX10_round 7 (some .int) 1 := ⟨ao_Gm (ao_w6 (List.mem_of_getElem? (i := 6) rfl)) rfl, ao_Gm (ao_w6 (List.mem_of_getElem? (i := 9) rfl)) rfl, ao_Gm (ao_w1 (List.mem_of_getElem? (i := 1) rfl)) rfl, by decide, by decide, by decide +kernel⟩
theorem lc_L_42 : ao_cB RL 42 yX10_has cX10_has 2 (some .int) 1 := ⟨ao_Gm (ao_w6 (List.mem_of_getElem? (i := 19) rfl)) rfl, ao_Gm (ao_w6 (List.mem_of_getElem? (i := 22) rfl)) rfl, ao_Gm (ao_w1 (List.mem_of_getElem? (i := 1) rfl)) rfl, by decide, by decide, by decide +kernel⟩
theorem lc_L_45 : ao_cB RL 45 yX10_had cX10_had 3 (some .int) 2 := ⟨ao_Gm (ao_w6 (List.mem_of_getElem? (i := 26) rfl)) rfl, ao_Gm (ao_w6 (List.mem_of_getElem? (i := 29) rfl)) rfl, ao_Gm (ao_w1 (List.mem_of_getElem? (i := 1) rfl)) rfl, by decide, by decide, by decide +kernel⟩
theorem lc_L_48 : ao_cB RL 48 yX10_register cX10_register 3 (some .int) 2 := ⟨ao_Gm (ao_w6 (List.mem_of_getElem? (i := 35) rfl)) rfl, ao_Gm (ao_w6 (List.mem_of_getElem? (i := 38) rfl)) rfl, ao_Gm (ao_w1 (List.mem_of_getElem? (i := 1) rfl)) rfl, by decide, by decide, by decide +kernel⟩
theorem lc_L_51 : ao_cB RL 51 yX10_said cX10_said 4 (some .int) 2 := ⟨ao_Gm (ao_w6 (List.mem_of_getElem? (i := 43) rfl)) rfl, ao_Gm (ao_w6 (List.mem_of_getElem? (i := 46) rfl)) rfl, ao_Gm (ao_w1 (List.mem_of_getElem? (i := 1) rfl)) rfl, by decide, by decide, by decide +kernel⟩
theorem lc_L_55 : ao_cB RL 55 yX10_look cX10_look 3 (some .int) 2 := ⟨ao_Gm (ao_w6 (List.mem_of_getElem? (i := 51) rfl)) rfl, ao_Gm (ao_w6 (List.mem_of_getElem? (i := 54) rfl)) rfl, ao_Gm (ao_w1 (List.mem_of_getElem? (i := 1) rfl)) rfl, by decide, by decide, by decide +kernel⟩
theorem lc_L_58 : ao_cB RL 58 yX10_order cX10_order 2 (some .int) 1 := ⟨ao_Gm (ao_w6 (List.mem_of_getElem? (i := 77) rfl)) rfl, ao_Gm (ao_w6 (List.mem_of_getElem? (i := 80) rfl)) rfl, ao_Gm (ao_w1 (List.mem_of_getElem? (i := 1) rfl)) rfl, by decide, by decide, by decide +kernel⟩
theorem lc_L_61 : ao_cB RL 61 yX10_record cX10_record 3 (some .int) 2 := ⟨ao_Gm (ao_w6 (List.mem_of_getElem? (i := 85) rfl)) rfl, ao_Gm (ao_w6 (List.mem_of_getElem? (i := 88) rfl)) rfl, ao_Gm (ao_w1 (List.mem_of_getElem? (i := 1) rfl)) rfl, by decide, by decide, by decide +kernel⟩
theorem lc_L_64 : ao_cB RL 64 yX10_count cX10_count 2 (some .int) 1 := ⟨ao_Gm (ao_w6 (List.mem_of_getElem? (i := 98) rfl)) rfl, ao_Gm (ao_w6 (List.mem_of_getElem? (i := 101) rfl)) rfl, ao_Gm (ao_w1 (List.mem_of_getElem? (i := 1) rfl)) rfl, by decide, by decide, by decide +kernel⟩
theorem lc_X12_23 : ao_cB RX12 23 yJ0_length_8abf5 cJ0_length_8abf5 1 (some .int) 0 := ⟨ao_Gm (ao_w7 (List.mem_of_getElem? (i := 223) rfl)) rfl, ao_Gm (ao_w3 (List.mem_of_getElem? (i := 234) rfl)) rfl, ao_Gm (ao_w1 (List.mem_of_getElem? (i := 21) rfl)) rfl, by decide, by decide, by decide +kernel⟩
theorem lc_X12_28 : ao_cB RX12 28 yJ0_charAt_5068e cJ0_charAt_5068e 2 (some .char) 1 := ⟨ao_Gm (ao_w7 (List.mem_of_getElem? (i := 224) rfl)) rfl, ao_Gm (ao_w4 (List.mem_of_getElem? (i := 4) rfl)) rfl, ao_Gm (ao_w1 (List.mem_of_getElem? (i := 21) rfl)) rfl, by decide, by decide, by decide +kernel⟩
theorem lc_X12_35 : ao_cB RX12 35 yX12_byteAt cX12_byteAt 2 (some .int) 1 := ⟨ao_Gm (ao_w7 (List.mem_of_getElem? (i := 211) rfl)) rfl, ao_Gm (ao_w7 (List.mem_of_getElem? (i := 214) rfl)) rfl, ao_Gm (ao_w1 (List.mem_of_getElem? (i := 13) rfl)) rfl, by decide, by decide, by decide +kernel⟩
theorem lc_X12_45 : ao_cB RX12 45 yX12_isLetter cX12_isLetter 1 (some .boolean) 1 := ⟨ao_Gm (ao_w7 (List.mem_of_getElem? (i := 215) rfl)) rfl, ao_Gm (ao_w7 (List.mem_of_getElem? (i := 217) rfl)) rfl, ao_Gm (ao_w1 (List.mem_of_getElem? (i := 13) rfl)) rfl, by decide, by decide, by decide +kernel⟩
theorem lc_X12_52 : ao_cB RX12 52 yX12_wordOf cX12_wordOf 8 (some .int) 2 := ⟨ao_Gm (ao_w7 (List.mem_of_getElem? (i := 218) rfl)) rfl, ao_Gm (ao_w7 (List.mem_of_getElem? (i := 221) rfl)) rfl, ao_Gm (ao_w1 (List.mem_of_getElem? (i := 13) rfl)) rfl, by decide, by decide, by decide +kernel⟩
theorem lc_X12_56 : ao_cB RX12 56 yX12_isDigit cX12_isDigit 1 (some .boolean) 1 := ⟨ao_Gm (ao_w7 (List.mem_of_getElem? (i := 225) rfl)) rfl, ao_Gm (ao_w7 (List.mem_of_getElem? (i := 227) rfl)) rfl, ao_Gm (ao_w1 (List.mem_of_getElem? (i := 13) rfl)) rfl, by decide, by decide, by decide +kernel⟩
theorem lc_X12_60 : ao_cB RX12 60 yX12_isSign cX12_isSign 2 (some .boolean) 1 := ⟨ao_Gm (ao_w8 (List.mem_of_getElem? (i := 5) rfl)) rfl, ao_Gm (ao_w8 (List.mem_of_getElem? (i := 8) rfl)) rfl, ao_Gm (ao_w1 (List.mem_of_getElem? (i := 13) rfl)) rfl, by decide, by decide, by decide +kernel⟩
theorem lc_X12_63 : ao_cB RX12 63 yX12_token cX12_token 3 none 0 := ⟨ao_Gm (ao_w7 (List.mem_of_getElem? (i := 207) rfl)) rfl, ao_Gm (ao_w7 (List.mem_of_getElem? (i := 210) rfl)) rfl, ao_Gm (ao_w1 (List.mem_of_getElem? (i := 13) rfl)) rfl, by decide, by decide, by decide +kernel⟩
theorem lc_X12_67 : ao_cB RX12 67 yX12_take cX12_take 2 (some .boolean) 1 := ⟨ao_Gm (ao_w8 (List.mem_of_getElem? (i := 1) rfl)) rfl, ao_Gm (ao_w8 (List.mem_of_getElem? (i := 4) rfl)) rfl, ao_Gm (ao_w1 (List.mem_of_getElem? (i := 13) rfl)) rfl, by decide, by decide, by decide +kernel⟩
theorem lc_X12_70 : ao_cB RX12 70 yX12_wrong cX12_wrong 2 (some (.object "AsOneHouseModel$Broken")) 1 := ⟨ao_Gm (ao_w7 (List.mem_of_getElem? (i := 233) rfl)) rfl, ao_Gm (ao_w7 (List.mem_of_getElem? (i := 236) rfl)) rfl, ao_Gm (ao_w1 (List.mem_of_getElem? (i := 13) rfl)) rfl, by decide, by decide, by decide +kernel⟩
theorem lc_X12_84 : ao_cB RX12 84 yX12_sum cX12_sum 3 none 0 := ⟨ao_Gm (ao_w8 (List.mem_of_getElem? (i := 13) rfl)) rfl, ao_Gm (ao_w8 (List.mem_of_getElem? (i := 16) rfl)) rfl, ao_Gm (ao_w1 (List.mem_of_getElem? (i := 13) rfl)) rfl, by decide, by decide, by decide +kernel⟩
theorem lc_X12_87 : ao_cB RX12 87 yX12_make cX12_make 4 (some .int) 3 := ⟨ao_Gm (ao_w8 (List.mem_of_getElem? (i := 25) rfl)) rfl, ao_Gm (ao_w8 (List.mem_of_getElem? (i := 28) rfl)) rfl, ao_Gm (ao_w1 (List.mem_of_getElem? (i := 13) rfl)) rfl, by decide, by decide, by decide +kernel⟩
theorem lc_X12_91 : ao_cB RX12 91 yX12_product cX12_product 2 none 0 := ⟨ao_Gm (ao_w8 (List.mem_of_getElem? (i := 17) rfl)) rfl, ao_Gm (ao_w8 (List.mem_of_getElem? (i := 20) rfl)) rfl, ao_Gm (ao_w1 (List.mem_of_getElem? (i := 13) rfl)) rfl, by decide, by decide, by decide +kernel⟩
theorem lc_X12_94 : ao_cB RX12 94 yX12_simple cX12_simple 3 none 0 := ⟨ao_Gm (ao_w8 (List.mem_of_getElem? (i := 21) rfl)) rfl, ao_Gm (ao_w8 (List.mem_of_getElem? (i := 24) rfl)) rfl, ao_Gm (ao_w1 (List.mem_of_getElem? (i := 13) rfl)) rfl, by decide, by decide, by decide +kernel⟩
theorem lc_X12_97 : ao_cB RX12 97 yX12_enter cX12_enter 1 none 0 := ⟨ao_Gm (ao_w8 (List.mem_of_getElem? (i := 29) rfl)) rfl, ao_Gm (ao_w8 (List.mem_of_getElem? (i := 32) rfl)) rfl, ao_Gm (ao_w1 (List.mem_of_getElem? (i := 13) rfl)) rfl, by decide, by decide, by decide +kernel⟩
theorem lc_X12_100 : ao_cB RX12 100 yX12_expression cX12_expression 3 none 0 := ⟨ao_Gm (ao_w8 (List.mem_of_getElem? (i := 9) rfl)) rfl, ao_Gm (ao_w8 (List.mem_of_getElem? (i := 12) rfl)) rfl, ao_Gm (ao_w1 (List.mem_of_getElem? (i := 13) rfl)) rfl, by decide, by decide, by decide +kernel⟩
theorem lc_X12_103 : ao_cB RX12 103 yX12_need cX12_need 2 none 1 := ⟨ao_Gm (ao_w7 (List.mem_of_getElem? (i := 237) rfl)) rfl, ao_Gm (ao_w8 (List.mem_of_getElem? (i := 0) rfl)) rfl, ao_Gm (ao_w1 (List.mem_of_getElem? (i := 13) rfl)) rfl, by decide, by decide, by decide +kernel⟩
theorem lc_X12_107 : ao_cB RX12 107 yX12_statement cX12_statement 7 none 0 := ⟨ao_Gm (ao_w7 (List.mem_of_getElem? (i := 229) rfl)) rfl, ao_Gm (ao_w7 (List.mem_of_getElem? (i := 232) rfl)) rfl, ao_Gm (ao_w1 (List.mem_of_getElem? (i := 13) rfl)) rfl, by decide, by decide, by decide +kernel⟩
theorem lc_X12_116 : ao_cB RX12 116 yX12_condition cX12_condition 1 none 0 := ⟨ao_Gm (ao_w8 (List.mem_of_getElem? (i := 33) rfl)) rfl, ao_Gm (ao_w8 (List.mem_of_getElem? (i := 36) rfl)) rfl, ao_Gm (ao_w1 (List.mem_of_getElem? (i := 13) rfl)) rfl, by decide, by decide, by decide +kernel⟩
theorem lc_X12_119 : ao_cB RX12 119 yX12_block cX12_block 1 none 0 := ⟨ao_Gm (ao_w8 (List.mem_of_getElem? (i := 37) rfl)) rfl, ao_Gm (ao_w8 (List.mem_of_getElem? (i := 40) rfl)) rfl, ao_Gm (ao_w1 (List.mem_of_getElem? (i := 13) rfl)) rfl, by decide, by decide, by decide +kernel⟩
theorem lc_X12_122 : ao_cB RX12 122 yX12_isWord cX12_isWord 2 (some .boolean) 1 := ⟨ao_Gm (ao_w8 (List.mem_of_getElem? (i := 41) rfl)) rfl, ao_Gm (ao_w8 (List.mem_of_getElem? (i := 44) rfl)) rfl, ao_Gm (ao_w1 (List.mem_of_getElem? (i := 13) rfl)) rfl, by decide, by decide, by decide +kernel⟩
theorem lc_X12_125 : ao_cB RX12 125 yX12_tried cX12_tried 4 none 0 := ⟨ao_Gm (ao_w8 (List.mem_of_getElem? (i := 45) rfl)) rfl, ao_Gm (ao_w8 (List.mem_of_getElem? (i := 48) rfl)) rfl, ao_Gm (ao_w1 (List.mem_of_getElem? (i := 13) rfl)) rfl, by decide, by decide, by decide +kernel⟩
theorem lc_X12_128 : ao_cB RX12 128 yX12_atom cX12_atom 6 none 1 := ⟨ao_Gm (ao_w8 (List.mem_of_getElem? (i := 49) rfl)) rfl, ao_Gm (ao_w8 (List.mem_of_getElem? (i := 52) rfl)) rfl, ao_Gm (ao_w1 (List.mem_of_getElem? (i := 13) rfl)) rfl, by decide, by decide, by decide +kernel⟩
theorem lc_X12_138 : ao_cB RX12 138 yX12_longer cX12_longer 3 (some (.array .int)) 1 := ⟨ao_Gm (ao_w8 (List.mem_of_getElem? (i := 72) rfl)) rfl, ao_Gm (ao_w8 (List.mem_of_getElem? (i := 74) rfl)) rfl, ao_Gm (ao_w1 (List.mem_of_getElem? (i := 13) rfl)) rfl, by decide, by decide, by decide +kernel⟩
theorem lc_X12_160 : ao_cB RX12 160 yX12_remember cX12_remember 2 none 1 := ⟨ao_Gm (ao_w8 (List.mem_of_getElem? (i := 68) rfl)) rfl, ao_Gm (ao_w8 (List.mem_of_getElem? (i := 71) rfl)) rfl, ao_Gm (ao_w1 (List.mem_of_getElem? (i := 13) rfl)) rfl, by decide, by decide, by decide +kernel⟩
theorem lc_X12_329 : ao_cB RX12 329 yX12_begin cX12_begin 3 none 1 := ⟨ao_Gm (ao_w6 (List.mem_of_getElem? (i := 145) rfl)) rfl, ao_Gm (ao_w6 (List.mem_of_getElem? (i := 148) rfl)) rfl, ao_Gm (ao_w1 (List.mem_of_getElem? (i := 13) rfl)) rfl, by decide, by decide, by decide +kernel⟩
theorem lc_X12_350 : ao_cB RX12 350 yX12_reset cX12_reset 3 none 1 := ⟨ao_Gm (ao_w6 (List.mem_of_getElem? (i := 149) rfl)) rfl, ao_Gm (ao_w6 (List.mem_of_getElem? (i := 152) rfl)) rfl, ao_Gm (ao_w1 (List.mem_of_getElem? (i := 13) rfl)) rfl, by decide, by decide, by decide +kernel⟩
theorem lc_X12_353 : ao_cB RX12 353 yX12_clearLevel cX12_clearLevel 4 none 2 := ⟨ao_Gm (ao_w6 (List.mem_of_getElem? (i := 153) rfl)) rfl, ao_Gm (ao_w6 (List.mem_of_getElem? (i := 156) rfl)) rfl, ao_Gm (ao_w1 (List.mem_of_getElem? (i := 13) rfl)) rfl, by decide, by decide, by decide +kernel⟩
theorem lc_X12_357 : ao_cB RX12 357 yX12_cell cX12_cell 4 (some .int) 3 := ⟨ao_Gm (ao_w6 (List.mem_of_getElem? (i := 157) rfl)) rfl, ao_Gm (ao_w6 (List.mem_of_getElem? (i := 160) rfl)) rfl, ao_Gm (ao_w1 (List.mem_of_getElem? (i := 13) rfl)) rfl, by decide, by decide, by decide +kernel⟩
theorem lc_X12_360 : ao_cB RX12 360 yX12_level cX12_level 3 (some .int) 2 := ⟨ao_Gm (ao_w6 (List.mem_of_getElem? (i := 161) rfl)) rfl, ao_Gm (ao_w6 (List.mem_of_getElem? (i := 164) rfl)) rfl, ao_Gm (ao_w1 (List.mem_of_getElem? (i := 13) rfl)) rfl, by decide, by decide, by decide +kernel⟩
theorem lc_X12_363 : ao_cB RX12 363 yX12_keepRegisters cX12_keepRegisters 4 none 2 := ⟨ao_Gm (ao_w8 (List.mem_of_getElem? (i := 199) rfl)) rfl, ao_Gm (ao_w8 (List.mem_of_getElem? (i := 202) rfl)) rfl, ao_Gm (ao_w1 (List.mem_of_getElem? (i := 13) rfl)) rfl, by decide, by decide, by decide +kernel⟩
theorem lc_X12_369 : ao_cB RX12 369 yX12_isEager cX12_isEager 1 (some .boolean) 0 := ⟨ao_Gm (ao_w8 (List.mem_of_getElem? (i := 87) rfl)) rfl, ao_Gm (ao_w8 (List.mem_of_getElem? (i := 90) rfl)) rfl, ao_Gm (ao_w1 (List.mem_of_getElem? (i := 13) rfl)) rfl, by decide, by decide, by decide +kernel⟩
theorem lc_X12_373 : ao_cB RX12 373 yX12_takeBack cX12_takeBack 5 none 2 := ⟨ao_Gm (ao_w8 (List.mem_of_getElem? (i := 103) rfl)) rfl, ao_Gm (ao_w8 (List.mem_of_getElem? (i := 106) rfl)) rfl, ao_Gm (ao_w1 (List.mem_of_getElem? (i := 13) rfl)) rfl, by decide, by decide, by decide +kernel⟩
theorem lc_X12_376 : ao_cB RX12 376 yX12_giveReads cX12_giveReads 6 none 2 := ⟨ao_Gm (ao_w8 (List.mem_of_getElem? (i := 107) rfl)) rfl, ao_Gm (ao_w8 (List.mem_of_getElem? (i := 110) rfl)) rfl, ao_Gm (ao_w1 (List.mem_of_getElem? (i := 13) rfl)) rfl, by decide, by decide, by decide +kernel⟩
theorem lc_X12_379 : ao_cB RX12 379 yX12_dropReads cX12_dropReads 4 none 2 := ⟨ao_Gm (ao_w8 (List.mem_of_getElem? (i := 111) rfl)) rfl, ao_Gm (ao_w8 (List.mem_of_getElem? (i := 114) rfl)) rfl, ao_Gm (ao_w1 (List.mem_of_getElem? (i := 13) rfl)) rfl, by decide, by decide, by decide +kernel⟩
theorem lc_X12_382 : ao_cB RX12 382 yX12_takeBackTo cX12_takeBackTo 5 none 3 := ⟨ao_Gm (ao_w8 (List.mem_of_getElem? (i := 99) rfl)) rfl, ao_Gm (ao_w8 (List.mem_of_getElem? (i := 102) rfl)) rfl, ao_Gm (ao_w1 (List.mem_of_getElem? (i := 13) rfl)) rfl, by decide, by decide, by decide +kernel⟩
theorem lc_X12_386 : ao_cB RX12 386 yX12_free cX12_free 4 none 1 := ⟨ao_Gm (ao_w8 (List.mem_of_getElem? (i := 115) rfl)) rfl, ao_Gm (ao_w8 (List.mem_of_getElem? (i := 118) rfl)) rfl, ao_Gm (ao_w1 (List.mem_of_getElem? (i := 13) rfl)) rfl, by decide, by decide, by decide +kernel⟩
theorem lc_X12_389 : ao_cB RX12 389 yX12_isWrong cX12_isWrong 5 (some .boolean) 3 := ⟨ao_Gm (ao_w8 (List.mem_of_getElem? (i := 147) rfl)) rfl, ao_Gm (ao_w8 (List.mem_of_getElem? (i := 150) rfl)) rfl, ao_Gm (ao_w1 (List.mem_of_getElem? (i := 13) rfl)) rfl, by decide, by decide, by decide +kernel⟩
theorem lc_X12_393 : ao_cB RX12 393 yX12_wrongLevel cX12_wrongLevel 4 (some .int) 1 := ⟨ao_Gm (ao_w8 (List.mem_of_getElem? (i := 143) rfl)) rfl, ao_Gm (ao_w8 (List.mem_of_getElem? (i := 146) rfl)) rfl, ao_Gm (ao_w1 (List.mem_of_getElem? (i := 13) rfl)) rfl, by decide, by decide, by decide +kernel⟩
theorem lc_X12_396 : ao_cB RX12 396 yX12_restart cX12_restart 4 none 2 := ⟨ao_Gm (ao_w8 (List.mem_of_getElem? (i := 95) rfl)) rfl, ao_Gm (ao_w8 (List.mem_of_getElem? (i := 98) rfl)) rfl, ao_Gm (ao_w1 (List.mem_of_getElem? (i := 13) rfl)) rfl, by decide, by decide, by decide +kernel⟩
theorem lc_X12_399 : ao_cB RX12 399 yX12_conflict cX12_conflict 3 none 1 := ⟨ao_Gm (ao_w8 (List.mem_of_getElem? (i := 139) rfl)) rfl, ao_Gm (ao_w8 (List.mem_of_getElem? (i := 142) rfl)) rfl, ao_Gm (ao_w1 (List.mem_of_getElem? (i := 13) rfl)) rfl, by decide, by decide, by decide +kernel⟩
theorem lc_X12_402 : ao_cB RX12 402 yX12_writtenLevel cX12_writtenLevel 4 (some .int) 2 := ⟨ao_Gm (ao_w8 (List.mem_of_getElem? (i := 135) rfl)) rfl, ao_Gm (ao_w8 (List.mem_of_getElem? (i := 138) rfl)) rfl, ao_Gm (ao_w1 (List.mem_of_getElem? (i := 13) rfl)) rfl, by decide, by decide, by decide +kernel⟩
theorem lc_X12_408 : ao_cB RX12 408 yX12_goesOn cX12_goesOn 2 (some .boolean) 1 := ⟨ao_Gm (ao_w8 (List.mem_of_getElem? (i := 151) rfl)) rfl, ao_Gm (ao_w8 (List.mem_of_getElem? (i := 154) rfl)) rfl, ao_Gm (ao_w1 (List.mem_of_getElem? (i := 13) rfl)) rfl, by decide, by decide, by decide +kernel⟩
theorem lc_X12_411 : ao_cB RX12 411 yX12_wins cX12_wins 4 (some .boolean) 2 := ⟨ao_Gm (ao_w8 (List.mem_of_getElem? (i := 155) rfl)) rfl, ao_Gm (ao_w8 (List.mem_of_getElem? (i := 158) rfl)) rfl, ao_Gm (ao_w1 (List.mem_of_getElem? (i := 13) rfl)) rfl, by decide, by decide, by decide +kernel⟩
theorem lc_X12_415 : ao_cB RX12 415 yX12_past cX12_past 4 (some .int) 2 := ⟨ao_Gm (ao_w8 (List.mem_of_getElem? (i := 159) rfl)) rfl, ao_Gm (ao_w8 (List.mem_of_getElem? (i := 162) rfl)) rfl, ao_Gm (ao_w1 (List.mem_of_getElem? (i := 13) rfl)) rfl, by decide, by decide, by decide +kernel⟩
theorem lc_X12_418 : ao_cB RX12 418 yX12_addRead cX12_addRead 5 none 3 := ⟨ao_Gm (ao_w8 (List.mem_of_getElem? (i := 163) rfl)) rfl, ao_Gm (ao_w8 (List.mem_of_getElem? (i := 166) rfl)) rfl, ao_Gm (ao_w1 (List.mem_of_getElem? (i := 13) rfl)) rfl, by decide, by decide, by decide +kernel⟩
theorem lc_X12_422 : ao_cB RX12 422 yX12_hasWrites cX12_hasWrites 3 (some .boolean) 1 := ⟨ao_Gm (ao_w8 (List.mem_of_getElem? (i := 211) rfl)) rfl, ao_Gm (ao_w8 (List.mem_of_getElem? (i := 214) rfl)) rfl, ao_Gm (ao_w1 (List.mem_of_getElem? (i := 13) rfl)) rfl, by decide, by decide, by decide +kernel⟩
theorem lc_X12_425 : ao_cB RX12 425 yX12_newRecord cX12_newRecord 4 (some .int) 2 := ⟨ao_Gm (ao_w8 (List.mem_of_getElem? (i := 167) rfl)) rfl, ao_Gm (ao_w8 (List.mem_of_getElem? (i := 170) rfl)) rfl, ao_Gm (ao_w1 (List.mem_of_getElem? (i := 13) rfl)) rfl, by decide, by decide, by decide +kernel⟩
theorem lc_X12_428 : ao_cB RX12 428 yX12_say cX12_say 3 none 2 := ⟨ao_Gm (ao_w8 (List.mem_of_getElem? (i := 183) rfl)) rfl, ao_Gm (ao_w8 (List.mem_of_getElem? (i := 186) rfl)) rfl, ao_Gm (ao_w1 (List.mem_of_getElem? (i := 13) rfl)) rfl, by decide, by decide, by decide +kernel⟩
theorem lc_X12_431 : ao_cB RX12 431 yX12_isBusy cX12_isBusy 3 (some .boolean) 1 := ⟨ao_Gm (ao_w8 (List.mem_of_getElem? (i := 91) rfl)) rfl, ao_Gm (ao_w8 (List.mem_of_getElem? (i := 94) rfl)) rfl, ao_Gm (ao_w1 (List.mem_of_getElem? (i := 13) rfl)) rfl, by decide, by decide, by decide +kernel⟩
theorem lc_X12_434 : ao_cB RX12 434 yX12_openLevel cX12_openLevel 6 none 3 := ⟨ao_Gm (ao_w8 (List.mem_of_getElem? (i := 195) rfl)) rfl, ao_Gm (ao_w8 (List.mem_of_getElem? (i := 198) rfl)) rfl, ao_Gm (ao_w1 (List.mem_of_getElem? (i := 13) rfl)) rfl, by decide, by decide, by decide +kernel⟩
theorem lc_X12_437 : ao_cB RX12 437 yX12_mayEnd cX12_mayEnd 6 (some .boolean) 1 := ⟨ao_Gm (ao_w8 (List.mem_of_getElem? (i := 207) rfl)) rfl, ao_Gm (ao_w8 (List.mem_of_getElem? (i := 210) rfl)) rfl, ao_Gm (ao_w1 (List.mem_of_getElem? (i := 13) rfl)) rfl, by decide, by decide, by decide +kernel⟩
theorem lc_X12_440 : ao_cB RX12 440 yX12_done cX12_done 5 none 1 := ⟨ao_Gm (ao_w8 (List.mem_of_getElem? (i := 215) rfl)) rfl, ao_Gm (ao_w8 (List.mem_of_getElem? (i := 218) rfl)) rfl, ao_Gm (ao_w1 (List.mem_of_getElem? (i := 13) rfl)) rfl, by decide, by decide, by decide +kernel⟩
theorem lc_X12_443 : ao_cB RX12 443 yX12_endPart cX12_endPart 6 none 1 := ⟨ao_Gm (ao_w8 (List.mem_of_getElem? (i := 219) rfl)) rfl, ao_Gm (ao_w8 (List.mem_of_getElem? (i := 222) rfl)) rfl, ao_Gm (ao_w1 (List.mem_of_getElem? (i := 13) rfl)) rfl, by decide, by decide, by decide +kernel⟩
theorem lc_X12_446 : ao_cB RX12 446 yX12_leave cX12_leave 2 none 1 := ⟨ao_Gm (ao_w8 (List.mem_of_getElem? (i := 231) rfl)) rfl, ao_Gm (ao_w8 (List.mem_of_getElem? (i := 234) rfl)) rfl, ao_Gm (ao_w1 (List.mem_of_getElem? (i := 13) rfl)) rfl, by decide, by decide, by decide +kernel⟩
theorem lc_X12_449 : ao_cB RX12 449 yX12_push cX12_push 3 none 2 := ⟨ao_Gm (ao_w8 (List.mem_of_getElem? (i := 123) rfl)) rfl, ao_Gm (ao_w8 (List.mem_of_getElem? (i := 126) rfl)) rfl, ao_Gm (ao_w1 (List.mem_of_getElem? (i := 13) rfl)) rfl, by decide, by decide, by decide +kernel⟩
theorem lc_X12_452 : ao_cB RX12 452 yX12_doLook cX12_doLook 4 (some .int) 2 := ⟨ao_Gm (ao_w8 (List.mem_of_getElem? (i := 127) rfl)) rfl, ao_Gm (ao_w8 (List.mem_of_getElem? (i := 130) rfl)) rfl, ao_Gm (ao_w1 (List.mem_of_getElem? (i := 13) rfl)) rfl, by decide, by decide, by decide +kernel⟩
theorem lc_X12_455 : ao_cB RX12 455 yX12_pop cX12_pop 2 (some .int) 1 := ⟨ao_Gm (ao_w8 (List.mem_of_getElem? (i := 171) rfl)) rfl, ao_Gm (ao_w8 (List.mem_of_getElem? (i := 174) rfl)) rfl, ao_Gm (ao_w1 (List.mem_of_getElem? (i := 13) rfl)) rfl, by decide, by decide, by decide +kernel⟩
theorem lc_X12_458 : ao_cB RX12 458 yX12_doWrite cX12_doWrite 5 (some .int) 2 := ⟨ao_Gm (ao_w8 (List.mem_of_getElem? (i := 175) rfl)) rfl, ao_Gm (ao_w8 (List.mem_of_getElem? (i := 178) rfl)) rfl, ao_Gm (ao_w1 (List.mem_of_getElem? (i := 13) rfl)) rfl, by decide, by decide, by decide +kernel⟩
theorem lc_X12_461 : ao_cB RX12 461 yX12_hold cX12_hold 3 none 2 := ⟨ao_Gm (ao_w8 (List.mem_of_getElem? (i := 187) rfl)) rfl, ao_Gm (ao_w8 (List.mem_of_getElem? (i := 190) rfl)) rfl, ao_Gm (ao_w1 (List.mem_of_getElem? (i := 13) rfl)) rfl, by decide, by decide, by decide +kernel⟩
theorem lc_X12_464 : ao_cB RX12 464 yX12_beginBlock cX12_beginBlock 7 (some .int) 3 := ⟨ao_Gm (ao_w8 (List.mem_of_getElem? (i := 191) rfl)) rfl, ao_Gm (ao_w8 (List.mem_of_getElem? (i := 194) rfl)) rfl, ao_Gm (ao_w1 (List.mem_of_getElem? (i := 13) rfl)) rfl, by decide, by decide, by decide +kernel⟩
theorem lc_X12_467 : ao_cB RX12 467 yX12_endBlock cX12_endBlock 3 (some .int) 1 := ⟨ao_Gm (ao_w8 (List.mem_of_getElem? (i := 203) rfl)) rfl, ao_Gm (ao_w8 (List.mem_of_getElem? (i := 206) rfl)) rfl, ao_Gm (ao_w1 (List.mem_of_getElem? (i := 13) rfl)) rfl, by decide, by decide, by decide +kernel⟩
theorem lc_X12_470 : ao_cB RX12 470 yX12_retry cX12_retry 4 (some .int) 1 := ⟨ao_Gm (ao_w8 (List.mem_of_getElem? (i := 223) rfl)) rfl, ao_Gm (ao_w8 (List.mem_of_getElem? (i := 226) rfl)) rfl, ao_Gm (ao_w1 (List.mem_of_getElem? (i := 13) rfl)) rfl, by decide, by decide, by decide +kernel⟩
theorem lc_X12_473 : ao_cB RX12 473 yX12_quit cX12_quit 4 (some .int) 1 := ⟨ao_Gm (ao_w8 (List.mem_of_getElem? (i := 227) rfl)) rfl, ao_Gm (ao_w8 (List.mem_of_getElem? (i := 230) rfl)) rfl, ao_Gm (ao_w1 (List.mem_of_getElem? (i := 13) rfl)) rfl, by decide, by decide, by decide +kernel⟩
theorem lc_X12_476 : ao_cB RX12 476 yX12_fail cX12_fail 6 (some .int) 2 := ⟨ao_Gm (ao_w8 (List.mem_of_getElem? (i := 235) rfl)) rfl, ao_Gm (ao_w8 (List.mem_of_getElem? (i := 238) rfl)) rfl, ao_Gm (ao_w1 (List.mem_of_getElem? (i := 13) rfl)) rfl, by decide, by decide, by decide +kernel⟩
theorem lc_X12_479 : ao_cB RX12 479 yX12_looks cX12_looks 4 (some .boolean) 2 := ⟨ao_Gm (ao_w8 (List.mem_of_getElem? (i := 131) rfl)) rfl, ao_Gm (ao_w8 (List.mem_of_getElem? (i := 134) rfl)) rfl, ao_Gm (ao_w1 (List.mem_of_getElem? (i := 13) rfl)) rfl, by decide, by decide, by decide +kernel⟩
theorem lc_X12_482 : ao_cB RX12 482 yX12_write cX12_write 5 (some .boolean) 3 := ⟨ao_Gm (ao_w8 (List.mem_of_getElem? (i := 179) rfl)) rfl, ao_Gm (ao_w8 (List.mem_of_getElem? (i := 182) rfl)) rfl, ao_Gm (ao_w1 (List.mem_of_getElem? (i := 13) rfl)) rfl, by decide, by decide, by decide +kernel⟩
theorem lc_X12_485 : ao_cB RX12 485 yX12_change cX12_change 3 none 2 := ⟨ao_Gm (ao_w8 (List.mem_of_getElem? (i := 64) rfl)) rfl, ao_Gm (ao_w8 (List.mem_of_getElem? (i := 67) rfl)) rfl, ao_Gm (ao_w1 (List.mem_of_getElem? (i := 13) rfl)) rfl, by decide, by decide, by decide +kernel⟩
theorem lc_X12_488 : ao_cB RX12 488 yX12_wakes cX12_wakes 4 (some .boolean) 1 := ⟨ao_Gm (ao_w8 (List.mem_of_getElem? (i := 83) rfl)) rfl, ao_Gm (ao_w8 (List.mem_of_getElem? (i := 86) rfl)) rfl, ao_Gm (ao_w1 (List.mem_of_getElem? (i := 13) rfl)) rfl, by decide, by decide, by decide +kernel⟩
theorem lc_X12_491 : ao_cB RX12 491 yX12_step cX12_step 7 (some .int) 1 := ⟨ao_Gm (ao_w8 (List.mem_of_getElem? (i := 119) rfl)) rfl, ao_Gm (ao_w8 (List.mem_of_getElem? (i := 122) rfl)) rfl, ao_Gm (ao_w1 (List.mem_of_getElem? (i := 13) rfl)) rfl, by decide, by decide, by decide +kernel⟩
theorem lc_X12_497 : ao_cB RX12 497 yX12_fails cX12_fails 2 (some .boolean) 1 := ⟨ao_Gm (ao_w7 (List.mem_of_getElem? (i := 180) rfl)) rfl, ao_Gm (ao_w7 (List.mem_of_getElem? (i := 183) rfl)) rfl, ao_Gm (ao_w1 (List.mem_of_getElem? (i := 13) rfl)) rfl, by decide, by decide, by decide +kernel⟩
theorem lc_X12_500 : ao_cB RX12 500 yX12_four cX12_four 3 none 1 := ⟨ao_Gm (ao_w7 (List.mem_of_getElem? (i := 184) rfl)) rfl, ao_Gm (ao_w7 (List.mem_of_getElem? (i := 187) rfl)) rfl, ao_Gm (ao_w1 (List.mem_of_getElem? (i := 13) rfl)) rfl, by decide, by decide, by decide +kernel⟩
theorem lc_X12_503 : ao_cB RX12 503 yX12_isThread cX12_isThread 1 (some .boolean) 1 := ⟨ao_Gm (ao_w7 (List.mem_of_getElem? (i := 200) rfl)) rfl, ao_Gm (ao_w7 (List.mem_of_getElem? (i := 202) rfl)) rfl, ao_Gm (ao_w1 (List.mem_of_getElem? (i := 13) rfl)) rfl, by decide, by decide, by decide +kernel⟩
theorem lc_X12_506 : ao_cB RX12 506 yX12_readProgram cX12_readProgram 2 none 0 := ⟨ao_Gm (ao_w7 (List.mem_of_getElem? (i := 203) rfl)) rfl, ao_Gm (ao_w7 (List.mem_of_getElem? (i := 206) rfl)) rfl, ao_Gm (ao_w1 (List.mem_of_getElem? (i := 13) rfl)) rfl, by decide, by decide, by decide +kernel⟩
theorem lc_X12_509 : ao_cB RX12 509 yX12_isPlace cX12_isPlace 1 (some .boolean) 1 := ⟨ao_Gm (ao_w8 (List.mem_of_getElem? (i := 61) rfl)) rfl, ao_Gm (ao_w8 (List.mem_of_getElem? (i := 63) rfl)) rfl, ao_Gm (ao_w1 (List.mem_of_getElem? (i := 13) rfl)) rfl, by decide, by decide, by decide +kernel⟩
theorem lc_X12_512 : ao_cB RX12 512 yX12_takeTurn cX12_takeTurn 3 (some .int) 1 := ⟨ao_Gm (ao_w8 (List.mem_of_getElem? (i := 79) rfl)) rfl, ao_Gm (ao_w8 (List.mem_of_getElem? (i := 82) rfl)) rfl, ao_Gm (ao_w1 (List.mem_of_getElem? (i := 13) rfl)) rfl, by decide, by decide, by decide +kernel⟩
theorem lc_X12_515 : ao_cB RX12 515 yX12_isLive cX12_isLive 2 (some .boolean) 1 := ⟨ao_Gm (ao_w9 (List.mem_of_getElem? (i := 3) rfl)) rfl, ao_Gm (ao_w9 (List.mem_of_getElem? (i := 6) rfl)) rfl, ao_Gm (ao_w1 (List.mem_of_getElem? (i := 13) rfl)) rfl, by decide, by decide, by decide +kernel⟩
theorem lc_X12_518 : ao_cB RX12 518 yX12_readsOf cX12_readsOf 6 (some .int) 1 := ⟨ao_Gm (ao_w9 (List.mem_of_getElem? (i := 27) rfl)) rfl, ao_Gm (ao_w9 (List.mem_of_getElem? (i := 30) rfl)) rfl, ao_Gm (ao_w1 (List.mem_of_getElem? (i := 13) rfl)) rfl, by decide, by decide, by decide +kernel⟩
theorem lc_X12_521 : ao_cB RX12 521 yX12_writesOf cX12_writesOf 4 (some .int) 1 := ⟨ao_Gm (ao_w9 (List.mem_of_getElem? (i := 31) rfl)) rfl, ao_Gm (ao_w9 (List.mem_of_getElem? (i := 34) rfl)) rfl, ao_Gm (ao_w1 (List.mem_of_getElem? (i := 13) rfl)) rfl, by decide, by decide, by decide +kernel⟩
theorem lc_X12_524 : ao_cB RX12 524 yX12_isAsIs cX12_isAsIs 3 (some .boolean) 1 := ⟨ao_Gm (ao_w9 (List.mem_of_getElem? (i := 39) rfl)) rfl, ao_Gm (ao_w9 (List.mem_of_getElem? (i := 42) rfl)) rfl, ao_Gm (ao_w1 (List.mem_of_getElem? (i := 13) rfl)) rfl, by decide, by decide, by decide +kernel⟩
theorem lc_X12_527 : ao_cB RX12 527 yX12_mayCome cX12_mayCome 4 (some .boolean) 2 := ⟨ao_Gm (ao_w9 (List.mem_of_getElem? (i := 43) rfl)) rfl, ao_Gm (ao_w9 (List.mem_of_getElem? (i := 46) rfl)) rfl, ao_Gm (ao_w1 (List.mem_of_getElem? (i := 13) rfl)) rfl, by decide, by decide, by decide +kernel⟩
theorem lc_J0_335 : ao_cB RJ0 335 yJ0_coder_7d493 cJ0_coder_7d493 1 (some .byte) 0 := ⟨ao_Gm (ao_w3 (List.mem_of_getElem? (i := 235) rfl)) rfl, ao_Gm (ao_w3 (List.mem_of_getElem? (i := 238) rfl)) rfl, ao_Gm (ao_w1 (List.mem_of_getElem? (i := 21) rfl)) rfl, by decide, by decide, by decide +kernel⟩
theorem lc_J0_492 : ao_cB RJ0 492 yJ0_isLatin1_aae02 cJ0_isLatin1_aae02 1 (some .boolean) 0 := ⟨ao_Gm (ao_w4 (List.mem_of_getElem? (i := 5) rfl)) rfl, ao_Gm (ao_w4 (List.mem_of_getElem? (i := 8) rfl)) rfl, ao_Gm (ao_w1 (List.mem_of_getElem? (i := 21) rfl)) rfl, by decide, by decide, by decide +kernel⟩
theorem lc_J0_495 : ao_cB RJ0 495 yJ1_charAt_3b067 cJ1_charAt_3b067 2 (some .char) 2 := ⟨ao_Gm (ao_w4 (List.mem_of_getElem? (i := 9) rfl)) rfl, ao_Gm (ao_w4 (List.mem_of_getElem? (i := 11) rfl)) rfl, ao_Gm (ao_w1 (List.mem_of_getElem? (i := 22) rfl)) rfl, by decide, by decide, by decide +kernel⟩
theorem lc_J0_1059 : ao_cB RJ0 1059 yJ3_checkIndex_8e157 cJ3_checkIndex_8e157 3 (some .int) 3 := ⟨ao_Gm (ao_w4 (List.mem_of_getElem? (i := 17) rfl)) rfl, ao_Gm (ao_w4 (List.mem_of_getElem? (i := 19) rfl)) rfl, ao_Gm (ao_w1 (List.mem_of_getElem? (i := 23) rfl)) rfl, by decide, by decide, by decide +kernel⟩
theorem lc_J1_9 : ao_cB RJ1 9 yJ0_checkIndex_df160 cJ0_checkIndex_df160 2 none 2 := ⟨ao_Gm (ao_w4 (List.mem_of_getElem? (i := 12) rfl)) rfl, ao_Gm (ao_w4 (List.mem_of_getElem? (i := 14) rfl)) rfl, ao_Gm (ao_w1 (List.mem_of_getElem? (i := 21) rfl)) rfl, by decide, by decide, by decide +kernel⟩
theorem li_J0_charAt_5068e : Cond.instanceMethod yJ0_charAt_5068e ∈ ao_G := ao_Gm (ao_w4 (List.mem_of_getElem? (i := 2) rfl)) rfl
theorem li_J0_coder_7d493 : Cond.instanceMethod yJ0_coder_7d493 ∈ ao_G := ao_Gm (ao_w3 (List.mem_of_getElem? (i := 236) rfl)) rfl
theorem li_J0_isLatin1_aae02 : Cond.instanceMethod yJ0_isLatin1_aae02 ∈ ao_G := ao_Gm (ao_w4 (List.mem_of_getElem? (i := 6) rfl)) rfl
theorem li_J0_length_8abf5 : Cond.instanceMethod yJ0_length_8abf5 ∈ ao_G := ao_Gm (ao_w3 (List.mem_of_getElem? (i := 232) rfl)) rfl
theorem li_X0_decide : Cond.instanceMethod yX0_decide ∈ ao_G := ao_Gm (ao_w3 (List.mem_of_getElem? (i := 0) rfl)) rfl
theorem li_X0_forget : Cond.instanceMethod yX0_forget ∈ ao_G := ao_Gm (ao_w3 (List.mem_of_getElem? (i := 160) rfl)) rfl
theorem li_X0_init : Cond.instanceMethod yX0_init ∈ ao_G := ao_Gm (ao_w2 (List.mem_of_getElem? (i := 190) rfl)) rfl
theorem li_X0_isAsItIs : Cond.instanceMethod yX0_isAsItIs ∈ ao_G := ao_Gm (ao_w3 (List.mem_of_getElem? (i := 19) rfl)) rfl
theorem li_X0_tryFrom : Cond.instanceMethod yX0_tryFrom ∈ ao_G := ao_Gm (ao_w3 (List.mem_of_getElem? (i := 15) rfl)) rfl
theorem li_X10_addToTape : Cond.instanceMethod yX10_addToTape ∈ ao_G := ao_Gm (ao_w3 (List.mem_of_getElem? (i := 108) rfl)) rfl
theorem li_X10_count : Cond.instanceMethod yX10_count ∈ ao_G := ao_Gm (ao_w6 (List.mem_of_getElem? (i := 99) rfl)) rfl
theorem li_X10_end : Cond.instanceMethod yX10_end ∈ ao_G := ao_Gm (ao_w3 (List.mem_of_getElem? (i := 115) rfl)) rfl
theorem li_X10_feed : Cond.instanceMethod yX10_feed ∈ ao_G := ao_Gm (ao_w3 (List.mem_of_getElem? (i := 34) rfl)) rfl
theorem li_X10_had : Cond.instanceMethod yX10_had ∈ ao_G := ao_Gm (ao_w6 (List.mem_of_getElem? (i := 27) rfl)) rfl
theorem li_X10_has : Cond.instanceMethod yX10_has ∈ ao_G := ao_Gm (ao_w6 (List.mem_of_getElem? (i := 20) rfl)) rfl
theorem li_X10_look : Cond.instanceMethod yX10_look ∈ ao_G := ao_Gm (ao_w6 (List.mem_of_getElem? (i := 52) rfl)) rfl
theorem li_X10_order : Cond.instanceMethod yX10_order ∈ ao_G := ao_Gm (ao_w6 (List.mem_of_getElem? (i := 78) rfl)) rfl
theorem li_X10_program : Cond.instanceMethod yX10_program ∈ ao_G := ao_Gm (ao_w3 (List.mem_of_getElem? (i := 169) rfl)) rfl
theorem li_X10_put : Cond.instanceMethod yX10_put ∈ ao_G := ao_Gm (ao_w4 (List.mem_of_getElem? (i := 190) rfl)) rfl
theorem li_X10_record : Cond.instanceMethod yX10_record ∈ ao_G := ao_Gm (ao_w6 (List.mem_of_getElem? (i := 86) rfl)) rfl
theorem li_X10_register : Cond.instanceMethod yX10_register ∈ ao_G := ao_Gm (ao_w6 (List.mem_of_getElem? (i := 36) rfl)) rfl
theorem li_X10_round : Cond.instanceMethod yX10_round ∈ ao_G := ao_Gm (ao_w6 (List.mem_of_getElem? (i := 7) rfl)) rfl
theorem li_X10_said : Cond.instanceMethod yX10_said ∈ ao_G := ao_Gm (ao_w6 (List.mem_of_getElem? (i := 44) rfl)) rfl
theorem li_X10_start : Cond.instanceMethod yX10_start ∈ ao_G := ao_Gm (ao_w3 (List.mem_of_getElem? (i := 138) rfl)) rfl
theorem li_X10_turn : Cond.instanceMethod yX10_turn ∈ ao_G := ao_Gm (ao_w4 (List.mem_of_getElem? (i := 218) rfl)) rfl
theorem li_X12_addRead : Cond.instanceMethod yX12_addRead ∈ ao_G := ao_Gm (ao_w8 (List.mem_of_getElem? (i := 165) rfl)) rfl
theorem li_X12_atom : Cond.instanceMethod yX12_atom ∈ ao_G := ao_Gm (ao_w8 (List.mem_of_getElem? (i := 51) rfl)) rfl
theorem li_X12_begin : Cond.instanceMethod yX12_begin ∈ ao_G := ao_Gm (ao_w6 (List.mem_of_getElem? (i := 147) rfl)) rfl
theorem li_X12_beginBlock : Cond.instanceMethod yX12_beginBlock ∈ ao_G := ao_Gm (ao_w8 (List.mem_of_getElem? (i := 193) rfl)) rfl
theorem li_X12_block : Cond.instanceMethod yX12_block ∈ ao_G := ao_Gm (ao_w8 (List.mem_of_getElem? (i := 39) rfl)) rfl
theorem li_X12_byteAt : Cond.instanceMethod yX12_byteAt ∈ ao_G := ao_Gm (ao_w7 (List.mem_of_getElem? (i := 213) rfl)) rfl
theorem li_X12_cell : Cond.instanceMethod yX12_cell ∈ ao_G := ao_Gm (ao_w6 (List.mem_of_getElem? (i := 159) rfl)) rfl
theorem li_X12_change : Cond.instanceMethod yX12_change ∈ ao_G := ao_Gm (ao_w8 (List.mem_of_getElem? (i := 66) rfl)) rfl
theorem li_X12_clearLevel : Cond.instanceMethod yX12_clearLevel ∈ ao_G := ao_Gm (ao_w6 (List.mem_of_getElem? (i := 155) rfl)) rfl
theorem li_X12_condition : Cond.instanceMethod yX12_condition ∈ ao_G := ao_Gm (ao_w8 (List.mem_of_getElem? (i := 35) rfl)) rfl
theorem li_X12_conflict : Cond.instanceMethod yX12_conflict ∈ ao_G := ao_Gm (ao_w8 (List.mem_of_getElem? (i := 141) rfl)) rfl
theorem li_X12_doLook : Cond.instanceMethod yX12_doLook ∈ ao_G := ao_Gm (ao_w8 (List.mem_of_getElem? (i := 129) rfl)) rfl
theorem li_X12_doWrite : Cond.instanceMethod yX12_doWrite ∈ ao_G := ao_Gm (ao_w8 (List.mem_of_getElem? (i := 177) rfl)) rfl
theorem li_X12_done : Cond.instanceMethod yX12_done ∈ ao_G := ao_Gm (ao_w8 (List.mem_of_getElem? (i := 217) rfl)) rfl
theorem li_X12_dropReads : Cond.instanceMethod yX12_dropReads ∈ ao_G := ao_Gm (ao_w8 (List.mem_of_getElem? (i := 113) rfl)) rfl
theorem li_X12_endBlock : Cond.instanceMethod yX12_endBlock ∈ ao_G := ao_Gm (ao_w8 (List.mem_of_getElem? (i := 205) rfl)) rfl
theorem li_X12_endPart : Cond.instanceMethod yX12_endPart ∈ ao_G := ao_Gm (ao_w8 (List.mem_of_getElem? (i := 221) rfl)) rfl
theorem li_X12_enter : Cond.instanceMethod yX12_enter ∈ ao_G := ao_Gm (ao_w8 (List.mem_of_getElem? (i := 31) rfl)) rfl
theorem li_X12_expression : Cond.instanceMethod yX12_expression ∈ ao_G := ao_Gm (ao_w8 (List.mem_of_getElem? (i := 11) rfl)) rfl
theorem li_X12_fail : Cond.instanceMethod yX12_fail ∈ ao_G := ao_Gm (ao_w8 (List.mem_of_getElem? (i := 237) rfl)) rfl
theorem li_X12_fails : Cond.instanceMethod yX12_fails ∈ ao_G := ao_Gm (ao_w7 (List.mem_of_getElem? (i := 182) rfl)) rfl
theorem li_X12_four : Cond.instanceMethod yX12_four ∈ ao_G := ao_Gm (ao_w7 (List.mem_of_getElem? (i := 186) rfl)) rfl
theorem li_X12_free : Cond.instanceMethod yX12_free ∈ ao_G := ao_Gm (ao_w8 (List.mem_of_getElem? (i := 117) rfl)) rfl
theorem li_X12_giveReads : Cond.instanceMethod yX12_giveReads ∈ ao_G := ao_Gm (ao_w8 (List.mem_of_getElem? (i := 109) rfl)) rfl
theorem li_X12_goesOn : Cond.instanceMethod yX12_goesOn ∈ ao_G := ao_Gm (ao_w8 (List.mem_of_getElem? (i := 153) rfl)) rfl
theorem li_X12_hasWrites : Cond.instanceMethod yX12_hasWrites ∈ ao_G := ao_Gm (ao_w8 (List.mem_of_getElem? (i := 213) rfl)) rfl
theorem li_X12_hold : Cond.instanceMethod yX12_hold ∈ ao_G := ao_Gm (ao_w8 (List.mem_of_getElem? (i := 189) rfl)) rfl
theorem li_X12_isAsIs : Cond.instanceMethod yX12_isAsIs ∈ ao_G := ao_Gm (ao_w9 (List.mem_of_getElem? (i := 41) rfl)) rfl
theorem li_X12_isBusy : Cond.instanceMethod yX12_isBusy ∈ ao_G := ao_Gm (ao_w8 (List.mem_of_getElem? (i := 93) rfl)) rfl
theorem li_X12_isEager : Cond.instanceMethod yX12_isEager ∈ ao_G := ao_Gm (ao_w8 (List.mem_of_getElem? (i := 89) rfl)) rfl
theorem li_X12_isLive : Cond.instanceMethod yX12_isLive ∈ ao_G := ao_Gm (ao_w9 (List.mem_of_getElem? (i := 5) rfl)) rfl
theorem li_X12_isSign : Cond.instanceMethod yX12_isSign ∈ ao_G := ao_Gm (ao_w8 (List.mem_of_getElem? (i := 7) rfl)) rfl
theorem li_X12_isWord : Cond.instanceMethod yX12_isWord ∈ ao_G := ao_Gm (ao_w8 (List.mem_of_getElem? (i := 43) rfl)) rfl
theorem li_X12_isWrong : Cond.instanceMethod yX12_isWrong ∈ ao_G := ao_Gm (ao_w8 (List.mem_of_getElem? (i := 149) rfl)) rfl
theorem li_X12_keepRegisters : Cond.instanceMethod yX12_keepRegisters ∈ ao_G := ao_Gm (ao_w8 (List.mem_of_getElem? (i := 201) rfl)) rfl
theorem li_X12_leave : Cond.instanceMethod yX12_leave ∈ ao_G := ao_Gm (ao_w8 (List.mem_of_getElem? (i := 233) rfl)) rfl
theorem li_X12_level : Cond.instanceMethod yX12_level ∈ ao_G := ao_Gm (ao_w6 (List.mem_of_getElem? (i := 163) rfl)) rfl
theorem li_X12_looks : Cond.instanceMethod yX12_looks ∈ ao_G := ao_Gm (ao_w8 (List.mem_of_getElem? (i := 133) rfl)) rfl
theorem li_X12_make : Cond.instanceMethod yX12_make ∈ ao_G := ao_Gm (ao_w8 (List.mem_of_getElem? (i := 27) rfl)) rfl
theorem li_X12_mayCome : Cond.instanceMethod yX12_mayCome ∈ ao_G := ao_Gm (ao_w9 (List.mem_of_getElem? (i := 45) rfl)) rfl
theorem li_X12_mayEnd : Cond.instanceMethod yX12_mayEnd ∈ ao_G := ao_Gm (ao_w8 (List.mem_of_getElem? (i := 209) rfl)) rfl
theorem li_X12_need : Cond.instanceMethod yX12_need ∈ ao_G := ao_Gm (ao_w7 (List.mem_of_getElem? (i := 239) rfl)) rfl
theorem li_X12_newRecord : Cond.instanceMethod yX12_newRecord ∈ ao_G := ao_Gm (ao_w8 (List.mem_of_getElem? (i := 169) rfl)) rfl
theorem li_X12_openLevel : Cond.instanceMethod yX12_openLevel ∈ ao_G := ao_Gm (ao_w8 (List.mem_of_getElem? (i := 197) rfl)) rfl
theorem li_X12_past : Cond.instanceMethod yX12_past ∈ ao_G := ao_Gm (ao_w8 (List.mem_of_getElem? (i := 161) rfl)) rfl
theorem li_X12_pop : Cond.instanceMethod yX12_pop ∈ ao_G := ao_Gm (ao_w8 (List.mem_of_getElem? (i := 173) rfl)) rfl
theorem li_X12_product : Cond.instanceMethod yX12_product ∈ ao_G := ao_Gm (ao_w8 (List.mem_of_getElem? (i := 19) rfl)) rfl
theorem li_X12_push : Cond.instanceMethod yX12_push ∈ ao_G := ao_Gm (ao_w8 (List.mem_of_getElem? (i := 125) rfl)) rfl
theorem li_X12_quit : Cond.instanceMethod yX12_quit ∈ ao_G := ao_Gm (ao_w8 (List.mem_of_getElem? (i := 229) rfl)) rfl
theorem li_X12_readProgram : Cond.instanceMethod yX12_readProgram ∈ ao_G := ao_Gm (ao_w7 (List.mem_of_getElem? (i := 205) rfl)) rfl
theorem li_X12_readsOf : Cond.instanceMethod yX12_readsOf ∈ ao_G := ao_Gm (ao_w9 (List.mem_of_getElem? (i := 29) rfl)) rfl
theorem li_X12_remember : Cond.instanceMethod yX12_remember ∈ ao_G := ao_Gm (ao_w8 (List.mem_of_getElem? (i := 70) rfl)) rfl
theorem li_X12_reset : Cond.instanceMethod yX12_reset ∈ ao_G := ao_Gm (ao_w6 (List.mem_of_getElem? (i := 151) rfl)) rfl
theorem li_X12_restart : Cond.instanceMethod yX12_restart ∈ ao_G := ao_Gm (ao_w8 (List.mem_of_getElem? (i := 97) rfl)) rfl
theorem li_X12_retry : Cond.instanceMethod yX12_retry ∈ ao_G := ao_Gm (ao_w8 (List.mem_of_getElem? (i := 225) rfl)) rfl
theorem li_X12_say : Cond.instanceMethod yX12_say ∈ ao_G := ao_Gm (ao_w8 (List.mem_of_getElem? (i := 185) rfl)) rfl
theorem li_X12_simple : Cond.instanceMethod yX12_simple ∈ ao_G := ao_Gm (ao_w8 (List.mem_of_getElem? (i := 23) rfl)) rfl
theorem li_X12_statement : Cond.instanceMethod yX12_statement ∈ ao_G := ao_Gm (ao_w7 (List.mem_of_getElem? (i := 231) rfl)) rfl
theorem li_X12_step : Cond.instanceMethod yX12_step ∈ ao_G := ao_Gm (ao_w8 (List.mem_of_getElem? (i := 121) rfl)) rfl
theorem li_X12_sum : Cond.instanceMethod yX12_sum ∈ ao_G := ao_Gm (ao_w8 (List.mem_of_getElem? (i := 15) rfl)) rfl
theorem li_X12_take : Cond.instanceMethod yX12_take ∈ ao_G := ao_Gm (ao_w8 (List.mem_of_getElem? (i := 3) rfl)) rfl
theorem li_X12_takeBack : Cond.instanceMethod yX12_takeBack ∈ ao_G := ao_Gm (ao_w8 (List.mem_of_getElem? (i := 105) rfl)) rfl
theorem li_X12_takeBackTo : Cond.instanceMethod yX12_takeBackTo ∈ ao_G := ao_Gm (ao_w8 (List.mem_of_getElem? (i := 101) rfl)) rfl
theorem li_X12_takeTurn : Cond.instanceMethod yX12_takeTurn ∈ ao_G := ao_Gm (ao_w8 (List.mem_of_getElem? (i := 81) rfl)) rfl
theorem li_X12_token : Cond.instanceMethod yX12_token ∈ ao_G := ao_Gm (ao_w7 (List.mem_of_getElem? (i := 209) rfl)) rfl
theorem li_X12_tried : Cond.instanceMethod yX12_tried ∈ ao_G := ao_Gm (ao_w8 (List.mem_of_getElem? (i := 47) rfl)) rfl
theorem li_X12_wakes : Cond.instanceMethod yX12_wakes ∈ ao_G := ao_Gm (ao_w8 (List.mem_of_getElem? (i := 85) rfl)) rfl
theorem li_X12_wins : Cond.instanceMethod yX12_wins ∈ ao_G := ao_Gm (ao_w8 (List.mem_of_getElem? (i := 157) rfl)) rfl
theorem li_X12_wordOf : Cond.instanceMethod yX12_wordOf ∈ ao_G := ao_Gm (ao_w7 (List.mem_of_getElem? (i := 220) rfl)) rfl
theorem li_X12_write : Cond.instanceMethod yX12_write ∈ ao_G := ao_Gm (ao_w8 (List.mem_of_getElem? (i := 181) rfl)) rfl
theorem li_X12_writesOf : Cond.instanceMethod yX12_writesOf ∈ ao_G := ao_Gm (ao_w9 (List.mem_of_getElem? (i := 33) rfl)) rfl
theorem li_X12_writtenLevel : Cond.instanceMethod yX12_writtenLevel ∈ ao_G := ao_Gm (ao_w8 (List.mem_of_getElem? (i := 137) rfl)) rfl
theorem li_X12_wrong : Cond.instanceMethod yX12_wrong ∈ ao_G := ao_Gm (ao_w7 (List.mem_of_getElem? (i := 235) rfl)) rfl
theorem li_X12_wrongLevel : Cond.instanceMethod yX12_wrongLevel ∈ ao_G := ao_Gm (ao_w8 (List.mem_of_getElem? (i := 145) rfl)) rfl
theorem li_X1_add : Cond.instanceMethod yX1_add ∈ ao_G := ao_Gm (ao_w4 (List.mem_of_getElem? (i := 112) rfl)) rfl
theorem li_X1_clear : Cond.instanceMethod yX1_clear ∈ ao_G := ao_Gm (ao_w3 (List.mem_of_getElem? (i := 194) rfl)) rfl
theorem li_X1_copy : Cond.instanceMethod yX1_copy ∈ ao_G := ao_Gm (ao_w4 (List.mem_of_getElem? (i := 180) rfl)) rfl
theorem li_X1_firstAt : Cond.instanceMethod yX1_firstAt ∈ ao_G := ao_Gm (ao_w5 (List.mem_of_getElem? (i := 192) rfl)) rfl
theorem li_X1_init : Cond.instanceMethod yX1_init ∈ ao_G := ao_Gm (ao_w1 (List.mem_of_getElem? (i := 91) rfl)) rfl
theorem li_X1_secondAt : Cond.instanceMethod yX1_secondAt ∈ ao_G := ao_Gm (ao_w5 (List.mem_of_getElem? (i := 158) rfl)) rfl
theorem li_X1_setFirst : Cond.instanceMethod yX1_setFirst ∈ ao_G := ao_Gm (ao_w4 (List.mem_of_getElem? (i := 132) rfl)) rfl
theorem li_X1_setOp : Cond.instanceMethod yX1_setOp ∈ ao_G := ao_Gm (ao_w4 (List.mem_of_getElem? (i := 148) rfl)) rfl
theorem li_X1_setSecond : Cond.instanceMethod yX1_setSecond ∈ ao_G := ao_Gm (ao_w4 (List.mem_of_getElem? (i := 152) rfl)) rfl
theorem li_X2_beginLevel : Cond.instanceMethod yX2_beginLevel ∈ ao_G := ao_Gm (ao_w5 (List.mem_of_getElem? (i := 145) rfl)) rfl
theorem li_X2_closeLevel : Cond.instanceMethod yX2_closeLevel ∈ ao_G := ao_Gm (ao_w5 (List.mem_of_getElem? (i := 155) rfl)) rfl
theorem li_X2_fail : Cond.instanceMethod yX2_fail ∈ ao_G := ao_Gm (ao_w5 (List.mem_of_getElem? (i := 213) rfl)) rfl
theorem li_X2_fallAsleep : Cond.instanceMethod yX2_fallAsleep ∈ ao_G := ao_Gm (ao_w5 (List.mem_of_getElem? (i := 197) rfl)) rfl
theorem li_X2_finish : Cond.instanceMethod yX2_finish ∈ ao_G := ao_Gm (ao_w5 (List.mem_of_getElem? (i := 177) rfl)) rfl
theorem li_X2_giveBack : Cond.instanceMethod yX2_giveBack ∈ ao_G := ao_Gm (ao_w5 (List.mem_of_getElem? (i := 24) rfl)) rfl
theorem li_X2_hasNews : Cond.instanceMethod yX2_hasNews ∈ ao_G := ao_Gm (ao_w4 (List.mem_of_getElem? (i := 232) rfl)) rfl
theorem li_X2_howManyAre : Cond.instanceMethod yX2_howManyAre ∈ ao_G := ao_Gm (ao_w5 (List.mem_of_getElem? (i := 8) rfl)) rfl
theorem li_X2_howManyAreLeft : Cond.instanceMethod yX2_howManyAreLeft ∈ ao_G := ao_Gm (ao_w6 (List.mem_of_getElem? (i := 12) rfl)) rfl
theorem li_X2_init : Cond.instanceMethod yX2_init ∈ ao_G := ao_Gm (ao_w1 (List.mem_of_getElem? (i := 135) rfl)) rfl
theorem li_X2_isBusy : Cond.instanceMethod yX2_isBusy ∈ ao_G := ao_Gm (ao_w5 (List.mem_of_getElem? (i := 4) rfl)) rfl
theorem li_X2_isWrong : Cond.instanceMethod yX2_isWrong ∈ ao_G := ao_Gm (ao_w5 (List.mem_of_getElem? (i := 75) rfl)) rfl
theorem li_X2_joinAround : Cond.instanceMethod yX2_joinAround ∈ ao_G := ao_Gm (ao_w5 (List.mem_of_getElem? (i := 163) rfl)) rfl
theorem li_X2_leaveFrom : Cond.instanceMethod yX2_leaveFrom ∈ ao_G := ao_Gm (ao_w5 (List.mem_of_getElem? (i := 209) rfl)) rfl
theorem li_X2_loserAbout : Cond.instanceMethod yX2_loserAbout ∈ ao_G := ao_Gm (ao_w5 (List.mem_of_getElem? (i := 112) rfl)) rfl
theorem li_X2_mayEnd : Cond.instanceMethod yX2_mayEnd ∈ ao_G := ao_Gm (ao_w5 (List.mem_of_getElem? (i := 173) rfl)) rfl
theorem li_X2_mayTouch : Cond.instanceMethod yX2_mayTouch ∈ ao_G := ao_Gm (ao_w5 (List.mem_of_getElem? (i := 108) rfl)) rfl
theorem li_X2_outermostWrong : Cond.instanceMethod yX2_outermostWrong ∈ ao_G := ao_Gm (ao_w5 (List.mem_of_getElem? (i := 71) rfl)) rfl
theorem li_X2_quit : Cond.instanceMethod yX2_quit ∈ ao_G := ao_Gm (ao_w5 (List.mem_of_getElem? (i := 205) rfl)) rfl
theorem li_X2_restart : Cond.instanceMethod yX2_restart ∈ ao_G := ao_Gm (ao_w5 (List.mem_of_getElem? (i := 12) rfl)) rfl
theorem li_X2_retry : Cond.instanceMethod yX2_retry ∈ ao_G := ao_Gm (ao_w5 (List.mem_of_getElem? (i := 185) rfl)) rfl
theorem li_X2_say : Cond.instanceMethod yX2_say ∈ ao_G := ao_Gm (ao_w5 (List.mem_of_getElem? (i := 133) rfl)) rfl
theorem li_X2_see : Cond.instanceMethod yX2_see ∈ ao_G := ao_Gm (ao_w5 (List.mem_of_getElem? (i := 55) rfl)) rfl
theorem li_X2_seeHeld : Cond.instanceMethod yX2_seeHeld ∈ ao_G := ao_Gm (ao_w5 (List.mem_of_getElem? (i := 59) rfl)) rfl
theorem li_X2_startAgain : Cond.instanceMethod yX2_startAgain ∈ ao_G := ao_Gm (ao_w3 (List.mem_of_getElem? (i := 143) rfl)) rfl
theorem li_X2_step : Cond.instanceMethod yX2_step ∈ ao_G := ao_Gm (ao_w5 (List.mem_of_getElem? (i := 51) rfl)) rfl
theorem li_X2_stir : Cond.instanceMethod yX2_stir ∈ ao_G := ao_Gm (ao_w4 (List.mem_of_getElem? (i := 228) rfl)) rfl
theorem li_X2_takeBack : Cond.instanceMethod yX2_takeBack ∈ ao_G := ao_Gm (ao_w5 (List.mem_of_getElem? (i := 16) rfl)) rfl
theorem li_X2_takeTurn : Cond.instanceMethod yX2_takeTurn ∈ ao_G := ao_Gm (ao_w4 (List.mem_of_getElem? (i := 223) rfl)) rfl
theorem li_X2_tellOf : Cond.instanceMethod yX2_tellOf ∈ ao_G := ao_Gm (ao_w6 (List.mem_of_getElem? (i := 104) rfl)) rfl
theorem li_X2_write : Cond.instanceMethod yX2_write ∈ ao_G := ao_Gm (ao_w5 (List.mem_of_getElem? (i := 120) rfl)) rfl
theorem li_X2_writeRecord : Cond.instanceMethod yX2_writeRecord ∈ ao_G := ao_Gm (ao_w5 (List.mem_of_getElem? (i := 181) rfl)) rfl
theorem li_X2_writesAtOnce : Cond.instanceMethod yX2_writesAtOnce ∈ ao_G := ao_Gm (ao_w5 (List.mem_of_getElem? (i := 20) rfl)) rfl
theorem li_X3_addRead : Cond.instanceMethod yX3_addRead ∈ ao_G := ao_Gm (ao_w5 (List.mem_of_getElem? (i := 87) rfl)) rfl
theorem li_X3_addWrite : Cond.instanceMethod yX3_addWrite ∈ ao_G := ao_Gm (ao_w5 (List.mem_of_getElem? (i := 128) rfl)) rfl
theorem li_X3_forgetReads : Cond.instanceMethod yX3_forgetReads ∈ ao_G := ao_Gm (ao_w5 (List.mem_of_getElem? (i := 36) rfl)) rfl
theorem li_X3_forgetWrites : Cond.instanceMethod yX3_forgetWrites ∈ ao_G := ao_Gm (ao_w5 (List.mem_of_getElem? (i := 27) rfl)) rfl
theorem li_X3_init : Cond.instanceMethod yX3_init ∈ ao_G := ao_Gm (ao_w2 (List.mem_of_getElem? (i := 30) rfl)) rfl
theorem li_X3_takeReadsOf : Cond.instanceMethod yX3_takeReadsOf ∈ ao_G := ao_Gm (ao_w5 (List.mem_of_getElem? (i := 166) rfl)) rfl
theorem li_X3_wrote : Cond.instanceMethod yX3_wrote ∈ ao_G := ao_Gm (ao_w5 (List.mem_of_getElem? (i := 62) rfl)) rfl
theorem li_X4_assignment : Cond.instanceMethod yX4_assignment ∈ ao_G := ao_Gm (ao_w4 (List.mem_of_getElem? (i := 84) rfl)) rfl
theorem li_X4_bareStatement : Cond.instanceMethod yX4_bareStatement ∈ ao_G := ao_Gm (ao_w4 (List.mem_of_getElem? (i := 157) rfl)) rfl
theorem li_X4_block : Cond.instanceMethod yX4_block ∈ ao_G := ao_Gm (ao_w4 (List.mem_of_getElem? (i := 129) rfl)) rfl
theorem li_X4_broken : Cond.instanceMethod yX4_broken ∈ ao_G := ao_Gm (ao_w4 (List.mem_of_getElem? (i := 80) rfl)) rfl
theorem li_X4_condition : Cond.instanceMethod yX4_condition ∈ ao_G := ao_Gm (ao_w4 (List.mem_of_getElem? (i := 125) rfl)) rfl
theorem li_X4_expect : Cond.instanceMethod yX4_expect ∈ ao_G := ao_Gm (ao_w4 (List.mem_of_getElem? (i := 89) rfl)) rfl
theorem li_X4_expectNested : Cond.instanceMethod yX4_expectNested ∈ ao_G := ao_Gm (ao_w4 (List.mem_of_getElem? (i := 117) rfl)) rfl
theorem li_X4_expression : Cond.instanceMethod yX4_expression ∈ ao_G := ao_Gm (ao_w4 (List.mem_of_getElem? (i := 93) rfl)) rfl
theorem li_X4_ifStatement : Cond.instanceMethod yX4_ifStatement ∈ ao_G := ao_Gm (ao_w4 (List.mem_of_getElem? (i := 121) rfl)) rfl
theorem li_X4_init : Cond.instanceMethod yX4_init ∈ ao_G := ao_Gm (ao_w1 (List.mem_of_getElem? (i := 40) rfl)) rfl
theorem li_X4_leaf : Cond.instanceMethod yX4_leaf ∈ ao_G := ao_Gm (ao_w4 (List.mem_of_getElem? (i := 109) rfl)) rfl
theorem li_X4_levelStatement : Cond.instanceMethod yX4_levelStatement ∈ ao_G := ao_Gm (ao_w4 (List.mem_of_getElem? (i := 145) rfl)) rfl
theorem li_X4_parse : Cond.instanceMethod yX4_parse ∈ ao_G := ao_Gm (ao_w3 (List.mem_of_getElem? (i := 190) rfl)) rfl
theorem li_X4_product : Cond.instanceMethod yX4_product ∈ ao_G := ao_Gm (ao_w4 (List.mem_of_getElem? (i := 101) rfl)) rfl
theorem li_X4_simple : Cond.instanceMethod yX4_simple ∈ ao_G := ao_Gm (ao_w4 (List.mem_of_getElem? (i := 105) rfl)) rfl
theorem li_X4_statement : Cond.instanceMethod yX4_statement ∈ ao_G := ao_Gm (ao_w4 (List.mem_of_getElem? (i := 76) rfl)) rfl
theorem li_X4_statements : Cond.instanceMethod yX4_statements ∈ ao_G := ao_Gm (ao_w4 (List.mem_of_getElem? (i := 72) rfl)) rfl
theorem li_X4_sum : Cond.instanceMethod yX4_sum ∈ ao_G := ao_Gm (ao_w4 (List.mem_of_getElem? (i := 97) rfl)) rfl
theorem li_X4_tryStatement : Cond.instanceMethod yX4_tryStatement ∈ ao_G := ao_Gm (ao_w4 (List.mem_of_getElem? (i := 161) rfl)) rfl
theorem li_X4_valueStatement : Cond.instanceMethod yX4_valueStatement ∈ ao_G := ao_Gm (ao_w4 (List.mem_of_getElem? (i := 141) rfl)) rfl
theorem li_X4_whileStatement : Cond.instanceMethod yX4_whileStatement ∈ ao_G := ao_Gm (ao_w4 (List.mem_of_getElem? (i := 137) rfl)) rfl
theorem li_X5_change : Cond.instanceMethod yX5_change ∈ ao_G := ao_Gm (ao_w4 (List.mem_of_getElem? (i := 196) rfl)) rfl
theorem li_X5_clear : Cond.instanceMethod yX5_clear ∈ ao_G := ao_Gm (ao_w3 (List.mem_of_getElem? (i := 147) rfl)) rfl
theorem li_X5_howManyTaken : Cond.instanceMethod yX5_howManyTaken ∈ ao_G := ao_Gm (ao_w6 (List.mem_of_getElem? (i := 108) rfl)) rfl
theorem li_X5_init : Cond.instanceMethod yX5_init ∈ ao_G := ao_Gm (ao_w1 (List.mem_of_getElem? (i := 141) rfl)) rfl
theorem li_X5_isTakenBy : Cond.instanceMethod yX5_isTakenBy ∈ ao_G := ao_Gm (ao_w5 (List.mem_of_getElem? (i := 103) rfl)) rfl
theorem li_X5_isTakenByOther : Cond.instanceMethod yX5_isTakenByOther ∈ ao_G := ao_Gm (ao_w4 (List.mem_of_getElem? (i := 239) rfl)) rfl
theorem li_X5_release : Cond.instanceMethod yX5_release ∈ ao_G := ao_Gm (ao_w5 (List.mem_of_getElem? (i := 40) rfl)) rfl
theorem li_X5_valueAt : Cond.instanceMethod yX5_valueAt ∈ ao_G := ao_Gm (ao_w5 (List.mem_of_getElem? (i := 78) rfl)) rfl
theorem li_X6_addRead : Cond.instanceMethod yX6_addRead ∈ ao_G := ao_Gm (ao_w5 (List.mem_of_getElem? (i := 95) rfl)) rfl
theorem li_X6_addWrite : Cond.instanceMethod yX6_addWrite ∈ ao_G := ao_Gm (ao_w5 (List.mem_of_getElem? (i := 124) rfl)) rfl
theorem li_X6_apply : Cond.instanceMethod yX6_apply ∈ ao_G := ao_Gm (ao_w3 (List.mem_of_getElem? (i := 26) rfl)) rfl
theorem li_X6_begin : Cond.instanceMethod yX6_begin ∈ ao_G := ao_Gm (ao_w5 (List.mem_of_getElem? (i := 91) rfl)) rfl
theorem li_X6_clear : Cond.instanceMethod yX6_clear ∈ ao_G := ao_Gm (ao_w3 (List.mem_of_getElem? (i := 151) rfl)) rfl
theorem li_X6_init : Cond.instanceMethod yX6_init ∈ ao_G := ao_Gm (ao_w1 (List.mem_of_getElem? (i := 215) rfl)) rfl
theorem li_X6_isAhead : Cond.instanceMethod yX6_isAhead ∈ ao_G := ao_Gm (ao_w3 (List.mem_of_getElem? (i := 7) rfl)) rfl
theorem li_X6_note : Cond.instanceMethod yX6_note ∈ ao_G := ao_Gm (ao_w5 (List.mem_of_getElem? (i := 100) rfl)) rfl
theorem li_X6_readsAreRight : Cond.instanceMethod yX6_readsAreRight ∈ ao_G := ao_Gm (ao_w3 (List.mem_of_getElem? (i := 22) rfl)) rfl
theorem li_X6_tellOf : Cond.instanceMethod yX6_tellOf ∈ ao_G := ao_Gm (ao_w6 (List.mem_of_getElem? (i := 92) rfl)) rfl
theorem li_X7_enterLevel : Cond.instanceMethod yX7_enterLevel ∈ ao_G := ao_Gm (ao_w5 (List.mem_of_getElem? (i := 148) rfl)) rfl
theorem li_X7_enterTry : Cond.instanceMethod yX7_enterTry ∈ ao_G := ao_Gm (ao_w5 (List.mem_of_getElem? (i := 230) rfl)) rfl
theorem li_X7_hold : Cond.instanceMethod yX7_hold ∈ ao_G := ao_Gm (ao_w5 (List.mem_of_getElem? (i := 136) rfl)) rfl
theorem li_X7_init : Cond.instanceMethod yX7_init ∈ ao_G := ao_Gm (ao_w2 (List.mem_of_getElem? (i := 21) rfl)) rfl
theorem li_X7_innermost : Cond.instanceMethod yX7_innermost ∈ ao_G := ao_Gm (ao_w5 (List.mem_of_getElem? (i := 82) rfl)) rfl
theorem li_X7_isLeft : Cond.instanceMethod yX7_isLeft ∈ ao_G := ao_Gm (ao_w5 (List.mem_of_getElem? (i := 45) rfl)) rfl
theorem li_X7_leaveTry : Cond.instanceMethod yX7_leaveTry ∈ ao_G := ao_Gm (ao_w5 (List.mem_of_getElem? (i := 234) rfl)) rfl
theorem li_X7_level : Cond.instanceMethod yX7_level ∈ ao_G := ao_Gm (ao_w4 (List.mem_of_getElem? (i := 235) rfl)) rfl
theorem li_X7_levelWithOr : Cond.instanceMethod yX7_levelWithOr ∈ ao_G := ao_Gm (ao_w5 (List.mem_of_getElem? (i := 188) rfl)) rfl
theorem li_X7_pop : Cond.instanceMethod yX7_pop ∈ ao_G := ao_Gm (ao_w5 (List.mem_of_getElem? (i := 115) rfl)) rfl
theorem li_X7_push : Cond.instanceMethod yX7_push ∈ ao_G := ao_Gm (ao_w5 (List.mem_of_getElem? (i := 66) rfl)) rfl
theorem li_X7_readsOfAll : Cond.instanceMethod yX7_readsOfAll ∈ ao_G := ao_Gm (ao_w6 (List.mem_of_getElem? (i := 62) rfl)) rfl
theorem li_X7_renew : Cond.instanceMethod yX7_renew ∈ ao_G := ao_Gm (ao_w3 (List.mem_of_getElem? (i := 155) rfl)) rfl
theorem li_X7_setBackTo : Cond.instanceMethod yX7_setBackTo ∈ ao_G := ao_Gm (ao_w5 (List.mem_of_getElem? (i := 31) rfl)) rfl
theorem li_X7_tellOf : Cond.instanceMethod yX7_tellOf ∈ ao_G := ao_Gm (ao_w6 (List.mem_of_getElem? (i := 57) rfl)) rfl
theorem li_X7_tryAtOf : Cond.instanceMethod yX7_tryAtOf ∈ ao_G := ao_Gm (ao_w5 (List.mem_of_getElem? (i := 216) rfl)) rfl
theorem li_X7_tryDepthOf : Cond.instanceMethod yX7_tryDepthOf ∈ ao_G := ao_Gm (ao_w5 (List.mem_of_getElem? (i := 220) rfl)) rfl
theorem li_X7_writesOfAll : Cond.instanceMethod yX7_writesOfAll ∈ ao_G := ao_Gm (ao_w6 (List.mem_of_getElem? (i := 66) rfl)) rfl
theorem li_X8_add : Cond.instanceMethod yX8_add ∈ ao_G := ao_Gm (ao_w5 (List.mem_of_getElem? (i := 140) rfl)) rfl
theorem li_X8_init : Cond.instanceMethod yX8_init ∈ ao_G := ao_Gm (ao_w1 (List.mem_of_getElem? (i := 195) rfl)) rfl
theorem li_X9_advance : Cond.instanceMethod yX9_advance ∈ ao_G := ao_Gm (ao_w4 (List.mem_of_getElem? (i := 67) rfl)) rfl
theorem li_X9_byteAt : Cond.instanceMethod yX9_byteAt ∈ ao_G := ao_Gm (ao_w3 (List.mem_of_getElem? (i := 207) rfl)) rfl
theorem li_X9_equalsKind : Cond.instanceMethod yX9_equalsKind ∈ ao_G := ao_Gm (ao_w4 (List.mem_of_getElem? (i := 64) rfl)) rfl
theorem li_X9_init : Cond.instanceMethod yX9_init ∈ ao_G := ao_Gm (ao_w1 (List.mem_of_getElem? (i := 46) rfl)) rfl
theorem li_X9_isWord : Cond.instanceMethod yX9_isWord ∈ ao_G := ao_Gm (ao_w3 (List.mem_of_getElem? (i := 229) rfl)) rfl
theorem li_X9_keywordKind : Cond.instanceMethod yX9_keywordKind ∈ ao_G := ao_Gm (ao_w3 (List.mem_of_getElem? (i := 224) rfl)) rfl
theorem li_X9_numberKind : Cond.instanceMethod yX9_numberKind ∈ ao_G := ao_Gm (ao_w4 (List.mem_of_getElem? (i := 55) rfl)) rfl
theorem li_X9_read : Cond.instanceMethod yX9_read ∈ ao_G := ao_Gm (ao_w3 (List.mem_of_getElem? (i := 198) rfl)) rfl
theorem li_X9_scan : Cond.instanceMethod yX9_scan ∈ ao_G := ao_Gm (ao_w3 (List.mem_of_getElem? (i := 203) rfl)) rfl
theorem li_X9_signKind : Cond.instanceMethod yX9_signKind ∈ ao_G := ao_Gm (ao_w4 (List.mem_of_getElem? (i := 60) rfl)) rfl
theorem li_X9_wordKind : Cond.instanceMethod yX9_wordKind ∈ ao_G := ao_Gm (ao_w3 (List.mem_of_getElem? (i := 220) rfl)) rfl
theorem ls_J0_charAt_5068e : Cond.selects RJ0 yJ0_charAt_5068e yJ0_charAt_5068e ∈ ao_G := ao_Gm (ao_w4 (List.mem_of_getElem? (i := 3) rfl)) rfl
theorem ls_J0_coder_7d493 : Cond.selects RJ0 yJ0_coder_7d493 yJ0_coder_7d493 ∈ ao_G := ao_Gm (ao_w3 (List.mem_of_getElem? (i := 237) rfl)) rfl
theorem ls_J0_isLatin1_aae02 : Cond.selects RJ0 yJ0_isLatin1_aae02 yJ0_isLatin1_aae02 ∈ ao_G := ao_Gm (ao_w4 (List.mem_of_getElem? (i := 7) rfl)) rfl
theorem ls_J0_length_8abf5 : Cond.selects RJ0 yJ0_length_8abf5 yJ0_length_8abf5 ∈ ao_G := ao_Gm (ao_w3 (List.mem_of_getElem? (i := 233) rfl)) rfl
theorem ls_X0_decide : Cond.selects RX0 yX0_decide yX0_decide ∈ ao_G := ao_Gm (ao_w3 (List.mem_of_getElem? (i := 1) rfl)) rfl
theorem ls_X0_forget : Cond.selects RX0 yX0_forget yX0_forget ∈ ao_G := ao_Gm (ao_w3 (List.mem_of_getElem? (i := 161) rfl)) rfl
theorem ls_X0_isAsItIs : Cond.selects RX0 yX0_isAsItIs yX0_isAsItIs ∈ ao_G := ao_Gm (ao_w0 (List.mem_of_getElem? (i := 1) rfl)) rfl
theorem ls_X0_tryFrom : Cond.selects RX0 yX0_tryFrom yX0_tryFrom ∈ ao_G := ao_Gm (ao_w0 (List.mem_of_getElem? (i := 0) rfl)) rfl
theorem ls_X10_addToTape : Cond.selects RX10 yX10_addToTape yX10_addToTape ∈ ao_G := ao_Gm (ao_w0 (List.mem_of_getElem? (i := 3) rfl)) rfl
theorem ls_X10_count : Cond.selects RX10 yX10_count yX10_count ∈ ao_G := ao_Gm (ao_w6 (List.mem_of_getElem? (i := 100) rfl)) rfl
theorem ls_X10_end : Cond.selects RX10 yX10_end yX10_end ∈ ao_G := ao_Gm (ao_w3 (List.mem_of_getElem? (i := 116) rfl)) rfl
theorem ls_X10_feed : Cond.selects RX10 yX10_feed yX10_feed ∈ ao_G := ao_Gm (ao_w3 (List.mem_of_getElem? (i := 35) rfl)) rfl
theorem ls_X10_had : Cond.selects RX10 yX10_had yX10_had ∈ ao_G := ao_Gm (ao_w6 (List.mem_of_getElem? (i := 28) rfl)) rfl
theorem ls_X10_has : Cond.selects RX10 yX10_has yX10_has ∈ ao_G := ao_Gm (ao_w6 (List.mem_of_getElem? (i := 21) rfl)) rfl
theorem ls_X10_look : Cond.selects RX10 yX10_look yX10_look ∈ ao_G := ao_Gm (ao_w6 (List.mem_of_getElem? (i := 53) rfl)) rfl
theorem ls_X10_order : Cond.selects RX10 yX10_order yX10_order ∈ ao_G := ao_Gm (ao_w6 (List.mem_of_getElem? (i := 79) rfl)) rfl
theorem ls_X10_program : Cond.selects RX10 yX10_program yX10_program ∈ ao_G := ao_Gm (ao_w3 (List.mem_of_getElem? (i := 170) rfl)) rfl
theorem ls_X10_put : Cond.selects RX10 yX10_put yX10_put ∈ ao_G := ao_Gm (ao_w4 (List.mem_of_getElem? (i := 191) rfl)) rfl
theorem ls_X10_record : Cond.selects RX10 yX10_record yX10_record ∈ ao_G := ao_Gm (ao_w6 (List.mem_of_getElem? (i := 87) rfl)) rfl
theorem ls_X10_register : Cond.selects RX10 yX10_register yX10_register ∈ ao_G := ao_Gm (ao_w6 (List.mem_of_getElem? (i := 37) rfl)) rfl
theorem ls_X10_round : Cond.selects RX10 yX10_round yX10_round ∈ ao_G := ao_Gm (ao_w6 (List.mem_of_getElem? (i := 8) rfl)) rfl
theorem ls_X10_said : Cond.selects RX10 yX10_said yX10_said ∈ ao_G := ao_Gm (ao_w6 (List.mem_of_getElem? (i := 45) rfl)) rfl
theorem ls_X10_start : Cond.selects RX10 yX10_start yX10_start ∈ ao_G := ao_Gm (ao_w3 (List.mem_of_getElem? (i := 139) rfl)) rfl
theorem ls_X10_turn : Cond.selects RX10 yX10_turn yX10_turn ∈ ao_G := ao_Gm (ao_w4 (List.mem_of_getElem? (i := 219) rfl)) rfl
theorem ls_X12_addRead : Cond.selects RX12 yX12_addRead yX12_addRead ∈ ao_G := ao_Gm (ao_w0 (List.mem_of_getElem? (i := 112) rfl)) rfl
theorem ls_X12_atom : Cond.selects RX12 yX12_atom yX12_atom ∈ ao_G := ao_Gm (ao_w0 (List.mem_of_getElem? (i := 88) rfl)) rfl
theorem ls_X12_begin : Cond.selects RX12 yX12_begin yX12_begin ∈ ao_G := ao_Gm (ao_w0 (List.mem_of_getElem? (i := 62) rfl)) rfl
theorem ls_X12_beginBlock : Cond.selects RX12 yX12_beginBlock yX12_beginBlock ∈ ao_G := ao_Gm (ao_w0 (List.mem_of_getElem? (i := 119) rfl)) rfl
theorem ls_X12_block : Cond.selects RX12 yX12_block yX12_block ∈ ao_G := ao_Gm (ao_w0 (List.mem_of_getElem? (i := 85) rfl)) rfl
theorem ls_X12_byteAt : Cond.selects RX12 yX12_byteAt yX12_byteAt ∈ ao_G := ao_Gm (ao_w0 (List.mem_of_getElem? (i := 71) rfl)) rfl
theorem ls_X12_cell : Cond.selects RX12 yX12_cell yX12_cell ∈ ao_G := ao_Gm (ao_w0 (List.mem_of_getElem? (i := 65) rfl)) rfl
theorem ls_X12_change : Cond.selects RX12 yX12_change yX12_change ∈ ao_G := ao_Gm (ao_w0 (List.mem_of_getElem? (i := 89) rfl)) rfl
theorem ls_X12_clearLevel : Cond.selects RX12 yX12_clearLevel yX12_clearLevel ∈ ao_G := ao_Gm (ao_w0 (List.mem_of_getElem? (i := 64) rfl)) rfl
theorem ls_X12_condition : Cond.selects RX12 yX12_condition yX12_condition ∈ ao_G := ao_Gm (ao_w0 (List.mem_of_getElem? (i := 84) rfl)) rfl
theorem ls_X12_conflict : Cond.selects RX12 yX12_conflict yX12_conflict ∈ ao_G := ao_Gm (ao_w0 (List.mem_of_getElem? (i := 106) rfl)) rfl
theorem ls_X12_doLook : Cond.selects RX12 yX12_doLook yX12_doLook ∈ ao_G := ao_Gm (ao_w0 (List.mem_of_getElem? (i := 103) rfl)) rfl
theorem ls_X12_doWrite : Cond.selects RX12 yX12_doWrite yX12_doWrite ∈ ao_G := ao_Gm (ao_w0 (List.mem_of_getElem? (i := 115) rfl)) rfl
theorem ls_X12_done : Cond.selects RX12 yX12_done yX12_done ∈ ao_G := ao_Gm (ao_w0 (List.mem_of_getElem? (i := 125) rfl)) rfl
theorem ls_X12_dropReads : Cond.selects RX12 yX12_dropReads yX12_dropReads ∈ ao_G := ao_Gm (ao_w0 (List.mem_of_getElem? (i := 99) rfl)) rfl
theorem ls_X12_endBlock : Cond.selects RX12 yX12_endBlock yX12_endBlock ∈ ao_G := ao_Gm (ao_w0 (List.mem_of_getElem? (i := 122) rfl)) rfl
theorem ls_X12_endPart : Cond.selects RX12 yX12_endPart yX12_endPart ∈ ao_G := ao_Gm (ao_w0 (List.mem_of_getElem? (i := 126) rfl)) rfl
theorem ls_X12_enter : Cond.selects RX12 yX12_enter yX12_enter ∈ ao_G := ao_Gm (ao_w0 (List.mem_of_getElem? (i := 83) rfl)) rfl
theorem ls_X12_expression : Cond.selects RX12 yX12_expression yX12_expression ∈ ao_G := ao_Gm (ao_w0 (List.mem_of_getElem? (i := 78) rfl)) rfl
theorem ls_X12_fail : Cond.selects RX12 yX12_fail yX12_fail ∈ ao_G := ao_Gm (ao_w0 (List.mem_of_getElem? (i := 130) rfl)) rfl
theorem ls_X12_fails : Cond.selects RX12 yX12_fails yX12_fails ∈ ao_G := ao_Gm (ao_w0 (List.mem_of_getElem? (i := 67) rfl)) rfl
theorem ls_X12_four : Cond.selects RX12 yX12_four yX12_four ∈ ao_G := ao_Gm (ao_w0 (List.mem_of_getElem? (i := 68) rfl)) rfl
theorem ls_X12_free : Cond.selects RX12 yX12_free yX12_free ∈ ao_G := ao_Gm (ao_w0 (List.mem_of_getElem? (i := 100) rfl)) rfl
theorem ls_X12_giveReads : Cond.selects RX12 yX12_giveReads yX12_giveReads ∈ ao_G := ao_Gm (ao_w0 (List.mem_of_getElem? (i := 98) rfl)) rfl
theorem ls_X12_goesOn : Cond.selects RX12 yX12_goesOn yX12_goesOn ∈ ao_G := ao_Gm (ao_w0 (List.mem_of_getElem? (i := 109) rfl)) rfl
theorem ls_X12_hasWrites : Cond.selects RX12 yX12_hasWrites yX12_hasWrites ∈ ao_G := ao_Gm (ao_w0 (List.mem_of_getElem? (i := 124) rfl)) rfl
theorem ls_X12_hold : Cond.selects RX12 yX12_hold yX12_hold ∈ ao_G := ao_Gm (ao_w0 (List.mem_of_getElem? (i := 118) rfl)) rfl
theorem ls_X12_isAsIs : Cond.selects RX12 yX12_isAsIs yX12_isAsIs ∈ ao_G := ao_Gm (ao_w0 (List.mem_of_getElem? (i := 134) rfl)) rfl
theorem ls_X12_isBusy : Cond.selects RX12 yX12_isBusy yX12_isBusy ∈ ao_G := ao_Gm (ao_w0 (List.mem_of_getElem? (i := 94) rfl)) rfl
theorem ls_X12_isEager : Cond.selects RX12 yX12_isEager yX12_isEager ∈ ao_G := ao_Gm (ao_w0 (List.mem_of_getElem? (i := 93) rfl)) rfl
theorem ls_X12_isLive : Cond.selects RX12 yX12_isLive yX12_isLive ∈ ao_G := ao_Gm (ao_w0 (List.mem_of_getElem? (i := 131) rfl)) rfl
theorem ls_X12_isSign : Cond.selects RX12 yX12_isSign yX12_isSign ∈ ao_G := ao_Gm (ao_w0 (List.mem_of_getElem? (i := 77) rfl)) rfl
theorem ls_X12_isWord : Cond.selects RX12 yX12_isWord yX12_isWord ∈ ao_G := ao_Gm (ao_w0 (List.mem_of_getElem? (i := 86) rfl)) rfl
theorem ls_X12_isWrong : Cond.selects RX12 yX12_isWrong yX12_isWrong ∈ ao_G := ao_Gm (ao_w0 (List.mem_of_getElem? (i := 108) rfl)) rfl
theorem ls_X12_keepRegisters : Cond.selects RX12 yX12_keepRegisters yX12_keepRegisters ∈ ao_G := ao_Gm (ao_w0 (List.mem_of_getElem? (i := 121) rfl)) rfl
theorem ls_X12_leave : Cond.selects RX12 yX12_leave yX12_leave ∈ ao_G := ao_Gm (ao_w0 (List.mem_of_getElem? (i := 129) rfl)) rfl
theorem ls_X12_level : Cond.selects RX12 yX12_level yX12_level ∈ ao_G := ao_Gm (ao_w0 (List.mem_of_getElem? (i := 66) rfl)) rfl
theorem ls_X12_looks : Cond.selects RX12 yX12_looks yX12_looks ∈ ao_G := ao_Gm (ao_w0 (List.mem_of_getElem? (i := 104) rfl)) rfl
theorem ls_X12_make : Cond.selects RX12 yX12_make yX12_make ∈ ao_G := ao_Gm (ao_w0 (List.mem_of_getElem? (i := 82) rfl)) rfl
theorem ls_X12_mayCome : Cond.selects RX12 yX12_mayCome yX12_mayCome ∈ ao_G := ao_Gm (ao_w0 (List.mem_of_getElem? (i := 135) rfl)) rfl
theorem ls_X12_mayEnd : Cond.selects RX12 yX12_mayEnd yX12_mayEnd ∈ ao_G := ao_Gm (ao_w0 (List.mem_of_getElem? (i := 123) rfl)) rfl
theorem ls_X12_need : Cond.selects RX12 yX12_need yX12_need ∈ ao_G := ao_Gm (ao_w0 (List.mem_of_getElem? (i := 75) rfl)) rfl
theorem ls_X12_newRecord : Cond.selects RX12 yX12_newRecord yX12_newRecord ∈ ao_G := ao_Gm (ao_w0 (List.mem_of_getElem? (i := 113) rfl)) rfl
theorem ls_X12_openLevel : Cond.selects RX12 yX12_openLevel yX12_openLevel ∈ ao_G := ao_Gm (ao_w0 (List.mem_of_getElem? (i := 120) rfl)) rfl
theorem ls_X12_past : Cond.selects RX12 yX12_past yX12_past ∈ ao_G := ao_Gm (ao_w0 (List.mem_of_getElem? (i := 111) rfl)) rfl
theorem ls_X12_pop : Cond.selects RX12 yX12_pop yX12_pop ∈ ao_G := ao_Gm (ao_w0 (List.mem_of_getElem? (i := 114) rfl)) rfl
theorem ls_X12_product : Cond.selects RX12 yX12_product yX12_product ∈ ao_G := ao_Gm (ao_w0 (List.mem_of_getElem? (i := 80) rfl)) rfl
theorem ls_X12_push : Cond.selects RX12 yX12_push yX12_push ∈ ao_G := ao_Gm (ao_w0 (List.mem_of_getElem? (i := 102) rfl)) rfl
theorem ls_X12_quit : Cond.selects RX12 yX12_quit yX12_quit ∈ ao_G := ao_Gm (ao_w0 (List.mem_of_getElem? (i := 128) rfl)) rfl
theorem ls_X12_readProgram : Cond.selects RX12 yX12_readProgram yX12_readProgram ∈ ao_G := ao_Gm (ao_w0 (List.mem_of_getElem? (i := 69) rfl)) rfl
theorem ls_X12_readsOf : Cond.selects RX12 yX12_readsOf yX12_readsOf ∈ ao_G := ao_Gm (ao_w0 (List.mem_of_getElem? (i := 132) rfl)) rfl
theorem ls_X12_remember : Cond.selects RX12 yX12_remember yX12_remember ∈ ao_G := ao_Gm (ao_w0 (List.mem_of_getElem? (i := 90) rfl)) rfl
theorem ls_X12_reset : Cond.selects RX12 yX12_reset yX12_reset ∈ ao_G := ao_Gm (ao_w0 (List.mem_of_getElem? (i := 63) rfl)) rfl
theorem ls_X12_restart : Cond.selects RX12 yX12_restart yX12_restart ∈ ao_G := ao_Gm (ao_w0 (List.mem_of_getElem? (i := 95) rfl)) rfl
theorem ls_X12_retry : Cond.selects RX12 yX12_retry yX12_retry ∈ ao_G := ao_Gm (ao_w0 (List.mem_of_getElem? (i := 127) rfl)) rfl
theorem ls_X12_say : Cond.selects RX12 yX12_say yX12_say ∈ ao_G := ao_Gm (ao_w0 (List.mem_of_getElem? (i := 117) rfl)) rfl
theorem ls_X12_simple : Cond.selects RX12 yX12_simple yX12_simple ∈ ao_G := ao_Gm (ao_w0 (List.mem_of_getElem? (i := 81) rfl)) rfl
theorem ls_X12_statement : Cond.selects RX12 yX12_statement yX12_statement ∈ ao_G := ao_Gm (ao_w0 (List.mem_of_getElem? (i := 73) rfl)) rfl
theorem ls_X12_step : Cond.selects RX12 yX12_step yX12_step ∈ ao_G := ao_Gm (ao_w0 (List.mem_of_getElem? (i := 101) rfl)) rfl
theorem ls_X12_sum : Cond.selects RX12 yX12_sum yX12_sum ∈ ao_G := ao_Gm (ao_w0 (List.mem_of_getElem? (i := 79) rfl)) rfl
theorem ls_X12_take : Cond.selects RX12 yX12_take yX12_take ∈ ao_G := ao_Gm (ao_w0 (List.mem_of_getElem? (i := 76) rfl)) rfl
theorem ls_X12_takeBack : Cond.selects RX12 yX12_takeBack yX12_takeBack ∈ ao_G := ao_Gm (ao_w0 (List.mem_of_getElem? (i := 97) rfl)) rfl
theorem ls_X12_takeBackTo : Cond.selects RX12 yX12_takeBackTo yX12_takeBackTo ∈ ao_G := ao_Gm (ao_w0 (List.mem_of_getElem? (i := 96) rfl)) rfl
theorem ls_X12_takeTurn : Cond.selects RX12 yX12_takeTurn yX12_takeTurn ∈ ao_G := ao_Gm (ao_w0 (List.mem_of_getElem? (i := 91) rfl)) rfl
theorem ls_X12_token : Cond.selects RX12 yX12_token yX12_token ∈ ao_G := ao_Gm (ao_w0 (List.mem_of_getElem? (i := 70) rfl)) rfl
theorem ls_X12_tried : Cond.selects RX12 yX12_tried yX12_tried ∈ ao_G := ao_Gm (ao_w0 (List.mem_of_getElem? (i := 87) rfl)) rfl
theorem ls_X12_wakes : Cond.selects RX12 yX12_wakes yX12_wakes ∈ ao_G := ao_Gm (ao_w0 (List.mem_of_getElem? (i := 92) rfl)) rfl
theorem ls_X12_wins : Cond.selects RX12 yX12_wins yX12_wins ∈ ao_G := ao_Gm (ao_w0 (List.mem_of_getElem? (i := 110) rfl)) rfl
theorem ls_X12_wordOf : Cond.selects RX12 yX12_wordOf yX12_wordOf ∈ ao_G := ao_Gm (ao_w0 (List.mem_of_getElem? (i := 72) rfl)) rfl
theorem ls_X12_write : Cond.selects RX12 yX12_write yX12_write ∈ ao_G := ao_Gm (ao_w0 (List.mem_of_getElem? (i := 116) rfl)) rfl
theorem ls_X12_writesOf : Cond.selects RX12 yX12_writesOf yX12_writesOf ∈ ao_G := ao_Gm (ao_w0 (List.mem_of_getElem? (i := 133) rfl)) rfl
theorem ls_X12_writtenLevel : Cond.selects RX12 yX12_writtenLevel yX12_writtenLevel ∈ ao_G := ao_Gm (ao_w0 (List.mem_of_getElem? (i := 105) rfl)) rfl
theorem ls_X12_wrong : Cond.selects RX12 yX12_wrong yX12_wrong ∈ ao_G := ao_Gm (ao_w0 (List.mem_of_getElem? (i := 74) rfl)) rfl
theorem ls_X12_wrongLevel : Cond.selects RX12 yX12_wrongLevel yX12_wrongLevel ∈ ao_G := ao_Gm (ao_w0 (List.mem_of_getElem? (i := 107) rfl)) rfl
theorem ls_X1_add : Cond.selects RX1 yX1_add yX1_add ∈ ao_G := ao_Gm (ao_w4 (List.mem_of_getElem? (i := 113) rfl)) rfl
theorem ls_X1_clear : Cond.selects RX1 yX1_clear yX1_clear ∈ ao_G := ao_Gm (ao_w3 (List.mem_of_getElem? (i := 195) rfl)) rfl
theorem ls_X1_copy : Cond.selects RX1 yX1_copy yX1_copy ∈ ao_G := ao_Gm (ao_w4 (List.mem_of_getElem? (i := 181) rfl)) rfl
theorem ls_X1_firstAt : Cond.selects RX1 yX1_firstAt yX1_firstAt ∈ ao_G := ao_Gm (ao_w5 (List.mem_of_getElem? (i := 193) rfl)) rfl
theorem ls_X1_secondAt : Cond.selects RX1 yX1_secondAt yX1_secondAt ∈ ao_G := ao_Gm (ao_w5 (List.mem_of_getElem? (i := 159) rfl)) rfl
theorem ls_X1_setFirst : Cond.selects RX1 yX1_setFirst yX1_setFirst ∈ ao_G := ao_Gm (ao_w4 (List.mem_of_getElem? (i := 133) rfl)) rfl
theorem ls_X1_setOp : Cond.selects RX1 yX1_setOp yX1_setOp ∈ ao_G := ao_Gm (ao_w4 (List.mem_of_getElem? (i := 149) rfl)) rfl
theorem ls_X1_setSecond : Cond.selects RX1 yX1_setSecond yX1_setSecond ∈ ao_G := ao_Gm (ao_w4 (List.mem_of_getElem? (i := 153) rfl)) rfl
theorem ls_X2_beginLevel : Cond.selects RX2 yX2_beginLevel yX2_beginLevel ∈ ao_G := ao_Gm (ao_w0 (List.mem_of_getElem? (i := 49) rfl)) rfl
theorem ls_X2_closeLevel : Cond.selects RX2 yX2_closeLevel yX2_closeLevel ∈ ao_G := ao_Gm (ao_w0 (List.mem_of_getElem? (i := 50) rfl)) rfl
theorem ls_X2_fail : Cond.selects RX2 yX2_fail yX2_fail ∈ ao_G := ao_Gm (ao_w0 (List.mem_of_getElem? (i := 59) rfl)) rfl
theorem ls_X2_fallAsleep : Cond.selects RX2 yX2_fallAsleep yX2_fallAsleep ∈ ao_G := ao_Gm (ao_w0 (List.mem_of_getElem? (i := 56) rfl)) rfl
theorem ls_X2_finish : Cond.selects RX2 yX2_finish yX2_finish ∈ ao_G := ao_Gm (ao_w0 (List.mem_of_getElem? (i := 53) rfl)) rfl
theorem ls_X2_giveBack : Cond.selects RX2 yX2_giveBack yX2_giveBack ∈ ao_G := ao_Gm (ao_w0 (List.mem_of_getElem? (i := 38) rfl)) rfl
theorem ls_X2_hasNews : Cond.selects RX2 yX2_hasNews yX2_hasNews ∈ ao_G := ao_Gm (ao_w0 (List.mem_of_getElem? (i := 32) rfl)) rfl
theorem ls_X2_howManyAre : Cond.selects RX2 yX2_howManyAre yX2_howManyAre ∈ ao_G := ao_Gm (ao_w0 (List.mem_of_getElem? (i := 34) rfl)) rfl
theorem ls_X2_howManyAreLeft : Cond.selects RX2 yX2_howManyAreLeft yX2_howManyAreLeft ∈ ao_G := ao_Gm (ao_w6 (List.mem_of_getElem? (i := 13) rfl)) rfl
theorem ls_X2_isBusy : Cond.selects RX2 yX2_isBusy yX2_isBusy ∈ ao_G := ao_Gm (ao_w0 (List.mem_of_getElem? (i := 33) rfl)) rfl
theorem ls_X2_isWrong : Cond.selects RX2 yX2_isWrong yX2_isWrong ∈ ao_G := ao_Gm (ao_w0 (List.mem_of_getElem? (i := 43) rfl)) rfl
theorem ls_X2_joinAround : Cond.selects RX2 yX2_joinAround yX2_joinAround ∈ ao_G := ao_Gm (ao_w0 (List.mem_of_getElem? (i := 51) rfl)) rfl
theorem ls_X2_leaveFrom : Cond.selects RX2 yX2_leaveFrom yX2_leaveFrom ∈ ao_G := ao_Gm (ao_w0 (List.mem_of_getElem? (i := 58) rfl)) rfl
theorem ls_X2_loserAbout : Cond.selects RX2 yX2_loserAbout yX2_loserAbout ∈ ao_G := ao_Gm (ao_w0 (List.mem_of_getElem? (i := 46) rfl)) rfl
theorem ls_X2_mayEnd : Cond.selects RX2 yX2_mayEnd yX2_mayEnd ∈ ao_G := ao_Gm (ao_w0 (List.mem_of_getElem? (i := 52) rfl)) rfl
theorem ls_X2_mayTouch : Cond.selects RX2 yX2_mayTouch yX2_mayTouch ∈ ao_G := ao_Gm (ao_w0 (List.mem_of_getElem? (i := 45) rfl)) rfl
theorem ls_X2_outermostWrong : Cond.selects RX2 yX2_outermostWrong yX2_outermostWrong ∈ ao_G := ao_Gm (ao_w0 (List.mem_of_getElem? (i := 42) rfl)) rfl
theorem ls_X2_quit : Cond.selects RX2 yX2_quit yX2_quit ∈ ao_G := ao_Gm (ao_w0 (List.mem_of_getElem? (i := 57) rfl)) rfl
theorem ls_X2_restart : Cond.selects RX2 yX2_restart yX2_restart ∈ ao_G := ao_Gm (ao_w0 (List.mem_of_getElem? (i := 35) rfl)) rfl
theorem ls_X2_retry : Cond.selects RX2 yX2_retry yX2_retry ∈ ao_G := ao_Gm (ao_w0 (List.mem_of_getElem? (i := 55) rfl)) rfl
theorem ls_X2_say : Cond.selects RX2 yX2_say yX2_say ∈ ao_G := ao_Gm (ao_w0 (List.mem_of_getElem? (i := 48) rfl)) rfl
theorem ls_X2_see : Cond.selects RX2 yX2_see yX2_see ∈ ao_G := ao_Gm (ao_w0 (List.mem_of_getElem? (i := 40) rfl)) rfl
theorem ls_X2_seeHeld : Cond.selects RX2 yX2_seeHeld yX2_seeHeld ∈ ao_G := ao_Gm (ao_w0 (List.mem_of_getElem? (i := 41) rfl)) rfl
theorem ls_X2_startAgain : Cond.selects RX2 yX2_startAgain yX2_startAgain ∈ ao_G := ao_Gm (ao_w3 (List.mem_of_getElem? (i := 144) rfl)) rfl
theorem ls_X2_step : Cond.selects RX2 yX2_step yX2_step ∈ ao_G := ao_Gm (ao_w0 (List.mem_of_getElem? (i := 39) rfl)) rfl
theorem ls_X2_stir : Cond.selects RX2 yX2_stir yX2_stir ∈ ao_G := ao_Gm (ao_w0 (List.mem_of_getElem? (i := 31) rfl)) rfl
theorem ls_X2_takeBack : Cond.selects RX2 yX2_takeBack yX2_takeBack ∈ ao_G := ao_Gm (ao_w0 (List.mem_of_getElem? (i := 36) rfl)) rfl
theorem ls_X2_takeTurn : Cond.selects RX2 yX2_takeTurn yX2_takeTurn ∈ ao_G := ao_Gm (ao_w4 (List.mem_of_getElem? (i := 224) rfl)) rfl
theorem ls_X2_tellOf : Cond.selects RX2 yX2_tellOf yX2_tellOf ∈ ao_G := ao_Gm (ao_w6 (List.mem_of_getElem? (i := 105) rfl)) rfl
theorem ls_X2_write : Cond.selects RX2 yX2_write yX2_write ∈ ao_G := ao_Gm (ao_w0 (List.mem_of_getElem? (i := 47) rfl)) rfl
theorem ls_X2_writeRecord : Cond.selects RX2 yX2_writeRecord yX2_writeRecord ∈ ao_G := ao_Gm (ao_w0 (List.mem_of_getElem? (i := 54) rfl)) rfl
theorem ls_X2_writesAtOnce : Cond.selects RX2 yX2_writesAtOnce yX2_writesAtOnce ∈ ao_G := ao_Gm (ao_w0 (List.mem_of_getElem? (i := 37) rfl)) rfl
theorem ls_X3_addRead : Cond.selects RX3 yX3_addRead yX3_addRead ∈ ao_G := ao_Gm (ao_w5 (List.mem_of_getElem? (i := 88) rfl)) rfl
theorem ls_X3_addWrite : Cond.selects RX3 yX3_addWrite yX3_addWrite ∈ ao_G := ao_Gm (ao_w5 (List.mem_of_getElem? (i := 129) rfl)) rfl
theorem ls_X3_forgetReads : Cond.selects RX3 yX3_forgetReads yX3_forgetReads ∈ ao_G := ao_Gm (ao_w5 (List.mem_of_getElem? (i := 37) rfl)) rfl
theorem ls_X3_forgetWrites : Cond.selects RX3 yX3_forgetWrites yX3_forgetWrites ∈ ao_G := ao_Gm (ao_w5 (List.mem_of_getElem? (i := 28) rfl)) rfl
theorem ls_X3_takeReadsOf : Cond.selects RX3 yX3_takeReadsOf yX3_takeReadsOf ∈ ao_G := ao_Gm (ao_w5 (List.mem_of_getElem? (i := 167) rfl)) rfl
theorem ls_X3_wrote : Cond.selects RX3 yX3_wrote yX3_wrote ∈ ao_G := ao_Gm (ao_w5 (List.mem_of_getElem? (i := 63) rfl)) rfl
theorem ls_X4_assignment : Cond.selects RX4 yX4_assignment yX4_assignment ∈ ao_G := ao_Gm (ao_w0 (List.mem_of_getElem? (i := 15) rfl)) rfl
theorem ls_X4_bareStatement : Cond.selects RX4 yX4_bareStatement yX4_bareStatement ∈ ao_G := ao_Gm (ao_w0 (List.mem_of_getElem? (i := 29) rfl)) rfl
theorem ls_X4_block : Cond.selects RX4 yX4_block yX4_block ∈ ao_G := ao_Gm (ao_w0 (List.mem_of_getElem? (i := 25) rfl)) rfl
theorem ls_X4_broken : Cond.selects RX4 yX4_broken yX4_broken ∈ ao_G := ao_Gm (ao_w0 (List.mem_of_getElem? (i := 14) rfl)) rfl
theorem ls_X4_condition : Cond.selects RX4 yX4_condition yX4_condition ∈ ao_G := ao_Gm (ao_w0 (List.mem_of_getElem? (i := 24) rfl)) rfl
theorem ls_X4_expect : Cond.selects RX4 yX4_expect yX4_expect ∈ ao_G := ao_Gm (ao_w0 (List.mem_of_getElem? (i := 16) rfl)) rfl
theorem ls_X4_expectNested : Cond.selects RX4 yX4_expectNested yX4_expectNested ∈ ao_G := ao_Gm (ao_w0 (List.mem_of_getElem? (i := 22) rfl)) rfl
theorem ls_X4_expression : Cond.selects RX4 yX4_expression yX4_expression ∈ ao_G := ao_Gm (ao_w0 (List.mem_of_getElem? (i := 17) rfl)) rfl
theorem ls_X4_ifStatement : Cond.selects RX4 yX4_ifStatement yX4_ifStatement ∈ ao_G := ao_Gm (ao_w0 (List.mem_of_getElem? (i := 23) rfl)) rfl
theorem ls_X4_leaf : Cond.selects RX4 yX4_leaf yX4_leaf ∈ ao_G := ao_Gm (ao_w0 (List.mem_of_getElem? (i := 21) rfl)) rfl
theorem ls_X4_levelStatement : Cond.selects RX4 yX4_levelStatement yX4_levelStatement ∈ ao_G := ao_Gm (ao_w0 (List.mem_of_getElem? (i := 28) rfl)) rfl
theorem ls_X4_parse : Cond.selects RX4 yX4_parse yX4_parse ∈ ao_G := ao_Gm (ao_w3 (List.mem_of_getElem? (i := 191) rfl)) rfl
theorem ls_X4_product : Cond.selects RX4 yX4_product yX4_product ∈ ao_G := ao_Gm (ao_w0 (List.mem_of_getElem? (i := 19) rfl)) rfl
theorem ls_X4_simple : Cond.selects RX4 yX4_simple yX4_simple ∈ ao_G := ao_Gm (ao_w0 (List.mem_of_getElem? (i := 20) rfl)) rfl
theorem ls_X4_statement : Cond.selects RX4 yX4_statement yX4_statement ∈ ao_G := ao_Gm (ao_w0 (List.mem_of_getElem? (i := 13) rfl)) rfl
theorem ls_X4_statements : Cond.selects RX4 yX4_statements yX4_statements ∈ ao_G := ao_Gm (ao_w0 (List.mem_of_getElem? (i := 12) rfl)) rfl
theorem ls_X4_sum : Cond.selects RX4 yX4_sum yX4_sum ∈ ao_G := ao_Gm (ao_w0 (List.mem_of_getElem? (i := 18) rfl)) rfl
theorem ls_X4_tryStatement : Cond.selects RX4 yX4_tryStatement yX4_tryStatement ∈ ao_G := ao_Gm (ao_w0 (List.mem_of_getElem? (i := 30) rfl)) rfl
theorem ls_X4_valueStatement : Cond.selects RX4 yX4_valueStatement yX4_valueStatement ∈ ao_G := ao_Gm (ao_w0 (List.mem_of_getElem? (i := 27) rfl)) rfl
theorem ls_X4_whileStatement : Cond.selects RX4 yX4_whileStatement yX4_whileStatement ∈ ao_G := ao_Gm (ao_w0 (List.mem_of_getElem? (i := 26) rfl)) rfl
theorem ls_X5_change : Cond.selects RX5 yX5_change yX5_change ∈ ao_G := ao_Gm (ao_w4 (List.mem_of_getElem? (i := 197) rfl)) rfl
theorem ls_X5_clear : Cond.selects RX5 yX5_clear yX5_clear ∈ ao_G := ao_Gm (ao_w3 (List.mem_of_getElem? (i := 148) rfl)) rfl
theorem ls_X5_howManyTaken : Cond.selects RX5 yX5_howManyTaken yX5_howManyTaken ∈ ao_G := ao_Gm (ao_w6 (List.mem_of_getElem? (i := 109) rfl)) rfl
theorem ls_X5_isTakenBy : Cond.selects RX5 yX5_isTakenBy yX5_isTakenBy ∈ ao_G := ao_Gm (ao_w5 (List.mem_of_getElem? (i := 104) rfl)) rfl
theorem ls_X5_isTakenByOther : Cond.selects RX5 yX5_isTakenByOther yX5_isTakenByOther ∈ ao_G := ao_Gm (ao_w5 (List.mem_of_getElem? (i := 0) rfl)) rfl
theorem ls_X5_release : Cond.selects RX5 yX5_release yX5_release ∈ ao_G := ao_Gm (ao_w5 (List.mem_of_getElem? (i := 41) rfl)) rfl
theorem ls_X5_valueAt : Cond.selects RX5 yX5_valueAt yX5_valueAt ∈ ao_G := ao_Gm (ao_w5 (List.mem_of_getElem? (i := 79) rfl)) rfl
theorem ls_X6_addRead : Cond.selects RX6 yX6_addRead yX6_addRead ∈ ao_G := ao_Gm (ao_w5 (List.mem_of_getElem? (i := 96) rfl)) rfl
theorem ls_X6_addWrite : Cond.selects RX6 yX6_addWrite yX6_addWrite ∈ ao_G := ao_Gm (ao_w5 (List.mem_of_getElem? (i := 125) rfl)) rfl
theorem ls_X6_apply : Cond.selects RX6 yX6_apply yX6_apply ∈ ao_G := ao_Gm (ao_w3 (List.mem_of_getElem? (i := 27) rfl)) rfl
theorem ls_X6_begin : Cond.selects RX6 yX6_begin yX6_begin ∈ ao_G := ao_Gm (ao_w5 (List.mem_of_getElem? (i := 92) rfl)) rfl
theorem ls_X6_clear : Cond.selects RX6 yX6_clear yX6_clear ∈ ao_G := ao_Gm (ao_w3 (List.mem_of_getElem? (i := 152) rfl)) rfl
theorem ls_X6_isAhead : Cond.selects RX6 yX6_isAhead yX6_isAhead ∈ ao_G := ao_Gm (ao_w3 (List.mem_of_getElem? (i := 8) rfl)) rfl
theorem ls_X6_note : Cond.selects RX6 yX6_note yX6_note ∈ ao_G := ao_Gm (ao_w0 (List.mem_of_getElem? (i := 44) rfl)) rfl
theorem ls_X6_readsAreRight : Cond.selects RX6 yX6_readsAreRight yX6_readsAreRight ∈ ao_G := ao_Gm (ao_w3 (List.mem_of_getElem? (i := 23) rfl)) rfl
theorem ls_X6_tellOf : Cond.selects RX6 yX6_tellOf yX6_tellOf ∈ ao_G := ao_Gm (ao_w6 (List.mem_of_getElem? (i := 93) rfl)) rfl
theorem ls_X7_enterLevel : Cond.selects RX7 yX7_enterLevel yX7_enterLevel ∈ ao_G := ao_Gm (ao_w5 (List.mem_of_getElem? (i := 149) rfl)) rfl
theorem ls_X7_enterTry : Cond.selects RX7 yX7_enterTry yX7_enterTry ∈ ao_G := ao_Gm (ao_w5 (List.mem_of_getElem? (i := 231) rfl)) rfl
theorem ls_X7_hold : Cond.selects RX7 yX7_hold yX7_hold ∈ ao_G := ao_Gm (ao_w5 (List.mem_of_getElem? (i := 137) rfl)) rfl
theorem ls_X7_innermost : Cond.selects RX7 yX7_innermost yX7_innermost ∈ ao_G := ao_Gm (ao_w5 (List.mem_of_getElem? (i := 83) rfl)) rfl
theorem ls_X7_isLeft : Cond.selects RX7 yX7_isLeft yX7_isLeft ∈ ao_G := ao_Gm (ao_w5 (List.mem_of_getElem? (i := 46) rfl)) rfl
theorem ls_X7_leaveTry : Cond.selects RX7 yX7_leaveTry yX7_leaveTry ∈ ao_G := ao_Gm (ao_w5 (List.mem_of_getElem? (i := 235) rfl)) rfl
theorem ls_X7_level : Cond.selects RX7 yX7_level yX7_level ∈ ao_G := ao_Gm (ao_w4 (List.mem_of_getElem? (i := 236) rfl)) rfl
theorem ls_X7_levelWithOr : Cond.selects RX7 yX7_levelWithOr yX7_levelWithOr ∈ ao_G := ao_Gm (ao_w5 (List.mem_of_getElem? (i := 189) rfl)) rfl
theorem ls_X7_pop : Cond.selects RX7 yX7_pop yX7_pop ∈ ao_G := ao_Gm (ao_w5 (List.mem_of_getElem? (i := 116) rfl)) rfl
theorem ls_X7_push : Cond.selects RX7 yX7_push yX7_push ∈ ao_G := ao_Gm (ao_w5 (List.mem_of_getElem? (i := 67) rfl)) rfl
theorem ls_X7_readsOfAll : Cond.selects RX7 yX7_readsOfAll yX7_readsOfAll ∈ ao_G := ao_Gm (ao_w0 (List.mem_of_getElem? (i := 60) rfl)) rfl
theorem ls_X7_renew : Cond.selects RX7 yX7_renew yX7_renew ∈ ao_G := ao_Gm (ao_w3 (List.mem_of_getElem? (i := 156) rfl)) rfl
theorem ls_X7_setBackTo : Cond.selects RX7 yX7_setBackTo yX7_setBackTo ∈ ao_G := ao_Gm (ao_w5 (List.mem_of_getElem? (i := 32) rfl)) rfl
theorem ls_X7_tellOf : Cond.selects RX7 yX7_tellOf yX7_tellOf ∈ ao_G := ao_Gm (ao_w6 (List.mem_of_getElem? (i := 58) rfl)) rfl
theorem ls_X7_tryAtOf : Cond.selects RX7 yX7_tryAtOf yX7_tryAtOf ∈ ao_G := ao_Gm (ao_w5 (List.mem_of_getElem? (i := 217) rfl)) rfl
theorem ls_X7_tryDepthOf : Cond.selects RX7 yX7_tryDepthOf yX7_tryDepthOf ∈ ao_G := ao_Gm (ao_w5 (List.mem_of_getElem? (i := 221) rfl)) rfl
theorem ls_X7_writesOfAll : Cond.selects RX7 yX7_writesOfAll yX7_writesOfAll ∈ ao_G := ao_Gm (ao_w0 (List.mem_of_getElem? (i := 61) rfl)) rfl
theorem ls_X8_add : Cond.selects RX8 yX8_add yX8_add ∈ ao_G := ao_Gm (ao_w5 (List.mem_of_getElem? (i := 141) rfl)) rfl
theorem ls_X9_advance : Cond.selects RX9 yX9_advance yX9_advance ∈ ao_G := ao_Gm (ao_w4 (List.mem_of_getElem? (i := 68) rfl)) rfl
theorem ls_X9_byteAt : Cond.selects RX9 yX9_byteAt yX9_byteAt ∈ ao_G := ao_Gm (ao_w0 (List.mem_of_getElem? (i := 5) rfl)) rfl
theorem ls_X9_equalsKind : Cond.selects RX9 yX9_equalsKind yX9_equalsKind ∈ ao_G := ao_Gm (ao_w0 (List.mem_of_getElem? (i := 11) rfl)) rfl
theorem ls_X9_isWord : Cond.selects RX9 yX9_isWord yX9_isWord ∈ ao_G := ao_Gm (ao_w0 (List.mem_of_getElem? (i := 8) rfl)) rfl
theorem ls_X9_keywordKind : Cond.selects RX9 yX9_keywordKind yX9_keywordKind ∈ ao_G := ao_Gm (ao_w0 (List.mem_of_getElem? (i := 7) rfl)) rfl
theorem ls_X9_numberKind : Cond.selects RX9 yX9_numberKind yX9_numberKind ∈ ao_G := ao_Gm (ao_w0 (List.mem_of_getElem? (i := 9) rfl)) rfl
theorem ls_X9_read : Cond.selects RX9 yX9_read yX9_read ∈ ao_G := ao_Gm (ao_w3 (List.mem_of_getElem? (i := 199) rfl)) rfl
theorem ls_X9_scan : Cond.selects RX9 yX9_scan yX9_scan ∈ ao_G := ao_Gm (ao_w0 (List.mem_of_getElem? (i := 4) rfl)) rfl
theorem ls_X9_signKind : Cond.selects RX9 yX9_signKind yX9_signKind ∈ ao_G := ao_Gm (ao_w0 (List.mem_of_getElem? (i := 10) rfl)) rfl
theorem ls_X9_wordKind : Cond.selects RX9 yX9_wordKind yX9_wordKind ∈ ao_G := ao_Gm (ao_w0 (List.mem_of_getElem? (i := 6) rfl)) rfl
theorem lt_J0_checkIndex_df160 : Cond.static yJ0_checkIndex_df160 ∈ ao_G := ao_Gm (ao_w4 (List.mem_of_getElem? (i := 13) rfl)) rfl
theorem lt_J1_charAt_3b067 : Cond.static yJ1_charAt_3b067 ∈ ao_G := ao_Gm (ao_w4 (List.mem_of_getElem? (i := 10) rfl)) rfl
theorem lt_J3_checkIndex_8e157 : Cond.static yJ3_checkIndex_8e157 ∈ ao_G := ao_Gm (ao_w4 (List.mem_of_getElem? (i := 18) rfl)) rfl
theorem lt_J6_bitCount_0f7a4 : Cond.static yJ6_bitCount_0f7a4 ∈ ao_G := ao_Gm (ao_w6 (List.mem_of_getElem? (i := 69) rfl)) rfl
theorem lt_J7_copyOf_59c91 : Cond.static yJ7_copyOf_59c91 ∈ ao_G := ao_Gm (ao_w4 (List.mem_of_getElem? (i := 201) rfl)) rfl
theorem lt_J7_fill_53178 : Cond.static yJ7_fill_53178 ∈ ao_G := ao_Gm (ao_w1 (List.mem_of_getElem? (i := 145) rfl)) rfl
theorem lt_X0_maskAhead : Cond.static yX0_maskAhead ∈ ao_G := ao_Gm (ao_w3 (List.mem_of_getElem? (i := 4) rfl)) rfl
theorem lt_X12_isDigit : Cond.static yX12_isDigit ∈ ao_G := ao_Gm (ao_w7 (List.mem_of_getElem? (i := 226) rfl)) rfl
theorem lt_X12_isLetter : Cond.static yX12_isLetter ∈ ao_G := ao_Gm (ao_w7 (List.mem_of_getElem? (i := 216) rfl)) rfl
theorem lt_X12_isPlace : Cond.static yX12_isPlace ∈ ao_G := ao_Gm (ao_w8 (List.mem_of_getElem? (i := 62) rfl)) rfl
theorem lt_X12_isThread : Cond.static yX12_isThread ∈ ao_G := ao_Gm (ao_w7 (List.mem_of_getElem? (i := 201) rfl)) rfl
theorem lt_X12_longer : Cond.static yX12_longer ∈ ao_G := ao_Gm (ao_w8 (List.mem_of_getElem? (i := 73) rfl)) rfl
theorem lt_X2_again : Cond.static yX2_again ∈ ao_G := ao_Gm (ao_w5 (List.mem_of_getElem? (i := 227) rfl)) rfl
theorem lt_X2_compute : Cond.static yX2_compute ∈ ao_G := ao_Gm (ao_w6 (List.mem_of_getElem? (i := 1) rfl)) rfl
theorem lt_X2_foldReads : Cond.static yX2_foldReads ∈ ao_G := ao_Gm (ao_w5 (List.mem_of_getElem? (i := 200) rfl)) rfl
theorem lt_X2_onTheWay : Cond.static yX2_onTheWay ∈ ao_G := ao_Gm (ao_w5 (List.mem_of_getElem? (i := 238) rfl)) rfl
theorem lt_X2_setRegister : Cond.static yX2_setRegister ∈ ao_G := ao_Gm (ao_w5 (List.mem_of_getElem? (i := 224) rfl)) rfl
theorem lt_X9_isBlank : Cond.static yX9_isBlank ∈ ao_G := ao_Gm (ao_w3 (List.mem_of_getElem? (i := 210) rfl)) rfl
theorem lt_X9_isDigit : Cond.static yX9_isDigit ∈ ao_G := ao_Gm (ao_w4 (List.mem_of_getElem? (i := 51) rfl)) rfl
theorem lt_X9_isLetter : Cond.static yX9_isLetter ∈ ao_G := ao_Gm (ao_w3 (List.mem_of_getElem? (i := 213) rfl)) rfl
theorem lt_X9_isSmall : Cond.static yX9_isSmall ∈ ao_G := ao_Gm (ao_w3 (List.mem_of_getElem? (i := 216) rfl)) rfl
