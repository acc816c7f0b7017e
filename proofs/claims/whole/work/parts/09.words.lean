theorem ao_w0 {w : Cond} (h : w ∈ k2_sels lw_privs) : w ∈ lw_tbl := List.mem_append_left _ h
theorem ao_w1 {w : Cond} (h : w ∈ tables_1_1) : w ∈ lw_tbl := List.mem_append_right _ (List.mem_append_left _ h)
theorem ao_w2 {w : Cond} (h : w ∈ tables_1_2) : w ∈ lw_tbl := List.mem_append_right _ (List.mem_append_right _ (List.mem_append_left _ h))
theorem ao_w3 {w : Cond} (h : w ∈ tables_1_3) : w ∈ lw_tbl := List.mem_append_right _ (List.mem_append_right _ (List.mem_append_right _ (List.mem_append_left _ h)))
theorem ao_w4 {w : Cond} (h : w ∈ tables_1_4) : w ∈ lw_tbl := List.mem_append_right _ (List.mem_append_right _ (List.mem_append_right _ (List.mem_append_right _ (List.mem_append_left _ h))))
theorem ao_w5 {w : Cond} (h : w ∈ tables_1_5) : w ∈ lw_tbl := List.mem_append_right _ (List.mem_append_right _ (List.mem_append_right _ (List.mem_append_right _ (List.mem_append_right _ (List.mem_append_left _ h)))))
theorem ao_w6 {w : Cond} (h : w ∈ tables_1_6) : w ∈ lw_tbl := List.mem_append_right _ (List.mem_append_right _ (List.mem_append_right _ (List.mem_append_right _ (List.mem_append_right _ (List.mem_append_right _ (List.mem_append_left _ h))))))
theorem ao_w7 {w : Cond} (h : w ∈ tables_1_7) : w ∈ lw_tbl := List.mem_append_right _ (List.mem_append_right _ (List.mem_append_right _ (List.mem_append_right _ (List.mem_append_right _ (List.mem_append_right _ (List.mem_append_right _ (List.mem_append_left _ h)))))))
theorem ao_w8 {w : Cond} (h : w ∈ tables_1_8) : w ∈ lw_tbl := List.mem_append_right _ (List.mem_append_right _ (List.mem_append_right _ (List.mem_append_right _ (List.mem_append_right _ (List.mem_append_right _ (List.mem_append_right _ (List.mem_append_right _ (List.mem_append_left _ h))))))))
theorem ao_w9 {w : Cond} (h : w ∈ tables_1_9) : w ∈ lw_tbl := List.mem_append_right _ (List.mem_append_right _ (List.mem_append_right _ (List.mem_append_right _ (List.mem_append_right _ (List.mem_append_right _ (List.mem_append_right _ (List.mem_append_right _ (List.mem_append_right _ (h)))))))))
/-! ===== words by their places ===== -/
theorem lf_X10_9 : Cond.fieldLink RX10 9 "AsOneHouse" "tape" "[B" ∈ ao_G := ao_Gm (ao_w2 (List.mem_of_getElem? (i := 212) (by decide +kernel))) rfl
theorem lf_X10_34 : Cond.fieldLink RX10 34 "AsOneHouse" "tapeLength" "I" ∈ ao_G := ao_Gm (ao_w2 (List.mem_of_getElem? (i := 216) (by decide +kernel))) rfl
theorem lf_X10_38 : Cond.fieldLink RX10 38 "AsOneHouse" "brokenAt" "I" ∈ ao_G := ao_Gm (ao_w2 (List.mem_of_getElem? (i := 217) (by decide +kernel))) rfl
theorem lf_X0_17 : Cond.fieldLink RX0 17 "AsOneHouse$Arbiter" "behind" "[[I" ∈ ao_G := ao_Gm (ao_w2 (List.mem_of_getElem? (i := 198) (by decide +kernel))) rfl
theorem lf_X0_23 : Cond.fieldLink RX0 23 "AsOneHouse$Arbiter" "told" "I" ∈ ao_G := ao_Gm (ao_w2 (List.mem_of_getElem? (i := 196) (by decide +kernel))) rfl
theorem lf_X0_70 : Cond.fieldLink RX0 70 "AsOneHouse$Places" "takenBy" "[I" ∈ ao_G := ao_Gm (ao_w1 (List.mem_of_getElem? (i := 154) (by decide +kernel))) rfl
theorem lf_X0_73 : Cond.fieldLink RX0 73 "AsOneHouse$Places" "value" "[I" ∈ ao_G := ao_Gm (ao_w1 (List.mem_of_getElem? (i := 148) (by decide +kernel))) rfl
theorem lf_X1_7 : Cond.fieldLink RX1 7 "AsOneHouse$Code" "room" "I" ∈ ao_G := ao_Gm (ao_w1 (List.mem_of_getElem? (i := 94) (by decide +kernel))) rfl
theorem lf_X1_13 : Cond.fieldLink RX1 13 "AsOneHouse$Code" "op" "[I" ∈ ao_G := ao_Gm (ao_w1 (List.mem_of_getElem? (i := 96) (by decide +kernel))) rfl
theorem lf_X1_17 : Cond.fieldLink RX1 17 "AsOneHouse$Code" "first" "[I" ∈ ao_G := ao_Gm (ao_w1 (List.mem_of_getElem? (i := 98) (by decide +kernel))) rfl
theorem lf_X1_20 : Cond.fieldLink RX1 20 "AsOneHouse$Code" "second" "[I" ∈ ao_G := ao_Gm (ao_w1 (List.mem_of_getElem? (i := 100) (by decide +kernel))) rfl
theorem lf_X1_23 : Cond.fieldLink RX1 23 "AsOneHouse$Code" "length" "I" ∈ ao_G := ao_Gm (ao_w1 (List.mem_of_getElem? (i := 101) (by decide +kernel))) rfl
theorem lf_X1_26 : Cond.fieldLink RX1 26 "AsOneHouse$Code" "statements" "I" ∈ ao_G := ao_Gm (ao_w1 (List.mem_of_getElem? (i := 104) (by decide +kernel))) rfl
theorem lf_X2_12 : Cond.fieldLink RX2 12 "AsOneHouse$Engine" "places" "LAsOneHouse$Places;" ∈ ao_G := ao_Gm (ao_w2 (List.mem_of_getElem? (i := 160) (by decide +kernel))) rfl
theorem lf_X2_21 : Cond.fieldLink RX2 21 "AsOneHouse$Engine" "sayings" "LAsOneHouse$Sayings;" ∈ ao_G := ao_Gm (ao_w2 (List.mem_of_getElem? (i := 164) (by decide +kernel))) rfl
theorem lf_X2_28 : Cond.fieldLink RX2 28 "AsOneHouse$Engine" "records" "LAsOneHouse$Records;" ∈ ao_G := ao_Gm (ao_w2 (List.mem_of_getElem? (i := 166) (by decide +kernel))) rfl
theorem lf_X2_34 : Cond.fieldLink RX2 34 "AsOneHouse$Engine" "runners" "[LAsOneHouse$Runner;" ∈ ao_G := ao_Gm (ao_w2 (List.mem_of_getElem? (i := 162) (by decide +kernel))) rfl
theorem lf_X2_41 : Cond.fieldLink RX2 41 "AsOneHouse$Engine" "way" "I" ∈ ao_G := ao_Gm (ao_w2 (List.mem_of_getElem? (i := 170) (by decide +kernel))) rfl
theorem lf_X2_45 : Cond.fieldLink RX2 45 "AsOneHouse$Engine" "turns" "I" ∈ ao_G := ao_Gm (ao_w2 (List.mem_of_getElem? (i := 168) (by decide +kernel))) rfl
theorem lf_X2_51 : Cond.fieldLink RX2 51 "AsOneHouse$Sayings" "size" "I" ∈ ao_G := ao_Gm (ao_w1 (List.mem_of_getElem? (i := 203) (by decide +kernel))) rfl
theorem lf_X2_55 : Cond.fieldLink RX2 55 "AsOneHouse$Runner" "state" "I" ∈ ao_G := ao_Gm (ao_w2 (List.mem_of_getElem? (i := 87) (by decide +kernel))) rfl
theorem lf_X2_61 : Cond.fieldLink RX2 61 "AsOneHouse$Places" "clock" "I" ∈ ao_G := ao_Gm (ao_w1 (List.mem_of_getElem? (i := 161) (by decide +kernel))) rfl
theorem lf_X2_64 : Cond.fieldLink RX2 64 "AsOneHouse$Records" "size" "I" ∈ ao_G := ao_Gm (ao_w1 (List.mem_of_getElem? (i := 231) (by decide +kernel))) rfl
theorem lf_X2_77 : Cond.fieldLink RX2 77 "AsOneHouse$Engine" "now" "I" ∈ ao_G := ao_Gm (ao_w2 (List.mem_of_getElem? (i := 171) (by decide +kernel))) rfl
theorem lf_X2_88 : Cond.fieldLink RX2 88 "AsOneHouse$Runner" "code" "LAsOneHouse$Code;" ∈ ao_G := ao_Gm (ao_w2 (List.mem_of_getElem? (i := 85) (by decide +kernel))) rfl
theorem lf_X2_92 : Cond.fieldLink RX2 92 "AsOneHouse$Runner" "at" "I" ∈ ao_G := ao_Gm (ao_w2 (List.mem_of_getElem? (i := 90) (by decide +kernel))) rfl
theorem lf_X2_95 : Cond.fieldLink RX2 95 "AsOneHouse$Code" "length" "I" ∈ ao_G := ao_Gm (ao_w1 (List.mem_of_getElem? (i := 102) (by decide +kernel))) rfl
theorem lf_X2_100 : Cond.fieldLink RX2 100 "AsOneHouse$Code" "room" "I" ∈ ao_G := ao_Gm (ao_w1 (List.mem_of_getElem? (i := 95) (by decide +kernel))) rfl
theorem lf_X2_103 : Cond.fieldLink RX2 103 "AsOneHouse$Code" "first" "[I" ∈ ao_G := ao_Gm (ao_w1 (List.mem_of_getElem? (i := 99) (by decide +kernel))) rfl
theorem lf_X2_107 : Cond.fieldLink RX2 107 "AsOneHouse$Code" "op" "[I" ∈ ao_G := ao_Gm (ao_w1 (List.mem_of_getElem? (i := 97) (by decide +kernel))) rfl
theorem lf_X2_155 : Cond.fieldLink RX2 155 "AsOneHouse$Runner" "registers" "[I" ∈ ao_G := ao_Gm (ao_w2 (List.mem_of_getElem? (i := 94) (by decide +kernel))) rfl
theorem lf_X2_165 : Cond.fieldLink RX2 165 "AsOneHouse$Runner" "depth" "I" ∈ ao_G := ao_Gm (ao_w2 (List.mem_of_getElem? (i := 98) (by decide +kernel))) rfl
theorem lf_X2_171 : Cond.fieldLink RX2 171 "AsOneHouse$Runner" "thread" "I" ∈ ao_G := ao_Gm (ao_w2 (List.mem_of_getElem? (i := 82) (by decide +kernel))) rfl
theorem lf_X2_188 : Cond.fieldLink RX2 188 "AsOneHouse$Places" "value" "[I" ∈ ao_G := ao_Gm (ao_w1 (List.mem_of_getElem? (i := 150) (by decide +kernel))) rfl
theorem lf_X2_206 : Cond.fieldLink RX2 206 "AsOneHouse$Places" "version" "[I" ∈ ao_G := ao_Gm (ao_w1 (List.mem_of_getElem? (i := 152) (by decide +kernel))) rfl
theorem lf_X2_221 : Cond.fieldLink RX2 221 "AsOneHouse$Level" "written" "[I" ∈ ao_G := ao_Gm (ao_w2 (List.mem_of_getElem? (i := 44) (by decide +kernel))) rfl
theorem lf_X2_224 : Cond.fieldLink RX2 224 "AsOneHouse$Runner" "startClock" "I" ∈ ao_G := ao_Gm (ao_w2 (List.mem_of_getElem? (i := 108) (by decide +kernel))) rfl
theorem lf_X2_245 : Cond.fieldLink RX2 245 "AsOneHouse$Places" "takenBy" "[I" ∈ ao_G := ao_Gm (ao_w1 (List.mem_of_getElem? (i := 156) (by decide +kernel))) rfl
theorem lf_X2_254 : Cond.fieldLink RX2 254 "AsOneHouse$Runner" "firstTurn" "I" ∈ ao_G := ao_Gm (ao_w2 (List.mem_of_getElem? (i := 110) (by decide +kernel))) rfl
theorem lf_X2_257 : Cond.fieldLink RX2 257 "AsOneHouse$Level" "reads" "I" ∈ ao_G := ao_Gm (ao_w2 (List.mem_of_getElem? (i := 41) (by decide +kernel))) rfl
theorem lf_X2_264 : Cond.fieldLink RX2 264 "AsOneHouse$Level" "readPlace" "[I" ∈ ao_G := ao_Gm (ao_w2 (List.mem_of_getElem? (i := 34) (by decide +kernel))) rfl
theorem lf_X2_267 : Cond.fieldLink RX2 267 "AsOneHouse$Level" "readValue" "[I" ∈ ao_G := ao_Gm (ao_w2 (List.mem_of_getElem? (i := 36) (by decide +kernel))) rfl
theorem lf_X2_270 : Cond.fieldLink RX2 270 "AsOneHouse$Level" "readVersion" "[I" ∈ ao_G := ao_Gm (ao_w2 (List.mem_of_getElem? (i := 38) (by decide +kernel))) rfl
theorem lf_X2_279 : Cond.fieldLink RX2 279 "AsOneHouse$Level" "inOr" "Z" ∈ ao_G := ao_Gm (ao_w2 (List.mem_of_getElem? (i := 53) (by decide +kernel))) rfl
theorem lf_X2_286 : Cond.fieldLink RX2 286 "AsOneHouse$Runner" "fromTurn" "I" ∈ ao_G := ao_Gm (ao_w2 (List.mem_of_getElem? (i := 112) (by decide +kernel))) rfl
theorem lf_X2_289 : Cond.fieldLink RX2 289 "AsOneHouse$Runner" "restarts" "I" ∈ ao_G := ao_Gm (ao_w2 (List.mem_of_getElem? (i := 114) (by decide +kernel))) rfl
theorem lf_X2_292 : Cond.fieldLink RX2 292 "AsOneHouse$Level" "begin" "I" ∈ ao_G := ao_Gm (ao_w2 (List.mem_of_getElem? (i := 51) (by decide +kernel))) rfl
theorem lf_X2_304 : Cond.fieldLink RX2 304 "AsOneHouse$Level" "writeMask" "I" ∈ ao_G := ao_Gm (ao_w2 (List.mem_of_getElem? (i := 47) (by decide +kernel))) rfl
theorem lf_X2_320 : Cond.fieldLink RX2 320 "AsOneHouse$Runner" "heldSize" "I" ∈ ao_G := ao_Gm (ao_w2 (List.mem_of_getElem? (i := 106) (by decide +kernel))) rfl
theorem lf_X2_340 : Cond.fieldLink RX2 340 "AsOneHouse$Runner" "held" "[I" ∈ ao_G := ao_Gm (ao_w2 (List.mem_of_getElem? (i := 104) (by decide +kernel))) rfl
theorem lf_X2_343 : Cond.fieldLink RX2 343 "AsOneHouse$Runner" "ended" "I" ∈ ao_G := ao_Gm (ao_w2 (List.mem_of_getElem? (i := 116) (by decide +kernel))) rfl
theorem lf_X2_361 : Cond.fieldLink RX2 361 "AsOneHouse$Runner" "tries" "I" ∈ ao_G := ao_Gm (ao_w2 (List.mem_of_getElem? (i := 102) (by decide +kernel))) rfl
theorem lf_X2_364 : Cond.fieldLink RX2 364 "AsOneHouse$Runner" "failedWith" "I" ∈ ao_G := ao_Gm (ao_w2 (List.mem_of_getElem? (i := 118) (by decide +kernel))) rfl
theorem lf_X3_9 : Cond.fieldLink RX3 9 "AsOneHouse$Level" "readPlace" "[I" ∈ ao_G := ao_Gm (ao_w2 (List.mem_of_getElem? (i := 33) (by decide +kernel))) rfl
theorem lf_X3_15 : Cond.fieldLink RX3 15 "AsOneHouse$Level" "readValue" "[I" ∈ ao_G := ao_Gm (ao_w2 (List.mem_of_getElem? (i := 35) (by decide +kernel))) rfl
theorem lf_X3_18 : Cond.fieldLink RX3 18 "AsOneHouse$Level" "readVersion" "[I" ∈ ao_G := ao_Gm (ao_w2 (List.mem_of_getElem? (i := 37) (by decide +kernel))) rfl
theorem lf_X3_21 : Cond.fieldLink RX3 21 "AsOneHouse$Level" "written" "[I" ∈ ao_G := ao_Gm (ao_w2 (List.mem_of_getElem? (i := 43) (by decide +kernel))) rfl
theorem lf_X3_27 : Cond.fieldLink RX3 27 "AsOneHouse$Level" "reads" "I" ∈ ao_G := ao_Gm (ao_w2 (List.mem_of_getElem? (i := 39) (by decide +kernel))) rfl
theorem lf_X3_31 : Cond.fieldLink RX3 31 "AsOneHouse$Level" "readMask" "I" ∈ ao_G := ao_Gm (ao_w2 (List.mem_of_getElem? (i := 42) (by decide +kernel))) rfl
theorem lf_X3_34 : Cond.fieldLink RX3 34 "AsOneHouse$Level" "writeMask" "I" ∈ ao_G := ao_Gm (ao_w2 (List.mem_of_getElem? (i := 45) (by decide +kernel))) rfl
theorem lf_X4_12 : Cond.fieldLink RX4 12 "AsOneHouse$Parser" "scanner" "LAsOneHouse$Scanner;" ∈ ao_G := ao_Gm (ao_w1 (List.mem_of_getElem? (i := 120) (by decide +kernel))) rfl
theorem lf_X4_23 : Cond.fieldLink RX4 23 "AsOneHouse$Parser" "code" "LAsOneHouse$Code;" ∈ ao_G := ao_Gm (ao_w1 (List.mem_of_getElem? (i := 121) (by decide +kernel))) rfl
theorem lf_X4_27 : Cond.fieldLink RX4 27 "AsOneHouse$Parser" "brokenAt" "I" ∈ ao_G := ao_Gm (ao_w1 (List.mem_of_getElem? (i := 123) (by decide +kernel))) rfl
theorem lf_X4_42 : Cond.fieldLink RX4 42 "AsOneHouse$Scanner" "kind" "I" ∈ ao_G := ao_Gm (ao_w1 (List.mem_of_getElem? (i := 58) (by decide +kernel))) rfl
theorem lf_X4_49 : Cond.fieldLink RX4 49 "AsOneHouse$Scanner" "begin" "I" ∈ ao_G := ao_Gm (ao_w1 (List.mem_of_getElem? (i := 60) (by decide +kernel))) rfl
theorem lf_X4_91 : Cond.fieldLink RX4 91 "AsOneHouse$Scanner" "value" "I" ∈ ao_G := ao_Gm (ao_w1 (List.mem_of_getElem? (i := 62) (by decide +kernel))) rfl
theorem lf_X5_9 : Cond.fieldLink RX5 9 "AsOneHouse$Places" "value" "[I" ∈ ao_G := ao_Gm (ao_w1 (List.mem_of_getElem? (i := 147) (by decide +kernel))) rfl
theorem lf_X5_15 : Cond.fieldLink RX5 15 "AsOneHouse$Places" "version" "[I" ∈ ao_G := ao_Gm (ao_w1 (List.mem_of_getElem? (i := 151) (by decide +kernel))) rfl
theorem lf_X5_18 : Cond.fieldLink RX5 18 "AsOneHouse$Places" "takenBy" "[I" ∈ ao_G := ao_Gm (ao_w1 (List.mem_of_getElem? (i := 153) (by decide +kernel))) rfl
theorem lf_X5_21 : Cond.fieldLink RX5 21 "AsOneHouse$Places" "atFirst" "[I" ∈ ao_G := ao_Gm (ao_w1 (List.mem_of_getElem? (i := 157) (by decide +kernel))) rfl
theorem lf_X5_24 : Cond.fieldLink RX5 24 "AsOneHouse$Places" "latest" "[I" ∈ ao_G := ao_Gm (ao_w1 (List.mem_of_getElem? (i := 163) (by decide +kernel))) rfl
theorem lf_X5_27 : Cond.fieldLink RX5 27 "AsOneHouse$Places" "room" "I" ∈ ao_G := ao_Gm (ao_w1 (List.mem_of_getElem? (i := 167) (by decide +kernel))) rfl
theorem lf_X5_31 : Cond.fieldLink RX5 31 "AsOneHouse$Places" "pastClock" "[I" ∈ ao_G := ao_Gm (ao_w1 (List.mem_of_getElem? (i := 164) (by decide +kernel))) rfl
theorem lf_X5_34 : Cond.fieldLink RX5 34 "AsOneHouse$Places" "pastValue" "[I" ∈ ao_G := ao_Gm (ao_w1 (List.mem_of_getElem? (i := 165) (by decide +kernel))) rfl
theorem lf_X5_37 : Cond.fieldLink RX5 37 "AsOneHouse$Places" "pastBefore" "[I" ∈ ao_G := ao_Gm (ao_w1 (List.mem_of_getElem? (i := 166) (by decide +kernel))) rfl
theorem lf_X5_46 : Cond.fieldLink RX5 46 "AsOneHouse$Places" "clock" "I" ∈ ao_G := ao_Gm (ao_w1 (List.mem_of_getElem? (i := 160) (by decide +kernel))) rfl
theorem lf_X5_49 : Cond.fieldLink RX5 49 "AsOneHouse$Places" "pasts" "I" ∈ ao_G := ao_Gm (ao_w1 (List.mem_of_getElem? (i := 168) (by decide +kernel))) rfl
theorem lf_X6_9 : Cond.fieldLink RX6 9 "AsOneHouse$Records" "thread" "[I" ∈ ao_G := ao_Gm (ao_w1 (List.mem_of_getElem? (i := 220) (by decide +kernel))) rfl
theorem lf_X6_15 : Cond.fieldLink RX6 15 "AsOneHouse$Records" "reads" "[I" ∈ ao_G := ao_Gm (ao_w1 (List.mem_of_getElem? (i := 221) (by decide +kernel))) rfl
theorem lf_X6_18 : Cond.fieldLink RX6 18 "AsOneHouse$Records" "writes" "[I" ∈ ao_G := ao_Gm (ao_w1 (List.mem_of_getElem? (i := 222) (by decide +kernel))) rfl
theorem lf_X6_21 : Cond.fieldLink RX6 21 "AsOneHouse$Records" "from" "[I" ∈ ao_G := ao_Gm (ao_w1 (List.mem_of_getElem? (i := 223) (by decide +kernel))) rfl
theorem lf_X6_24 : Cond.fieldLink RX6 24 "AsOneHouse$Records" "to" "[I" ∈ ao_G := ao_Gm (ao_w1 (List.mem_of_getElem? (i := 224) (by decide +kernel))) rfl
theorem lf_X6_29 : Cond.fieldLink RX6 29 "AsOneHouse$Records" "readPlace" "[[I" ∈ ao_G := ao_Gm (ao_w1 (List.mem_of_getElem? (i := 225) (by decide +kernel))) rfl
theorem lf_X6_32 : Cond.fieldLink RX6 32 "AsOneHouse$Records" "readValue" "[[I" ∈ ao_G := ao_Gm (ao_w1 (List.mem_of_getElem? (i := 226) (by decide +kernel))) rfl
theorem lf_X6_35 : Cond.fieldLink RX6 35 "AsOneHouse$Records" "writePlace" "[[I" ∈ ao_G := ao_Gm (ao_w1 (List.mem_of_getElem? (i := 227) (by decide +kernel))) rfl
theorem lf_X6_38 : Cond.fieldLink RX6 38 "AsOneHouse$Records" "writeValue" "[[I" ∈ ao_G := ao_Gm (ao_w1 (List.mem_of_getElem? (i := 228) (by decide +kernel))) rfl
theorem lf_X6_41 : Cond.fieldLink RX6 41 "AsOneHouse$Records" "size" "I" ∈ ao_G := ao_Gm (ao_w1 (List.mem_of_getElem? (i := 229) (by decide +kernel))) rfl
theorem lf_X6_45 : Cond.fieldLink RX6 45 "AsOneHouse$Records" "isKept" "Z" ∈ ao_G := ao_Gm (ao_w1 (List.mem_of_getElem? (i := 233) (by decide +kernel))) rfl
theorem lf_X7_20 : Cond.fieldLink RX7 20 "AsOneHouse$Runner" "code" "LAsOneHouse$Code;" ∈ ao_G := ao_Gm (ao_w2 (List.mem_of_getElem? (i := 83) (by decide +kernel))) rfl
theorem lf_X7_24 : Cond.fieldLink RX7 24 "AsOneHouse$Runner" "state" "I" ∈ ao_G := ao_Gm (ao_w2 (List.mem_of_getElem? (i := 86) (by decide +kernel))) rfl
theorem lf_X7_27 : Cond.fieldLink RX7 27 "AsOneHouse$Runner" "stack" "[I" ∈ ao_G := ao_Gm (ao_w2 (List.mem_of_getElem? (i := 91) (by decide +kernel))) rfl
theorem lf_X7_31 : Cond.fieldLink RX7 31 "AsOneHouse$Runner" "registers" "[I" ∈ ao_G := ao_Gm (ao_w2 (List.mem_of_getElem? (i := 93) (by decide +kernel))) rfl
theorem lf_X7_36 : Cond.fieldLink RX7 36 "AsOneHouse$Runner" "levels" "[LAsOneHouse$Level;" ∈ ao_G := ao_Gm (ao_w2 (List.mem_of_getElem? (i := 96) (by decide +kernel))) rfl
theorem lf_X7_41 : Cond.fieldLink RX7 41 "AsOneHouse$Runner" "tryAt" "[I" ∈ ao_G := ao_Gm (ao_w2 (List.mem_of_getElem? (i := 99) (by decide +kernel))) rfl
theorem lf_X7_44 : Cond.fieldLink RX7 44 "AsOneHouse$Runner" "tryDepth" "[I" ∈ ao_G := ao_Gm (ao_w2 (List.mem_of_getElem? (i := 100) (by decide +kernel))) rfl
theorem lf_X7_47 : Cond.fieldLink RX7 47 "AsOneHouse$Runner" "held" "[I" ∈ ao_G := ao_Gm (ao_w2 (List.mem_of_getElem? (i := 103) (by decide +kernel))) rfl
theorem lf_X7_50 : Cond.fieldLink RX7 50 "AsOneHouse$Runner" "at" "I" ∈ ao_G := ao_Gm (ao_w2 (List.mem_of_getElem? (i := 89) (by decide +kernel))) rfl
theorem lf_X7_53 : Cond.fieldLink RX7 53 "AsOneHouse$Runner" "stacked" "I" ∈ ao_G := ao_Gm (ao_w2 (List.mem_of_getElem? (i := 92) (by decide +kernel))) rfl
theorem lf_X7_62 : Cond.fieldLink RX7 62 "AsOneHouse$Runner" "depth" "I" ∈ ao_G := ao_Gm (ao_w2 (List.mem_of_getElem? (i := 97) (by decide +kernel))) rfl
theorem lf_X7_65 : Cond.fieldLink RX7 65 "AsOneHouse$Runner" "tries" "I" ∈ ao_G := ao_Gm (ao_w2 (List.mem_of_getElem? (i := 101) (by decide +kernel))) rfl
theorem lf_X7_68 : Cond.fieldLink RX7 68 "AsOneHouse$Runner" "heldSize" "I" ∈ ao_G := ao_Gm (ao_w2 (List.mem_of_getElem? (i := 105) (by decide +kernel))) rfl
theorem lf_X7_71 : Cond.fieldLink RX7 71 "AsOneHouse$Runner" "startClock" "I" ∈ ao_G := ao_Gm (ao_w2 (List.mem_of_getElem? (i := 107) (by decide +kernel))) rfl
theorem lf_X7_74 : Cond.fieldLink RX7 74 "AsOneHouse$Runner" "firstTurn" "I" ∈ ao_G := ao_Gm (ao_w2 (List.mem_of_getElem? (i := 109) (by decide +kernel))) rfl
theorem lf_X7_77 : Cond.fieldLink RX7 77 "AsOneHouse$Runner" "fromTurn" "I" ∈ ao_G := ao_Gm (ao_w2 (List.mem_of_getElem? (i := 111) (by decide +kernel))) rfl
theorem lf_X7_80 : Cond.fieldLink RX7 80 "AsOneHouse$Runner" "restarts" "I" ∈ ao_G := ao_Gm (ao_w2 (List.mem_of_getElem? (i := 113) (by decide +kernel))) rfl
theorem lf_X7_83 : Cond.fieldLink RX7 83 "AsOneHouse$Runner" "ended" "I" ∈ ao_G := ao_Gm (ao_w2 (List.mem_of_getElem? (i := 115) (by decide +kernel))) rfl
theorem lf_X7_86 : Cond.fieldLink RX7 86 "AsOneHouse$Runner" "failedWith" "I" ∈ ao_G := ao_Gm (ao_w2 (List.mem_of_getElem? (i := 117) (by decide +kernel))) rfl
theorem lf_X7_99 : Cond.fieldLink RX7 99 "AsOneHouse$Level" "begin" "I" ∈ ao_G := ao_Gm (ao_w2 (List.mem_of_getElem? (i := 50) (by decide +kernel))) rfl
theorem lf_X7_102 : Cond.fieldLink RX7 102 "AsOneHouse$Level" "inOr" "Z" ∈ ao_G := ao_Gm (ao_w2 (List.mem_of_getElem? (i := 52) (by decide +kernel))) rfl
theorem lf_X7_106 : Cond.fieldLink RX7 106 "AsOneHouse$Level" "heldBefore" "I" ∈ ao_G := ao_Gm (ao_w2 (List.mem_of_getElem? (i := 54) (by decide +kernel))) rfl
theorem lf_X7_109 : Cond.fieldLink RX7 109 "AsOneHouse$Level" "triesBefore" "I" ∈ ao_G := ao_Gm (ao_w2 (List.mem_of_getElem? (i := 55) (by decide +kernel))) rfl
theorem lf_X7_112 : Cond.fieldLink RX7 112 "AsOneHouse$Level" "registers" "[I" ∈ ao_G := ao_Gm (ao_w2 (List.mem_of_getElem? (i := 49) (by decide +kernel))) rfl
theorem lf_X7_135 : Cond.fieldLink RX7 135 "AsOneHouse$Level" "reads" "I" ∈ ao_G := ao_Gm (ao_w2 (List.mem_of_getElem? (i := 40) (by decide +kernel))) rfl
theorem lf_X7_138 : Cond.fieldLink RX7 138 "AsOneHouse$Level" "writeMask" "I" ∈ ao_G := ao_Gm (ao_w2 (List.mem_of_getElem? (i := 46) (by decide +kernel))) rfl
theorem lf_X8_9 : Cond.fieldLink RX8 9 "AsOneHouse$Sayings" "thread" "[I" ∈ ao_G := ao_Gm (ao_w1 (List.mem_of_getElem? (i := 198) (by decide +kernel))) rfl
theorem lf_X8_15 : Cond.fieldLink RX8 15 "AsOneHouse$Sayings" "value" "[I" ∈ ao_G := ao_Gm (ao_w1 (List.mem_of_getElem? (i := 200) (by decide +kernel))) rfl
theorem lf_X8_18 : Cond.fieldLink RX8 18 "AsOneHouse$Sayings" "size" "I" ∈ ao_G := ao_Gm (ao_w1 (List.mem_of_getElem? (i := 202) (by decide +kernel))) rfl
theorem lf_X9_9 : Cond.fieldLink RX9 9 "AsOneHouse$Scanner" "text" "[B" ∈ ao_G := ao_Gm (ao_w1 (List.mem_of_getElem? (i := 49) (by decide +kernel))) rfl
theorem lf_X9_15 : Cond.fieldLink RX9 15 "AsOneHouse$Scanner" "kinds" "[I" ∈ ao_G := ao_Gm (ao_w1 (List.mem_of_getElem? (i := 52) (by decide +kernel))) rfl
theorem lf_X9_19 : Cond.fieldLink RX9 19 "AsOneHouse$Scanner" "begins" "[I" ∈ ao_G := ao_Gm (ao_w1 (List.mem_of_getElem? (i := 53) (by decide +kernel))) rfl
theorem lf_X9_22 : Cond.fieldLink RX9 22 "AsOneHouse$Scanner" "values" "[I" ∈ ao_G := ao_Gm (ao_w1 (List.mem_of_getElem? (i := 54) (by decide +kernel))) rfl
theorem lf_X9_25 : Cond.fieldLink RX9 25 "AsOneHouse$Scanner" "length" "I" ∈ ao_G := ao_Gm (ao_w1 (List.mem_of_getElem? (i := 50) (by decide +kernel))) rfl
theorem lf_X9_29 : Cond.fieldLink RX9 29 "AsOneHouse$Scanner" "next" "I" ∈ ao_G := ao_Gm (ao_w1 (List.mem_of_getElem? (i := 51) (by decide +kernel))) rfl
theorem lf_X9_32 : Cond.fieldLink RX9 32 "AsOneHouse$Scanner" "kind" "I" ∈ ao_G := ao_Gm (ao_w1 (List.mem_of_getElem? (i := 57) (by decide +kernel))) rfl
theorem lf_X9_35 : Cond.fieldLink RX9 35 "AsOneHouse$Scanner" "tokens" "I" ∈ ao_G := ao_Gm (ao_w1 (List.mem_of_getElem? (i := 55) (by decide +kernel))) rfl
theorem lf_X9_41 : Cond.fieldLink RX9 41 "AsOneHouse$Scanner" "begin" "I" ∈ ao_G := ao_Gm (ao_w1 (List.mem_of_getElem? (i := 59) (by decide +kernel))) rfl
theorem lf_X9_44 : Cond.fieldLink RX9 44 "AsOneHouse$Scanner" "value" "I" ∈ ao_G := ao_Gm (ao_w1 (List.mem_of_getElem? (i := 61) (by decide +kernel))) rfl
theorem lf_X9_47 : Cond.fieldLink RX9 47 "AsOneHouse$Scanner" "cursor" "I" ∈ ao_G := ao_Gm (ao_w1 (List.mem_of_getElem? (i := 56) (by decide +kernel))) rfl
theorem lf_X12_1 : Cond.fieldLink RX12 1 "AsOneHouseModel" "thrown" "I" ∈ ao_G := ao_Gm (ao_w6 (List.mem_of_getElem? (i := 165) (by decide +kernel))) rfl
theorem lf_X12_7 : Cond.fieldLink RX12 7 "AsOneHouseModel" "broken" "I" ∈ ao_G := ao_Gm (ao_w6 (List.mem_of_getElem? (i := 167) (by decide +kernel))) rfl
theorem lf_X12_10 : Cond.fieldLink RX12 10 "AsOneHouseModel" "brokenHere" "LAsOneHouseModel$Broken;" ∈ ao_G := ao_Gm (ao_w6 (List.mem_of_getElem? (i := 166) (by decide +kernel))) rfl
theorem lf_X12_14 : Cond.fieldLink RX12 14 "AsOneHouseModel" "length" "I" ∈ ao_G := ao_Gm (ao_w6 (List.mem_of_getElem? (i := 172) (by decide +kernel))) rfl
theorem lf_X12_17 : Cond.fieldLink RX12 17 "AsOneHouseModel" "source" "[B" ∈ ao_G := ao_Gm (ao_w6 (List.mem_of_getElem? (i := 170) (by decide +kernel))) rfl
theorem lf_X12_42 : Cond.fieldLink RX12 42 "AsOneHouseModel" "kind" "I" ∈ ao_G := ao_Gm (ao_w6 (List.mem_of_getElem? (i := 174) (by decide +kernel))) rfl
theorem lf_X12_49 : Cond.fieldLink RX12 49 "AsOneHouseModel" "what" "I" ∈ ao_G := ao_Gm (ao_w6 (List.mem_of_getElem? (i := 175) (by decide +kernel))) rfl
theorem lf_X12_74 : Cond.fieldLink RX12 74 "AsOneHouseModel" "made" "[I" ∈ ao_G := ao_Gm (ao_w6 (List.mem_of_getElem? (i := 177) (by decide +kernel))) rfl
theorem lf_X12_78 : Cond.fieldLink RX12 78 "AsOneHouseModel" "instructions" "I" ∈ ao_G := ao_Gm (ao_w6 (List.mem_of_getElem? (i := 178) (by decide +kernel))) rfl
theorem lf_X12_132 : Cond.fieldLink RX12 132 "AsOneHouseModel" "pasts" "I" ∈ ao_G := ao_Gm (ao_w6 (List.mem_of_getElem? (i := 190) (by decide +kernel))) rfl
theorem lf_X12_135 : Cond.fieldLink RX12 135 "AsOneHouseModel" "pastVersion" "[I" ∈ ao_G := ao_Gm (ao_w6 (List.mem_of_getElem? (i := 187) (by decide +kernel))) rfl
theorem lf_X12_142 : Cond.fieldLink RX12 142 "AsOneHouseModel" "pastValue" "[I" ∈ ao_G := ao_Gm (ao_w6 (List.mem_of_getElem? (i := 188) (by decide +kernel))) rfl
theorem lf_X12_145 : Cond.fieldLink RX12 145 "AsOneHouseModel" "pastBefore" "[I" ∈ ao_G := ao_Gm (ao_w6 (List.mem_of_getElem? (i := 189) (by decide +kernel))) rfl
theorem lf_X12_148 : Cond.fieldLink RX12 148 "AsOneHouseModel" "clock" "I" ∈ ao_G := ao_Gm (ao_w6 (List.mem_of_getElem? (i := 191) (by decide +kernel))) rfl
theorem lf_X12_151 : Cond.fieldLink RX12 151 "AsOneHouseModel" "value" "[I" ∈ ao_G := ao_Gm (ao_w6 (List.mem_of_getElem? (i := 182) (by decide +kernel))) rfl
theorem lf_X12_154 : Cond.fieldLink RX12 154 "AsOneHouseModel" "lastPast" "[I" ∈ ao_G := ao_Gm (ao_w6 (List.mem_of_getElem? (i := 186) (by decide +kernel))) rfl
theorem lf_X12_157 : Cond.fieldLink RX12 157 "AsOneHouseModel" "version" "[I" ∈ ao_G := ao_Gm (ao_w6 (List.mem_of_getElem? (i := 183) (by decide +kernel))) rfl
theorem lf_X12_171 : Cond.fieldLink RX12 171 "AsOneHouseModel" "told" "I" ∈ ao_G := ao_Gm (ao_w6 (List.mem_of_getElem? (i := 168) (by decide +kernel))) rfl
theorem lf_X12_174 : Cond.fieldLink RX12 174 "AsOneHouseModel" "tape" "[B" ∈ ao_G := ao_Gm (ao_w6 (List.mem_of_getElem? (i := 169) (by decide +kernel))) rfl
theorem lf_X12_177 : Cond.fieldLink RX12 177 "AsOneHouseModel" "taken" "[I" ∈ ao_G := ao_Gm (ao_w6 (List.mem_of_getElem? (i := 184) (by decide +kernel))) rfl
theorem lf_X12_180 : Cond.fieldLink RX12 180 "AsOneHouseModel" "atFirst" "[I" ∈ ao_G := ao_Gm (ao_w6 (List.mem_of_getElem? (i := 185) (by decide +kernel))) rfl
theorem lf_X12_184 : Cond.fieldLink RX12 184 "AsOneHouseModel" "code" "[I" ∈ ao_G := ao_Gm (ao_w6 (List.mem_of_getElem? (i := 193) (by decide +kernel))) rfl
theorem lf_X12_187 : Cond.fieldLink RX12 187 "AsOneHouseModel" "mode" "[I" ∈ ao_G := ao_Gm (ao_w6 (List.mem_of_getElem? (i := 194) (by decide +kernel))) rfl
theorem lf_X12_190 : Cond.fieldLink RX12 190 "AsOneHouseModel" "pc" "[I" ∈ ao_G := ao_Gm (ao_w6 (List.mem_of_getElem? (i := 195) (by decide +kernel))) rfl
theorem lf_X12_193 : Cond.fieldLink RX12 193 "AsOneHouseModel" "register" "[I" ∈ ao_G := ao_Gm (ao_w6 (List.mem_of_getElem? (i := 196) (by decide +kernel))) rfl
theorem lf_X12_196 : Cond.fieldLink RX12 196 "AsOneHouseModel" "stack" "[I" ∈ ao_G := ao_Gm (ao_w6 (List.mem_of_getElem? (i := 197) (by decide +kernel))) rfl
theorem lf_X12_199 : Cond.fieldLink RX12 199 "AsOneHouseModel" "top" "[I" ∈ ao_G := ao_Gm (ao_w6 (List.mem_of_getElem? (i := 198) (by decide +kernel))) rfl
theorem lf_X12_202 : Cond.fieldLink RX12 202 "AsOneHouseModel" "levels" "[I" ∈ ao_G := ao_Gm (ao_w6 (List.mem_of_getElem? (i := 199) (by decide +kernel))) rfl
theorem lf_X12_205 : Cond.fieldLink RX12 205 "AsOneHouseModel" "scopes" "[I" ∈ ao_G := ao_Gm (ao_w6 (List.mem_of_getElem? (i := 200) (by decide +kernel))) rfl
theorem lf_X12_208 : Cond.fieldLink RX12 208 "AsOneHouseModel" "tries" "[I" ∈ ao_G := ao_Gm (ao_w6 (List.mem_of_getElem? (i := 201) (by decide +kernel))) rfl
theorem lf_X12_211 : Cond.fieldLink RX12 211 "AsOneHouseModel" "restarts" "[I" ∈ ao_G := ao_Gm (ao_w6 (List.mem_of_getElem? (i := 202) (by decide +kernel))) rfl
theorem lf_X12_214 : Cond.fieldLink RX12 214 "AsOneHouseModel" "start" "[I" ∈ ao_G := ao_Gm (ao_w6 (List.mem_of_getElem? (i := 203) (by decide +kernel))) rfl
theorem lf_X12_217 : Cond.fieldLink RX12 217 "AsOneHouseModel" "deadOf" "[I" ∈ ao_G := ao_Gm (ao_w6 (List.mem_of_getElem? (i := 204) (by decide +kernel))) rfl
theorem lf_X12_220 : Cond.fieldLink RX12 220 "AsOneHouseModel" "ended" "[I" ∈ ao_G := ao_Gm (ao_w6 (List.mem_of_getElem? (i := 205) (by decide +kernel))) rfl
theorem lf_X12_223 : Cond.fieldLink RX12 223 "AsOneHouseModel" "birth" "[I" ∈ ao_G := ao_Gm (ao_w6 (List.mem_of_getElem? (i := 206) (by decide +kernel))) rfl
theorem lf_X12_226 : Cond.fieldLink RX12 226 "AsOneHouseModel" "fromTurn" "[I" ∈ ao_G := ao_Gm (ao_w6 (List.mem_of_getElem? (i := 207) (by decide +kernel))) rfl
theorem lf_X12_229 : Cond.fieldLink RX12 229 "AsOneHouseModel" "scopeLevel" "[I" ∈ ao_G := ao_Gm (ao_w6 (List.mem_of_getElem? (i := 208) (by decide +kernel))) rfl
theorem lf_X12_232 : Cond.fieldLink RX12 232 "AsOneHouseModel" "tryCatch" "[I" ∈ ao_G := ao_Gm (ao_w6 (List.mem_of_getElem? (i := 209) (by decide +kernel))) rfl
theorem lf_X12_235 : Cond.fieldLink RX12 235 "AsOneHouseModel" "tryRegister" "[I" ∈ ao_G := ao_Gm (ao_w6 (List.mem_of_getElem? (i := 210) (by decide +kernel))) rfl
theorem lf_X12_238 : Cond.fieldLink RX12 238 "AsOneHouseModel" "tryLevels" "[I" ∈ ao_G := ao_Gm (ao_w6 (List.mem_of_getElem? (i := 211) (by decide +kernel))) rfl
theorem lf_X12_241 : Cond.fieldLink RX12 241 "AsOneHouseModel" "tryScopes" "[I" ∈ ao_G := ao_Gm (ao_w6 (List.mem_of_getElem? (i := 212) (by decide +kernel))) rfl
theorem lf_X12_244 : Cond.fieldLink RX12 244 "AsOneHouseModel" "beginAt" "[I" ∈ ao_G := ao_Gm (ao_w6 (List.mem_of_getElem? (i := 213) (by decide +kernel))) rfl
theorem lf_X12_247 : Cond.fieldLink RX12 247 "AsOneHouseModel" "orAt" "[I" ∈ ao_G := ao_Gm (ao_w6 (List.mem_of_getElem? (i := 214) (by decide +kernel))) rfl
theorem lf_X12_250 : Cond.fieldLink RX12 250 "AsOneHouseModel" "overAt" "[I" ∈ ao_G := ao_Gm (ao_w6 (List.mem_of_getElem? (i := 215) (by decide +kernel))) rfl
theorem lf_X12_253 : Cond.fieldLink RX12 253 "AsOneHouseModel" "levelScopes" "[I" ∈ ao_G := ao_Gm (ao_w6 (List.mem_of_getElem? (i := 216) (by decide +kernel))) rfl
theorem lf_X12_256 : Cond.fieldLink RX12 256 "AsOneHouseModel" "levelTries" "[I" ∈ ao_G := ao_Gm (ao_w6 (List.mem_of_getElem? (i := 217) (by decide +kernel))) rfl
theorem lf_X12_259 : Cond.fieldLink RX12 259 "AsOneHouseModel" "kept" "[I" ∈ ao_G := ao_Gm (ao_w6 (List.mem_of_getElem? (i := 218) (by decide +kernel))) rfl
theorem lf_X12_262 : Cond.fieldLink RX12 262 "AsOneHouseModel" "inOr" "[Z" ∈ ao_G := ao_Gm (ao_w6 (List.mem_of_getElem? (i := 219) (by decide +kernel))) rfl
theorem lf_X12_266 : Cond.fieldLink RX12 266 "AsOneHouseModel" "reads" "[Z" ∈ ao_G := ao_Gm (ao_w6 (List.mem_of_getElem? (i := 220) (by decide +kernel))) rfl
theorem lf_X12_269 : Cond.fieldLink RX12 269 "AsOneHouseModel" "writes" "[Z" ∈ ao_G := ao_Gm (ao_w6 (List.mem_of_getElem? (i := 221) (by decide +kernel))) rfl
theorem lf_X12_272 : Cond.fieldLink RX12 272 "AsOneHouseModel" "readValue" "[I" ∈ ao_G := ao_Gm (ao_w6 (List.mem_of_getElem? (i := 222) (by decide +kernel))) rfl
theorem lf_X12_275 : Cond.fieldLink RX12 275 "AsOneHouseModel" "readVersion" "[I" ∈ ao_G := ao_Gm (ao_w6 (List.mem_of_getElem? (i := 223) (by decide +kernel))) rfl
theorem lf_X12_278 : Cond.fieldLink RX12 278 "AsOneHouseModel" "readOrder" "[I" ∈ ao_G := ao_Gm (ao_w6 (List.mem_of_getElem? (i := 224) (by decide +kernel))) rfl
theorem lf_X12_281 : Cond.fieldLink RX12 281 "AsOneHouseModel" "writeValue" "[I" ∈ ao_G := ao_Gm (ao_w6 (List.mem_of_getElem? (i := 225) (by decide +kernel))) rfl
theorem lf_X12_284 : Cond.fieldLink RX12 284 "AsOneHouseModel" "held" "[I" ∈ ao_G := ao_Gm (ao_w6 (List.mem_of_getElem? (i := 226) (by decide +kernel))) rfl
theorem lf_X12_287 : Cond.fieldLink RX12 287 "AsOneHouseModel" "heldMany" "[I" ∈ ao_G := ao_Gm (ao_w6 (List.mem_of_getElem? (i := 227) (by decide +kernel))) rfl
theorem lf_X12_290 : Cond.fieldLink RX12 290 "AsOneHouseModel" "said" "[I" ∈ ao_G := ao_Gm (ao_w6 (List.mem_of_getElem? (i := 231) (by decide +kernel))) rfl
theorem lf_X12_293 : Cond.fieldLink RX12 293 "AsOneHouseModel" "saidBy" "[I" ∈ ao_G := ao_Gm (ao_w6 (List.mem_of_getElem? (i := 232) (by decide +kernel))) rfl
theorem lf_X12_296 : Cond.fieldLink RX12 296 "AsOneHouseModel" "recordThread" "[I" ∈ ao_G := ao_Gm (ao_w6 (List.mem_of_getElem? (i := 234) (by decide +kernel))) rfl
theorem lf_X12_299 : Cond.fieldLink RX12 299 "AsOneHouseModel" "recordFrom" "[I" ∈ ao_G := ao_Gm (ao_w6 (List.mem_of_getElem? (i := 235) (by decide +kernel))) rfl
theorem lf_X12_302 : Cond.fieldLink RX12 302 "AsOneHouseModel" "recordTo" "[I" ∈ ao_G := ao_Gm (ao_w6 (List.mem_of_getElem? (i := 236) (by decide +kernel))) rfl
theorem lf_X12_305 : Cond.fieldLink RX12 305 "AsOneHouseModel" "recordRead" "[I" ∈ ao_G := ao_Gm (ao_w6 (List.mem_of_getElem? (i := 237) (by decide +kernel))) rfl
theorem lf_X12_308 : Cond.fieldLink RX12 308 "AsOneHouseModel" "recordWrite" "[I" ∈ ao_G := ao_Gm (ao_w6 (List.mem_of_getElem? (i := 238) (by decide +kernel))) rfl
theorem lf_X12_311 : Cond.fieldLink RX12 311 "AsOneHouseModel" "hasRead" "[Z" ∈ ao_G := ao_Gm (ao_w6 (List.mem_of_getElem? (i := 239) (by decide +kernel))) rfl
theorem lf_X12_314 : Cond.fieldLink RX12 314 "AsOneHouseModel" "hasWrite" "[Z" ∈ ao_G := ao_Gm (ao_w7 (List.mem_of_getElem? (i := 0) (by decide +kernel))) rfl
theorem lf_X12_317 : Cond.fieldLink RX12 317 "AsOneHouseModel" "order" "[I" ∈ ao_G := ao_Gm (ao_w7 (List.mem_of_getElem? (i := 3) (by decide +kernel))) rfl
theorem lf_X12_320 : Cond.fieldLink RX12 320 "AsOneHouseModel" "next" "[I" ∈ ao_G := ao_Gm (ao_w7 (List.mem_of_getElem? (i := 4) (by decide +kernel))) rfl
theorem lf_X12_323 : Cond.fieldLink RX12 323 "AsOneHouseModel" "state" "[I" ∈ ao_G := ao_Gm (ao_w7 (List.mem_of_getElem? (i := 5) (by decide +kernel))) rfl
theorem lf_X12_326 : Cond.fieldLink RX12 326 "AsOneHouseModel" "isUsed" "[Z" ∈ ao_G := ao_Gm (ao_w7 (List.mem_of_getElem? (i := 6) (by decide +kernel))) rfl
theorem lf_X12_332 : Cond.fieldLink RX12 332 "AsOneHouseModel" "way" "I" ∈ ao_G := ao_Gm (ao_w6 (List.mem_of_getElem? (i := 192) (by decide +kernel))) rfl
theorem lf_X12_335 : Cond.fieldLink RX12 335 "AsOneHouseModel" "saidMany" "I" ∈ ao_G := ao_Gm (ao_w6 (List.mem_of_getElem? (i := 233) (by decide +kernel))) rfl
theorem lf_X12_338 : Cond.fieldLink RX12 338 "AsOneHouseModel" "records" "I" ∈ ao_G := ao_Gm (ao_w7 (List.mem_of_getElem? (i := 1) (by decide +kernel))) rfl
theorem lf_X12_341 : Cond.fieldLink RX12 341 "AsOneHouseModel" "turns" "I" ∈ ao_G := ao_Gm (ao_w6 (List.mem_of_getElem? (i := 230) (by decide +kernel))) rfl
theorem lf_X12_344 : Cond.fieldLink RX12 344 "AsOneHouseModel" "births" "I" ∈ ao_G := ao_Gm (ao_w6 (List.mem_of_getElem? (i := 228) (by decide +kernel))) rfl
theorem lf_X12_347 : Cond.fieldLink RX12 347 "AsOneHouseModel" "orderMany" "I" ∈ ao_G := ao_Gm (ao_w7 (List.mem_of_getElem? (i := 7) (by decide +kernel))) rfl
theorem lf_X12_366 : Cond.fieldLink RX12 366 "AsOneHouseModel" "readCount" "I" ∈ ao_G := ao_Gm (ao_w6 (List.mem_of_getElem? (i := 229) (by decide +kernel))) rfl
theorem lf_X12_405 : Cond.fieldLink RX12 405 "AsOneHouseModel" "lookedUp" "I" ∈ ao_G := ao_Gm (ao_w7 (List.mem_of_getElem? (i := 2) (by decide +kernel))) rfl
theorem lf_X12_494 : Cond.fieldLink RX12 494 "AsOneHouseModel" "taped" "I" ∈ ao_G := ao_Gm (ao_w6 (List.mem_of_getElem? (i := 171) (by decide +kernel))) rfl
theorem lk_X2_84 : Cond.constant RX2 84 1000000 ∈ ao_G := ao_Gm (ao_w5 (List.mem_of_getElem? (i := 48) (by decide +kernel))) rfl
theorem lk_X5_52 : Cond.constant RX5 52 65536 ∈ ao_G := ao_Gm (ao_w4 (List.mem_of_getElem? (i := 199) (by decide +kernel))) rfl
theorem lk_X9_119 : Cond.constant RX9 119 1000000 ∈ ao_G := ao_Gm (ao_w4 (List.mem_of_getElem? (i := 57) (by decide +kernel))) rfl
theorem lk_J6_265 : Cond.constant RJ6 265 1431655765 ∈ ao_G := ao_Gm (ao_w6 (List.mem_of_getElem? (i := 71) (by decide +kernel))) rfl
theorem lk_J6_266 : Cond.constant RJ6 266 858993459 ∈ ao_G := ao_Gm (ao_w6 (List.mem_of_getElem? (i := 72) (by decide +kernel))) rfl
theorem lk_J6_267 : Cond.constant RJ6 267 252645135 ∈ ao_G := ao_Gm (ao_w6 (List.mem_of_getElem? (i := 73) (by decide +kernel))) rfl
theorem lmn_J7_304 : Cond.methodLink RJ7 304 Lib.Math.min.name ∈ ao_G := ao_Gm (ao_w4 (List.mem_of_getElem? (i := 210) (by decide +kernel))) rfl
theorem lcp_X7_113 : Cond.methodLink RX7 113 arraycopyName ∈ ao_G := ao_Gm (ao_w5 (List.mem_of_getElem? (i := 34) (by decide +kernel))) rfl
theorem lcp_J7_150 : Cond.methodLink RJ7 150 arraycopyName ∈ ao_G := ao_Gm (ao_w4 (List.mem_of_getElem? (i := 213) (by decide +kernel))) rfl
theorem lna_0 : Cond.arrayClass (ao_et 0) ∈ ao_G := ao_Gm (by decide +kernel) rfl
theorem lc_X0_54 : ao_cB RX0 54 yX6_isAhead cX6_isAhead 3 (some .boolean) 2 := ⟨ao_Gm (ao_w3 (List.mem_of_getElem? (i := 6) (by decide +kernel))) rfl, ao_Gm (ao_w3 (List.mem_of_getElem? (i := 9) (by decide +kernel))) rfl, ao_Gm (ao_w1 (List.mem_of_getElem? (i := 9) (by decide +kernel))) rfl, by decide, by decide, by decide +kernel⟩
theorem lc_X2_48 : ao_cB RX2 48 yX5_clear cX5_clear 1 none 0 := ⟨ao_Gm (ao_w3 (List.mem_of_getElem? (i := 146) (by decide +kernel))) rfl, ao_Gm (ao_w3 (List.mem_of_getElem? (i := 149) (by decide +kernel))) rfl, ao_Gm (ao_w1 (List.mem_of_getElem? (i := 6) (by decide +kernel))) rfl, by decide, by decide, by decide +kernel⟩
theorem lc_X2_54 : ao_cB RX2 54 yX6_clear cX6_clear 1 none 0 := ⟨ao_Gm (ao_w3 (List.mem_of_getElem? (i := 150) (by decide +kernel))) rfl, ao_Gm (ao_w3 (List.mem_of_getElem? (i := 153) (by decide +kernel))) rfl, ao_Gm (ao_w1 (List.mem_of_getElem? (i := 9) (by decide +kernel))) rfl, by decide, by decide, by decide +kernel⟩
theorem lc_X2_58 : ao_cB RX2 58 yX7_renew cX7_renew 1 none 0 := ⟨ao_Gm (ao_w3 (List.mem_of_getElem? (i := 154) (by decide +kernel))) rfl, ao_Gm (ao_w3 (List.mem_of_getElem? (i := 157) (by decide +kernel))) rfl, ao_Gm (ao_w1 (List.mem_of_getElem? (i := 10) (by decide +kernel))) rfl, by decide, by decide, by decide +kernel⟩
theorem lc_X2_65 : ao_cB RX2 65 yX2_howManyAre cX2_howManyAre 4 (some .int) 1 := ⟨ao_Gm (ao_w5 (List.mem_of_getElem? (i := 6) (by decide +kernel))) rfl, ao_Gm (ao_w5 (List.mem_of_getElem? (i := 9) (by decide +kernel))) rfl, ao_Gm (ao_w1 (List.mem_of_getElem? (i := 5) (by decide +kernel))) rfl, by decide, by decide, by decide +kernel⟩
theorem lc_X2_69 : ao_cB RX2 69 yX5_howManyTaken cX5_howManyTaken 3 (some .int) 0 := ⟨ao_Gm (ao_w6 (List.mem_of_getElem? (i := 107) (by decide +kernel))) rfl, ao_Gm (ao_w6 (List.mem_of_getElem? (i := 110) (by decide +kernel))) rfl, ao_Gm (ao_w1 (List.mem_of_getElem? (i := 6) (by decide +kernel))) rfl, by decide, by decide, by decide +kernel⟩
theorem lc_X2_73 : ao_cB RX2 73 yX7_isLeft cX7_isLeft 1 (some .boolean) 0 := ⟨ao_Gm (ao_w5 (List.mem_of_getElem? (i := 44) (by decide +kernel))) rfl, ao_Gm (ao_w5 (List.mem_of_getElem? (i := 47) (by decide +kernel))) rfl, ao_Gm (ao_w1 (List.mem_of_getElem? (i := 10) (by decide +kernel))) rfl, by decide, by decide, by decide +kernel⟩
theorem lc_X2_80 : ao_cB RX2 80 yX2_stir cX2_stir 2 (some .int) 1 := ⟨ao_Gm (ao_w4 (List.mem_of_getElem? (i := 226) (by decide +kernel))) rfl, ao_Gm (ao_w4 (List.mem_of_getElem? (i := 229) (by decide +kernel))) rfl, ao_Gm (ao_w1 (List.mem_of_getElem? (i := 5) (by decide +kernel))) rfl, by decide, by decide, by decide +kernel⟩
theorem lc_X2_85 : ao_cB RX2 85 yX2_step cX2_step 5 (some .int) 1 := ⟨ao_Gm (ao_w5 (List.mem_of_getElem? (i := 49) (by decide +kernel))) rfl, ao_Gm (ao_w5 (List.mem_of_getElem? (i := 52) (by decide +kernel))) rfl, ao_Gm (ao_w1 (List.mem_of_getElem? (i := 5) (by decide +kernel))) rfl, by decide, by decide, by decide +kernel⟩
theorem lc_X2_110 : ao_cB RX2 110 yX2_see cX2_see 3 (some .int) 2 := ⟨ao_Gm (ao_w5 (List.mem_of_getElem? (i := 53) (by decide +kernel))) rfl, ao_Gm (ao_w5 (List.mem_of_getElem? (i := 56) (by decide +kernel))) rfl, ao_Gm (ao_w1 (List.mem_of_getElem? (i := 5) (by decide +kernel))) rfl, by decide, by decide, by decide +kernel⟩
theorem lc_X2_114 : ao_cB RX2 114 yX7_pop cX7_pop 1 (some .int) 0 := ⟨ao_Gm (ao_w5 (List.mem_of_getElem? (i := 114) (by decide +kernel))) rfl, ao_Gm (ao_w5 (List.mem_of_getElem? (i := 117) (by decide +kernel))) rfl, ao_Gm (ao_w1 (List.mem_of_getElem? (i := 10) (by decide +kernel))) rfl, by decide, by decide, by decide +kernel⟩
theorem lc_X2_117 : ao_cB RX2 117 yX2_write cX2_write 4 (some .int) 3 := ⟨ao_Gm (ao_w5 (List.mem_of_getElem? (i := 118) (by decide +kernel))) rfl, ao_Gm (ao_w5 (List.mem_of_getElem? (i := 121) (by decide +kernel))) rfl, ao_Gm (ao_w1 (List.mem_of_getElem? (i := 5) (by decide +kernel))) rfl, by decide, by decide, by decide +kernel⟩
theorem lc_X2_121 : ao_cB RX2 121 yX2_say cX2_say 3 (some .int) 2 := ⟨ao_Gm (ao_w5 (List.mem_of_getElem? (i := 131) (by decide +kernel))) rfl, ao_Gm (ao_w5 (List.mem_of_getElem? (i := 134) (by decide +kernel))) rfl, ao_Gm (ao_w1 (List.mem_of_getElem? (i := 5) (by decide +kernel))) rfl, by decide, by decide, by decide +kernel⟩
theorem lc_X2_124 : ao_cB RX2 124 yX2_beginLevel cX2_beginLevel 3 (some .int) 2 := ⟨ao_Gm (ao_w5 (List.mem_of_getElem? (i := 143) (by decide +kernel))) rfl, ao_Gm (ao_w5 (List.mem_of_getElem? (i := 146) (by decide +kernel))) rfl, ao_Gm (ao_w1 (List.mem_of_getElem? (i := 5) (by decide +kernel))) rfl, by decide, by decide, by decide +kernel⟩
theorem lc_X2_127 : ao_cB RX2 127 yX2_closeLevel cX2_closeLevel 3 (some .int) 1 := ⟨ao_Gm (ao_w5 (List.mem_of_getElem? (i := 153) (by decide +kernel))) rfl, ao_Gm (ao_w5 (List.mem_of_getElem? (i := 156) (by decide +kernel))) rfl, ao_Gm (ao_w1 (List.mem_of_getElem? (i := 5) (by decide +kernel))) rfl, by decide, by decide, by decide +kernel⟩
theorem lc_X2_130 : ao_cB RX2 130 yX2_retry cX2_retry 4 (some .int) 1 := ⟨ao_Gm (ao_w5 (List.mem_of_getElem? (i := 183) (by decide +kernel))) rfl, ao_Gm (ao_w5 (List.mem_of_getElem? (i := 186) (by decide +kernel))) rfl, ao_Gm (ao_w1 (List.mem_of_getElem? (i := 5) (by decide +kernel))) rfl, by decide, by decide, by decide +kernel⟩
theorem lc_X2_133 : ao_cB RX2 133 yX2_quit cX2_quit 3 (some .int) 1 := ⟨ao_Gm (ao_w5 (List.mem_of_getElem? (i := 203) (by decide +kernel))) rfl, ao_Gm (ao_w5 (List.mem_of_getElem? (i := 206) (by decide +kernel))) rfl, ao_Gm (ao_w1 (List.mem_of_getElem? (i := 5) (by decide +kernel))) rfl, by decide, by decide, by decide +kernel⟩
theorem lc_X2_136 : ao_cB RX2 136 yX2_fail cX2_fail 5 (some .int) 2 := ⟨ao_Gm (ao_w5 (List.mem_of_getElem? (i := 211) (by decide +kernel))) rfl, ao_Gm (ao_w5 (List.mem_of_getElem? (i := 214) (by decide +kernel))) rfl, ao_Gm (ao_w1 (List.mem_of_getElem? (i := 5) (by decide +kernel))) rfl, by decide, by decide, by decide +kernel⟩
theorem lc_X2_139 : ao_cB RX2 139 yX2_again cX2_again 2 (some .int) 2 := ⟨ao_Gm (ao_w5 (List.mem_of_getElem? (i := 226) (by decide +kernel))) rfl, ao_Gm (ao_w5 (List.mem_of_getElem? (i := 228) (by decide +kernel))) rfl, ao_Gm (ao_w1 (List.mem_of_getElem? (i := 5) (by decide +kernel))) rfl, by decide, by decide, by decide +kernel⟩
theorem lc_X2_142 : ao_cB RX2 142 yX7_enterTry cX7_enterTry 2 none 1 := ⟨ao_Gm (ao_w5 (List.mem_of_getElem? (i := 229) (by decide +kernel))) rfl, ao_Gm (ao_w5 (List.mem_of_getElem? (i := 232) (by decide +kernel))) rfl, ao_Gm (ao_w1 (List.mem_of_getElem? (i := 10) (by decide +kernel))) rfl, by decide, by decide, by decide +kernel⟩
theorem lc_X2_145 : ao_cB RX2 145 yX7_leaveTry cX7_leaveTry 1 none 0 := ⟨ao_Gm (ao_w5 (List.mem_of_getElem? (i := 233) (by decide +kernel))) rfl, ao_Gm (ao_w5 (List.mem_of_getElem? (i := 236) (by decide +kernel))) rfl, ao_Gm (ao_w1 (List.mem_of_getElem? (i := 10) (by decide +kernel))) rfl, by decide, by decide, by decide +kernel⟩
theorem lc_X2_148 : ao_cB RX2 148 yX2_onTheWay cX2_onTheWay 4 none 3 := ⟨ao_Gm (ao_w5 (List.mem_of_getElem? (i := 237) (by decide +kernel))) rfl, ao_Gm (ao_w5 (List.mem_of_getElem? (i := 239) (by decide +kernel))) rfl, ao_Gm (ao_w1 (List.mem_of_getElem? (i := 5) (by decide +kernel))) rfl, by decide, by decide, by decide +kernel⟩
theorem lc_X2_152 : ao_cB RX2 152 yX7_push cX7_push 2 none 1 := ⟨ao_Gm (ao_w5 (List.mem_of_getElem? (i := 65) (by decide +kernel))) rfl, ao_Gm (ao_w5 (List.mem_of_getElem? (i := 68) (by decide +kernel))) rfl, ao_Gm (ao_w1 (List.mem_of_getElem? (i := 10) (by decide +kernel))) rfl, by decide, by decide, by decide +kernel⟩
theorem lc_X2_158 : ao_cB RX2 158 yX2_setRegister cX2_setRegister 3 none 3 := ⟨ao_Gm (ao_w5 (List.mem_of_getElem? (i := 223) (by decide +kernel))) rfl, ao_Gm (ao_w5 (List.mem_of_getElem? (i := 225) (by decide +kernel))) rfl, ao_Gm (ao_w1 (List.mem_of_getElem? (i := 5) (by decide +kernel))) rfl, by decide, by decide, by decide +kernel⟩
theorem lc_X2_161 : ao_cB RX2 161 yX2_compute cX2_compute 3 (some .int) 3 := ⟨ao_Gm (ao_w6 (List.mem_of_getElem? (i := 0) (by decide +kernel))) rfl, ao_Gm (ao_w6 (List.mem_of_getElem? (i := 2) (by decide +kernel))) rfl, ao_Gm (ao_w1 (List.mem_of_getElem? (i := 5) (by decide +kernel))) rfl, by decide, by decide, by decide +kernel⟩
theorem lc_X2_168 : ao_cB RX2 168 yX7_hold cX7_hold 2 none 1 := ⟨ao_Gm (ao_w5 (List.mem_of_getElem? (i := 135) (by decide +kernel))) rfl, ao_Gm (ao_w5 (List.mem_of_getElem? (i := 138) (by decide +kernel))) rfl, ao_Gm (ao_w1 (List.mem_of_getElem? (i := 10) (by decide +kernel))) rfl, by decide, by decide, by decide +kernel⟩
theorem lc_X2_174 : ao_cB RX2 174 yX8_add cX8_add 3 none 2 := ⟨ao_Gm (ao_w5 (List.mem_of_getElem? (i := 139) (by decide +kernel))) rfl, ao_Gm (ao_w5 (List.mem_of_getElem? (i := 142) (by decide +kernel))) rfl, ao_Gm (ao_w1 (List.mem_of_getElem? (i := 8) (by decide +kernel))) rfl, by decide, by decide, by decide +kernel⟩
theorem lc_X2_178 : ao_cB RX2 178 yX2_writesAtOnce cX2_writesAtOnce 1 (some .boolean) 0 := ⟨ao_Gm (ao_w5 (List.mem_of_getElem? (i := 18) (by decide +kernel))) rfl, ao_Gm (ao_w5 (List.mem_of_getElem? (i := 21) (by decide +kernel))) rfl, ao_Gm (ao_w1 (List.mem_of_getElem? (i := 5) (by decide +kernel))) rfl, by decide, by decide, by decide +kernel⟩
theorem lc_X2_181 : ao_cB RX2 181 yX2_seeHeld cX2_seeHeld 6 (some .int) 2 := ⟨ao_Gm (ao_w5 (List.mem_of_getElem? (i := 57) (by decide +kernel))) rfl, ao_Gm (ao_w5 (List.mem_of_getElem? (i := 60) (by decide +kernel))) rfl, ao_Gm (ao_w1 (List.mem_of_getElem? (i := 5) (by decide +kernel))) rfl, by decide, by decide, by decide +kernel⟩
theorem lc_X2_184 : ao_cB RX2 184 yX6_begin cX6_begin 4 none 3 := ⟨ao_Gm (ao_w5 (List.mem_of_getElem? (i := 90) (by decide +kernel))) rfl, ao_Gm (ao_w5 (List.mem_of_getElem? (i := 93) (by decide +kernel))) rfl, ao_Gm (ao_w1 (List.mem_of_getElem? (i := 9) (by decide +kernel))) rfl, by decide, by decide, by decide +kernel⟩
theorem lc_X2_191 : ao_cB RX2 191 yX6_addRead cX6_addRead 3 none 2 := ⟨ao_Gm (ao_w5 (List.mem_of_getElem? (i := 94) (by decide +kernel))) rfl, ao_Gm (ao_w5 (List.mem_of_getElem? (i := 97) (by decide +kernel))) rfl, ao_Gm (ao_w1 (List.mem_of_getElem? (i := 9) (by decide +kernel))) rfl, by decide, by decide, by decide +kernel⟩
theorem lc_X2_194 : ao_cB RX2 194 yX5_isTakenBy cX5_isTakenBy 3 (some .boolean) 2 := ⟨ao_Gm (ao_w5 (List.mem_of_getElem? (i := 102) (by decide +kernel))) rfl, ao_Gm (ao_w5 (List.mem_of_getElem? (i := 105) (by decide +kernel))) rfl, ao_Gm (ao_w1 (List.mem_of_getElem? (i := 6) (by decide +kernel))) rfl, by decide, by decide, by decide +kernel⟩
theorem lc_X2_198 : ao_cB RX2 198 yX2_mayTouch cX2_mayTouch 5 (some .boolean) 2 := ⟨ao_Gm (ao_w5 (List.mem_of_getElem? (i := 106) (by decide +kernel))) rfl, ao_Gm (ao_w5 (List.mem_of_getElem? (i := 109) (by decide +kernel))) rfl, ao_Gm (ao_w1 (List.mem_of_getElem? (i := 5) (by decide +kernel))) rfl, by decide, by decide, by decide +kernel⟩
theorem lc_X2_202 : ao_cB RX2 202 yX7_innermost cX7_innermost 1 (some (.object "AsOneHouse$Level")) 0 := ⟨ao_Gm (ao_w5 (List.mem_of_getElem? (i := 81) (by decide +kernel))) rfl, ao_Gm (ao_w5 (List.mem_of_getElem? (i := 84) (by decide +kernel))) rfl, ao_Gm (ao_w1 (List.mem_of_getElem? (i := 10) (by decide +kernel))) rfl, by decide, by decide, by decide +kernel⟩
theorem lc_X2_209 : ao_cB RX2 209 yX3_addRead cX3_addRead 4 none 3 := ⟨ao_Gm (ao_w5 (List.mem_of_getElem? (i := 86) (by decide +kernel))) rfl, ao_Gm (ao_w5 (List.mem_of_getElem? (i := 89) (by decide +kernel))) rfl, ao_Gm (ao_w1 (List.mem_of_getElem? (i := 11) (by decide +kernel))) rfl, by decide, by decide, by decide +kernel⟩
theorem lc_X2_213 : ao_cB RX2 213 yX7_level cX7_level 2 (some (.object "AsOneHouse$Level")) 1 := ⟨ao_Gm (ao_w4 (List.mem_of_getElem? (i := 234) (by decide +kernel))) rfl, ao_Gm (ao_w4 (List.mem_of_getElem? (i := 237) (by decide +kernel))) rfl, ao_Gm (ao_w1 (List.mem_of_getElem? (i := 10) (by decide +kernel))) rfl, by decide, by decide, by decide +kernel⟩
theorem lc_X2_217 : ao_cB RX2 217 yX3_wrote cX3_wrote 2 (some .boolean) 1 := ⟨ao_Gm (ao_w5 (List.mem_of_getElem? (i := 61) (by decide +kernel))) rfl, ao_Gm (ao_w5 (List.mem_of_getElem? (i := 64) (by decide +kernel))) rfl, ao_Gm (ao_w1 (List.mem_of_getElem? (i := 11) (by decide +kernel))) rfl, by decide, by decide, by decide +kernel⟩
theorem lc_X2_227 : ao_cB RX2 227 yX2_outermostWrong cX2_outermostWrong 5 (some .int) 1 := ⟨ao_Gm (ao_w5 (List.mem_of_getElem? (i := 69) (by decide +kernel))) rfl, ao_Gm (ao_w5 (List.mem_of_getElem? (i := 72) (by decide +kernel))) rfl, ao_Gm (ao_w1 (List.mem_of_getElem? (i := 5) (by decide +kernel))) rfl, by decide, by decide, by decide +kernel⟩
theorem lc_X2_230 : ao_cB RX2 230 yX2_restart cX2_restart 4 none 2 := ⟨ao_Gm (ao_w5 (List.mem_of_getElem? (i := 10) (by decide +kernel))) rfl, ao_Gm (ao_w5 (List.mem_of_getElem? (i := 13) (by decide +kernel))) rfl, ao_Gm (ao_w1 (List.mem_of_getElem? (i := 5) (by decide +kernel))) rfl, by decide, by decide, by decide +kernel⟩
theorem lc_X2_234 : ao_cB RX2 234 yX5_valueAt cX5_valueAt 5 (some .int) 2 := ⟨ao_Gm (ao_w5 (List.mem_of_getElem? (i := 77) (by decide +kernel))) rfl, ao_Gm (ao_w5 (List.mem_of_getElem? (i := 80) (by decide +kernel))) rfl, ao_Gm (ao_w1 (List.mem_of_getElem? (i := 6) (by decide +kernel))) rfl, by decide, by decide, by decide +kernel⟩
theorem lc_X2_238 : ao_cB RX2 238 yX5_change cX5_change 3 none 2 := ⟨ao_Gm (ao_w5 (List.mem_of_getElem? (i := 122) (by decide +kernel))) rfl, ao_Gm (ao_w4 (List.mem_of_getElem? (i := 198) (by decide +kernel))) rfl, ao_Gm (ao_w1 (List.mem_of_getElem? (i := 6) (by decide +kernel))) rfl, by decide, by decide, by decide +kernel⟩
theorem lc_X2_241 : ao_cB RX2 241 yX6_addWrite cX6_addWrite 3 none 2 := ⟨ao_Gm (ao_w5 (List.mem_of_getElem? (i := 123) (by decide +kernel))) rfl, ao_Gm (ao_w5 (List.mem_of_getElem? (i := 126) (by decide +kernel))) rfl, ao_Gm (ao_w1 (List.mem_of_getElem? (i := 9) (by decide +kernel))) rfl, by decide, by decide, by decide +kernel⟩
theorem lc_X2_244 : ao_cB RX2 244 yX3_addWrite cX3_addWrite 3 none 2 := ⟨ao_Gm (ao_w5 (List.mem_of_getElem? (i := 127) (by decide +kernel))) rfl, ao_Gm (ao_w5 (List.mem_of_getElem? (i := 130) (by decide +kernel))) rfl, ao_Gm (ao_w1 (List.mem_of_getElem? (i := 11) (by decide +kernel))) rfl, by decide, by decide, by decide +kernel⟩
theorem lc_X2_248 : ao_cB RX2 248 yX2_loserAbout cX2_loserAbout 4 (some .int) 2 := ⟨ao_Gm (ao_w5 (List.mem_of_getElem? (i := 110) (by decide +kernel))) rfl, ao_Gm (ao_w5 (List.mem_of_getElem? (i := 113) (by decide +kernel))) rfl, ao_Gm (ao_w1 (List.mem_of_getElem? (i := 5) (by decide +kernel))) rfl, by decide, by decide, by decide +kernel⟩
theorem lc_X2_251 : ao_cB RX2 251 yX5_isTakenByOther cX5_isTakenByOther 3 (some .boolean) 2 := ⟨ao_Gm (ao_w4 (List.mem_of_getElem? (i := 238) (by decide +kernel))) rfl, ao_Gm (ao_w5 (List.mem_of_getElem? (i := 1) (by decide +kernel))) rfl, ao_Gm (ao_w1 (List.mem_of_getElem? (i := 6) (by decide +kernel))) rfl, by decide, by decide, by decide +kernel⟩
theorem lc_X2_260 : ao_cB RX2 260 yX2_isWrong cX2_isWrong 5 (some .boolean) 3 := ⟨ao_Gm (ao_w5 (List.mem_of_getElem? (i := 73) (by decide +kernel))) rfl, ao_Gm (ao_w5 (List.mem_of_getElem? (i := 76) (by decide +kernel))) rfl, ao_Gm (ao_w1 (List.mem_of_getElem? (i := 5) (by decide +kernel))) rfl, by decide, by decide, by decide +kernel⟩
theorem lc_X2_273 : ao_cB RX2 273 yX2_takeBack cX2_takeBack 5 none 2 := ⟨ao_Gm (ao_w5 (List.mem_of_getElem? (i := 14) (by decide +kernel))) rfl, ao_Gm (ao_w5 (List.mem_of_getElem? (i := 17) (by decide +kernel))) rfl, ao_Gm (ao_w1 (List.mem_of_getElem? (i := 5) (by decide +kernel))) rfl, by decide, by decide, by decide +kernel⟩
theorem lc_X2_276 : ao_cB RX2 276 yX3_forgetReads cX3_forgetReads 1 none 0 := ⟨ao_Gm (ao_w5 (List.mem_of_getElem? (i := 35) (by decide +kernel))) rfl, ao_Gm (ao_w5 (List.mem_of_getElem? (i := 38) (by decide +kernel))) rfl, ao_Gm (ao_w1 (List.mem_of_getElem? (i := 11) (by decide +kernel))) rfl, by decide, by decide, by decide +kernel⟩
theorem lc_X2_283 : ao_cB RX2 283 yX5_release cX5_release 4 none 1 := ⟨ao_Gm (ao_w5 (List.mem_of_getElem? (i := 39) (by decide +kernel))) rfl, ao_Gm (ao_w5 (List.mem_of_getElem? (i := 42) (by decide +kernel))) rfl, ao_Gm (ao_w1 (List.mem_of_getElem? (i := 6) (by decide +kernel))) rfl, by decide, by decide, by decide +kernel⟩
theorem lc_X2_294 : ao_cB RX2 294 yX2_giveBack cX2_giveBack 3 none 1 := ⟨ao_Gm (ao_w5 (List.mem_of_getElem? (i := 22) (by decide +kernel))) rfl, ao_Gm (ao_w5 (List.mem_of_getElem? (i := 25) (by decide +kernel))) rfl, ao_Gm (ao_w1 (List.mem_of_getElem? (i := 5) (by decide +kernel))) rfl, by decide, by decide, by decide +kernel⟩
theorem lc_X2_298 : ao_cB RX2 298 yX3_forgetWrites cX3_forgetWrites 1 none 0 := ⟨ao_Gm (ao_w5 (List.mem_of_getElem? (i := 26) (by decide +kernel))) rfl, ao_Gm (ao_w5 (List.mem_of_getElem? (i := 29) (by decide +kernel))) rfl, ao_Gm (ao_w1 (List.mem_of_getElem? (i := 11) (by decide +kernel))) rfl, by decide, by decide, by decide +kernel⟩
theorem lc_X2_301 : ao_cB RX2 301 yX7_setBackTo cX7_setBackTo 2 none 1 := ⟨ao_Gm (ao_w5 (List.mem_of_getElem? (i := 30) (by decide +kernel))) rfl, ao_Gm (ao_w5 (List.mem_of_getElem? (i := 33) (by decide +kernel))) rfl, ao_Gm (ao_w1 (List.mem_of_getElem? (i := 10) (by decide +kernel))) rfl, by decide, by decide, by decide +kernel⟩
theorem lc_X2_307 : ao_cB RX2 307 yX3_takeReadsOf cX3_takeReadsOf 3 none 1 := ⟨ao_Gm (ao_w5 (List.mem_of_getElem? (i := 165) (by decide +kernel))) rfl, ao_Gm (ao_w5 (List.mem_of_getElem? (i := 168) (by decide +kernel))) rfl, ao_Gm (ao_w1 (List.mem_of_getElem? (i := 11) (by decide +kernel))) rfl, by decide, by decide, by decide +kernel⟩
theorem lc_X2_310 : ao_cB RX2 310 yX2_foldReads cX2_foldReads 3 none 2 := ⟨ao_Gm (ao_w5 (List.mem_of_getElem? (i := 199) (by decide +kernel))) rfl, ao_Gm (ao_w5 (List.mem_of_getElem? (i := 201) (by decide +kernel))) rfl, ao_Gm (ao_w1 (List.mem_of_getElem? (i := 5) (by decide +kernel))) rfl, by decide, by decide, by decide +kernel⟩
theorem lc_X2_313 : ao_cB RX2 313 yX7_enterLevel cX7_enterLevel 3 none 1 := ⟨ao_Gm (ao_w5 (List.mem_of_getElem? (i := 147) (by decide +kernel))) rfl, ao_Gm (ao_w5 (List.mem_of_getElem? (i := 150) (by decide +kernel))) rfl, ao_Gm (ao_w1 (List.mem_of_getElem? (i := 10) (by decide +kernel))) rfl, by decide, by decide, by decide +kernel⟩
theorem lc_X2_316 : ao_cB RX2 316 yX2_isBusy cX2_isBusy 2 (some .boolean) 1 := ⟨ao_Gm (ao_w5 (List.mem_of_getElem? (i := 2) (by decide +kernel))) rfl, ao_Gm (ao_w5 (List.mem_of_getElem? (i := 5) (by decide +kernel))) rfl, ao_Gm (ao_w1 (List.mem_of_getElem? (i := 5) (by decide +kernel))) rfl, by decide, by decide, by decide +kernel⟩
theorem lc_X2_323 : ao_cB RX2 323 yX1_secondAt cX1_secondAt 2 (some .int) 1 := ⟨ao_Gm (ao_w5 (List.mem_of_getElem? (i := 157) (by decide +kernel))) rfl, ao_Gm (ao_w5 (List.mem_of_getElem? (i := 160) (by decide +kernel))) rfl, ao_Gm (ao_w1 (List.mem_of_getElem? (i := 4) (by decide +kernel))) rfl, by decide, by decide, by decide +kernel⟩
theorem lc_X2_326 : ao_cB RX2 326 yX2_joinAround cX2_joinAround 5 none 1 := ⟨ao_Gm (ao_w5 (List.mem_of_getElem? (i := 161) (by decide +kernel))) rfl, ao_Gm (ao_w5 (List.mem_of_getElem? (i := 164) (by decide +kernel))) rfl, ao_Gm (ao_w1 (List.mem_of_getElem? (i := 5) (by decide +kernel))) rfl, by decide, by decide, by decide +kernel⟩
theorem lc_X2_330 : ao_cB RX2 330 yX2_mayEnd cX2_mayEnd 5 (some .boolean) 1 := ⟨ao_Gm (ao_w5 (List.mem_of_getElem? (i := 171) (by decide +kernel))) rfl, ao_Gm (ao_w5 (List.mem_of_getElem? (i := 174) (by decide +kernel))) rfl, ao_Gm (ao_w1 (List.mem_of_getElem? (i := 5) (by decide +kernel))) rfl, by decide, by decide, by decide +kernel⟩
theorem lc_X2_333 : ao_cB RX2 333 yX2_finish cX2_finish 4 none 1 := ⟨ao_Gm (ao_w5 (List.mem_of_getElem? (i := 175) (by decide +kernel))) rfl, ao_Gm (ao_w5 (List.mem_of_getElem? (i := 178) (by decide +kernel))) rfl, ao_Gm (ao_w1 (List.mem_of_getElem? (i := 5) (by decide +kernel))) rfl, by decide, by decide, by decide +kernel⟩
theorem lc_X2_336 : ao_cB RX2 336 yX2_writeRecord cX2_writeRecord 4 none 2 := ⟨ao_Gm (ao_w5 (List.mem_of_getElem? (i := 179) (by decide +kernel))) rfl, ao_Gm (ao_w5 (List.mem_of_getElem? (i := 182) (by decide +kernel))) rfl, ao_Gm (ao_w1 (List.mem_of_getElem? (i := 5) (by decide +kernel))) rfl, by decide, by decide, by decide +kernel⟩
theorem lc_X2_346 : ao_cB RX2 346 yX7_levelWithOr cX7_levelWithOr 2 (some .int) 0 := ⟨ao_Gm (ao_w5 (List.mem_of_getElem? (i := 187) (by decide +kernel))) rfl, ao_Gm (ao_w5 (List.mem_of_getElem? (i := 190) (by decide +kernel))) rfl, ao_Gm (ao_w1 (List.mem_of_getElem? (i := 10) (by decide +kernel))) rfl, by decide, by decide, by decide +kernel⟩
theorem lc_X2_349 : ao_cB RX2 349 yX2_fallAsleep cX2_fallAsleep 2 (some .int) 1 := ⟨ao_Gm (ao_w5 (List.mem_of_getElem? (i := 195) (by decide +kernel))) rfl, ao_Gm (ao_w5 (List.mem_of_getElem? (i := 198) (by decide +kernel))) rfl, ao_Gm (ao_w1 (List.mem_of_getElem? (i := 5) (by decide +kernel))) rfl, by decide, by decide, by decide +kernel⟩
theorem lc_X2_352 : ao_cB RX2 352 yX1_firstAt cX1_firstAt 2 (some .int) 1 := ⟨ao_Gm (ao_w5 (List.mem_of_getElem? (i := 202) (by decide +kernel))) rfl, ao_Gm (ao_w5 (List.mem_of_getElem? (i := 194) (by decide +kernel))) rfl, ao_Gm (ao_w1 (List.mem_of_getElem? (i := 4) (by decide +kernel))) rfl, by decide, by decide, by decide +kernel⟩
theorem lc_X2_355 : ao_cB RX2 355 yX2_hasNews cX2_hasNews 5 (some .boolean) 1 := ⟨ao_Gm (ao_w4 (List.mem_of_getElem? (i := 230) (by decide +kernel))) rfl, ao_Gm (ao_w4 (List.mem_of_getElem? (i := 233) (by decide +kernel))) rfl, ao_Gm (ao_w1 (List.mem_of_getElem? (i := 5) (by decide +kernel))) rfl, by decide, by decide, by decide +kernel⟩
theorem lc_X2_358 : ao_cB RX2 358 yX2_leaveFrom cX2_leaveFrom 3 none 2 := ⟨ao_Gm (ao_w5 (List.mem_of_getElem? (i := 207) (by decide +kernel))) rfl, ao_Gm (ao_w5 (List.mem_of_getElem? (i := 210) (by decide +kernel))) rfl, ao_Gm (ao_w1 (List.mem_of_getElem? (i := 5) (by decide +kernel))) rfl, by decide, by decide, by decide +kernel⟩
theorem lc_X2_367 : ao_cB RX2 367 yX7_tryAtOf cX7_tryAtOf 2 (some .int) 1 := ⟨ao_Gm (ao_w5 (List.mem_of_getElem? (i := 215) (by decide +kernel))) rfl, ao_Gm (ao_w5 (List.mem_of_getElem? (i := 218) (by decide +kernel))) rfl, ao_Gm (ao_w1 (List.mem_of_getElem? (i := 10) (by decide +kernel))) rfl, by decide, by decide, by decide +kernel⟩
theorem lc_X2_370 : ao_cB RX2 370 yX7_tryDepthOf cX7_tryDepthOf 2 (some .int) 1 := ⟨ao_Gm (ao_w5 (List.mem_of_getElem? (i := 219) (by decide +kernel))) rfl, ao_Gm (ao_w5 (List.mem_of_getElem? (i := 222) (by decide +kernel))) rfl, ao_Gm (ao_w1 (List.mem_of_getElem? (i := 10) (by decide +kernel))) rfl, by decide, by decide, by decide +kernel⟩
theorem lc_X3_37 : ao_cB RX3 37 yX3_addRead cX3_addRead 4 none 3 := ⟨ao_Gm (ao_w5 (List.mem_of_getElem? (i := 169) (by decide +kernel))) rfl, ao_Gm (ao_w5 (List.mem_of_getElem? (i := 89) (by decide +kernel))) rfl, ao_Gm (ao_w1 (List.mem_of_getElem? (i := 11) (by decide +kernel))) rfl, by decide, by decide, by decide +kernel⟩
theorem lc_X3_41 : ao_cB RX3 41 yX3_forgetReads cX3_forgetReads 1 none 0 := ⟨ao_Gm (ao_w5 (List.mem_of_getElem? (i := 170) (by decide +kernel))) rfl, ao_Gm (ao_w5 (List.mem_of_getElem? (i := 38) (by decide +kernel))) rfl, ao_Gm (ao_w1 (List.mem_of_getElem? (i := 11) (by decide +kernel))) rfl, by decide, by decide, by decide +kernel⟩
theorem lc_X4_45 : ao_cB RX4 45 yX4_broken cX4_broken 1 (some .boolean) 0 := ⟨ao_Gm (ao_w4 (List.mem_of_getElem? (i := 78) (by decide +kernel))) rfl, ao_Gm (ao_w4 (List.mem_of_getElem? (i := 81) (by decide +kernel))) rfl, ao_Gm (ao_w1 (List.mem_of_getElem? (i := 2) (by decide +kernel))) rfl, by decide, by decide, by decide +kernel⟩
theorem lc_X4_52 : ao_cB RX4 52 yX9_advance cX9_advance 1 none 0 := ⟨ao_Gm (ao_w4 (List.mem_of_getElem? (i := 86) (by decide +kernel))) rfl, ao_Gm (ao_w4 (List.mem_of_getElem? (i := 69) (by decide +kernel))) rfl, ao_Gm (ao_w1 (List.mem_of_getElem? (i := 3) (by decide +kernel))) rfl, by decide, by decide, by decide +kernel⟩
theorem lc_X4_55 : ao_cB RX4 55 yX4_expect cX4_expect 2 (some .boolean) 1 := ⟨ao_Gm (ao_w4 (List.mem_of_getElem? (i := 87) (by decide +kernel))) rfl, ao_Gm (ao_w4 (List.mem_of_getElem? (i := 90) (by decide +kernel))) rfl, ao_Gm (ao_w1 (List.mem_of_getElem? (i := 2) (by decide +kernel))) rfl, by decide, by decide, by decide +kernel⟩
theorem lc_X4_97 : ao_cB RX4 97 yX1_add cX1_add 4 (some .int) 2 := ⟨ao_Gm (ao_w4 (List.mem_of_getElem? (i := 111) (by decide +kernel))) rfl, ao_Gm (ao_w4 (List.mem_of_getElem? (i := 114) (by decide +kernel))) rfl, ao_Gm (ao_w1 (List.mem_of_getElem? (i := 4) (by decide +kernel))) rfl, by decide, by decide, by decide +kernel⟩
theorem lc_X5_40 : ao_cB RX5 40 yJ7_fill_53178 cJ7_fill_53178 4 none 2 := ⟨ao_Gm (ao_w1 (List.mem_of_getElem? (i := 144) (by decide +kernel))) rfl, ao_Gm (ao_w1 (List.mem_of_getElem? (i := 146) (by decide +kernel))) rfl, ao_Gm (ao_w1 (List.mem_of_getElem? (i := 7) (by decide +kernel))) rfl, by decide, by decide, by decide +kernel⟩
theorem lc_X5_53 : ao_cB RX5 53 yJ7_copyOf_59c91 cJ7_copyOf_59c91 3 (some (.array .int)) 2 := ⟨ao_Gm (ao_w4 (List.mem_of_getElem? (i := 200) (by decide +kernel))) rfl, ao_Gm (ao_w4 (List.mem_of_getElem? (i := 202) (by decide +kernel))) rfl, ao_Gm (ao_w1 (List.mem_of_getElem? (i := 7) (by decide +kernel))) rfl, by decide, by decide, by decide +kernel⟩
theorem lc_X5_57 : ao_cB RX5 57 yX5_change cX5_change 3 none 2 := ⟨ao_Gm (ao_w5 (List.mem_of_getElem? (i := 43) (by decide +kernel))) rfl, ao_Gm (ao_w4 (List.mem_of_getElem? (i := 198) (by decide +kernel))) rfl, ao_Gm (ao_w1 (List.mem_of_getElem? (i := 6) (by decide +kernel))) rfl, by decide, by decide, by decide +kernel⟩
theorem lc_X6_49 : ao_cB RX6 49 yX6_note cX6_note 8 none 5 := ⟨ao_Gm (ao_w5 (List.mem_of_getElem? (i := 98) (by decide +kernel))) rfl, ao_Gm (ao_w5 (List.mem_of_getElem? (i := 101) (by decide +kernel))) rfl, ao_Gm (ao_w1 (List.mem_of_getElem? (i := 9) (by decide +kernel))) rfl, by decide, by decide, by decide +kernel⟩
theorem lc_X7_56 : ao_cB RX7 56 yJ7_fill_53178 cJ7_fill_53178 4 none 2 := ⟨ao_Gm (ao_w3 (List.mem_of_getElem? (i := 158) (by decide +kernel))) rfl, ao_Gm (ao_w1 (List.mem_of_getElem? (i := 146) (by decide +kernel))) rfl, ao_Gm (ao_w1 (List.mem_of_getElem? (i := 7) (by decide +kernel))) rfl, by decide, by decide, by decide +kernel⟩
theorem lc_X7_89 : ao_cB RX7 89 yX7_level cX7_level 2 (some (.object "AsOneHouse$Level")) 1 := ⟨ao_Gm (ao_w5 (List.mem_of_getElem? (i := 85) (by decide +kernel))) rfl, ao_Gm (ao_w4 (List.mem_of_getElem? (i := 237) (by decide +kernel))) rfl, ao_Gm (ao_w1 (List.mem_of_getElem? (i := 10) (by decide +kernel))) rfl, by decide, by decide, by decide +kernel⟩
theorem lc_X7_93 : ao_cB RX7 93 yX3_forgetReads cX3_forgetReads 1 none 0 := ⟨ao_Gm (ao_w5 (List.mem_of_getElem? (i := 151) (by decide +kernel))) rfl, ao_Gm (ao_w5 (List.mem_of_getElem? (i := 38) (by decide +kernel))) rfl, ao_Gm (ao_w1 (List.mem_of_getElem? (i := 11) (by decide +kernel))) rfl, by decide, by decide, by decide +kernel⟩
theorem lc_X7_96 : ao_cB RX7 96 yX3_forgetWrites cX3_forgetWrites 1 none 0 := ⟨ao_Gm (ao_w5 (List.mem_of_getElem? (i := 152) (by decide +kernel))) rfl, ao_Gm (ao_w5 (List.mem_of_getElem? (i := 29) (by decide +kernel))) rfl, ao_Gm (ao_w1 (List.mem_of_getElem? (i := 11) (by decide +kernel))) rfl, by decide, by decide, by decide +kernel⟩
theorem lc_X7_119 : ao_cB RX7 119 yX1_firstAt cX1_firstAt 2 (some .int) 1 := ⟨ao_Gm (ao_w5 (List.mem_of_getElem? (i := 191) (by decide +kernel))) rfl, ao_Gm (ao_w5 (List.mem_of_getElem? (i := 194) (by decide +kernel))) rfl, ao_Gm (ao_w1 (List.mem_of_getElem? (i := 4) (by decide +kernel))) rfl, by decide, by decide, by decide +kernel⟩
theorem lc_X7_123 : ao_cB RX7 123 yX7_readsOfAll cX7_readsOfAll 3 (some .int) 0 := ⟨ao_Gm (ao_w6 (List.mem_of_getElem? (i := 60) (by decide +kernel))) rfl, ao_Gm (ao_w6 (List.mem_of_getElem? (i := 63) (by decide +kernel))) rfl, ao_Gm (ao_w1 (List.mem_of_getElem? (i := 10) (by decide +kernel))) rfl, by decide, by decide, by decide +kernel⟩
theorem lc_X7_127 : ao_cB RX7 127 yX7_writesOfAll cX7_writesOfAll 3 (some .int) 0 := ⟨ao_Gm (ao_w6 (List.mem_of_getElem? (i := 64) (by decide +kernel))) rfl, ao_Gm (ao_w6 (List.mem_of_getElem? (i := 67) (by decide +kernel))) rfl, ao_Gm (ao_w1 (List.mem_of_getElem? (i := 10) (by decide +kernel))) rfl, by decide, by decide, by decide +kernel⟩
theorem lc_X7_130 : ao_cB RX7 130 yJ6_bitCount_0f7a4 cJ6_bitCount_0f7a4 1 (some .int) 1 := ⟨ao_Gm (ao_w6 (List.mem_of_getElem? (i := 68) (by decide +kernel))) rfl, ao_Gm (ao_w6 (List.mem_of_getElem? (i := 70) (by decide +kernel))) rfl, ao_Gm (ao_w1 (List.mem_of_getElem? (i := 28) (by decide +kernel))) rfl, by decide, by decide, by decide +kernel⟩
theorem lc_X9_53 : ao_cB RX9 53 yX9_byteAt cX9_byteAt 2 (some .int) 1 := ⟨ao_Gm (ao_w3 (List.mem_of_getElem? (i := 205) (by decide +kernel))) rfl, ao_Gm (ao_w3 (List.mem_of_getElem? (i := 208) (by decide +kernel))) rfl, ao_Gm (ao_w1 (List.mem_of_getElem? (i := 3) (by decide +kernel))) rfl, by decide, by decide, by decide +kernel⟩
theorem lc_X9_68 : ao_cB RX9 68 yX9_isDigit cX9_isDigit 1 (some .boolean) 1 := ⟨ao_Gm (ao_w4 (List.mem_of_getElem? (i := 50) (by decide +kernel))) rfl, ao_Gm (ao_w4 (List.mem_of_getElem? (i := 52) (by decide +kernel))) rfl, ao_Gm (ao_w1 (List.mem_of_getElem? (i := 3) (by decide +kernel))) rfl, by decide, by decide, by decide +kernel⟩
theorem lc_X9_77 : ao_cB RX9 77 yX9_isSmall cX9_isSmall 1 (some .boolean) 1 := ⟨ao_Gm (ao_w3 (List.mem_of_getElem? (i := 215) (by decide +kernel))) rfl, ao_Gm (ao_w3 (List.mem_of_getElem? (i := 217) (by decide +kernel))) rfl, ao_Gm (ao_w1 (List.mem_of_getElem? (i := 3) (by decide +kernel))) rfl, by decide, by decide, by decide +kernel⟩
theorem lc_X9_120 : ao_cB RX9 120 yX9_equalsKind cX9_equalsKind 1 (some .int) 0 := ⟨ao_Gm (ao_w4 (List.mem_of_getElem? (i := 62) (by decide +kernel))) rfl, ao_Gm (ao_w4 (List.mem_of_getElem? (i := 65) (by decide +kernel))) rfl, ao_Gm (ao_w1 (List.mem_of_getElem? (i := 3) (by decide +kernel))) rfl, by decide, by decide, by decide +kernel⟩
theorem lc_X12_138 : ao_cB RX12 138 yX12_longer cX12_longer 3 (some (.array .int)) 1 := ⟨ao_Gm (ao_w8 (List.mem_of_getElem? (i := 72) (by decide +kernel))) rfl, ao_Gm (ao_w8 (List.mem_of_getElem? (i := 74) (by decide +kernel))) rfl, ao_Gm (ao_w1 (List.mem_of_getElem? (i := 13) (by decide +kernel))) rfl, by decide, by decide, by decide +kernel⟩
theorem lc_X12_160 : ao_cB RX12 160 yX12_remember cX12_remember 2 none 1 := ⟨ao_Gm (ao_w8 (List.mem_of_getElem? (i := 68) (by decide +kernel))) rfl, ao_Gm (ao_w8 (List.mem_of_getElem? (i := 71) (by decide +kernel))) rfl, ao_Gm (ao_w1 (List.mem_of_getElem? (i := 13) (by decide +kernel))) rfl, by decide, by decide, by decide +kernel⟩
theorem lc_X12_329 : ao_cB RX12 329 yX12_begin cX12_begin 3 none 1 := ⟨ao_Gm (ao_w6 (List.mem_of_getElem? (i := 145) (by decide +kernel))) rfl, ao_Gm (ao_w6 (List.mem_of_getElem? (i := 148) (by decide +kernel))) rfl, ao_Gm (ao_w1 (List.mem_of_getElem? (i := 13) (by decide +kernel))) rfl, by decide, by decide, by decide +kernel⟩
theorem lc_X12_350 : ao_cB RX12 350 yX12_reset cX12_reset 3 none 1 := ⟨ao_Gm (ao_w6 (List.mem_of_getElem? (i := 149) (by decide +kernel))) rfl, ao_Gm (ao_w6 (List.mem_of_getElem? (i := 152) (by decide +kernel))) rfl, ao_Gm (ao_w1 (List.mem_of_getElem? (i := 13) (by decide +kernel))) rfl, by decide, by decide, by decide +kernel⟩
theorem lc_X12_353 : ao_cB RX12 353 yX12_clearLevel cX12_clearLevel 4 none 2 := ⟨ao_Gm (ao_w6 (List.mem_of_getElem? (i := 153) (by decide +kernel))) rfl, ao_Gm (ao_w6 (List.mem_of_getElem? (i := 156) (by decide +kernel))) rfl, ao_Gm (ao_w1 (List.mem_of_getElem? (i := 13) (by decide +kernel))) rfl, by decide, by decide, by decide +kernel⟩
theorem lc_X12_357 : ao_cB RX12 357 yX12_cell cX12_cell 4 (some .int) 3 := ⟨ao_Gm (ao_w6 (List.mem_of_getElem? (i := 157) (by decide +kernel))) rfl, ao_Gm (ao_w6 (List.mem_of_getElem? (i := 160) (by decide +kernel))) rfl, ao_Gm (ao_w1 (List.mem_of_getElem? (i := 13) (by decide +kernel))) rfl, by decide, by decide, by decide +kernel⟩
theorem lc_X12_360 : ao_cB RX12 360 yX12_level cX12_level 3 (some .int) 2 := ⟨ao_Gm (ao_w6 (List.mem_of_getElem? (i := 161) (by decide +kernel))) rfl, ao_Gm (ao_w6 (List.mem_of_getElem? (i := 164) (by decide +kernel))) rfl, ao_Gm (ao_w1 (List.mem_of_getElem? (i := 13) (by decide +kernel))) rfl, by decide, by decide, by decide +kernel⟩
theorem lc_X12_363 : ao_cB RX12 363 yX12_keepRegisters cX12_keepRegisters 4 none 2 := ⟨ao_Gm (ao_w8 (List.mem_of_getElem? (i := 199) (by decide +kernel))) rfl, ao_Gm (ao_w8 (List.mem_of_getElem? (i := 202) (by decide +kernel))) rfl, ao_Gm (ao_w1 (List.mem_of_getElem? (i := 13) (by decide +kernel))) rfl, by decide, by decide, by decide +kernel⟩
theorem lc_X12_369 : ao_cB RX12 369 yX12_isEager cX12_isEager 1 (some .boolean) 0 := ⟨ao_Gm (ao_w8 (List.mem_of_getElem? (i := 87) (by decide +kernel))) rfl, ao_Gm (ao_w8 (List.mem_of_getElem? (i := 90) (by decide +kernel))) rfl, ao_Gm (ao_w1 (List.mem_of_getElem? (i := 13) (by decide +kernel))) rfl, by decide, by decide, by decide +kernel⟩
theorem lc_X12_373 : ao_cB RX12 373 yX12_takeBack cX12_takeBack 5 none 2 := ⟨ao_Gm (ao_w8 (List.mem_of_getElem? (i := 103) (by decide +kernel))) rfl, ao_Gm (ao_w8 (List.mem_of_getElem? (i := 106) (by decide +kernel))) rfl, ao_Gm (ao_w1 (List.mem_of_getElem? (i := 13) (by decide +kernel))) rfl, by decide, by decide, by decide +kernel⟩
theorem lc_X12_376 : ao_cB RX12 376 yX12_giveReads cX12_giveReads 6 none 2 := ⟨ao_Gm (ao_w8 (List.mem_of_getElem? (i := 107) (by decide +kernel))) rfl, ao_Gm (ao_w8 (List.mem_of_getElem? (i := 110) (by decide +kernel))) rfl, ao_Gm (ao_w1 (List.mem_of_getElem? (i := 13) (by decide +kernel))) rfl, by decide, by decide, by decide +kernel⟩
theorem lc_X12_379 : ao_cB RX12 379 yX12_dropReads cX12_dropReads 4 none 2 := ⟨ao_Gm (ao_w8 (List.mem_of_getElem? (i := 111) (by decide +kernel))) rfl, ao_Gm (ao_w8 (List.mem_of_getElem? (i := 114) (by decide +kernel))) rfl, ao_Gm (ao_w1 (List.mem_of_getElem? (i := 13) (by decide +kernel))) rfl, by decide, by decide, by decide +kernel⟩
theorem lc_X12_382 : ao_cB RX12 382 yX12_takeBackTo cX12_takeBackTo 5 none 3 := ⟨ao_Gm (ao_w8 (List.mem_of_getElem? (i := 99) (by decide +kernel))) rfl, ao_Gm (ao_w8 (List.mem_of_getElem? (i := 102) (by decide +kernel))) rfl, ao_Gm (ao_w1 (List.mem_of_getElem? (i := 13) (by decide +kernel))) rfl, by decide, by decide, by decide +kernel⟩
theorem lc_X12_386 : ao_cB RX12 386 yX12_free cX12_free 4 none 1 := ⟨ao_Gm (ao_w8 (List.mem_of_getElem? (i := 115) (by decide +kernel))) rfl, ao_Gm (ao_w8 (List.mem_of_getElem? (i := 118) (by decide +kernel))) rfl, ao_Gm (ao_w1 (List.mem_of_getElem? (i := 13) (by decide +kernel))) rfl, by decide, by decide, by decide +kernel⟩
theorem lc_X12_389 : ao_cB RX12 389 yX12_isWrong cX12_isWrong 5 (some .boolean) 3 := ⟨ao_Gm (ao_w8 (List.mem_of_getElem? (i := 147) (by decide +kernel))) rfl, ao_Gm (ao_w8 (List.mem_of_getElem? (i := 150) (by decide +kernel))) rfl, ao_Gm (ao_w1 (List.mem_of_getElem? (i := 13) (by decide +kernel))) rfl, by decide, by decide, by decide +kernel⟩
theorem lc_X12_393 : ao_cB RX12 393 yX12_wrongLevel cX12_wrongLevel 4 (some .int) 1 := ⟨ao_Gm (ao_w8 (List.mem_of_getElem? (i := 143) (by decide +kernel))) rfl, ao_Gm (ao_w8 (List.mem_of_getElem? (i := 146) (by decide +kernel))) rfl, ao_Gm (ao_w1 (List.mem_of_getElem? (i := 13) (by decide +kernel))) rfl, by decide, by decide, by decide +kernel⟩
theorem lc_X12_396 : ao_cB RX12 396 yX12_restart cX12_restart 4 none 2 := ⟨ao_Gm (ao_w8 (List.mem_of_getElem? (i := 95) (by decide +kernel))) rfl, ao_Gm (ao_w8 (List.mem_of_getElem? (i := 98) (by decide +kernel))) rfl, ao_Gm (ao_w1 (List.mem_of_getElem? (i := 13) (by decide +kernel))) rfl, by decide, by decide, by decide +kernel⟩
theorem lc_X12_399 : ao_cB RX12 399 yX12_conflict cX12_conflict 3 none 1 := ⟨ao_Gm (ao_w8 (List.mem_of_getElem? (i := 139) (by decide +kernel))) rfl, ao_Gm (ao_w8 (List.mem_of_getElem? (i := 142) (by decide +kernel))) rfl, ao_Gm (ao_w1 (List.mem_of_getElem? (i := 13) (by decide +kernel))) rfl, by decide, by decide, by decide +kernel⟩
theorem lc_X12_402 : ao_cB RX12 402 yX12_writtenLevel cX12_writtenLevel 4 (some .int) 2 := ⟨ao_Gm (ao_w8 (List.mem_of_getElem? (i := 135) (by decide +kernel))) rfl, ao_Gm (ao_w8 (List.mem_of_getElem? (i := 138) (by decide +kernel))) rfl, ao_Gm (ao_w1 (List.mem_of_getElem? (i := 13) (by decide +kernel))) rfl, by decide, by decide, by decide +kernel⟩
theorem lc_X12_408 : ao_cB RX12 408 yX12_goesOn cX12_goesOn 2 (some .boolean) 1 := ⟨ao_Gm (ao_w8 (List.mem_of_getElem? (i := 151) (by decide +kernel))) rfl, ao_Gm (ao_w8 (List.mem_of_getElem? (i := 154) (by decide +kernel))) rfl, ao_Gm (ao_w1 (List.mem_of_getElem? (i := 13) (by decide +kernel))) rfl, by decide, by decide, by decide +kernel⟩
theorem lc_X12_411 : ao_cB RX12 411 yX12_wins cX12_wins 4 (some .boolean) 2 := ⟨ao_Gm (ao_w8 (List.mem_of_getElem? (i := 155) (by decide +kernel))) rfl, ao_Gm (ao_w8 (List.mem_of_getElem? (i := 158) (by decide +kernel))) rfl, ao_Gm (ao_w1 (List.mem_of_getElem? (i := 13) (by decide +kernel))) rfl, by decide, by decide, by decide +kernel⟩
theorem lc_X12_415 : ao_cB RX12 415 yX12_past cX12_past 4 (some .int) 2 := ⟨ao_Gm (ao_w8 (List.mem_of_getElem? (i := 159) (by decide +kernel))) rfl, ao_Gm (ao_w8 (List.mem_of_getElem? (i := 162) (by decide +kernel))) rfl, ao_Gm (ao_w1 (List.mem_of_getElem? (i := 13) (by decide +kernel))) rfl, by decide, by decide, by decide +kernel⟩
theorem lc_X12_418 : ao_cB RX12 418 yX12_addRead cX12_addRead 5 none 3 := ⟨ao_Gm (ao_w8 (List.mem_of_getElem? (i := 163) (by decide +kernel))) rfl, ao_Gm (ao_w8 (List.mem_of_getElem? (i := 166) (by decide +kernel))) rfl, ao_Gm (ao_w1 (List.mem_of_getElem? (i := 13) (by decide +kernel))) rfl, by decide, by decide, by decide +kernel⟩
theorem lc_X12_422 : ao_cB RX12 422 yX12_hasWrites cX12_hasWrites 3 (some .boolean) 1 := ⟨ao_Gm (ao_w8 (List.mem_of_getElem? (i := 211) (by decide +kernel))) rfl, ao_Gm (ao_w8 (List.mem_of_getElem? (i := 214) (by decide +kernel))) rfl, ao_Gm (ao_w1 (List.mem_of_getElem? (i := 13) (by decide +kernel))) rfl, by decide, by decide, by decide +kernel⟩
theorem lc_X12_425 : ao_cB RX12 425 yX12_newRecord cX12_newRecord 4 (some .int) 2 := ⟨ao_Gm (ao_w8 (List.mem_of_getElem? (i := 167) (by decide +kernel))) rfl, ao_Gm (ao_w8 (List.mem_of_getElem? (i := 170) (by decide +kernel))) rfl, ao_Gm (ao_w1 (List.mem_of_getElem? (i := 13) (by decide +kernel))) rfl, by decide, by decide, by decide +kernel⟩
theorem lc_X12_428 : ao_cB RX12 428 yX12_say cX12_say 3 none 2 := ⟨ao_Gm (ao_w8 (List.mem_of_getElem? (i := 183) (by decide +kernel))) rfl, ao_Gm (ao_w8 (List.mem_of_getElem? (i := 186) (by decide +kernel))) rfl, ao_Gm (ao_w1 (List.mem_of_getElem? (i := 13) (by decide +kernel))) rfl, by decide, by decide, by decide +kernel⟩
theorem lc_X12_431 : ao_cB RX12 431 yX12_isBusy cX12_isBusy 3 (some .boolean) 1 := ⟨ao_Gm (ao_w8 (List.mem_of_getElem? (i := 91) (by decide +kernel))) rfl, ao_Gm (ao_w8 (List.mem_of_getElem? (i := 94) (by decide +kernel))) rfl, ao_Gm (ao_w1 (List.mem_of_getElem? (i := 13) (by decide +kernel))) rfl, by decide, by decide, by decide +kernel⟩
theorem lc_X12_434 : ao_cB RX12 434 yX12_openLevel cX12_openLevel 6 none 3 := ⟨ao_Gm (ao_w8 (List.mem_of_getElem? (i := 195) (by decide +kernel))) rfl, ao_Gm (ao_w8 (List.mem_of_getElem? (i := 198) (by decide +kernel))) rfl, ao_Gm (ao_w1 (List.mem_of_getElem? (i := 13) (by decide +kernel))) rfl, by decide, by decide, by decide +kernel⟩
theorem lc_X12_437 : ao_cB RX12 437 yX12_mayEnd cX12_mayEnd 6 (some .boolean) 1 := ⟨ao_Gm (ao_w8 (List.mem_of_getElem? (i := 207) (by decide +kernel))) rfl, ao_Gm (ao_w8 (List.mem_of_getElem? (i := 210) (by decide +kernel))) rfl, ao_Gm (ao_w1 (List.mem_of_getElem? (i := 13) (by decide +kernel))) rfl, by decide, by decide, by decide +kernel⟩
theorem lc_X12_440 : ao_cB RX12 440 yX12_done cX12_done 5 none 1 := ⟨ao_Gm (ao_w8 (List.mem_of_getElem? (i := 215) (by decide +kernel))) rfl, ao_Gm (ao_w8 (List.mem_of_getElem? (i := 218) (by decide +kernel))) rfl, ao_Gm (ao_w1 (List.mem_of_getElem? (i := 13) (by decide +kernel))) rfl, by decide, by decide, by decide +kernel⟩
theorem lc_X12_443 : ao_cB RX12 443 yX12_endPart cX12_endPart 6 none 1 := ⟨ao_Gm (ao_w8 (List.mem_of_getElem? (i := 219) (by decide +kernel))) rfl, ao_Gm (ao_w8 (List.mem_of_getElem? (i := 222) (by decide +kernel))) rfl, ao_Gm (ao_w1 (List.mem_of_getElem? (i := 13) (by decide +kernel))) rfl, by decide, by decide, by decide +kernel⟩
theorem lc_X12_446 : ao_cB RX12 446 yX12_leave cX12_leave 2 none 1 := ⟨ao_Gm (ao_w8 (List.mem_of_getElem? (i := 231) (by decide +kernel))) rfl, ao_Gm (ao_w8 (List.mem_of_getElem? (i := 234) (by decide +kernel))) rfl, ao_Gm (ao_w1 (List.mem_of_getElem? (i := 13) (by decide +kernel))) rfl, by decide, by decide, by decide +kernel⟩
theorem lc_X12_449 : ao_cB RX12 449 yX12_push cX12_push 3 none 2 := ⟨ao_Gm (ao_w8 (List.mem_of_getElem? (i := 123) (by decide +kernel))) rfl, ao_Gm (ao_w8 (List.mem_of_getElem? (i := 126) (by decide +kernel))) rfl, ao_Gm (ao_w1 (List.mem_of_getElem? (i := 13) (by decide +kernel))) rfl, by decide, by decide, by decide +kernel⟩
theorem lc_X12_452 : ao_cB RX12 452 yX12_doLook cX12_doLook 4 (some .int) 2 := ⟨ao_Gm (ao_w8 (List.mem_of_getElem? (i := 127) (by decide +kernel))) rfl, ao_Gm (ao_w8 (List.mem_of_getElem? (i := 130) (by decide +kernel))) rfl, ao_Gm (ao_w1 (List.mem_of_getElem? (i := 13) (by decide +kernel))) rfl, by decide, by decide, by decide +kernel⟩
theorem lc_X12_455 : ao_cB RX12 455 yX12_pop cX12_pop 2 (some .int) 1 := ⟨ao_Gm (ao_w8 (List.mem_of_getElem? (i := 171) (by decide +kernel))) rfl, ao_Gm (ao_w8 (List.mem_of_getElem? (i := 174) (by decide +kernel))) rfl, ao_Gm (ao_w1 (List.mem_of_getElem? (i := 13) (by decide +kernel))) rfl, by decide, by decide, by decide +kernel⟩
theorem lc_X12_458 : ao_cB RX12 458 yX12_doWrite cX12_doWrite 5 (some .int) 2 := ⟨ao_Gm (ao_w8 (List.mem_of_getElem? (i := 175) (by decide +kernel))) rfl, ao_Gm (ao_w8 (List.mem_of_getElem? (i := 178) (by decide +kernel))) rfl, ao_Gm (ao_w1 (List.mem_of_getElem? (i := 13) (by decide +kernel))) rfl, by decide, by decide, by decide +kernel⟩
theorem lc_X12_461 : ao_cB RX12 461 yX12_hold cX12_hold 3 none 2 := ⟨ao_Gm (ao_w8 (List.mem_of_getElem? (i := 187) (by decide +kernel))) rfl, ao_Gm (ao_w8 (List.mem_of_getElem? (i := 190) (by decide +kernel))) rfl, ao_Gm (ao_w1 (List.mem_of_getElem? (i := 13) (by decide +kernel))) rfl, by decide, by decide, by decide +kernel⟩
theorem lc_X12_464 : ao_cB RX12 464 yX12_beginBlock cX12_beginBlock 7 (some .int) 3 := ⟨ao_Gm (ao_w8 (List.mem_of_getElem? (i := 191) (by decide +kernel))) rfl, ao_Gm (ao_w8 (List.mem_of_getElem? (i := 194) (by decide +kernel))) rfl, ao_Gm (ao_w1 (List.mem_of_getElem? (i := 13) (by decide +kernel))) rfl, by decide, by decide, by decide +kernel⟩
theorem lc_X12_467 : ao_cB RX12 467 yX12_endBlock cX12_endBlock 3 (some .int) 1 := ⟨ao_Gm (ao_w8 (List.mem_of_getElem? (i := 203) (by decide +kernel))) rfl, ao_Gm (ao_w8 (List.mem_of_getElem? (i := 206) (by decide +kernel))) rfl, ao_Gm (ao_w1 (List.mem_of_getElem? (i := 13) (by decide +kernel))) rfl, by decide, by decide, by decide +kernel⟩
theorem lc_X12_470 : ao_cB RX12 470 yX12_retry cX12_retry 4 (some .int) 1 := ⟨ao_Gm (ao_w8 (List.mem_of_getElem? (i := 223) (by decide +kernel))) rfl, ao_Gm (ao_w8 (List.mem_of_getElem? (i := 226) (by decide +kernel))) rfl, ao_Gm (ao_w1 (List.mem_of_getElem? (i := 13) (by decide +kernel))) rfl, by decide, by decide, by decide +kernel⟩
theorem lc_X12_473 : ao_cB RX12 473 yX12_quit cX12_quit 4 (some .int) 1 := ⟨ao_Gm (ao_w8 (List.mem_of_getElem? (i := 227) (by decide +kernel))) rfl, ao_Gm (ao_w8 (List.mem_of_getElem? (i := 230) (by decide +kernel))) rfl, ao_Gm (ao_w1 (List.mem_of_getElem? (i := 13) (by decide +kernel))) rfl, by decide, by decide, by decide +kernel⟩
theorem lc_X12_476 : ao_cB RX12 476 yX12_fail cX12_fail 6 (some .int) 2 := ⟨ao_Gm (ao_w8 (List.mem_of_getElem? (i := 235) (by decide +kernel))) rfl, ao_Gm (ao_w8 (List.mem_of_getElem? (i := 238) (by decide +kernel))) rfl, ao_Gm (ao_w1 (List.mem_of_getElem? (i := 13) (by decide +kernel))) rfl, by decide, by decide, by decide +kernel⟩
theorem lc_X12_479 : ao_cB RX12 479 yX12_looks cX12_looks 4 (some .boolean) 2 := ⟨ao_Gm (ao_w8 (List.mem_of_getElem? (i := 131) (by decide +kernel))) rfl, ao_Gm (ao_w8 (List.mem_of_getElem? (i := 134) (by decide +kernel))) rfl, ao_Gm (ao_w1 (List.mem_of_getElem? (i := 13) (by decide +kernel))) rfl, by decide, by decide, by decide +kernel⟩
theorem lc_X12_482 : ao_cB RX12 482 yX12_write cX12_write 5 (some .boolean) 3 := ⟨ao_Gm (ao_w8 (List.mem_of_getElem? (i := 179) (by decide +kernel))) rfl, ao_Gm (ao_w8 (List.mem_of_getElem? (i := 182) (by decide +kernel))) rfl, ao_Gm (ao_w1 (List.mem_of_getElem? (i := 13) (by decide +kernel))) rfl, by decide, by decide, by decide +kernel⟩
theorem lc_X12_485 : ao_cB RX12 485 yX12_change cX12_change 3 none 2 := ⟨ao_Gm (ao_w8 (List.mem_of_getElem? (i := 64) (by decide +kernel))) rfl, ao_Gm (ao_w8 (List.mem_of_getElem? (i := 67) (by decide +kernel))) rfl, ao_Gm (ao_w1 (List.mem_of_getElem? (i := 13) (by decide +kernel))) rfl, by decide, by decide, by decide +kernel⟩
theorem lc_X12_488 : ao_cB RX12 488 yX12_wakes cX12_wakes 4 (some .boolean) 1 := ⟨ao_Gm (ao_w8 (List.mem_of_getElem? (i := 83) (by decide +kernel))) rfl, ao_Gm (ao_w8 (List.mem_of_getElem? (i := 86) (by decide +kernel))) rfl, ao_Gm (ao_w1 (List.mem_of_getElem? (i := 13) (by decide +kernel))) rfl, by decide, by decide, by decide +kernel⟩
theorem lc_X12_491 : ao_cB RX12 491 yX12_step cX12_step 7 (some .int) 1 := ⟨ao_Gm (ao_w8 (List.mem_of_getElem? (i := 119) (by decide +kernel))) rfl, ao_Gm (ao_w8 (List.mem_of_getElem? (i := 122) (by decide +kernel))) rfl, ao_Gm (ao_w1 (List.mem_of_getElem? (i := 13) (by decide +kernel))) rfl, by decide, by decide, by decide +kernel⟩
theorem lc_X12_497 : ao_cB RX12 497 yX12_fails cX12_fails 2 (some .boolean) 1 := ⟨ao_Gm (ao_w7 (List.mem_of_getElem? (i := 180) (by decide +kernel))) rfl, ao_Gm (ao_w7 (List.mem_of_getElem? (i := 183) (by decide +kernel))) rfl, ao_Gm (ao_w1 (List.mem_of_getElem? (i := 13) (by decide +kernel))) rfl, by decide, by decide, by decide +kernel⟩
theorem lc_X12_500 : ao_cB RX12 500 yX12_four cX12_four 3 none 1 := ⟨ao_Gm (ao_w7 (List.mem_of_getElem? (i := 184) (by decide +kernel))) rfl, ao_Gm (ao_w7 (List.mem_of_getElem? (i := 187) (by decide +kernel))) rfl, ao_Gm (ao_w1 (List.mem_of_getElem? (i := 13) (by decide +kernel))) rfl, by decide, by decide, by decide +kernel⟩
theorem lc_X12_503 : ao_cB RX12 503 yX12_isThread cX12_isThread 1 (some .boolean) 1 := ⟨ao_Gm (ao_w7 (List.mem_of_getElem? (i := 200) (by decide +kernel))) rfl, ao_Gm (ao_w7 (List.mem_of_getElem? (i := 202) (by decide +kernel))) rfl, ao_Gm (ao_w1 (List.mem_of_getElem? (i := 13) (by decide +kernel))) rfl, by decide, by decide, by decide +kernel⟩
theorem lc_X12_509 : ao_cB RX12 509 yX12_isPlace cX12_isPlace 1 (some .boolean) 1 := ⟨ao_Gm (ao_w8 (List.mem_of_getElem? (i := 61) (by decide +kernel))) rfl, ao_Gm (ao_w8 (List.mem_of_getElem? (i := 63) (by decide +kernel))) rfl, ao_Gm (ao_w1 (List.mem_of_getElem? (i := 13) (by decide +kernel))) rfl, by decide, by decide, by decide +kernel⟩
theorem lc_X12_512 : ao_cB RX12 512 yX12_takeTurn cX12_takeTurn 3 (some .int) 1 := ⟨ao_Gm (ao_w8 (List.mem_of_getElem? (i := 79) (by decide +kernel))) rfl, ao_Gm (ao_w8 (List.mem_of_getElem? (i := 82) (by decide +kernel))) rfl, ao_Gm (ao_w1 (List.mem_of_getElem? (i := 13) (by decide +kernel))) rfl, by decide, by decide, by decide +kernel⟩
theorem lc_X12_515 : ao_cB RX12 515 yX12_isLive cX12_isLive 2 (some .boolean) 1 := ⟨ao_Gm (ao_w9 (List.mem_of_getElem? (i := 3) (by decide +kernel))) rfl, ao_Gm (ao_w9 (List.mem_of_getElem? (i := 6) (by decide +kernel))) rfl, ao_Gm (ao_w1 (List.mem_of_getElem? (i := 13) (by decide +kernel))) rfl, by decide, by decide, by decide +kernel⟩
theorem lc_X12_518 : ao_cB RX12 518 yX12_readsOf cX12_readsOf 6 (some .int) 1 := ⟨ao_Gm (ao_w9 (List.mem_of_getElem? (i := 27) (by decide +kernel))) rfl, ao_Gm (ao_w9 (List.mem_of_getElem? (i := 30) (by decide +kernel))) rfl, ao_Gm (ao_w1 (List.mem_of_getElem? (i := 13) (by decide +kernel))) rfl, by decide, by decide, by decide +kernel⟩
theorem lc_X12_521 : ao_cB RX12 521 yX12_writesOf cX12_writesOf 4 (some .int) 1 := ⟨ao_Gm (ao_w9 (List.mem_of_getElem? (i := 31) (by decide +kernel))) rfl, ao_Gm (ao_w9 (List.mem_of_getElem? (i := 34) (by decide +kernel))) rfl, ao_Gm (ao_w1 (List.mem_of_getElem? (i := 13) (by decide +kernel))) rfl, by decide, by decide, by decide +kernel⟩
theorem lc_X12_524 : ao_cB RX12 524 yX12_isAsIs cX12_isAsIs 3 (some .boolean) 1 := ⟨ao_Gm (ao_w9 (List.mem_of_getElem? (i := 39) (by decide +kernel))) rfl, ao_Gm (ao_w9 (List.mem_of_getElem? (i := 42) (by decide +kernel))) rfl, ao_Gm (ao_w1 (List.mem_of_getElem? (i := 13) (by decide +kernel))) rfl, by decide, by decide, by decide +kernel⟩
theorem lc_X12_527 : ao_cB RX12 527 yX12_mayCome cX12_mayCome 4 (some .boolean) 2 := ⟨ao_Gm (ao_w9 (List.mem_of_getElem? (i := 43) (by decide +kernel))) rfl, ao_Gm (ao_w9 (List.mem_of_getElem? (i := 46) (by decide +kernel))) rfl, ao_Gm (ao_w1 (List.mem_of_getElem? (i := 13) (by decide +kernel))) rfl, by decide, by decide, by decide +kernel⟩
theorem li_X12_addRead : Cond.instanceMethod yX12_addRead ∈ ao_G := ao_Gm (ao_w8 (List.mem_of_getElem? (i := 165) (by decide +kernel))) rfl
theorem li_X12_begin : Cond.instanceMethod yX12_begin ∈ ao_G := ao_Gm (ao_w6 (List.mem_of_getElem? (i := 147) (by decide +kernel))) rfl
theorem li_X12_beginBlock : Cond.instanceMethod yX12_beginBlock ∈ ao_G := ao_Gm (ao_w8 (List.mem_of_getElem? (i := 193) (by decide +kernel))) rfl
theorem li_X12_cell : Cond.instanceMethod yX12_cell ∈ ao_G := ao_Gm (ao_w6 (List.mem_of_getElem? (i := 159) (by decide +kernel))) rfl
theorem li_X12_change : Cond.instanceMethod yX12_change ∈ ao_G := ao_Gm (ao_w8 (List.mem_of_getElem? (i := 66) (by decide +kernel))) rfl
theorem li_X12_clearLevel : Cond.instanceMethod yX12_clearLevel ∈ ao_G := ao_Gm (ao_w6 (List.mem_of_getElem? (i := 155) (by decide +kernel))) rfl
theorem li_X12_conflict : Cond.instanceMethod yX12_conflict ∈ ao_G := ao_Gm (ao_w8 (List.mem_of_getElem? (i := 141) (by decide +kernel))) rfl
theorem li_X12_doLook : Cond.instanceMethod yX12_doLook ∈ ao_G := ao_Gm (ao_w8 (List.mem_of_getElem? (i := 129) (by decide +kernel))) rfl
theorem li_X12_doWrite : Cond.instanceMethod yX12_doWrite ∈ ao_G := ao_Gm (ao_w8 (List.mem_of_getElem? (i := 177) (by decide +kernel))) rfl
theorem li_X12_done : Cond.instanceMethod yX12_done ∈ ao_G := ao_Gm (ao_w8 (List.mem_of_getElem? (i := 217) (by decide +kernel))) rfl
theorem li_X12_dropReads : Cond.instanceMethod yX12_dropReads ∈ ao_G := ao_Gm (ao_w8 (List.mem_of_getElem? (i := 113) (by decide +kernel))) rfl
theorem li_X12_endBlock : Cond.instanceMethod yX12_endBlock ∈ ao_G := ao_Gm (ao_w8 (List.mem_of_getElem? (i := 205) (by decide +kernel))) rfl
theorem li_X12_endPart : Cond.instanceMethod yX12_endPart ∈ ao_G := ao_Gm (ao_w8 (List.mem_of_getElem? (i := 221) (by decide +kernel))) rfl
theorem li_X12_fail : Cond.instanceMethod yX12_fail ∈ ao_G := ao_Gm (ao_w8 (List.mem_of_getElem? (i := 237) (by decide +kernel))) rfl
theorem li_X12_fails : Cond.instanceMethod yX12_fails ∈ ao_G := ao_Gm (ao_w7 (List.mem_of_getElem? (i := 182) (by decide +kernel))) rfl
theorem li_X12_four : Cond.instanceMethod yX12_four ∈ ao_G := ao_Gm (ao_w7 (List.mem_of_getElem? (i := 186) (by decide +kernel))) rfl
theorem li_X12_free : Cond.instanceMethod yX12_free ∈ ao_G := ao_Gm (ao_w8 (List.mem_of_getElem? (i := 117) (by decide +kernel))) rfl
theorem li_X12_giveReads : Cond.instanceMethod yX12_giveReads ∈ ao_G := ao_Gm (ao_w8 (List.mem_of_getElem? (i := 109) (by decide +kernel))) rfl
theorem li_X12_goesOn : Cond.instanceMethod yX12_goesOn ∈ ao_G := ao_Gm (ao_w8 (List.mem_of_getElem? (i := 153) (by decide +kernel))) rfl
theorem li_X12_hasWrites : Cond.instanceMethod yX12_hasWrites ∈ ao_G := ao_Gm (ao_w8 (List.mem_of_getElem? (i := 213) (by decide +kernel))) rfl
theorem li_X12_hold : Cond.instanceMethod yX12_hold ∈ ao_G := ao_Gm (ao_w8 (List.mem_of_getElem? (i := 189) (by decide +kernel))) rfl
theorem li_X12_isAsIs : Cond.instanceMethod yX12_isAsIs ∈ ao_G := ao_Gm (ao_w9 (List.mem_of_getElem? (i := 41) (by decide +kernel))) rfl
theorem li_X12_isBusy : Cond.instanceMethod yX12_isBusy ∈ ao_G := ao_Gm (ao_w8 (List.mem_of_getElem? (i := 93) (by decide +kernel))) rfl
theorem li_X12_isEager : Cond.instanceMethod yX12_isEager ∈ ao_G := ao_Gm (ao_w8 (List.mem_of_getElem? (i := 89) (by decide +kernel))) rfl
theorem li_X12_isLive : Cond.instanceMethod yX12_isLive ∈ ao_G := ao_Gm (ao_w9 (List.mem_of_getElem? (i := 5) (by decide +kernel))) rfl
theorem li_X12_isWrong : Cond.instanceMethod yX12_isWrong ∈ ao_G := ao_Gm (ao_w8 (List.mem_of_getElem? (i := 149) (by decide +kernel))) rfl
theorem li_X12_keepRegisters : Cond.instanceMethod yX12_keepRegisters ∈ ao_G := ao_Gm (ao_w8 (List.mem_of_getElem? (i := 201) (by decide +kernel))) rfl
theorem li_X12_leave : Cond.instanceMethod yX12_leave ∈ ao_G := ao_Gm (ao_w8 (List.mem_of_getElem? (i := 233) (by decide +kernel))) rfl
theorem li_X12_level : Cond.instanceMethod yX12_level ∈ ao_G := ao_Gm (ao_w6 (List.mem_of_getElem? (i := 163) (by decide +kernel))) rfl
theorem li_X12_looks : Cond.instanceMethod yX12_looks ∈ ao_G := ao_Gm (ao_w8 (List.mem_of_getElem? (i := 133) (by decide +kernel))) rfl
theorem li_X12_mayCome : Cond.instanceMethod yX12_mayCome ∈ ao_G := ao_Gm (ao_w9 (List.mem_of_getElem? (i := 45) (by decide +kernel))) rfl
theorem li_X12_mayEnd : Cond.instanceMethod yX12_mayEnd ∈ ao_G := ao_Gm (ao_w8 (List.mem_of_getElem? (i := 209) (by decide +kernel))) rfl
theorem li_X12_newRecord : Cond.instanceMethod yX12_newRecord ∈ ao_G := ao_Gm (ao_w8 (List.mem_of_getElem? (i := 169) (by decide +kernel))) rfl
theorem li_X12_openLevel : Cond.instanceMethod yX12_openLevel ∈ ao_G := ao_Gm (ao_w8 (List.mem_of_getElem? (i := 197) (by decide +kernel))) rfl
theorem li_X12_past : Cond.instanceMethod yX12_past ∈ ao_G := ao_Gm (ao_w8 (List.mem_of_getElem? (i := 161) (by decide +kernel))) rfl
theorem li_X12_pop : Cond.instanceMethod yX12_pop ∈ ao_G := ao_Gm (ao_w8 (List.mem_of_getElem? (i := 173) (by decide +kernel))) rfl
theorem li_X12_push : Cond.instanceMethod yX12_push ∈ ao_G := ao_Gm (ao_w8 (List.mem_of_getElem? (i := 125) (by decide +kernel))) rfl
theorem li_X12_quit : Cond.instanceMethod yX12_quit ∈ ao_G := ao_Gm (ao_w8 (List.mem_of_getElem? (i := 229) (by decide +kernel))) rfl
theorem li_X12_readsOf : Cond.instanceMethod yX12_readsOf ∈ ao_G := ao_Gm (ao_w9 (List.mem_of_getElem? (i := 29) (by decide +kernel))) rfl
theorem li_X12_remember : Cond.instanceMethod yX12_remember ∈ ao_G := ao_Gm (ao_w8 (List.mem_of_getElem? (i := 70) (by decide +kernel))) rfl
theorem li_X12_reset : Cond.instanceMethod yX12_reset ∈ ao_G := ao_Gm (ao_w6 (List.mem_of_getElem? (i := 151) (by decide +kernel))) rfl
theorem li_X12_restart : Cond.instanceMethod yX12_restart ∈ ao_G := ao_Gm (ao_w8 (List.mem_of_getElem? (i := 97) (by decide +kernel))) rfl
theorem li_X12_retry : Cond.instanceMethod yX12_retry ∈ ao_G := ao_Gm (ao_w8 (List.mem_of_getElem? (i := 225) (by decide +kernel))) rfl
theorem li_X12_say : Cond.instanceMethod yX12_say ∈ ao_G := ao_Gm (ao_w8 (List.mem_of_getElem? (i := 185) (by decide +kernel))) rfl
theorem li_X12_step : Cond.instanceMethod yX12_step ∈ ao_G := ao_Gm (ao_w8 (List.mem_of_getElem? (i := 121) (by decide +kernel))) rfl
theorem li_X12_takeBack : Cond.instanceMethod yX12_takeBack ∈ ao_G := ao_Gm (ao_w8 (List.mem_of_getElem? (i := 105) (by decide +kernel))) rfl
theorem li_X12_takeBackTo : Cond.instanceMethod yX12_takeBackTo ∈ ao_G := ao_Gm (ao_w8 (List.mem_of_getElem? (i := 101) (by decide +kernel))) rfl
theorem li_X12_takeTurn : Cond.instanceMethod yX12_takeTurn ∈ ao_G := ao_Gm (ao_w8 (List.mem_of_getElem? (i := 81) (by decide +kernel))) rfl
theorem li_X12_wakes : Cond.instanceMethod yX12_wakes ∈ ao_G := ao_Gm (ao_w8 (List.mem_of_getElem? (i := 85) (by decide +kernel))) rfl
theorem li_X12_wins : Cond.instanceMethod yX12_wins ∈ ao_G := ao_Gm (ao_w8 (List.mem_of_getElem? (i := 157) (by decide +kernel))) rfl
theorem li_X12_write : Cond.instanceMethod yX12_write ∈ ao_G := ao_Gm (ao_w8 (List.mem_of_getElem? (i := 181) (by decide +kernel))) rfl
theorem li_X12_writesOf : Cond.instanceMethod yX12_writesOf ∈ ao_G := ao_Gm (ao_w9 (List.mem_of_getElem? (i := 33) (by decide +kernel))) rfl
theorem li_X12_writtenLevel : Cond.instanceMethod yX12_writtenLevel ∈ ao_G := ao_Gm (ao_w8 (List.mem_of_getElem? (i := 137) (by decide +kernel))) rfl
theorem li_X12_wrongLevel : Cond.instanceMethod yX12_wrongLevel ∈ ao_G := ao_Gm (ao_w8 (List.mem_of_getElem? (i := 145) (by decide +kernel))) rfl
theorem li_X1_add : Cond.instanceMethod yX1_add ∈ ao_G := ao_Gm (ao_w4 (List.mem_of_getElem? (i := 112) (by decide +kernel))) rfl
theorem li_X1_firstAt : Cond.instanceMethod yX1_firstAt ∈ ao_G := ao_Gm (ao_w5 (List.mem_of_getElem? (i := 192) (by decide +kernel))) rfl
theorem li_X1_secondAt : Cond.instanceMethod yX1_secondAt ∈ ao_G := ao_Gm (ao_w5 (List.mem_of_getElem? (i := 158) (by decide +kernel))) rfl
theorem li_X2_beginLevel : Cond.instanceMethod yX2_beginLevel ∈ ao_G := ao_Gm (ao_w5 (List.mem_of_getElem? (i := 145) (by decide +kernel))) rfl
theorem li_X2_closeLevel : Cond.instanceMethod yX2_closeLevel ∈ ao_G := ao_Gm (ao_w5 (List.mem_of_getElem? (i := 155) (by decide +kernel))) rfl
theorem li_X2_fail : Cond.instanceMethod yX2_fail ∈ ao_G := ao_Gm (ao_w5 (List.mem_of_getElem? (i := 213) (by decide +kernel))) rfl
theorem li_X2_fallAsleep : Cond.instanceMethod yX2_fallAsleep ∈ ao_G := ao_Gm (ao_w5 (List.mem_of_getElem? (i := 197) (by decide +kernel))) rfl
theorem li_X2_finish : Cond.instanceMethod yX2_finish ∈ ao_G := ao_Gm (ao_w5 (List.mem_of_getElem? (i := 177) (by decide +kernel))) rfl
theorem li_X2_giveBack : Cond.instanceMethod yX2_giveBack ∈ ao_G := ao_Gm (ao_w5 (List.mem_of_getElem? (i := 24) (by decide +kernel))) rfl
theorem li_X2_hasNews : Cond.instanceMethod yX2_hasNews ∈ ao_G := ao_Gm (ao_w4 (List.mem_of_getElem? (i := 232) (by decide +kernel))) rfl
theorem li_X2_howManyAre : Cond.instanceMethod yX2_howManyAre ∈ ao_G := ao_Gm (ao_w5 (List.mem_of_getElem? (i := 8) (by decide +kernel))) rfl
theorem li_X2_isBusy : Cond.instanceMethod yX2_isBusy ∈ ao_G := ao_Gm (ao_w5 (List.mem_of_getElem? (i := 4) (by decide +kernel))) rfl
theorem li_X2_isWrong : Cond.instanceMethod yX2_isWrong ∈ ao_G := ao_Gm (ao_w5 (List.mem_of_getElem? (i := 75) (by decide +kernel))) rfl
theorem li_X2_joinAround : Cond.instanceMethod yX2_joinAround ∈ ao_G := ao_Gm (ao_w5 (List.mem_of_getElem? (i := 163) (by decide +kernel))) rfl
theorem li_X2_leaveFrom : Cond.instanceMethod yX2_leaveFrom ∈ ao_G := ao_Gm (ao_w5 (List.mem_of_getElem? (i := 209) (by decide +kernel))) rfl
theorem li_X2_loserAbout : Cond.instanceMethod yX2_loserAbout ∈ ao_G := ao_Gm (ao_w5 (List.mem_of_getElem? (i := 112) (by decide +kernel))) rfl
theorem li_X2_mayEnd : Cond.instanceMethod yX2_mayEnd ∈ ao_G := ao_Gm (ao_w5 (List.mem_of_getElem? (i := 173) (by decide +kernel))) rfl
theorem li_X2_mayTouch : Cond.instanceMethod yX2_mayTouch ∈ ao_G := ao_Gm (ao_w5 (List.mem_of_getElem? (i := 108) (by decide +kernel))) rfl
theorem li_X2_outermostWrong : Cond.instanceMethod yX2_outermostWrong ∈ ao_G := ao_Gm (ao_w5 (List.mem_of_getElem? (i := 71) (by decide +kernel))) rfl
theorem li_X2_quit : Cond.instanceMethod yX2_quit ∈ ao_G := ao_Gm (ao_w5 (List.mem_of_getElem? (i := 205) (by decide +kernel))) rfl
theorem li_X2_restart : Cond.instanceMethod yX2_restart ∈ ao_G := ao_Gm (ao_w5 (List.mem_of_getElem? (i := 12) (by decide +kernel))) rfl
theorem li_X2_retry : Cond.instanceMethod yX2_retry ∈ ao_G := ao_Gm (ao_w5 (List.mem_of_getElem? (i := 185) (by decide +kernel))) rfl
theorem li_X2_say : Cond.instanceMethod yX2_say ∈ ao_G := ao_Gm (ao_w5 (List.mem_of_getElem? (i := 133) (by decide +kernel))) rfl
theorem li_X2_see : Cond.instanceMethod yX2_see ∈ ao_G := ao_Gm (ao_w5 (List.mem_of_getElem? (i := 55) (by decide +kernel))) rfl
theorem li_X2_seeHeld : Cond.instanceMethod yX2_seeHeld ∈ ao_G := ao_Gm (ao_w5 (List.mem_of_getElem? (i := 59) (by decide +kernel))) rfl
theorem li_X2_step : Cond.instanceMethod yX2_step ∈ ao_G := ao_Gm (ao_w5 (List.mem_of_getElem? (i := 51) (by decide +kernel))) rfl
theorem li_X2_stir : Cond.instanceMethod yX2_stir ∈ ao_G := ao_Gm (ao_w4 (List.mem_of_getElem? (i := 228) (by decide +kernel))) rfl
theorem li_X2_takeBack : Cond.instanceMethod yX2_takeBack ∈ ao_G := ao_Gm (ao_w5 (List.mem_of_getElem? (i := 16) (by decide +kernel))) rfl
theorem li_X2_write : Cond.instanceMethod yX2_write ∈ ao_G := ao_Gm (ao_w5 (List.mem_of_getElem? (i := 120) (by decide +kernel))) rfl
theorem li_X2_writeRecord : Cond.instanceMethod yX2_writeRecord ∈ ao_G := ao_Gm (ao_w5 (List.mem_of_getElem? (i := 181) (by decide +kernel))) rfl
theorem li_X2_writesAtOnce : Cond.instanceMethod yX2_writesAtOnce ∈ ao_G := ao_Gm (ao_w5 (List.mem_of_getElem? (i := 20) (by decide +kernel))) rfl
theorem li_X3_addRead : Cond.instanceMethod yX3_addRead ∈ ao_G := ao_Gm (ao_w5 (List.mem_of_getElem? (i := 87) (by decide +kernel))) rfl
theorem li_X3_addWrite : Cond.instanceMethod yX3_addWrite ∈ ao_G := ao_Gm (ao_w5 (List.mem_of_getElem? (i := 128) (by decide +kernel))) rfl
theorem li_X3_forgetReads : Cond.instanceMethod yX3_forgetReads ∈ ao_G := ao_Gm (ao_w5 (List.mem_of_getElem? (i := 36) (by decide +kernel))) rfl
theorem li_X3_forgetWrites : Cond.instanceMethod yX3_forgetWrites ∈ ao_G := ao_Gm (ao_w5 (List.mem_of_getElem? (i := 27) (by decide +kernel))) rfl
theorem li_X3_takeReadsOf : Cond.instanceMethod yX3_takeReadsOf ∈ ao_G := ao_Gm (ao_w5 (List.mem_of_getElem? (i := 166) (by decide +kernel))) rfl
theorem li_X3_wrote : Cond.instanceMethod yX3_wrote ∈ ao_G := ao_Gm (ao_w5 (List.mem_of_getElem? (i := 62) (by decide +kernel))) rfl
theorem li_X4_broken : Cond.instanceMethod yX4_broken ∈ ao_G := ao_Gm (ao_w4 (List.mem_of_getElem? (i := 80) (by decide +kernel))) rfl
theorem li_X4_expect : Cond.instanceMethod yX4_expect ∈ ao_G := ao_Gm (ao_w4 (List.mem_of_getElem? (i := 89) (by decide +kernel))) rfl
theorem li_X5_change : Cond.instanceMethod yX5_change ∈ ao_G := ao_Gm (ao_w4 (List.mem_of_getElem? (i := 196) (by decide +kernel))) rfl
theorem li_X5_clear : Cond.instanceMethod yX5_clear ∈ ao_G := ao_Gm (ao_w3 (List.mem_of_getElem? (i := 147) (by decide +kernel))) rfl
theorem li_X5_howManyTaken : Cond.instanceMethod yX5_howManyTaken ∈ ao_G := ao_Gm (ao_w6 (List.mem_of_getElem? (i := 108) (by decide +kernel))) rfl
theorem li_X5_isTakenBy : Cond.instanceMethod yX5_isTakenBy ∈ ao_G := ao_Gm (ao_w5 (List.mem_of_getElem? (i := 103) (by decide +kernel))) rfl
theorem li_X5_isTakenByOther : Cond.instanceMethod yX5_isTakenByOther ∈ ao_G := ao_Gm (ao_w4 (List.mem_of_getElem? (i := 239) (by decide +kernel))) rfl
theorem li_X5_release : Cond.instanceMethod yX5_release ∈ ao_G := ao_Gm (ao_w5 (List.mem_of_getElem? (i := 40) (by decide +kernel))) rfl
theorem li_X5_valueAt : Cond.instanceMethod yX5_valueAt ∈ ao_G := ao_Gm (ao_w5 (List.mem_of_getElem? (i := 78) (by decide +kernel))) rfl
theorem li_X6_addRead : Cond.instanceMethod yX6_addRead ∈ ao_G := ao_Gm (ao_w5 (List.mem_of_getElem? (i := 95) (by decide +kernel))) rfl
theorem li_X6_addWrite : Cond.instanceMethod yX6_addWrite ∈ ao_G := ao_Gm (ao_w5 (List.mem_of_getElem? (i := 124) (by decide +kernel))) rfl
theorem li_X6_begin : Cond.instanceMethod yX6_begin ∈ ao_G := ao_Gm (ao_w5 (List.mem_of_getElem? (i := 91) (by decide +kernel))) rfl
theorem li_X6_clear : Cond.instanceMethod yX6_clear ∈ ao_G := ao_Gm (ao_w3 (List.mem_of_getElem? (i := 151) (by decide +kernel))) rfl
theorem li_X6_isAhead : Cond.instanceMethod yX6_isAhead ∈ ao_G := ao_Gm (ao_w3 (List.mem_of_getElem? (i := 7) (by decide +kernel))) rfl
theorem li_X6_note : Cond.instanceMethod yX6_note ∈ ao_G := ao_Gm (ao_w5 (List.mem_of_getElem? (i := 100) (by decide +kernel))) rfl
theorem li_X7_enterLevel : Cond.instanceMethod yX7_enterLevel ∈ ao_G := ao_Gm (ao_w5 (List.mem_of_getElem? (i := 148) (by decide +kernel))) rfl
theorem li_X7_enterTry : Cond.instanceMethod yX7_enterTry ∈ ao_G := ao_Gm (ao_w5 (List.mem_of_getElem? (i := 230) (by decide +kernel))) rfl
theorem li_X7_hold : Cond.instanceMethod yX7_hold ∈ ao_G := ao_Gm (ao_w5 (List.mem_of_getElem? (i := 136) (by decide +kernel))) rfl
theorem li_X7_innermost : Cond.instanceMethod yX7_innermost ∈ ao_G := ao_Gm (ao_w5 (List.mem_of_getElem? (i := 82) (by decide +kernel))) rfl
theorem li_X7_isLeft : Cond.instanceMethod yX7_isLeft ∈ ao_G := ao_Gm (ao_w5 (List.mem_of_getElem? (i := 45) (by decide +kernel))) rfl
theorem li_X7_leaveTry : Cond.instanceMethod yX7_leaveTry ∈ ao_G := ao_Gm (ao_w5 (List.mem_of_getElem? (i := 234) (by decide +kernel))) rfl
theorem li_X7_level : Cond.instanceMethod yX7_level ∈ ao_G := ao_Gm (ao_w4 (List.mem_of_getElem? (i := 235) (by decide +kernel))) rfl
theorem li_X7_levelWithOr : Cond.instanceMethod yX7_levelWithOr ∈ ao_G := ao_Gm (ao_w5 (List.mem_of_getElem? (i := 188) (by decide +kernel))) rfl
theorem li_X7_pop : Cond.instanceMethod yX7_pop ∈ ao_G := ao_Gm (ao_w5 (List.mem_of_getElem? (i := 115) (by decide +kernel))) rfl
theorem li_X7_push : Cond.instanceMethod yX7_push ∈ ao_G := ao_Gm (ao_w5 (List.mem_of_getElem? (i := 66) (by decide +kernel))) rfl
theorem li_X7_readsOfAll : Cond.instanceMethod yX7_readsOfAll ∈ ao_G := ao_Gm (ao_w6 (List.mem_of_getElem? (i := 62) (by decide +kernel))) rfl
theorem li_X7_renew : Cond.instanceMethod yX7_renew ∈ ao_G := ao_Gm (ao_w3 (List.mem_of_getElem? (i := 155) (by decide +kernel))) rfl
theorem li_X7_setBackTo : Cond.instanceMethod yX7_setBackTo ∈ ao_G := ao_Gm (ao_w5 (List.mem_of_getElem? (i := 31) (by decide +kernel))) rfl
theorem li_X7_tryAtOf : Cond.instanceMethod yX7_tryAtOf ∈ ao_G := ao_Gm (ao_w5 (List.mem_of_getElem? (i := 216) (by decide +kernel))) rfl
theorem li_X7_tryDepthOf : Cond.instanceMethod yX7_tryDepthOf ∈ ao_G := ao_Gm (ao_w5 (List.mem_of_getElem? (i := 220) (by decide +kernel))) rfl
theorem li_X7_writesOfAll : Cond.instanceMethod yX7_writesOfAll ∈ ao_G := ao_Gm (ao_w6 (List.mem_of_getElem? (i := 66) (by decide +kernel))) rfl
theorem li_X8_add : Cond.instanceMethod yX8_add ∈ ao_G := ao_Gm (ao_w5 (List.mem_of_getElem? (i := 140) (by decide +kernel))) rfl
theorem li_X9_advance : Cond.instanceMethod yX9_advance ∈ ao_G := ao_Gm (ao_w4 (List.mem_of_getElem? (i := 67) (by decide +kernel))) rfl
theorem li_X9_byteAt : Cond.instanceMethod yX9_byteAt ∈ ao_G := ao_Gm (ao_w3 (List.mem_of_getElem? (i := 207) (by decide +kernel))) rfl
theorem li_X9_equalsKind : Cond.instanceMethod yX9_equalsKind ∈ ao_G := ao_Gm (ao_w4 (List.mem_of_getElem? (i := 64) (by decide +kernel))) rfl
theorem ls_X12_addRead : Cond.selects RX12 yX12_addRead yX12_addRead ∈ ao_G := ao_Gm (ao_w0 (List.mem_of_getElem? (i := 112) (by decide +kernel))) rfl
theorem ls_X12_begin : Cond.selects RX12 yX12_begin yX12_begin ∈ ao_G := ao_Gm (ao_w0 (List.mem_of_getElem? (i := 62) (by decide +kernel))) rfl
theorem ls_X12_beginBlock : Cond.selects RX12 yX12_beginBlock yX12_beginBlock ∈ ao_G := ao_Gm (ao_w0 (List.mem_of_getElem? (i := 119) (by decide +kernel))) rfl
theorem ls_X12_cell : Cond.selects RX12 yX12_cell yX12_cell ∈ ao_G := ao_Gm (ao_w0 (List.mem_of_getElem? (i := 65) (by decide +kernel))) rfl
theorem ls_X12_change : Cond.selects RX12 yX12_change yX12_change ∈ ao_G := ao_Gm (ao_w0 (List.mem_of_getElem? (i := 89) (by decide +kernel))) rfl
theorem ls_X12_clearLevel : Cond.selects RX12 yX12_clearLevel yX12_clearLevel ∈ ao_G := ao_Gm (ao_w0 (List.mem_of_getElem? (i := 64) (by decide +kernel))) rfl
theorem ls_X12_conflict : Cond.selects RX12 yX12_conflict yX12_conflict ∈ ao_G := ao_Gm (ao_w0 (List.mem_of_getElem? (i := 106) (by decide +kernel))) rfl
theorem ls_X12_doLook : Cond.selects RX12 yX12_doLook yX12_doLook ∈ ao_G := ao_Gm (ao_w0 (List.mem_of_getElem? (i := 103) (by decide +kernel))) rfl
theorem ls_X12_doWrite : Cond.selects RX12 yX12_doWrite yX12_doWrite ∈ ao_G := ao_Gm (ao_w0 (List.mem_of_getElem? (i := 115) (by decide +kernel))) rfl
theorem ls_X12_done : Cond.selects RX12 yX12_done yX12_done ∈ ao_G := ao_Gm (ao_w0 (List.mem_of_getElem? (i := 125) (by decide +kernel))) rfl
theorem ls_X12_dropReads : Cond.selects RX12 yX12_dropReads yX12_dropReads ∈ ao_G := ao_Gm (ao_w0 (List.mem_of_getElem? (i := 99) (by decide +kernel))) rfl
theorem ls_X12_endBlock : Cond.selects RX12 yX12_endBlock yX12_endBlock ∈ ao_G := ao_Gm (ao_w0 (List.mem_of_getElem? (i := 122) (by decide +kernel))) rfl
theorem ls_X12_endPart : Cond.selects RX12 yX12_endPart yX12_endPart ∈ ao_G := ao_Gm (ao_w0 (List.mem_of_getElem? (i := 126) (by decide +kernel))) rfl
theorem ls_X12_fail : Cond.selects RX12 yX12_fail yX12_fail ∈ ao_G := ao_Gm (ao_w0 (List.mem_of_getElem? (i := 130) (by decide +kernel))) rfl
theorem ls_X12_fails : Cond.selects RX12 yX12_fails yX12_fails ∈ ao_G := ao_Gm (ao_w0 (List.mem_of_getElem? (i := 67) (by decide +kernel))) rfl
theorem ls_X12_four : Cond.selects RX12 yX12_four yX12_four ∈ ao_G := ao_Gm (ao_w0 (List.mem_of_getElem? (i := 68) (by decide +kernel))) rfl
theorem ls_X12_free : Cond.selects RX12 yX12_free yX12_free ∈ ao_G := ao_Gm (ao_w0 (List.mem_of_getElem? (i := 100) (by decide +kernel))) rfl
theorem ls_X12_giveReads : Cond.selects RX12 yX12_giveReads yX12_giveReads ∈ ao_G := ao_Gm (ao_w0 (List.mem_of_getElem? (i := 98) (by decide +kernel))) rfl
theorem ls_X12_goesOn : Cond.selects RX12 yX12_goesOn yX12_goesOn ∈ ao_G := ao_Gm (ao_w0 (List.mem_of_getElem? (i := 109) (by decide +kernel))) rfl
theorem ls_X12_hasWrites : Cond.selects RX12 yX12_hasWrites yX12_hasWrites ∈ ao_G := ao_Gm (ao_w0 (List.mem_of_getElem? (i := 124) (by decide +kernel))) rfl
theorem ls_X12_hold : Cond.selects RX12 yX12_hold yX12_hold ∈ ao_G := ao_Gm (ao_w0 (List.mem_of_getElem? (i := 118) (by decide +kernel))) rfl
theorem ls_X12_isAsIs : Cond.selects RX12 yX12_isAsIs yX12_isAsIs ∈ ao_G := ao_Gm (ao_w0 (List.mem_of_getElem? (i := 134) (by decide +kernel))) rfl
theorem ls_X12_isBusy : Cond.selects RX12 yX12_isBusy yX12_isBusy ∈ ao_G := ao_Gm (ao_w0 (List.mem_of_getElem? (i := 94) (by decide +kernel))) rfl
theorem ls_X12_isEager : Cond.selects RX12 yX12_isEager yX12_isEager ∈ ao_G := ao_Gm (ao_w0 (List.mem_of_getElem? (i := 93) (by decide +kernel))) rfl
theorem ls_X12_isLive : Cond.selects RX12 yX12_isLive yX12_isLive ∈ ao_G := ao_Gm (ao_w0 (List.mem_of_getElem? (i := 131) (by decide +kernel))) rfl
theorem ls_X12_isWrong : Cond.selects RX12 yX12_isWrong yX12_isWrong ∈ ao_G := ao_Gm (ao_w0 (List.mem_of_getElem? (i := 108) (by decide +kernel))) rfl
theorem ls_X12_keepRegisters : Cond.selects RX12 yX12_keepRegisters yX12_keepRegisters ∈ ao_G := ao_Gm (ao_w0 (List.mem_of_getElem? (i := 121) (by decide +kernel))) rfl
theorem ls_X12_leave : Cond.selects RX12 yX12_leave yX12_leave ∈ ao_G := ao_Gm (ao_w0 (List.mem_of_getElem? (i := 129) (by decide +kernel))) rfl
theorem ls_X12_level : Cond.selects RX12 yX12_level yX12_level ∈ ao_G := ao_Gm (ao_w0 (List.mem_of_getElem? (i := 66) (by decide +kernel))) rfl
theorem ls_X12_looks : Cond.selects RX12 yX12_looks yX12_looks ∈ ao_G := ao_Gm (ao_w0 (List.mem_of_getElem? (i := 104) (by decide +kernel))) rfl
theorem ls_X12_mayCome : Cond.selects RX12 yX12_mayCome yX12_mayCome ∈ ao_G := ao_Gm (ao_w0 (List.mem_of_getElem? (i := 135) (by decide +kernel))) rfl
theorem ls_X12_mayEnd : Cond.selects RX12 yX12_mayEnd yX12_mayEnd ∈ ao_G := ao_Gm (ao_w0 (List.mem_of_getElem? (i := 123) (by decide +kernel))) rfl
theorem ls_X12_newRecord : Cond.selects RX12 yX12_newRecord yX12_newRecord ∈ ao_G := ao_Gm (ao_w0 (List.mem_of_getElem? (i := 113) (by decide +kernel))) rfl
theorem ls_X12_openLevel : Cond.selects RX12 yX12_openLevel yX12_openLevel ∈ ao_G := ao_Gm (ao_w0 (List.mem_of_getElem? (i := 120) (by decide +kernel))) rfl
theorem ls_X12_past : Cond.selects RX12 yX12_past yX12_past ∈ ao_G := ao_Gm (ao_w0 (List.mem_of_getElem? (i := 111) (by decide +kernel))) rfl
theorem ls_X12_pop : Cond.selects RX12 yX12_pop yX12_pop ∈ ao_G := ao_Gm (ao_w0 (List.mem_of_getElem? (i := 114) (by decide +kernel))) rfl
theorem ls_X12_push : Cond.selects RX12 yX12_push yX12_push ∈ ao_G := ao_Gm (ao_w0 (List.mem_of_getElem? (i := 102) (by decide +kernel))) rfl
theorem ls_X12_quit : Cond.selects RX12 yX12_quit yX12_quit ∈ ao_G := ao_Gm (ao_w0 (List.mem_of_getElem? (i := 128) (by decide +kernel))) rfl
theorem ls_X12_readsOf : Cond.selects RX12 yX12_readsOf yX12_readsOf ∈ ao_G := ao_Gm (ao_w0 (List.mem_of_getElem? (i := 132) (by decide +kernel))) rfl
theorem ls_X12_remember : Cond.selects RX12 yX12_remember yX12_remember ∈ ao_G := ao_Gm (ao_w0 (List.mem_of_getElem? (i := 90) (by decide +kernel))) rfl
theorem ls_X12_reset : Cond.selects RX12 yX12_reset yX12_reset ∈ ao_G := ao_Gm (ao_w0 (List.mem_of_getElem? (i := 63) (by decide +kernel))) rfl
theorem ls_X12_restart : Cond.selects RX12 yX12_restart yX12_restart ∈ ao_G := ao_Gm (ao_w0 (List.mem_of_getElem? (i := 95) (by decide +kernel))) rfl
theorem ls_X12_retry : Cond.selects RX12 yX12_retry yX12_retry ∈ ao_G := ao_Gm (ao_w0 (List.mem_of_getElem? (i := 127) (by decide +kernel))) rfl
theorem ls_X12_say : Cond.selects RX12 yX12_say yX12_say ∈ ao_G := ao_Gm (ao_w0 (List.mem_of_getElem? (i := 117) (by decide +kernel))) rfl
theorem ls_X12_step : Cond.selects RX12 yX12_step yX12_step ∈ ao_G := ao_Gm (ao_w0 (List.mem_of_getElem? (i := 101) (by decide +kernel))) rfl
theorem ls_X12_takeBack : Cond.selects RX12 yX12_takeBack yX12_takeBack ∈ ao_G := ao_Gm (ao_w0 (List.mem_of_getElem? (i := 97) (by decide +kernel))) rfl
theorem ls_X12_takeBackTo : Cond.selects RX12 yX12_takeBackTo yX12_takeBackTo ∈ ao_G := ao_Gm (ao_w0 (List.mem_of_getElem? (i := 96) (by decide +kernel))) rfl
theorem ls_X12_takeTurn : Cond.selects RX12 yX12_takeTurn yX12_takeTurn ∈ ao_G := ao_Gm (ao_w0 (List.mem_of_getElem? (i := 91) (by decide +kernel))) rfl
theorem ls_X12_wakes : Cond.selects RX12 yX12_wakes yX12_wakes ∈ ao_G := ao_Gm (ao_w0 (List.mem_of_getElem? (i := 92) (by decide +kernel))) rfl
theorem ls_X12_wins : Cond.selects RX12 yX12_wins yX12_wins ∈ ao_G := ao_Gm (ao_w0 (List.mem_of_getElem? (i := 110) (by decide +kernel))) rfl
theorem ls_X12_write : Cond.selects RX12 yX12_write yX12_write ∈ ao_G := ao_Gm (ao_w0 (List.mem_of_getElem? (i := 116) (by decide +kernel))) rfl
theorem ls_X12_writesOf : Cond.selects RX12 yX12_writesOf yX12_writesOf ∈ ao_G := ao_Gm (ao_w0 (List.mem_of_getElem? (i := 133) (by decide +kernel))) rfl
theorem ls_X12_writtenLevel : Cond.selects RX12 yX12_writtenLevel yX12_writtenLevel ∈ ao_G := ao_Gm (ao_w0 (List.mem_of_getElem? (i := 105) (by decide +kernel))) rfl
theorem ls_X12_wrongLevel : Cond.selects RX12 yX12_wrongLevel yX12_wrongLevel ∈ ao_G := ao_Gm (ao_w0 (List.mem_of_getElem? (i := 107) (by decide +kernel))) rfl
theorem ls_X1_add : Cond.selects RX1 yX1_add yX1_add ∈ ao_G := ao_Gm (ao_w4 (List.mem_of_getElem? (i := 113) (by decide +kernel))) rfl
theorem ls_X1_firstAt : Cond.selects RX1 yX1_firstAt yX1_firstAt ∈ ao_G := ao_Gm (ao_w5 (List.mem_of_getElem? (i := 193) (by decide +kernel))) rfl
theorem ls_X1_secondAt : Cond.selects RX1 yX1_secondAt yX1_secondAt ∈ ao_G := ao_Gm (ao_w5 (List.mem_of_getElem? (i := 159) (by decide +kernel))) rfl
theorem ls_X2_beginLevel : Cond.selects RX2 yX2_beginLevel yX2_beginLevel ∈ ao_G := ao_Gm (ao_w0 (List.mem_of_getElem? (i := 49) (by decide +kernel))) rfl
theorem ls_X2_closeLevel : Cond.selects RX2 yX2_closeLevel yX2_closeLevel ∈ ao_G := ao_Gm (ao_w0 (List.mem_of_getElem? (i := 50) (by decide +kernel))) rfl
theorem ls_X2_fail : Cond.selects RX2 yX2_fail yX2_fail ∈ ao_G := ao_Gm (ao_w0 (List.mem_of_getElem? (i := 59) (by decide +kernel))) rfl
theorem ls_X2_fallAsleep : Cond.selects RX2 yX2_fallAsleep yX2_fallAsleep ∈ ao_G := ao_Gm (ao_w0 (List.mem_of_getElem? (i := 56) (by decide +kernel))) rfl
theorem ls_X2_finish : Cond.selects RX2 yX2_finish yX2_finish ∈ ao_G := ao_Gm (ao_w0 (List.mem_of_getElem? (i := 53) (by decide +kernel))) rfl
theorem ls_X2_giveBack : Cond.selects RX2 yX2_giveBack yX2_giveBack ∈ ao_G := ao_Gm (ao_w0 (List.mem_of_getElem? (i := 38) (by decide +kernel))) rfl
theorem ls_X2_hasNews : Cond.selects RX2 yX2_hasNews yX2_hasNews ∈ ao_G := ao_Gm (ao_w0 (List.mem_of_getElem? (i := 32) (by decide +kernel))) rfl
theorem ls_X2_howManyAre : Cond.selects RX2 yX2_howManyAre yX2_howManyAre ∈ ao_G := ao_Gm (ao_w0 (List.mem_of_getElem? (i := 34) (by decide +kernel))) rfl
theorem ls_X2_isBusy : Cond.selects RX2 yX2_isBusy yX2_isBusy ∈ ao_G := ao_Gm (ao_w0 (List.mem_of_getElem? (i := 33) (by decide +kernel))) rfl
theorem ls_X2_isWrong : Cond.selects RX2 yX2_isWrong yX2_isWrong ∈ ao_G := ao_Gm (ao_w0 (List.mem_of_getElem? (i := 43) (by decide +kernel))) rfl
theorem ls_X2_joinAround : Cond.selects RX2 yX2_joinAround yX2_joinAround ∈ ao_G := ao_Gm (ao_w0 (List.mem_of_getElem? (i := 51) (by decide +kernel))) rfl
theorem ls_X2_leaveFrom : Cond.selects RX2 yX2_leaveFrom yX2_leaveFrom ∈ ao_G := ao_Gm (ao_w0 (List.mem_of_getElem? (i := 58) (by decide +kernel))) rfl
theorem ls_X2_loserAbout : Cond.selects RX2 yX2_loserAbout yX2_loserAbout ∈ ao_G := ao_Gm (ao_w0 (List.mem_of_getElem? (i := 46) (by decide +kernel))) rfl
theorem ls_X2_mayEnd : Cond.selects RX2 yX2_mayEnd yX2_mayEnd ∈ ao_G := ao_Gm (ao_w0 (List.mem_of_getElem? (i := 52) (by decide +kernel))) rfl
theorem ls_X2_mayTouch : Cond.selects RX2 yX2_mayTouch yX2_mayTouch ∈ ao_G := ao_Gm (ao_w0 (List.mem_of_getElem? (i := 45) (by decide +kernel))) rfl
theorem ls_X2_outermostWrong : Cond.selects RX2 yX2_outermostWrong yX2_outermostWrong ∈ ao_G := ao_Gm (ao_w0 (List.mem_of_getElem? (i := 42) (by decide +kernel))) rfl
theorem ls_X2_quit : Cond.selects RX2 yX2_quit yX2_quit ∈ ao_G := ao_Gm (ao_w0 (List.mem_of_getElem? (i := 57) (by decide +kernel))) rfl
theorem ls_X2_restart : Cond.selects RX2 yX2_restart yX2_restart ∈ ao_G := ao_Gm (ao_w0 (List.mem_of_getElem? (i := 35) (by decide +kernel))) rfl
theorem ls_X2_retry : Cond.selects RX2 yX2_retry yX2_retry ∈ ao_G := ao_Gm (ao_w0 (List.mem_of_getElem? (i := 55) (by decide +kernel))) rfl
theorem ls_X2_say : Cond.selects RX2 yX2_say yX2_say ∈ ao_G := ao_Gm (ao_w0 (List.mem_of_getElem? (i := 48) (by decide +kernel))) rfl
theorem ls_X2_see : Cond.selects RX2 yX2_see yX2_see ∈ ao_G := ao_Gm (ao_w0 (List.mem_of_getElem? (i := 40) (by decide +kernel))) rfl
theorem ls_X2_seeHeld : Cond.selects RX2 yX2_seeHeld yX2_seeHeld ∈ ao_G := ao_Gm (ao_w0 (List.mem_of_getElem? (i := 41) (by decide +kernel))) rfl
theorem ls_X2_step : Cond.selects RX2 yX2_step yX2_step ∈ ao_G := ao_Gm (ao_w0 (List.mem_of_getElem? (i := 39) (by decide +kernel))) rfl
theorem ls_X2_stir : Cond.selects RX2 yX2_stir yX2_stir ∈ ao_G := ao_Gm (ao_w0 (List.mem_of_getElem? (i := 31) (by decide +kernel))) rfl
theorem ls_X2_takeBack : Cond.selects RX2 yX2_takeBack yX2_takeBack ∈ ao_G := ao_Gm (ao_w0 (List.mem_of_getElem? (i := 36) (by decide +kernel))) rfl
theorem ls_X2_write : Cond.selects RX2 yX2_write yX2_write ∈ ao_G := ao_Gm (ao_w0 (List.mem_of_getElem? (i := 47) (by decide +kernel))) rfl
theorem ls_X2_writeRecord : Cond.selects RX2 yX2_writeRecord yX2_writeRecord ∈ ao_G := ao_Gm (ao_w0 (List.mem_of_getElem? (i := 54) (by decide +kernel))) rfl
theorem ls_X2_writesAtOnce : Cond.selects RX2 yX2_writesAtOnce yX2_writesAtOnce ∈ ao_G := ao_Gm (ao_w0 (List.mem_of_getElem? (i := 37) (by decide +kernel))) rfl
theorem ls_X3_addRead : Cond.selects RX3 yX3_addRead yX3_addRead ∈ ao_G := ao_Gm (ao_w5 (List.mem_of_getElem? (i := 88) (by decide +kernel))) rfl
theorem ls_X3_addWrite : Cond.selects RX3 yX3_addWrite yX3_addWrite ∈ ao_G := ao_Gm (ao_w5 (List.mem_of_getElem? (i := 129) (by decide +kernel))) rfl
theorem ls_X3_forgetReads : Cond.selects RX3 yX3_forgetReads yX3_forgetReads ∈ ao_G := ao_Gm (ao_w5 (List.mem_of_getElem? (i := 37) (by decide +kernel))) rfl
theorem ls_X3_forgetWrites : Cond.selects RX3 yX3_forgetWrites yX3_forgetWrites ∈ ao_G := ao_Gm (ao_w5 (List.mem_of_getElem? (i := 28) (by decide +kernel))) rfl
theorem ls_X3_takeReadsOf : Cond.selects RX3 yX3_takeReadsOf yX3_takeReadsOf ∈ ao_G := ao_Gm (ao_w5 (List.mem_of_getElem? (i := 167) (by decide +kernel))) rfl
theorem ls_X3_wrote : Cond.selects RX3 yX3_wrote yX3_wrote ∈ ao_G := ao_Gm (ao_w5 (List.mem_of_getElem? (i := 63) (by decide +kernel))) rfl
theorem ls_X4_broken : Cond.selects RX4 yX4_broken yX4_broken ∈ ao_G := ao_Gm (ao_w0 (List.mem_of_getElem? (i := 14) (by decide +kernel))) rfl
theorem ls_X4_expect : Cond.selects RX4 yX4_expect yX4_expect ∈ ao_G := ao_Gm (ao_w0 (List.mem_of_getElem? (i := 16) (by decide +kernel))) rfl
theorem ls_X5_change : Cond.selects RX5 yX5_change yX5_change ∈ ao_G := ao_Gm (ao_w4 (List.mem_of_getElem? (i := 197) (by decide +kernel))) rfl
theorem ls_X5_clear : Cond.selects RX5 yX5_clear yX5_clear ∈ ao_G := ao_Gm (ao_w3 (List.mem_of_getElem? (i := 148) (by decide +kernel))) rfl
theorem ls_X5_howManyTaken : Cond.selects RX5 yX5_howManyTaken yX5_howManyTaken ∈ ao_G := ao_Gm (ao_w6 (List.mem_of_getElem? (i := 109) (by decide +kernel))) rfl
theorem ls_X5_isTakenBy : Cond.selects RX5 yX5_isTakenBy yX5_isTakenBy ∈ ao_G := ao_Gm (ao_w5 (List.mem_of_getElem? (i := 104) (by decide +kernel))) rfl
theorem ls_X5_isTakenByOther : Cond.selects RX5 yX5_isTakenByOther yX5_isTakenByOther ∈ ao_G := ao_Gm (ao_w5 (List.mem_of_getElem? (i := 0) (by decide +kernel))) rfl
theorem ls_X5_release : Cond.selects RX5 yX5_release yX5_release ∈ ao_G := ao_Gm (ao_w5 (List.mem_of_getElem? (i := 41) (by decide +kernel))) rfl
theorem ls_X5_valueAt : Cond.selects RX5 yX5_valueAt yX5_valueAt ∈ ao_G := ao_Gm (ao_w5 (List.mem_of_getElem? (i := 79) (by decide +kernel))) rfl
theorem ls_X6_addRead : Cond.selects RX6 yX6_addRead yX6_addRead ∈ ao_G := ao_Gm (ao_w5 (List.mem_of_getElem? (i := 96) (by decide +kernel))) rfl
theorem ls_X6_addWrite : Cond.selects RX6 yX6_addWrite yX6_addWrite ∈ ao_G := ao_Gm (ao_w5 (List.mem_of_getElem? (i := 125) (by decide +kernel))) rfl
theorem ls_X6_begin : Cond.selects RX6 yX6_begin yX6_begin ∈ ao_G := ao_Gm (ao_w5 (List.mem_of_getElem? (i := 92) (by decide +kernel))) rfl
theorem ls_X6_clear : Cond.selects RX6 yX6_clear yX6_clear ∈ ao_G := ao_Gm (ao_w3 (List.mem_of_getElem? (i := 152) (by decide +kernel))) rfl
theorem ls_X6_isAhead : Cond.selects RX6 yX6_isAhead yX6_isAhead ∈ ao_G := ao_Gm (ao_w3 (List.mem_of_getElem? (i := 8) (by decide +kernel))) rfl
theorem ls_X6_note : Cond.selects RX6 yX6_note yX6_note ∈ ao_G := ao_Gm (ao_w0 (List.mem_of_getElem? (i := 44) (by decide +kernel))) rfl
theorem ls_X7_enterLevel : Cond.selects RX7 yX7_enterLevel yX7_enterLevel ∈ ao_G := ao_Gm (ao_w5 (List.mem_of_getElem? (i := 149) (by decide +kernel))) rfl
theorem ls_X7_enterTry : Cond.selects RX7 yX7_enterTry yX7_enterTry ∈ ao_G := ao_Gm (ao_w5 (List.mem_of_getElem? (i := 231) (by decide +kernel))) rfl
theorem ls_X7_hold : Cond.selects RX7 yX7_hold yX7_hold ∈ ao_G := ao_Gm (ao_w5 (List.mem_of_getElem? (i := 137) (by decide +kernel))) rfl
theorem ls_X7_innermost : Cond.selects RX7 yX7_innermost yX7_innermost ∈ ao_G := ao_Gm (ao_w5 (List.mem_of_getElem? (i := 83) (by decide +kernel))) rfl
theorem ls_X7_isLeft : Cond.selects RX7 yX7_isLeft yX7_isLeft ∈ ao_G := ao_Gm (ao_w5 (List.mem_of_getElem? (i := 46) (by decide +kernel))) rfl
theorem ls_X7_leaveTry : Cond.selects RX7 yX7_leaveTry yX7_leaveTry ∈ ao_G := ao_Gm (ao_w5 (List.mem_of_getElem? (i := 235) (by decide +kernel))) rfl
theorem ls_X7_level : Cond.selects RX7 yX7_level yX7_level ∈ ao_G := ao_Gm (ao_w4 (List.mem_of_getElem? (i := 236) (by decide +kernel))) rfl
theorem ls_X7_levelWithOr : Cond.selects RX7 yX7_levelWithOr yX7_levelWithOr ∈ ao_G := ao_Gm (ao_w5 (List.mem_of_getElem? (i := 189) (by decide +kernel))) rfl
theorem ls_X7_pop : Cond.selects RX7 yX7_pop yX7_pop ∈ ao_G := ao_Gm (ao_w5 (List.mem_of_getElem? (i := 116) (by decide +kernel))) rfl
theorem ls_X7_push : Cond.selects RX7 yX7_push yX7_push ∈ ao_G := ao_Gm (ao_w5 (List.mem_of_getElem? (i := 67) (by decide +kernel))) rfl
theorem ls_X7_readsOfAll : Cond.selects RX7 yX7_readsOfAll yX7_readsOfAll ∈ ao_G := ao_Gm (ao_w0 (List.mem_of_getElem? (i := 60) (by decide +kernel))) rfl
theorem ls_X7_renew : Cond.selects RX7 yX7_renew yX7_renew ∈ ao_G := ao_Gm (ao_w3 (List.mem_of_getElem? (i := 156) (by decide +kernel))) rfl
theorem ls_X7_setBackTo : Cond.selects RX7 yX7_setBackTo yX7_setBackTo ∈ ao_G := ao_Gm (ao_w5 (List.mem_of_getElem? (i := 32) (by decide +kernel))) rfl
theorem ls_X7_tryAtOf : Cond.selects RX7 yX7_tryAtOf yX7_tryAtOf ∈ ao_G := ao_Gm (ao_w5 (List.mem_of_getElem? (i := 217) (by decide +kernel))) rfl
theorem ls_X7_tryDepthOf : Cond.selects RX7 yX7_tryDepthOf yX7_tryDepthOf ∈ ao_G := ao_Gm (ao_w5 (List.mem_of_getElem? (i := 221) (by decide +kernel))) rfl
theorem ls_X7_writesOfAll : Cond.selects RX7 yX7_writesOfAll yX7_writesOfAll ∈ ao_G := ao_Gm (ao_w0 (List.mem_of_getElem? (i := 61) (by decide +kernel))) rfl
theorem ls_X8_add : Cond.selects RX8 yX8_add yX8_add ∈ ao_G := ao_Gm (ao_w5 (List.mem_of_getElem? (i := 141) (by decide +kernel))) rfl
theorem ls_X9_advance : Cond.selects RX9 yX9_advance yX9_advance ∈ ao_G := ao_Gm (ao_w4 (List.mem_of_getElem? (i := 68) (by decide +kernel))) rfl
theorem ls_X9_byteAt : Cond.selects RX9 yX9_byteAt yX9_byteAt ∈ ao_G := ao_Gm (ao_w0 (List.mem_of_getElem? (i := 5) (by decide +kernel))) rfl
theorem ls_X9_equalsKind : Cond.selects RX9 yX9_equalsKind yX9_equalsKind ∈ ao_G := ao_Gm (ao_w0 (List.mem_of_getElem? (i := 11) (by decide +kernel))) rfl
theorem lt_J6_bitCount_0f7a4 : Cond.static yJ6_bitCount_0f7a4 ∈ ao_G := ao_Gm (ao_w6 (List.mem_of_getElem? (i := 69) (by decide +kernel))) rfl
theorem lt_J7_copyOf_59c91 : Cond.static yJ7_copyOf_59c91 ∈ ao_G := ao_Gm (ao_w4 (List.mem_of_getElem? (i := 201) (by decide +kernel))) rfl
theorem lt_J7_fill_53178 : Cond.static yJ7_fill_53178 ∈ ao_G := ao_Gm (ao_w1 (List.mem_of_getElem? (i := 145) (by decide +kernel))) rfl
theorem lt_X12_isPlace : Cond.static yX12_isPlace ∈ ao_G := ao_Gm (ao_w8 (List.mem_of_getElem? (i := 62) (by decide +kernel))) rfl
theorem lt_X12_isThread : Cond.static yX12_isThread ∈ ao_G := ao_Gm (ao_w7 (List.mem_of_getElem? (i := 201) (by decide +kernel))) rfl
theorem lt_X12_longer : Cond.static yX12_longer ∈ ao_G := ao_Gm (ao_w8 (List.mem_of_getElem? (i := 73) (by decide +kernel))) rfl
theorem lt_X2_again : Cond.static yX2_again ∈ ao_G := ao_Gm (ao_w5 (List.mem_of_getElem? (i := 227) (by decide +kernel))) rfl
theorem lt_X2_compute : Cond.static yX2_compute ∈ ao_G := ao_Gm (ao_w6 (List.mem_of_getElem? (i := 1) (by decide +kernel))) rfl
theorem lt_X2_foldReads : Cond.static yX2_foldReads ∈ ao_G := ao_Gm (ao_w5 (List.mem_of_getElem? (i := 200) (by decide +kernel))) rfl
theorem lt_X2_onTheWay : Cond.static yX2_onTheWay ∈ ao_G := ao_Gm (ao_w5 (List.mem_of_getElem? (i := 238) (by decide +kernel))) rfl
theorem lt_X2_setRegister : Cond.static yX2_setRegister ∈ ao_G := ao_Gm (ao_w5 (List.mem_of_getElem? (i := 224) (by decide +kernel))) rfl
theorem lt_X9_isDigit : Cond.static yX9_isDigit ∈ ao_G := ao_Gm (ao_w4 (List.mem_of_getElem? (i := 51) (by decide +kernel))) rfl
theorem lt_X9_isSmall : Cond.static yX9_isSmall ∈ ao_G := ao_Gm (ao_w3 (List.mem_of_getElem? (i := 216) (by decide +kernel))) rfl
