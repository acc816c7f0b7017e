theorem lnw_L_8 : Cond.classLink RL 8 RX10 ∈ ao_G ∧ Cond.instantiable RX10 6 ∈ ao_G ∧ Cond.initialized RX10 ∈ ao_G := ⟨ao_Gm (ao_w1 (List.mem_of_getElem? (i := 29) rfl)) rfl, ao_Gm (ao_w1 (List.mem_of_getElem? (i := 30) rfl)) rfl, ao_Gm (ao_w1 (List.mem_of_getElem? (i := 1) rfl)) rfl⟩
theorem lnw_L_68 : Cond.classLink RL 68 RX12 ∈ ao_G ∧ Cond.instantiable RX12 83 ∈ ao_G ∧ Cond.initialized RX12 ∈ ao_G := ⟨ao_Gm (ao_w6 (List.mem_of_getElem? (i := 115) rfl)) rfl, ao_Gm (ao_w6 (List.mem_of_getElem? (i := 116) rfl)) rfl, ao_Gm (ao_w1 (List.mem_of_getElem? (i := 13) rfl)) rfl⟩
theorem lna_3 : Cond.arrayClass (ao_et 3) ∈ ao_G := ao_Gm (by decide +kernel) rfl
theorem lc_L_67 : ao_cB RL 67 yX10_init cX10_init 1 none 0 := ⟨ao_Gm (ao_w1 (List.mem_of_getElem? (i := 31) rfl)) rfl, ao_Gm (ao_w1 (List.mem_of_getElem? (i := 33) rfl)) rfl, ao_Gm (ao_w1 (List.mem_of_getElem? (i := 1) rfl)) rfl, by decide, by decide, by decide +kernel⟩
theorem lc_L_70 : ao_cB RL 70 yX12_init cX12_init 1 none 0 := ⟨ao_Gm (ao_w6 (List.mem_of_getElem? (i := 117) rfl)) rfl, ao_Gm (ao_w6 (List.mem_of_getElem? (i := 119) rfl)) rfl, ao_Gm (ao_w1 (List.mem_of_getElem? (i := 13) rfl)) rfl, by decide, by decide, by decide +kernel⟩
theorem lc_L_76 : ao_cB RL 76 yX12_feed cX12_feed 6 (some .int) 5 := ⟨ao_Gm (ao_w7 (List.mem_of_getElem? (i := 176) rfl)) rfl, ao_Gm (ao_w7 (List.mem_of_getElem? (i := 179) rfl)) rfl, ao_Gm (ao_w1 (List.mem_of_getElem? (i := 13) rfl)) rfl, by decide, by decide, by decide +kernel⟩
theorem lc_L_77 : ao_cB RL 77 yX12_thrown cX12_thrown 1 (some .int) 0 := ⟨ao_Gm (ao_w6 (List.mem_of_getElem? (i := 111) rfl)) rfl, ao_Gm (ao_w6 (List.mem_of_getElem? (i := 114) rfl)) rfl, ao_Gm (ao_w1 (List.mem_of_getElem? (i := 13) rfl)) rfl, by decide, by decide, by decide +kernel⟩
theorem lc_L_84 : ao_cB RL 84 yX12_end cX12_end 2 (some .int) 1 := ⟨ao_Gm (ao_w7 (List.mem_of_getElem? (i := 188) rfl)) rfl, ao_Gm (ao_w7 (List.mem_of_getElem? (i := 191) rfl)) rfl, ao_Gm (ao_w1 (List.mem_of_getElem? (i := 13) rfl)) rfl, by decide, by decide, by decide +kernel⟩
theorem lc_L_88 : ao_cB RL 88 yX12_start cX12_start 2 none 1 := ⟨ao_Gm (ao_w7 (List.mem_of_getElem? (i := 192) rfl)) rfl, ao_Gm (ao_w7 (List.mem_of_getElem? (i := 195) rfl)) rfl, ao_Gm (ao_w1 (List.mem_of_getElem? (i := 13) rfl)) rfl, by decide, by decide, by decide +kernel⟩
theorem lc_L_92 : ao_cB RL 92 yX10_place cX10_place 1 (some .int) 0 := ⟨ao_Gm (ao_w2 (List.mem_of_getElem? (i := 231) rfl)) rfl, ao_Gm (ao_w2 (List.mem_of_getElem? (i := 234) rfl)) rfl, ao_Gm (ao_w1 (List.mem_of_getElem? (i := 1) rfl)) rfl, by decide, by decide, by decide +kernel⟩
theorem lc_L_95 : ao_cB RL 95 yX12_place cX12_place 1 (some .int) 0 := ⟨ao_Gm (ao_w8 (List.mem_of_getElem? (i := 53) rfl)) rfl, ao_Gm (ao_w8 (List.mem_of_getElem? (i := 56) rfl)) rfl, ao_Gm (ao_w1 (List.mem_of_getElem? (i := 13) rfl)) rfl, by decide, by decide, by decide +kernel⟩
theorem lc_L_99 : ao_cB RL 99 yX12_put cX12_put 3 (some .int) 2 := ⟨ao_Gm (ao_w8 (List.mem_of_getElem? (i := 57) rfl)) rfl, ao_Gm (ao_w8 (List.mem_of_getElem? (i := 60) rfl)) rfl, ao_Gm (ao_w1 (List.mem_of_getElem? (i := 13) rfl)) rfl, by decide, by decide, by decide +kernel⟩
theorem lc_L_102 : ao_cB RL 102 yX12_turn cX12_turn 3 (some .int) 1 := ⟨ao_Gm (ao_w8 (List.mem_of_getElem? (i := 75) rfl)) rfl, ao_Gm (ao_w8 (List.mem_of_getElem? (i := 78) rfl)) rfl, ao_Gm (ao_w1 (List.mem_of_getElem? (i := 13) rfl)) rfl, by decide, by decide, by decide +kernel⟩
theorem lc_L_105 : ao_cB RL 105 yX12_round cX12_round 7 (some .int) 1 := ⟨ao_Gm (ao_w8 (List.mem_of_getElem? (i := 239) rfl)) rfl, ao_Gm (ao_w9 (List.mem_of_getElem? (i := 2) rfl)) rfl, ao_Gm (ao_w1 (List.mem_of_getElem? (i := 13) rfl)) rfl, by decide, by decide, by decide +kernel⟩
theorem lc_L_108 : ao_cB RL 108 yX12_has cX12_has 2 (some .int) 1 := ⟨ao_Gm (ao_w9 (List.mem_of_getElem? (i := 7) rfl)) rfl, ao_Gm (ao_w9 (List.mem_of_getElem? (i := 10) rfl)) rfl, ao_Gm (ao_w1 (List.mem_of_getElem? (i := 13) rfl)) rfl, by decide, by decide, by decide +kernel⟩
theorem lc_L_111 : ao_cB RL 111 yX12_had cX12_had 3 (some .int) 2 := ⟨ao_Gm (ao_w9 (List.mem_of_getElem? (i := 11) rfl)) rfl, ao_Gm (ao_w9 (List.mem_of_getElem? (i := 14) rfl)) rfl, ao_Gm (ao_w1 (List.mem_of_getElem? (i := 13) rfl)) rfl, by decide, by decide, by decide +kernel⟩
theorem lc_L_114 : ao_cB RL 114 yX12_register cX12_register 3 (some .int) 2 := ⟨ao_Gm (ao_w9 (List.mem_of_getElem? (i := 15) rfl)) rfl, ao_Gm (ao_w9 (List.mem_of_getElem? (i := 18) rfl)) rfl, ao_Gm (ao_w1 (List.mem_of_getElem? (i := 13) rfl)) rfl, by decide, by decide, by decide +kernel⟩
theorem lc_L_118 : ao_cB RL 118 yX12_said cX12_said 3 (some .int) 2 := ⟨ao_Gm (ao_w9 (List.mem_of_getElem? (i := 19) rfl)) rfl, ao_Gm (ao_w9 (List.mem_of_getElem? (i := 22) rfl)) rfl, ao_Gm (ao_w1 (List.mem_of_getElem? (i := 13) rfl)) rfl, by decide, by decide, by decide +kernel⟩
theorem lc_L_121 : ao_cB RL 121 yX12_look cX12_look 3 (some .int) 2 := ⟨ao_Gm (ao_w9 (List.mem_of_getElem? (i := 23) rfl)) rfl, ao_Gm (ao_w9 (List.mem_of_getElem? (i := 26) rfl)) rfl, ao_Gm (ao_w1 (List.mem_of_getElem? (i := 13) rfl)) rfl, by decide, by decide, by decide +kernel⟩
theorem lc_L_122 : ao_cB RL 122 yX10_judge cX10_judge 1 (some .int) 0 := ⟨ao_Gm (ao_w2 (List.mem_of_getElem? (i := 235) rfl)) rfl, ao_Gm (ao_w2 (List.mem_of_getElem? (i := 238) rfl)) rfl, ao_Gm (ao_w1 (List.mem_of_getElem? (i := 1) rfl)) rfl, by decide, by decide, by decide +kernel⟩
theorem lc_L_125 : ao_cB RL 125 yX12_judge cX12_judge 5 (some .int) 0 := ⟨ao_Gm (ao_w9 (List.mem_of_getElem? (i := 35) rfl)) rfl, ao_Gm (ao_w9 (List.mem_of_getElem? (i := 38) rfl)) rfl, ao_Gm (ao_w1 (List.mem_of_getElem? (i := 13) rfl)) rfl, by decide, by decide, by decide +kernel⟩
theorem lc_L_128 : ao_cB RL 128 yX12_order cX12_order 2 (some .int) 1 := ⟨ao_Gm (ao_w9 (List.mem_of_getElem? (i := 47) rfl)) rfl, ao_Gm (ao_w9 (List.mem_of_getElem? (i := 50) rfl)) rfl, ao_Gm (ao_w1 (List.mem_of_getElem? (i := 13) rfl)) rfl, by decide, by decide, by decide +kernel⟩
theorem lc_L_131 : ao_cB RL 131 yX12_record cX12_record 5 (some .int) 2 := ⟨ao_Gm (ao_w9 (List.mem_of_getElem? (i := 51) rfl)) rfl, ao_Gm (ao_w9 (List.mem_of_getElem? (i := 54) rfl)) rfl, ao_Gm (ao_w1 (List.mem_of_getElem? (i := 13) rfl)) rfl, by decide, by decide, by decide +kernel⟩
theorem lc_L_134 : ao_cB RL 134 yX12_count cX12_count 4 (some .int) 1 := ⟨ao_Gm (ao_w9 (List.mem_of_getElem? (i := 55) rfl)) rfl, ao_Gm (ao_w9 (List.mem_of_getElem? (i := 58) rfl)) rfl, ao_Gm (ao_w1 (List.mem_of_getElem? (i := 13) rfl)) rfl, by decide, by decide, by decide +kernel⟩
theorem lh_L_71 : ao_cH RL 71 yL_feed cL_feed 8 (some .int) [(0, 16, 19, 13)] 7 := ⟨ao_Gm (ao_w3 (List.mem_of_getElem? (i := 29) rfl)) rfl, ao_Gm (ao_w3 (List.mem_of_getElem? (i := 31) rfl)) rfl, ao_Gm (ao_w1 (List.mem_of_getElem? (i := 0) rfl)) rfl, by decide, by decide, by decide +kernel⟩
theorem lh_L_81 : ao_cH RL 81 yL_end cL_end 4 (some .int) [(0, 9, 12, 19)] 3 := ⟨ao_Gm (ao_w3 (List.mem_of_getElem? (i := 110) rfl)) rfl, ao_Gm (ao_w3 (List.mem_of_getElem? (i := 112) rfl)) rfl, ao_Gm (ao_w1 (List.mem_of_getElem? (i := 0) rfl)) rfl, by decide, by decide, by decide +kernel⟩
theorem lh_L_85 : ao_cH RL 85 yL_start cL_start 3 (some .int) [(0, 5, 8, 19)] 2 := ⟨ao_Gm (ao_w3 (List.mem_of_getElem? (i := 134) rfl)) rfl, ao_Gm (ao_w3 (List.mem_of_getElem? (i := 136) rfl)) rfl, ao_Gm (ao_w1 (List.mem_of_getElem? (i := 0) rfl)) rfl, by decide, by decide, by decide +kernel⟩
theorem lh_L_89 : ao_cH RL 89 yL_program cL_program 4 (some .int) [(0, 9, 12, 19), (0, 9, 15, 28), (0, 9, 18, 30)] 3 := ⟨ao_Gm (ao_w3 (List.mem_of_getElem? (i := 163) rfl)) rfl, ao_Gm (ao_w3 (List.mem_of_getElem? (i := 165) rfl)) rfl, ao_Gm (ao_w1 (List.mem_of_getElem? (i := 0) rfl)) rfl, by decide, by decide, by decide +kernel⟩
theorem lh_L_91 : ao_cH RL 91 yX12_program cX12_program 3 (some .int) [(81, 85, 88, 168)] 1 := ⟨ao_Gm (ao_w7 (List.mem_of_getElem? (i := 196) rfl)) rfl, ao_Gm (ao_w7 (List.mem_of_getElem? (i := 199) rfl)) rfl, ao_Gm (ao_w1 (List.mem_of_getElem? (i := 13) rfl)) rfl, by decide, by decide, by decide +kernel⟩
theorem lh_L_96 : ao_cH RL 96 yL_put cL_put 5 (some .int) [(0, 10, 13, 19), (0, 10, 17, 28)] 4 := ⟨ao_Gm (ao_w4 (List.mem_of_getElem? (i := 186) rfl)) rfl, ao_Gm (ao_w4 (List.mem_of_getElem? (i := 188) rfl)) rfl, ao_Gm (ao_w1 (List.mem_of_getElem? (i := 0) rfl)) rfl, by decide, by decide, by decide +kernel⟩
theorem lh_L_100 : ao_cH RL 100 yL_turn cL_turn 4 (some .int) [(0, 9, 12, 19), (0, 9, 15, 28)] 3 := ⟨ao_Gm (ao_w4 (List.mem_of_getElem? (i := 214) rfl)) rfl, ao_Gm (ao_w4 (List.mem_of_getElem? (i := 216) rfl)) rfl, ao_Gm (ao_w1 (List.mem_of_getElem? (i := 0) rfl)) rfl, by decide, by decide, by decide +kernel⟩
theorem lh_L_103 : ao_cH RL 103 yL_round cL_round 4 (some .int) [(0, 9, 12, 19)] 3 := ⟨ao_Gm (ao_w6 (List.mem_of_getElem? (i := 3) rfl)) rfl, ao_Gm (ao_w6 (List.mem_of_getElem? (i := 5) rfl)) rfl, ao_Gm (ao_w1 (List.mem_of_getElem? (i := 0) rfl)) rfl, by decide, by decide, by decide +kernel⟩
theorem lh_L_106 : ao_cH RL 106 yL_has cL_has 4 (some .int) [(0, 9, 12, 19)] 3 := ⟨ao_Gm (ao_w6 (List.mem_of_getElem? (i := 16) rfl)) rfl, ao_Gm (ao_w6 (List.mem_of_getElem? (i := 18) rfl)) rfl, ao_Gm (ao_w1 (List.mem_of_getElem? (i := 0) rfl)) rfl, by decide, by decide, by decide +kernel⟩
theorem lh_L_109 : ao_cH RL 109 yL_had cL_had 5 (some .int) [(0, 10, 13, 19)] 4 := ⟨ao_Gm (ao_w6 (List.mem_of_getElem? (i := 23) rfl)) rfl, ao_Gm (ao_w6 (List.mem_of_getElem? (i := 25) rfl)) rfl, ao_Gm (ao_w1 (List.mem_of_getElem? (i := 0) rfl)) rfl, by decide, by decide, by decide +kernel⟩
theorem lh_L_112 : ao_cH RL 112 yL_register cL_register 5 (some .int) [(0, 10, 13, 19)] 4 := ⟨ao_Gm (ao_w6 (List.mem_of_getElem? (i := 32) rfl)) rfl, ao_Gm (ao_w6 (List.mem_of_getElem? (i := 34) rfl)) rfl, ao_Gm (ao_w1 (List.mem_of_getElem? (i := 0) rfl)) rfl, by decide, by decide, by decide +kernel⟩
theorem lh_L_115 : ao_cH RL 115 yL_said cL_said 5 (some .int) [(0, 10, 13, 13)] 4 := ⟨ao_Gm (ao_w6 (List.mem_of_getElem? (i := 40) rfl)) rfl, ao_Gm (ao_w6 (List.mem_of_getElem? (i := 42) rfl)) rfl, ao_Gm (ao_w1 (List.mem_of_getElem? (i := 0) rfl)) rfl, by decide, by decide, by decide +kernel⟩
theorem lh_L_119 : ao_cH RL 119 yL_look cL_look 5 (some .int) [(0, 10, 13, 19)] 4 := ⟨ao_Gm (ao_w6 (List.mem_of_getElem? (i := 48) rfl)) rfl, ao_Gm (ao_w6 (List.mem_of_getElem? (i := 50) rfl)) rfl, ao_Gm (ao_w1 (List.mem_of_getElem? (i := 0) rfl)) rfl, by decide, by decide, by decide +kernel⟩
theorem lh_L_126 : ao_cH RL 126 yL_order cL_order 4 (some .int) [(0, 9, 12, 13)] 3 := ⟨ao_Gm (ao_w6 (List.mem_of_getElem? (i := 74) rfl)) rfl, ao_Gm (ao_w6 (List.mem_of_getElem? (i := 76) rfl)) rfl, ao_Gm (ao_w1 (List.mem_of_getElem? (i := 0) rfl)) rfl, by decide, by decide, by decide +kernel⟩
theorem lh_L_129 : ao_cH RL 129 yL_record cL_record 5 (some .int) [(0, 10, 13, 19), (0, 10, 17, 13)] 4 := ⟨ao_Gm (ao_w6 (List.mem_of_getElem? (i := 82) rfl)) rfl, ao_Gm (ao_w6 (List.mem_of_getElem? (i := 84) rfl)) rfl, ao_Gm (ao_w1 (List.mem_of_getElem? (i := 0) rfl)) rfl, by decide, by decide, by decide +kernel⟩
theorem lh_L_132 : ao_cH RL 132 yL_count cL_count 4 (some .int) [(0, 9, 12, 19)] 3 := ⟨ao_Gm (ao_w6 (List.mem_of_getElem? (i := 95) rfl)) rfl, ao_Gm (ao_w6 (List.mem_of_getElem? (i := 97) rfl)) rfl, ao_Gm (ao_w1 (List.mem_of_getElem? (i := 0) rfl)) rfl, by decide, by decide, by decide +kernel⟩
theorem li_X10_init : Cond.instanceMethod yX10_init ∈ ao_G := ao_Gm (ao_w1 (List.mem_of_getElem? (i := 32) rfl)) rfl
theorem li_X10_judge : Cond.instanceMethod yX10_judge ∈ ao_G := ao_Gm (ao_w2 (List.mem_of_getElem? (i := 236) rfl)) rfl
theorem li_X10_place : Cond.instanceMethod yX10_place ∈ ao_G := ao_Gm (ao_w2 (List.mem_of_getElem? (i := 232) rfl)) rfl
theorem li_X12_count : Cond.instanceMethod yX12_count ∈ ao_G := ao_Gm (ao_w9 (List.mem_of_getElem? (i := 56) rfl)) rfl
theorem li_X12_end : Cond.instanceMethod yX12_end ∈ ao_G := ao_Gm (ao_w7 (List.mem_of_getElem? (i := 189) rfl)) rfl
theorem li_X12_feed : Cond.instanceMethod yX12_feed ∈ ao_G := ao_Gm (ao_w7 (List.mem_of_getElem? (i := 177) rfl)) rfl
theorem li_X12_had : Cond.instanceMethod yX12_had ∈ ao_G := ao_Gm (ao_w9 (List.mem_of_getElem? (i := 12) rfl)) rfl
theorem li_X12_has : Cond.instanceMethod yX12_has ∈ ao_G := ao_Gm (ao_w9 (List.mem_of_getElem? (i := 8) rfl)) rfl
theorem li_X12_init : Cond.instanceMethod yX12_init ∈ ao_G := ao_Gm (ao_w6 (List.mem_of_getElem? (i := 118) rfl)) rfl
theorem li_X12_judge : Cond.instanceMethod yX12_judge ∈ ao_G := ao_Gm (ao_w9 (List.mem_of_getElem? (i := 36) rfl)) rfl
theorem li_X12_look : Cond.instanceMethod yX12_look ∈ ao_G := ao_Gm (ao_w9 (List.mem_of_getElem? (i := 24) rfl)) rfl
theorem li_X12_order : Cond.instanceMethod yX12_order ∈ ao_G := ao_Gm (ao_w9 (List.mem_of_getElem? (i := 48) rfl)) rfl
theorem li_X12_place : Cond.instanceMethod yX12_place ∈ ao_G := ao_Gm (ao_w8 (List.mem_of_getElem? (i := 54) rfl)) rfl
theorem li_X12_program : Cond.instanceMethod yX12_program ∈ ao_G := ao_Gm (ao_w7 (List.mem_of_getElem? (i := 197) rfl)) rfl
theorem li_X12_put : Cond.instanceMethod yX12_put ∈ ao_G := ao_Gm (ao_w8 (List.mem_of_getElem? (i := 58) rfl)) rfl
theorem li_X12_record : Cond.instanceMethod yX12_record ∈ ao_G := ao_Gm (ao_w9 (List.mem_of_getElem? (i := 52) rfl)) rfl
theorem li_X12_register : Cond.instanceMethod yX12_register ∈ ao_G := ao_Gm (ao_w9 (List.mem_of_getElem? (i := 16) rfl)) rfl
theorem li_X12_round : Cond.instanceMethod yX12_round ∈ ao_G := ao_Gm (ao_w9 (List.mem_of_getElem? (i := 0) rfl)) rfl
theorem li_X12_said : Cond.instanceMethod yX12_said ∈ ao_G := ao_Gm (ao_w9 (List.mem_of_getElem? (i := 20) rfl)) rfl
theorem li_X12_start : Cond.instanceMethod yX12_start ∈ ao_G := ao_Gm (ao_w7 (List.mem_of_getElem? (i := 193) rfl)) rfl
theorem li_X12_thrown : Cond.instanceMethod yX12_thrown ∈ ao_G := ao_Gm (ao_w6 (List.mem_of_getElem? (i := 112) rfl)) rfl
theorem li_X12_turn : Cond.instanceMethod yX12_turn ∈ ao_G := ao_Gm (ao_w8 (List.mem_of_getElem? (i := 76) rfl)) rfl
theorem ls_X10_judge : Cond.selects RX10 yX10_judge yX10_judge ∈ ao_G := ao_Gm (ao_w2 (List.mem_of_getElem? (i := 237) rfl)) rfl
theorem ls_X10_place : Cond.selects RX10 yX10_place yX10_place ∈ ao_G := ao_Gm (ao_w2 (List.mem_of_getElem? (i := 233) rfl)) rfl
theorem ls_X12_count : Cond.selects RX12 yX12_count yX12_count ∈ ao_G := ao_Gm (ao_w9 (List.mem_of_getElem? (i := 57) rfl)) rfl
theorem ls_X12_end : Cond.selects RX12 yX12_end yX12_end ∈ ao_G := ao_Gm (ao_w7 (List.mem_of_getElem? (i := 190) rfl)) rfl
theorem ls_X12_feed : Cond.selects RX12 yX12_feed yX12_feed ∈ ao_G := ao_Gm (ao_w7 (List.mem_of_getElem? (i := 178) rfl)) rfl
theorem ls_X12_had : Cond.selects RX12 yX12_had yX12_had ∈ ao_G := ao_Gm (ao_w9 (List.mem_of_getElem? (i := 13) rfl)) rfl
theorem ls_X12_has : Cond.selects RX12 yX12_has yX12_has ∈ ao_G := ao_Gm (ao_w9 (List.mem_of_getElem? (i := 9) rfl)) rfl
theorem ls_X12_judge : Cond.selects RX12 yX12_judge yX12_judge ∈ ao_G := ao_Gm (ao_w9 (List.mem_of_getElem? (i := 37) rfl)) rfl
theorem ls_X12_look : Cond.selects RX12 yX12_look yX12_look ∈ ao_G := ao_Gm (ao_w9 (List.mem_of_getElem? (i := 25) rfl)) rfl
theorem ls_X12_order : Cond.selects RX12 yX12_order yX12_order ∈ ao_G := ao_Gm (ao_w9 (List.mem_of_getElem? (i := 49) rfl)) rfl
theorem ls_X12_place : Cond.selects RX12 yX12_place yX12_place ∈ ao_G := ao_Gm (ao_w8 (List.mem_of_getElem? (i := 55) rfl)) rfl
theorem ls_X12_program : Cond.selects RX12 yX12_program yX12_program ∈ ao_G := ao_Gm (ao_w7 (List.mem_of_getElem? (i := 198) rfl)) rfl
theorem ls_X12_put : Cond.selects RX12 yX12_put yX12_put ∈ ao_G := ao_Gm (ao_w8 (List.mem_of_getElem? (i := 59) rfl)) rfl
theorem ls_X12_record : Cond.selects RX12 yX12_record yX12_record ∈ ao_G := ao_Gm (ao_w9 (List.mem_of_getElem? (i := 53) rfl)) rfl
theorem ls_X12_register : Cond.selects RX12 yX12_register yX12_register ∈ ao_G := ao_Gm (ao_w9 (List.mem_of_getElem? (i := 17) rfl)) rfl
theorem ls_X12_round : Cond.selects RX12 yX12_round yX12_round ∈ ao_G := ao_Gm (ao_w9 (List.mem_of_getElem? (i := 1) rfl)) rfl
theorem ls_X12_said : Cond.selects RX12 yX12_said yX12_said ∈ ao_G := ao_Gm (ao_w9 (List.mem_of_getElem? (i := 21) rfl)) rfl
theorem ls_X12_start : Cond.selects RX12 yX12_start yX12_start ∈ ao_G := ao_Gm (ao_w7 (List.mem_of_getElem? (i := 194) rfl)) rfl
theorem ls_X12_thrown : Cond.selects RX12 yX12_thrown yX12_thrown ∈ ao_G := ao_Gm (ao_w6 (List.mem_of_getElem? (i := 113) rfl)) rfl
theorem ls_X12_turn : Cond.selects RX12 yX12_turn yX12_turn ∈ ao_G := ao_Gm (ao_w8 (List.mem_of_getElem? (i := 77) rfl)) rfl
theorem lt_L_count : Cond.static yL_count ∈ ao_G := ao_Gm (ao_w6 (List.mem_of_getElem? (i := 96) rfl)) rfl
theorem lt_L_end : Cond.static yL_end ∈ ao_G := ao_Gm (ao_w3 (List.mem_of_getElem? (i := 111) rfl)) rfl
theorem lt_L_feed : Cond.static yL_feed ∈ ao_G := ao_Gm (ao_w3 (List.mem_of_getElem? (i := 30) rfl)) rfl
theorem lt_L_had : Cond.static yL_had ∈ ao_G := ao_Gm (ao_w6 (List.mem_of_getElem? (i := 24) rfl)) rfl
theorem lt_L_has : Cond.static yL_has ∈ ao_G := ao_Gm (ao_w6 (List.mem_of_getElem? (i := 17) rfl)) rfl
theorem lt_L_look : Cond.static yL_look ∈ ao_G := ao_Gm (ao_w6 (List.mem_of_getElem? (i := 49) rfl)) rfl
theorem lt_L_order : Cond.static yL_order ∈ ao_G := ao_Gm (ao_w6 (List.mem_of_getElem? (i := 75) rfl)) rfl
theorem lt_L_program : Cond.static yL_program ∈ ao_G := ao_Gm (ao_w3 (List.mem_of_getElem? (i := 164) rfl)) rfl
theorem lt_L_put : Cond.static yL_put ∈ ao_G := ao_Gm (ao_w4 (List.mem_of_getElem? (i := 187) rfl)) rfl
theorem lt_L_record : Cond.static yL_record ∈ ao_G := ao_Gm (ao_w6 (List.mem_of_getElem? (i := 83) rfl)) rfl
theorem lt_L_register : Cond.static yL_register ∈ ao_G := ao_Gm (ao_w6 (List.mem_of_getElem? (i := 33) rfl)) rfl
theorem lt_L_round : Cond.static yL_round ∈ ao_G := ao_Gm (ao_w6 (List.mem_of_getElem? (i := 4) rfl)) rfl
theorem lt_L_said : Cond.static yL_said ∈ ao_G := ao_Gm (ao_w6 (List.mem_of_getElem? (i := 41) rfl)) rfl
theorem lt_L_start : Cond.static yL_start ∈ ao_G := ao_Gm (ao_w3 (List.mem_of_getElem? (i := 135) rfl)) rfl
theorem lt_L_turn : Cond.static yL_turn ∈ ao_G := ao_Gm (ao_w4 (List.mem_of_getElem? (i := 215) rfl)) rfl
