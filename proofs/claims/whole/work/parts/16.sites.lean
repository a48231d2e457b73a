/-! WHAT EACH INSTRUCTION LINKS, printed by wip/whole/names.py -/
theorem in_C_init : ct_in m_C_init := Or.inl ⟨rfl, tb_1 _ (List.mem_of_getElem? (i := 17) rfl)⟩
theorem in_A_fill : ct_in m_A_fill := Or.inl ⟨rfl, tb_1 _ (List.mem_of_getElem? (i := 23) rfl)⟩
theorem in_T_init : ct_in m_T_init := Or.inl ⟨rfl, tb_1 _ (List.mem_of_getElem? (i := 28) rfl)⟩
theorem in_R_init : ct_in m_R_init := Or.inl ⟨rfl, tb_1 _ (List.mem_of_getElem? (i := 53) rfl)⟩
theorem in_C_clock : ct_in m_C_clock := Or.inl ⟨rfl, tb_1 _ (List.mem_of_getElem? (i := 130) rfl)⟩
theorem in_L_person : ct_in m_L_person := Or.inr (tb_1 _ (List.mem_of_getElem? (i := 133) rfl))
theorem in_C_person : ct_in m_C_person := Or.inl ⟨rfl, tb_1 _ (List.mem_of_getElem? (i := 139) rfl)⟩
theorem in_L_unit : ct_in m_L_unit := Or.inr (tb_1 _ (List.mem_of_getElem? (i := 227) rfl))
theorem in_C_unit : ct_in m_C_unit := Or.inl ⟨rfl, tb_1 _ (List.mem_of_getElem? (i := 231) rfl)⟩
theorem in_L_arrive : ct_in m_L_arrive := Or.inr (tb_1 _ (List.mem_of_getElem? (i := 235) rfl))
theorem in_C_arrive : ct_in m_C_arrive := Or.inl ⟨rfl, tb_2 _ (List.mem_of_getElem? (i := 1) rfl)⟩
theorem in_C_requirePerson : ct_in m_C_requirePerson := Or.inl ⟨rfl, tb_2 _ (List.mem_of_getElem? (i := 5) rfl)⟩
theorem in_C_isThere : ct_in m_C_isThere := Or.inl ⟨rfl, tb_2 _ (List.mem_of_getElem? (i := 25) rfl)⟩
theorem in_C_comeInto : ct_in m_C_comeInto := Or.inl ⟨rfl, tb_2 _ (List.mem_of_getElem? (i := 45) rfl)⟩
theorem in_C_leaveLeadToNext : ct_in m_C_leaveLeadToNext := Or.inl ⟨rfl, tb_2 _ (List.mem_of_getElem? (i := 49) rfl)⟩
theorem in_C_nextToLead : ct_in m_C_nextToLead := Or.inl ⟨rfl, tb_2 _ (List.mem_of_getElem? (i := 53) rfl)⟩
theorem in_C_comesBefore : ct_in m_C_comesBefore := Or.inl ⟨rfl, tb_2 _ (List.mem_of_getElem? (i := 57) rfl)⟩
theorem in_C_setLeader : ct_in m_C_setLeader := Or.inl ⟨rfl, tb_2 _ (List.mem_of_getElem? (i := 61) rfl)⟩
theorem in_C_withdrawOffersTo : ct_in m_C_withdrawOffersTo := Or.inl ⟨rfl, tb_2 _ (List.mem_of_getElem? (i := 65) rfl)⟩
theorem in_C_replace : ct_in m_C_replace := Or.inl ⟨rfl, tb_2 _ (List.mem_of_getElem? (i := 68) rfl)⟩
theorem in_R_note : ct_in m_R_note := Or.inl ⟨rfl, tb_2 _ (List.mem_of_getElem? (i := 72) rfl)⟩
theorem in_R_dropOldest : ct_in m_R_dropOldest := Or.inl ⟨rfl, tb_2 _ (List.mem_of_getElem? (i := 76) rfl)⟩
theorem in_R_ringIndex : ct_in m_R_ringIndex := Or.inl ⟨rfl, tb_2 _ (List.mem_of_getElem? (i := 80) rfl)⟩
theorem in_L_leave : ct_in m_L_leave := Or.inr (tb_2 _ (List.mem_of_getElem? (i := 83) rfl))
theorem in_C_leave : ct_in m_C_leave := Or.inl ⟨rfl, tb_2 _ (List.mem_of_getElem? (i := 87) rfl)⟩
theorem in_C_requireThere : ct_in m_C_requireThere := Or.inl ⟨rfl, tb_2 _ (List.mem_of_getElem? (i := 91) rfl)⟩
theorem in_L_go : ct_in m_L_go := Or.inr (tb_2 _ (List.mem_of_getElem? (i := 95) rfl))
theorem in_C_go : ct_in m_C_go := Or.inl ⟨rfl, tb_2 _ (List.mem_of_getElem? (i := 99) rfl)⟩
theorem in_C_requireSector : ct_in m_C_requireSector := Or.inl ⟨rfl, tb_2 _ (List.mem_of_getElem? (i := 103) rfl)⟩
theorem in_C_requireOpen : ct_in m_C_requireOpen := Or.inl ⟨rfl, tb_2 _ (List.mem_of_getElem? (i := 109) rfl)⟩
theorem in_L_place : ct_in m_L_place := Or.inr (tb_2 _ (List.mem_of_getElem? (i := 113) rfl))
theorem in_C_place : ct_in m_C_place := Or.inl ⟨rfl, tb_2 _ (List.mem_of_getElem? (i := 117) rfl)⟩
theorem in_C_requireUnit : ct_in m_C_requireUnit := Or.inl ⟨rfl, tb_2 _ (List.mem_of_getElem? (i := 121) rfl)⟩
theorem in_L_split : ct_in m_L_split := Or.inr (tb_2 _ (List.mem_of_getElem? (i := 126) rfl))
theorem in_C_split : ct_in m_C_split := Or.inl ⟨rfl, tb_2 _ (List.mem_of_getElem? (i := 130) rfl)⟩
theorem in_L_join : ct_in m_L_join := Or.inr (tb_2 _ (List.mem_of_getElem? (i := 134) rfl))
theorem in_C_join : ct_in m_C_join := Or.inl ⟨rfl, tb_2 _ (List.mem_of_getElem? (i := 138) rfl)⟩
theorem in_C_isSameOrBelow : ct_in m_C_isSameOrBelow := Or.inl ⟨rfl, tb_2 _ (List.mem_of_getElem? (i := 143) rfl)⟩
theorem in_C_moveSectorsBelow : ct_in m_C_moveSectorsBelow := Or.inl ⟨rfl, tb_2 _ (List.mem_of_getElem? (i := 148) rfl)⟩
theorem in_T_giveUnanswered : ct_in m_T_giveUnanswered := Or.inl ⟨rfl, tb_2 _ (List.mem_of_getElem? (i := 152) rfl)⟩
theorem in_T_isAnswered : ct_in m_T_isAnswered := Or.inl ⟨rfl, tb_2 _ (List.mem_of_getElem? (i := 156) rfl)⟩
theorem in_L_offer : ct_in m_L_offer := Or.inr (tb_2 _ (List.mem_of_getElem? (i := 159) rfl))
theorem in_C_offer : ct_in m_C_offer := Or.inl ⟨rfl, tb_2 _ (List.mem_of_getElem? (i := 163) rfl)⟩
theorem in_L_take : ct_in m_L_take := Or.inr (tb_2 _ (List.mem_of_getElem? (i := 168) rfl))
theorem in_C_take : ct_in m_C_take := Or.inl ⟨rfl, tb_2 _ (List.mem_of_getElem? (i := 172) rfl)⟩
theorem in_L_task : ct_in m_L_task := Or.inr (tb_2 _ (List.mem_of_getElem? (i := 176) rfl))
theorem in_C_task : ct_in m_C_task := Or.inl ⟨rfl, tb_2 _ (List.mem_of_getElem? (i := 180) rfl)⟩
theorem in_T_isFull : ct_in m_T_isFull := Or.inl ⟨rfl, tb_2 _ (List.mem_of_getElem? (i := 186) rfl)⟩
theorem in_T_add : ct_in m_T_add := Or.inl ⟨rfl, tb_2 _ (List.mem_of_getElem? (i := 191) rfl)⟩
theorem in_L_answer : ct_in m_L_answer := Or.inr (tb_2 _ (List.mem_of_getElem? (i := 195) rfl))
theorem in_C_answer : ct_in m_C_answer := Or.inl ⟨rfl, tb_2 _ (List.mem_of_getElem? (i := 199) rfl)⟩
theorem in_C_requireTask : ct_in m_C_requireTask := Or.inl ⟨rfl, tb_2 _ (List.mem_of_getElem? (i := 203) rfl)⟩
theorem in_T_has : ct_in m_T_has := Or.inl ⟨rfl, tb_2 _ (List.mem_of_getElem? (i := 207) rfl)⟩
theorem in_T_setAnswer : ct_in m_T_setAnswer := Or.inl ⟨rfl, tb_2 _ (List.mem_of_getElem? (i := 214) rfl)⟩
theorem in_L_span : ct_in m_L_span := Or.inr (tb_2 _ (List.mem_of_getElem? (i := 217) rfl))
theorem in_C_span : ct_in m_C_span := Or.inl ⟨rfl, tb_2 _ (List.mem_of_getElem? (i := 221) rfl)⟩
theorem in_C_isPassed : ct_in m_C_isPassed := Or.inl ⟨rfl, tb_2 _ (List.mem_of_getElem? (i := 226) rfl)⟩
theorem in_C_countOpenBelow : ct_in m_C_countOpenBelow := Or.inl ⟨rfl, tb_2 _ (List.mem_of_getElem? (i := 230) rfl)⟩
theorem in_C_count : ct_in m_C_count := Or.inl ⟨rfl, tb_2 _ (List.mem_of_getElem? (i := 233) rfl)⟩
theorem in_L_tick : ct_in m_L_tick := Or.inr (tb_2 _ (List.mem_of_getElem? (i := 236) rfl))
theorem in_C_tick : ct_in m_C_tick := Or.inl ⟨rfl, tb_3 _ (List.mem_of_getElem? (i := 0) rfl)⟩
theorem in_T_countNewlyOverdue : ct_in m_T_countNewlyOverdue := Or.inl ⟨rfl, tb_3 _ (List.mem_of_getElem? (i := 5) rfl)⟩
theorem in_T_stateOf : ct_in m_T_stateOf := Or.inl ⟨rfl, tb_3 _ (List.mem_of_getElem? (i := 9) rfl)⟩
theorem in_L_led : ct_in m_L_led := Or.inr (tb_3 _ (List.mem_of_getElem? (i := 12) rfl))
theorem in_C_led : ct_in m_C_led := Or.inl ⟨rfl, tb_3 _ (List.mem_of_getElem? (i := 16) rfl)⟩
theorem in_R_reachBackTo : ct_in m_R_reachBackTo := Or.inl ⟨rfl, tb_3 _ (List.mem_of_getElem? (i := 21) rfl)⟩
theorem in_R_leaderBehind : ct_in m_R_leaderBehind := Or.inl ⟨rfl, tb_3 _ (List.mem_of_getElem? (i := 26) rfl)⟩
theorem in_L_sectorAt : ct_in m_L_sectorAt := Or.inr (tb_3 _ (List.mem_of_getElem? (i := 29) rfl))
theorem in_C_sectorAt : ct_in m_C_sectorAt := Or.inl ⟨rfl, tb_3 _ (List.mem_of_getElem? (i := 33) rfl)⟩
theorem in_L_personAt : ct_in m_L_personAt := Or.inr (tb_3 _ (List.mem_of_getElem? (i := 37) rfl))
theorem in_C_personAt : ct_in m_C_personAt := Or.inl ⟨rfl, tb_3 _ (List.mem_of_getElem? (i := 41) rfl)⟩
theorem in_L_unitAt : ct_in m_L_unitAt := Or.inr (tb_3 _ (List.mem_of_getElem? (i := 44) rfl))
theorem in_C_unitAt : ct_in m_C_unitAt := Or.inl ⟨rfl, tb_3 _ (List.mem_of_getElem? (i := 48) rfl)⟩
theorem in_L_taskAt : ct_in m_L_taskAt := Or.inr (tb_3 _ (List.mem_of_getElem? (i := 51) rfl))
theorem in_C_taskAt : ct_in m_C_taskAt := Or.inl ⟨rfl, tb_3 _ (List.mem_of_getElem? (i := 55) rfl)⟩
theorem in_T_sectorOf : ct_in m_T_sectorOf := Or.inl ⟨rfl, tb_3 _ (List.mem_of_getElem? (i := 59) rfl)⟩
theorem in_T_answeredAt : ct_in m_T_answeredAt := Or.inl ⟨rfl, tb_3 _ (List.mem_of_getElem? (i := 64) rfl)⟩
theorem in_L_passed : ct_in m_L_passed := Or.inr (tb_3 _ (List.mem_of_getElem? (i := 67) rfl))
theorem in_C_passed : ct_in m_C_passed := Or.inl ⟨rfl, tb_3 _ (List.mem_of_getElem? (i := 71) rfl)⟩
theorem in_M_init : ct_in m_M_init := Or.inl ⟨rfl, tb_3 _ (List.mem_of_getElem? (i := 77) rfl)⟩
theorem in_M_thrown : ct_in m_M_thrown := Or.inl ⟨rfl, tb_3 _ (List.mem_of_getElem? (i := 158) rfl)⟩
theorem in_M_person : ct_in m_M_person := Or.inl ⟨rfl, tb_3 _ (List.mem_of_getElem? (i := 162) rfl)⟩
theorem in_M_within : ct_in m_M_within := Or.inl ⟨rfl, tb_3 _ (List.mem_of_getElem? (i := 165) rfl)⟩
theorem in_M_goes : ct_in m_M_goes := Or.inl ⟨rfl, tb_3 _ (List.mem_of_getElem? (i := 169) rfl)⟩
theorem in_M_unit : ct_in m_M_unit := Or.inl ⟨rfl, tb_3 _ (List.mem_of_getElem? (i := 173) rfl)⟩
theorem in_M_arrive : ct_in m_M_arrive := Or.inl ⟨rfl, tb_3 _ (List.mem_of_getElem? (i := 177) rfl)⟩
theorem in_M_isPerson : ct_in m_M_isPerson := Or.inl ⟨rfl, tb_3 _ (List.mem_of_getElem? (i := 181) rfl)⟩
theorem in_M_moves : ct_in m_M_moves := Or.inl ⟨rfl, tb_3 _ (List.mem_of_getElem? (i := 185) rfl)⟩
theorem in_M_leads : ct_in m_M_leads := Or.inl ⟨rfl, tb_3 _ (List.mem_of_getElem? (i := 189) rfl)⟩
theorem in_M_next : ct_in m_M_next := Or.inl ⟨rfl, tb_3 _ (List.mem_of_getElem? (i := 193) rfl)⟩
theorem in_M_lead : ct_in m_M_lead := Or.inl ⟨rfl, tb_3 _ (List.mem_of_getElem? (i := 197) rfl)⟩
theorem in_M_row : ct_in m_M_row := Or.inl ⟨rfl, tb_3 _ (List.mem_of_getElem? (i := 201) rfl)⟩
theorem in_M_leave : ct_in m_M_leave := Or.inl ⟨rfl, tb_3 _ (List.mem_of_getElem? (i := 205) rfl)⟩
theorem in_M_go : ct_in m_M_go := Or.inl ⟨rfl, tb_3 _ (List.mem_of_getElem? (i := 209) rfl)⟩
theorem in_M_isSector : ct_in m_M_isSector := Or.inl ⟨rfl, tb_3 _ (List.mem_of_getElem? (i := 213) rfl)⟩
theorem in_M_isOpen : ct_in m_M_isOpen := Or.inl ⟨rfl, tb_3 _ (List.mem_of_getElem? (i := 217) rfl)⟩
theorem in_M_place : ct_in m_M_place := Or.inl ⟨rfl, tb_3 _ (List.mem_of_getElem? (i := 221) rfl)⟩
theorem in_M_isUnit : ct_in m_M_isUnit := Or.inl ⟨rfl, tb_3 _ (List.mem_of_getElem? (i := 225) rfl)⟩
theorem in_M_split : ct_in m_M_split := Or.inl ⟨rfl, tb_3 _ (List.mem_of_getElem? (i := 229) rfl)⟩
theorem in_M_join : ct_in m_M_join := Or.inl ⟨rfl, tb_3 _ (List.mem_of_getElem? (i := 233) rfl)⟩
theorem in_M_isBelow : ct_in m_M_isBelow := Or.inl ⟨rfl, tb_3 _ (List.mem_of_getElem? (i := 237) rfl)⟩
theorem in_M_offer : ct_in m_M_offer := Or.inl ⟨rfl, tb_4 _ (List.mem_of_getElem? (i := 1) rfl)⟩
theorem in_M_take : ct_in m_M_take := Or.inl ⟨rfl, tb_4 _ (List.mem_of_getElem? (i := 5) rfl)⟩
theorem in_M_task : ct_in m_M_task := Or.inl ⟨rfl, tb_4 _ (List.mem_of_getElem? (i := 9) rfl)⟩
theorem in_M_answer : ct_in m_M_answer := Or.inl ⟨rfl, tb_4 _ (List.mem_of_getElem? (i := 14) rfl)⟩
theorem in_M_span : ct_in m_M_span := Or.inl ⟨rfl, tb_4 _ (List.mem_of_getElem? (i := 18) rfl)⟩
theorem in_M_isPassed : ct_in m_M_isPassed := Or.inl ⟨rfl, tb_4 _ (List.mem_of_getElem? (i := 22) rfl)⟩
theorem in_M_below : ct_in m_M_below := Or.inl ⟨rfl, tb_4 _ (List.mem_of_getElem? (i := 26) rfl)⟩
theorem in_M_unitsIn : ct_in m_M_unitsIn := Or.inl ⟨rfl, tb_4 _ (List.mem_of_getElem? (i := 30) rfl)⟩
theorem in_M_tick : ct_in m_M_tick := Or.inl ⟨rfl, tb_4 _ (List.mem_of_getElem? (i := 34) rfl)⟩
theorem in_M_led : ct_in m_M_led := Or.inl ⟨rfl, tb_4 _ (List.mem_of_getElem? (i := 38) rfl)⟩
theorem in_M_sectorAt : ct_in m_M_sectorAt := Or.inl ⟨rfl, tb_4 _ (List.mem_of_getElem? (i := 42) rfl)⟩
theorem in_M_personAt : ct_in m_M_personAt := Or.inl ⟨rfl, tb_4 _ (List.mem_of_getElem? (i := 46) rfl)⟩
theorem in_M_unitAt : ct_in m_M_unitAt := Or.inl ⟨rfl, tb_4 _ (List.mem_of_getElem? (i := 50) rfl)⟩
theorem in_M_taskAt : ct_in m_M_taskAt := Or.inl ⟨rfl, tb_4 _ (List.mem_of_getElem? (i := 54) rfl)⟩
theorem in_M_passed : ct_in m_M_passed := Or.inl ⟨rfl, tb_4 _ (List.mem_of_getElem? (i := 58) rfl)⟩
theorem in_M_clock : ct_in m_M_clock := Or.inl ⟨rfl, tb_4 _ (List.mem_of_getElem? (i := 62) rfl)⟩
theorem oi_C_1 : Cond.methodLink "CommandTree" 1 objectInit ∈ lw_tbl := tb_1 _ (List.mem_of_getElem? (i := 18) rfl)
theorem fp_C_9 : ct_fp "CommandTree" 9 2 1 (.int) false := ⟨_, _, _, rfl, by decide, tb_1 _ (List.mem_of_getElem? (i := 79) rfl), rfl, by decide +kernel, rfl⟩
theorem fp_C_13 : ct_fp "CommandTree" 13 2 3 (.array .int) true := ⟨_, _, _, rfl, by decide, tb_1 _ (List.mem_of_getElem? (i := 81) rfl), rfl, by decide +kernel, rfl⟩
theorem fp_C_17 : ct_fp "CommandTree" 17 2 4 (.array .int) true := ⟨_, _, _, rfl, by decide, tb_1 _ (List.mem_of_getElem? (i := 82) rfl), rfl, by decide +kernel, rfl⟩
theorem fp_C_20 : ct_fp "CommandTree" 20 2 5 (.array .int) true := ⟨_, _, _, rfl, by decide, tb_1 _ (List.mem_of_getElem? (i := 83) rfl), rfl, by decide +kernel, rfl⟩
theorem fp_C_23 : ct_fp "CommandTree" 23 2 6 (.array .int) true := ⟨_, _, _, rfl, by decide, tb_1 _ (List.mem_of_getElem? (i := 84) rfl), rfl, by decide +kernel, rfl⟩
theorem fl_C_17 : ct_fl "CommandTree" 17 2 4 := ⟨_, _, _, rfl, by decide, tb_1 _ (List.mem_of_getElem? (i := 82) rfl)⟩
theorem cs_C_26 : ct_cS "CommandTree" 26 m_A_fill 2 := ⟨tb_1 _ (List.mem_of_getElem? (i := 21) rfl), tb_1 _ (List.mem_of_getElem? (i := 22) rfl), tb_1 _ (List.mem_of_getElem? (i := 2) rfl), ⟨by decide +kernel, by decide +kernel, by decide +kernel⟩, in_A_fill, by decide +kernel, by decide⟩
theorem fl_C_20 : ct_fl "CommandTree" 20 2 5 := ⟨_, _, _, rfl, by decide, tb_1 _ (List.mem_of_getElem? (i := 83) rfl)⟩
theorem fl_C_23 : ct_fl "CommandTree" 23 2 6 := ⟨_, _, _, rfl, by decide, tb_1 _ (List.mem_of_getElem? (i := 84) rfl)⟩
theorem fp_C_32 : ct_fp "CommandTree" 32 2 8 (.array .int) true := ⟨_, _, _, rfl, by decide, tb_1 _ (List.mem_of_getElem? (i := 86) rfl), rfl, by decide +kernel, rfl⟩
theorem fl_C_32 : ct_fl "CommandTree" 32 2 8 := ⟨_, _, _, rfl, by decide, tb_1 _ (List.mem_of_getElem? (i := 86) rfl)⟩
theorem fp_C_35 : ct_fp "CommandTree" 35 2 10 (.array .boolean) true := ⟨_, _, _, rfl, by decide, tb_1 _ (List.mem_of_getElem? (i := 88) rfl), rfl, by decide +kernel, rfl⟩
theorem fp_C_39 : ct_fp "CommandTree" 39 2 11 (.array .int) true := ⟨_, _, _, rfl, by decide, tb_1 _ (List.mem_of_getElem? (i := 89) rfl), rfl, by decide +kernel, rfl⟩
theorem fp_C_42 : ct_fp "CommandTree" 42 2 12 (.array .int) true := ⟨_, _, _, rfl, by decide, tb_1 _ (List.mem_of_getElem? (i := 90) rfl), rfl, by decide +kernel, rfl⟩
theorem fp_C_45 : ct_fp "CommandTree" 45 2 13 (.array .int) true := ⟨_, _, _, rfl, by decide, tb_1 _ (List.mem_of_getElem? (i := 91) rfl), rfl, by decide +kernel, rfl⟩
theorem fl_C_39 : ct_fl "CommandTree" 39 2 11 := ⟨_, _, _, rfl, by decide, tb_1 _ (List.mem_of_getElem? (i := 89) rfl)⟩
theorem fl_C_42 : ct_fl "CommandTree" 42 2 12 := ⟨_, _, _, rfl, by decide, tb_1 _ (List.mem_of_getElem? (i := 90) rfl)⟩
theorem fl_C_45 : ct_fl "CommandTree" 45 2 13 := ⟨_, _, _, rfl, by decide, tb_1 _ (List.mem_of_getElem? (i := 91) rfl)⟩
theorem fl_C_35 : ct_fl "CommandTree" 35 2 10 := ⟨_, _, _, rfl, by decide, tb_1 _ (List.mem_of_getElem? (i := 88) rfl)⟩
theorem fp_C_48 : ct_fp "CommandTree" 48 2 9 (.int) false := ⟨_, _, _, rfl, by decide, tb_1 _ (List.mem_of_getElem? (i := 87) rfl), rfl, by decide +kernel, rfl⟩
theorem cl_C_51 : Cond.classLink "CommandTree" 51 "CommandTree$TaskList" ∈ lw_tbl := tb_1 _ (List.mem_of_getElem? (i := 24) rfl)
theorem ci_C_53 : ct_cI "CommandTree" 53 m_T_init 0 := ⟨tb_1 _ (List.mem_of_getElem? (i := 26) rfl), tb_1 _ (List.mem_of_getElem? (i := 27) rfl), tb_1 _ (List.mem_of_getElem? (i := 28) rfl), ⟨by decide +kernel, by decide +kernel, by decide +kernel⟩, ⟨rfl, rfl, rfl⟩, by decide +kernel, by decide⟩
theorem fp_C_54 : ct_fp "CommandTree" 54 2 14 (.object "CommandTree$TaskList") true := ⟨_, _, _, rfl, by decide, tb_1 _ (List.mem_of_getElem? (i := 92) rfl), rfl, by decide +kernel, rfl⟩
theorem cl_C_58 : Cond.classLink "CommandTree" 58 "CommandTree$LeaderRows" ∈ lw_tbl := tb_1 _ (List.mem_of_getElem? (i := 49) rfl)
theorem ci_C_60 : ct_cI "CommandTree" 60 m_R_init 0 := ⟨tb_1 _ (List.mem_of_getElem? (i := 51) rfl), tb_1 _ (List.mem_of_getElem? (i := 52) rfl), tb_1 _ (List.mem_of_getElem? (i := 53) rfl), ⟨by decide +kernel, by decide +kernel, by decide +kernel⟩, ⟨rfl, rfl, rfl⟩, by decide +kernel, by decide⟩
theorem fp_C_61 : ct_fp "CommandTree" 61 2 15 (.object "CommandTree$LeaderRows") true := ⟨_, _, _, rfl, by decide, tb_1 _ (List.mem_of_getElem? (i := 93) rfl), rfl, by decide +kernel, rfl⟩
theorem oi_T_3 : Cond.methodLink "CommandTree$TaskList" 3 objectInit ∈ lw_tbl := tb_1 _ (List.mem_of_getElem? (i := 29) rfl)
theorem fp_T_9 : ct_fp "CommandTree$TaskList" 9 1 1 (.array .int) true := ⟨_, _, _, rfl, by decide, tb_1 _ (List.mem_of_getElem? (i := 32) rfl), rfl, by decide +kernel, rfl⟩
theorem fp_T_15 : ct_fp "CommandTree$TaskList" 15 1 2 (.array .int) true := ⟨_, _, _, rfl, by decide, tb_1 _ (List.mem_of_getElem? (i := 33) rfl), rfl, by decide +kernel, rfl⟩
theorem fp_T_18 : ct_fp "CommandTree$TaskList" 18 1 3 (.array .int) true := ⟨_, _, _, rfl, by decide, tb_1 _ (List.mem_of_getElem? (i := 34) rfl), rfl, by decide +kernel, rfl⟩
theorem fp_T_21 : ct_fp "CommandTree$TaskList" 21 1 4 (.array .int) true := ⟨_, _, _, rfl, by decide, tb_1 _ (List.mem_of_getElem? (i := 35) rfl), rfl, by decide +kernel, rfl⟩
theorem fl_T_21 : ct_fl "CommandTree$TaskList" 21 1 4 := ⟨_, _, _, rfl, by decide, tb_1 _ (List.mem_of_getElem? (i := 35) rfl)⟩
theorem cs_T_24 : ct_cS "CommandTree$TaskList" 24 m_A_fill 2 := ⟨tb_1 _ (List.mem_of_getElem? (i := 30) rfl), tb_1 _ (List.mem_of_getElem? (i := 22) rfl), tb_1 _ (List.mem_of_getElem? (i := 2) rfl), ⟨by decide +kernel, by decide +kernel, by decide +kernel⟩, in_A_fill, by decide +kernel, by decide⟩
theorem oi_R_3 : Cond.methodLink "CommandTree$LeaderRows" 3 objectInit ∈ lw_tbl := tb_1 _ (List.mem_of_getElem? (i := 54) rfl)
theorem fp_R_9 : ct_fp "CommandTree$LeaderRows" 9 0 2 (.array .int) true := ⟨_, _, _, rfl, by decide, tb_1 _ (List.mem_of_getElem? (i := 58) rfl), rfl, by decide +kernel, rfl⟩
theorem fp_R_15 : ct_fp "CommandTree$LeaderRows" 15 0 3 (.array .int) true := ⟨_, _, _, rfl, by decide, tb_1 _ (List.mem_of_getElem? (i := 59) rfl), rfl, by decide +kernel, rfl⟩
theorem fp_R_18 : ct_fp "CommandTree$LeaderRows" 18 0 4 (.array .int) true := ⟨_, _, _, rfl, by decide, tb_1 _ (List.mem_of_getElem? (i := 60) rfl), rfl, by decide +kernel, rfl⟩
theorem fp_R_21 : ct_fp "CommandTree$LeaderRows" 21 0 5 (.array .int) true := ⟨_, _, _, rfl, by decide, tb_1 _ (List.mem_of_getElem? (i := 61) rfl), rfl, by decide +kernel, rfl⟩
theorem fl_R_21 : ct_fl "CommandTree$LeaderRows" 21 0 5 := ⟨_, _, _, rfl, by decide, tb_1 _ (List.mem_of_getElem? (i := 61) rfl)⟩
theorem cs_R_24 : ct_cS "CommandTree$LeaderRows" 24 m_A_fill 2 := ⟨tb_1 _ (List.mem_of_getElem? (i := 55) rfl), tb_1 _ (List.mem_of_getElem? (i := 22) rfl), tb_1 _ (List.mem_of_getElem? (i := 2) rfl), ⟨by decide +kernel, by decide +kernel, by decide +kernel⟩, in_A_fill, by decide +kernel, by decide⟩
theorem fl_C_98 : ct_fl "CommandTree" 98 2 0 := ⟨_, _, _, rfl, by decide, tb_1 _ (List.mem_of_getElem? (i := 78) rfl)⟩
theorem cv_L_7 : ct_cV "CommandTreeLaw" 7 m_C_person 1 := ⟨tb_1 _ (List.mem_of_getElem? (i := 136) rfl), tb_1 _ (List.mem_of_getElem? (i := 137) rfl), tb_1 _ (List.mem_of_getElem? (i := 138) rfl), ⟨by decide +kernel, by decide +kernel, by decide +kernel⟩, in_C_person, by decide +kernel, by decide⟩
theorem cl_C_65 : Cond.classLink "CommandTree" 65 "java/lang/IndexOutOfBoundsException" ∈ lw_tbl := tb_1 _ (List.mem_of_getElem? (i := 140) rfl)
theorem sr_C_67 : Cond.stringRef "CommandTree" 67 "the rank is not 0 .. 9" ∈ lw_tbl := tb_1 _ (List.mem_of_getElem? (i := 182) rfl)
theorem fl_C_72 : ct_fl "CommandTree" 72 2 2 := ⟨_, _, _, rfl, by decide, tb_1 _ (List.mem_of_getElem? (i := 80) rfl)⟩
theorem cl_C_75 : Cond.classLink "CommandTree" 75 "java/lang/UnsupportedOperationException" ∈ lw_tbl := tb_1 _ (List.mem_of_getElem? (i := 209) rfl)
theorem sr_C_77 : Cond.stringRef "CommandTree" 77 "there are 40 persons" ∈ lw_tbl := tb_1 _ (List.mem_of_getElem? (i := 218) rfl)
theorem fl_C_13 : ct_fl "CommandTree" 13 2 3 := ⟨_, _, _, rfl, by decide, tb_1 _ (List.mem_of_getElem? (i := 81) rfl)⟩
theorem fp_C_72 : ct_fp "CommandTree" 72 2 2 (.int) false := ⟨_, _, _, rfl, by decide, tb_1 _ (List.mem_of_getElem? (i := 80) rfl), rfl, by decide +kernel, rfl⟩
theorem cv_L_17 : ct_cV "CommandTreeLaw" 17 m_C_unit 0 := ⟨tb_1 _ (List.mem_of_getElem? (i := 228) rfl), tb_1 _ (List.mem_of_getElem? (i := 229) rfl), tb_1 _ (List.mem_of_getElem? (i := 230) rfl), ⟨by decide +kernel, by decide +kernel, by decide +kernel⟩, in_C_unit, by decide +kernel, by decide⟩
theorem fl_C_80 : ct_fl "CommandTree" 80 2 7 := ⟨_, _, _, rfl, by decide, tb_1 _ (List.mem_of_getElem? (i := 85) rfl)⟩
theorem sr_C_83 : Cond.stringRef "CommandTree" 83 "there are 20 units" ∈ lw_tbl := tb_1 _ (List.mem_of_getElem? (i := 232) rfl)
theorem fp_C_80 : ct_fp "CommandTree" 80 2 7 (.int) false := ⟨_, _, _, rfl, by decide, tb_1 _ (List.mem_of_getElem? (i := 85) rfl), rfl, by decide +kernel, rfl⟩
theorem cv_L_21 : ct_cV "CommandTreeLaw" 21 m_C_arrive 1 := ⟨tb_1 _ (List.mem_of_getElem? (i := 238) rfl), tb_1 _ (List.mem_of_getElem? (i := 239) rfl), tb_2 _ (List.mem_of_getElem? (i := 0) rfl), ⟨by decide +kernel, by decide +kernel, by decide +kernel⟩, in_C_arrive, by decide +kernel, by decide⟩
theorem cv_C_85 : ct_cV "CommandTree" 85 m_C_requirePerson 1 := ⟨tb_2 _ (List.mem_of_getElem? (i := 2) rfl), tb_2 _ (List.mem_of_getElem? (i := 4) rfl), List.mem_append_left _ (List.mem_of_getElem? (i := 1) rfl), ⟨by decide +kernel, by decide +kernel, by decide +kernel⟩, in_C_requirePerson, by decide +kernel, by decide⟩
theorem cv_C_89 : ct_cV "CommandTree" 89 m_C_isThere 1 := ⟨tb_2 _ (List.mem_of_getElem? (i := 22) rfl), tb_2 _ (List.mem_of_getElem? (i := 24) rfl), List.mem_append_left _ (List.mem_of_getElem? (i := 2) rfl), ⟨by decide +kernel, by decide +kernel, by decide +kernel⟩, in_C_isThere, by decide +kernel, by decide⟩
theorem cl_C_93 : Cond.classLink "CommandTree" 93 "java/lang/IllegalStateException" ∈ lw_tbl := tb_2 _ (List.mem_of_getElem? (i := 26) rfl)
theorem sr_C_95 : Cond.stringRef "CommandTree" 95 "the person is there" ∈ lw_tbl := tb_2 _ (List.mem_of_getElem? (i := 35) rfl)
theorem cv_C_101 : ct_cV "CommandTree" 101 m_C_comeInto 2 := ⟨tb_2 _ (List.mem_of_getElem? (i := 42) rfl), tb_2 _ (List.mem_of_getElem? (i := 44) rfl), List.mem_append_left _ (List.mem_of_getElem? (i := 3) rfl), ⟨by decide +kernel, by decide +kernel, by decide +kernel⟩, in_C_comeInto, by decide +kernel, by decide⟩
theorem cl_C_212 : Cond.classLink "CommandTree" 212 "java/lang/IllegalArgumentException" ∈ lw_tbl := tb_2 _ (List.mem_of_getElem? (i := 6) rfl)
theorem sr_C_228 : Cond.stringRef "CommandTree" 228 "no such person" ∈ lw_tbl := tb_2 _ (List.mem_of_getElem? (i := 15) rfl)
theorem cv_C_111 : ct_cV "CommandTree" 111 m_C_leaveLeadToNext 1 := ⟨tb_2 _ (List.mem_of_getElem? (i := 46) rfl), tb_2 _ (List.mem_of_getElem? (i := 48) rfl), List.mem_append_left _ (List.mem_of_getElem? (i := 4) rfl), ⟨by decide +kernel, by decide +kernel, by decide +kernel⟩, in_C_leaveLeadToNext, by decide +kernel, by decide⟩
theorem cv_C_137 : ct_cV "CommandTree" 137 m_C_setLeader 2 := ⟨tb_2 _ (List.mem_of_getElem? (i := 58) rfl), tb_2 _ (List.mem_of_getElem? (i := 60) rfl), List.mem_append_left _ (List.mem_of_getElem? (i := 7) rfl), ⟨by decide +kernel, by decide +kernel, by decide +kernel⟩, in_C_setLeader, by decide +kernel, by decide⟩
theorem cv_C_150 : ct_cV "CommandTree" 150 m_C_nextToLead 1 := ⟨tb_2 _ (List.mem_of_getElem? (i := 50) rfl), tb_2 _ (List.mem_of_getElem? (i := 52) rfl), List.mem_append_left _ (List.mem_of_getElem? (i := 5) rfl), ⟨by decide +kernel, by decide +kernel, by decide +kernel⟩, in_C_nextToLead, by decide +kernel, by decide⟩
theorem cv_C_247 : ct_cV "CommandTree" 247 m_C_comesBefore 2 := ⟨tb_2 _ (List.mem_of_getElem? (i := 54) rfl), tb_2 _ (List.mem_of_getElem? (i := 56) rfl), List.mem_append_left _ (List.mem_of_getElem? (i := 6) rfl), ⟨by decide +kernel, by decide +kernel, by decide +kernel⟩, in_C_comesBefore, by decide +kernel, by decide⟩
theorem cv_C_108 : ct_cV "CommandTree" 108 m_C_withdrawOffersTo 1 := ⟨tb_2 _ (List.mem_of_getElem? (i := 62) rfl), tb_2 _ (List.mem_of_getElem? (i := 64) rfl), List.mem_append_left _ (List.mem_of_getElem? (i := 8) rfl), ⟨by decide +kernel, by decide +kernel, by decide +kernel⟩, in_C_withdrawOffersTo, by decide +kernel, by decide⟩
theorem fl_C_61 : ct_fl "CommandTree" 61 2 15 := ⟨_, _, _, rfl, by decide, tb_1 _ (List.mem_of_getElem? (i := 93) rfl)⟩
theorem cv_C_243 : ct_cV "CommandTree" 243 m_R_note 3 := ⟨tb_2 _ (List.mem_of_getElem? (i := 69) rfl), tb_2 _ (List.mem_of_getElem? (i := 70) rfl), tb_2 _ (List.mem_of_getElem? (i := 71) rfl), ⟨by decide +kernel, by decide +kernel, by decide +kernel⟩, in_R_note, by decide +kernel, by decide⟩
theorem fl_C_48 : ct_fl "CommandTree" 48 2 9 := ⟨_, _, _, rfl, by decide, tb_1 _ (List.mem_of_getElem? (i := 87) rfl)⟩
theorem cs_C_140 : ct_cS "CommandTree" 140 m_C_replace 4 := ⟨tb_2 _ (List.mem_of_getElem? (i := 66) rfl), tb_2 _ (List.mem_of_getElem? (i := 67) rfl), tb_1 _ (List.mem_of_getElem? (i := 1) rfl), ⟨by decide +kernel, by decide +kernel, by decide +kernel⟩, in_C_replace, by decide +kernel, by decide⟩
theorem fl_R_30 : ct_fl "CommandTree$LeaderRows" 30 0 1 := ⟨_, _, _, rfl, by decide, tb_1 _ (List.mem_of_getElem? (i := 57) rfl)⟩
theorem cv_R_34 : ct_cV "CommandTree$LeaderRows" 34 m_R_dropOldest 0 := ⟨tb_2 _ (List.mem_of_getElem? (i := 73) rfl), tb_2 _ (List.mem_of_getElem? (i := 75) rfl), List.mem_append_left _ (List.mem_of_getElem? (i := 9) rfl), ⟨by decide +kernel, by decide +kernel, by decide +kernel⟩, in_R_dropOldest, by decide +kernel, by decide⟩
theorem cv_R_37 : ct_cV "CommandTree$LeaderRows" 37 m_R_ringIndex 1 := ⟨tb_2 _ (List.mem_of_getElem? (i := 77) rfl), tb_2 _ (List.mem_of_getElem? (i := 79) rfl), List.mem_append_left _ (List.mem_of_getElem? (i := 10) rfl), ⟨by decide +kernel, by decide +kernel, by decide +kernel⟩, in_R_ringIndex, by decide +kernel, by decide⟩
theorem fl_R_9 : ct_fl "CommandTree$LeaderRows" 9 0 2 := ⟨_, _, _, rfl, by decide, tb_1 _ (List.mem_of_getElem? (i := 58) rfl)⟩
theorem fl_R_15 : ct_fl "CommandTree$LeaderRows" 15 0 3 := ⟨_, _, _, rfl, by decide, tb_1 _ (List.mem_of_getElem? (i := 59) rfl)⟩
theorem fl_R_18 : ct_fl "CommandTree$LeaderRows" 18 0 4 := ⟨_, _, _, rfl, by decide, tb_1 _ (List.mem_of_getElem? (i := 60) rfl)⟩
theorem fp_R_30 : ct_fp "CommandTree$LeaderRows" 30 0 1 (.int) false := ⟨_, _, _, rfl, by decide, tb_1 _ (List.mem_of_getElem? (i := 57) rfl), rfl, by decide +kernel, rfl⟩
theorem fl_R_41 : ct_fl "CommandTree$LeaderRows" 41 0 0 := ⟨_, _, _, rfl, by decide, tb_1 _ (List.mem_of_getElem? (i := 56) rfl)⟩
theorem fp_R_44 : ct_fp "CommandTree$LeaderRows" 44 0 6 (.int) false := ⟨_, _, _, rfl, by decide, tb_1 _ (List.mem_of_getElem? (i := 62) rfl), rfl, by decide +kernel, rfl⟩
theorem fp_R_41 : ct_fp "CommandTree$LeaderRows" 41 0 0 (.int) false := ⟨_, _, _, rfl, by decide, tb_1 _ (List.mem_of_getElem? (i := 56) rfl), rfl, by decide +kernel, rfl⟩
theorem cv_L_29 : ct_cV "CommandTreeLaw" 29 m_C_leave 1 := ⟨tb_2 _ (List.mem_of_getElem? (i := 84) rfl), tb_2 _ (List.mem_of_getElem? (i := 85) rfl), tb_2 _ (List.mem_of_getElem? (i := 86) rfl), ⟨by decide +kernel, by decide +kernel, by decide +kernel⟩, in_C_leave, by decide +kernel, by decide⟩
theorem cv_C_105 : ct_cV "CommandTree" 105 m_C_requireThere 1 := ⟨tb_2 _ (List.mem_of_getElem? (i := 88) rfl), tb_2 _ (List.mem_of_getElem? (i := 90) rfl), List.mem_append_left _ (List.mem_of_getElem? (i := 11) rfl), ⟨by decide +kernel, by decide +kernel, by decide +kernel⟩, in_C_requireThere, by decide +kernel, by decide⟩
theorem sr_C_239 : Cond.stringRef "CommandTree" 239 "the person is away" ∈ lw_tbl := tb_2 _ (List.mem_of_getElem? (i := 92) rfl)
theorem cv_L_32 : ct_cV "CommandTreeLaw" 32 m_C_go 2 := ⟨tb_2 _ (List.mem_of_getElem? (i := 96) rfl), tb_2 _ (List.mem_of_getElem? (i := 97) rfl), tb_2 _ (List.mem_of_getElem? (i := 98) rfl), ⟨by decide +kernel, by decide +kernel, by decide +kernel⟩, in_C_go, by decide +kernel, by decide⟩
theorem cv_C_114 : ct_cV "CommandTree" 114 m_C_requireSector 1 := ⟨tb_2 _ (List.mem_of_getElem? (i := 100) rfl), tb_2 _ (List.mem_of_getElem? (i := 102) rfl), List.mem_append_left _ (List.mem_of_getElem? (i := 12) rfl), ⟨by decide +kernel, by decide +kernel, by decide +kernel⟩, in_C_requireSector, by decide +kernel, by decide⟩
theorem sr_C_117 : Cond.stringRef "CommandTree" 117 "the person is in it" ∈ lw_tbl := tb_2 _ (List.mem_of_getElem? (i := 105) rfl)
theorem cv_C_119 : ct_cV "CommandTree" 119 m_C_requireOpen 1 := ⟨tb_2 _ (List.mem_of_getElem? (i := 106) rfl), tb_2 _ (List.mem_of_getElem? (i := 108) rfl), List.mem_append_left _ (List.mem_of_getElem? (i := 13) rfl), ⟨by decide +kernel, by decide +kernel, by decide +kernel⟩, in_C_requireOpen, by decide +kernel, by decide⟩
theorem sr_C_232 : Cond.stringRef "CommandTree" 232 "no such sector" ∈ lw_tbl := tb_2 _ (List.mem_of_getElem? (i := 104) rfl)
theorem sr_C_241 : Cond.stringRef "CommandTree" 241 "the sector is not open" ∈ lw_tbl := tb_2 _ (List.mem_of_getElem? (i := 110) rfl)
theorem cv_L_36 : ct_cV "CommandTreeLaw" 36 m_C_place 2 := ⟨tb_2 _ (List.mem_of_getElem? (i := 114) rfl), tb_2 _ (List.mem_of_getElem? (i := 115) rfl), tb_2 _ (List.mem_of_getElem? (i := 116) rfl), ⟨by decide +kernel, by decide +kernel, by decide +kernel⟩, in_C_place, by decide +kernel, by decide⟩
theorem cv_C_122 : ct_cV "CommandTree" 122 m_C_requireUnit 1 := ⟨tb_2 _ (List.mem_of_getElem? (i := 118) rfl), tb_2 _ (List.mem_of_getElem? (i := 120) rfl), List.mem_append_left _ (List.mem_of_getElem? (i := 14) rfl), ⟨by decide +kernel, by decide +kernel, by decide +kernel⟩, in_C_requireUnit, by decide +kernel, by decide⟩
theorem sr_C_125 : Cond.stringRef "CommandTree" 125 "it is so" ∈ lw_tbl := tb_2 _ (List.mem_of_getElem? (i := 123) rfl)
theorem sr_C_230 : Cond.stringRef "CommandTree" 230 "no such unit" ∈ lw_tbl := tb_2 _ (List.mem_of_getElem? (i := 122) rfl)
theorem cv_L_39 : ct_cV "CommandTreeLaw" 39 m_C_split 1 := ⟨tb_2 _ (List.mem_of_getElem? (i := 127) rfl), tb_2 _ (List.mem_of_getElem? (i := 128) rfl), tb_2 _ (List.mem_of_getElem? (i := 129) rfl), ⟨by decide +kernel, by decide +kernel, by decide +kernel⟩, in_C_split, by decide +kernel, by decide⟩
theorem sr_C_127 : Cond.stringRef "CommandTree" 127 "there are 20 sectors" ∈ lw_tbl := tb_2 _ (List.mem_of_getElem? (i := 131) rfl)
theorem cv_L_42 : ct_cV "CommandTreeLaw" 42 m_C_join 2 := ⟨tb_2 _ (List.mem_of_getElem? (i := 135) rfl), tb_2 _ (List.mem_of_getElem? (i := 136) rfl), tb_2 _ (List.mem_of_getElem? (i := 137) rfl), ⟨by decide +kernel, by decide +kernel, by decide +kernel⟩, in_C_join, by decide +kernel, by decide⟩
theorem sr_C_129 : Cond.stringRef "CommandTree" 129 "the whole scene is joined to none" ∈ lw_tbl := tb_2 _ (List.mem_of_getElem? (i := 139) rfl)
theorem cv_C_131 : ct_cV "CommandTree" 131 m_C_isSameOrBelow 2 := ⟨tb_2 _ (List.mem_of_getElem? (i := 140) rfl), tb_2 _ (List.mem_of_getElem? (i := 142) rfl), List.mem_append_left _ (List.mem_of_getElem? (i := 15) rfl), ⟨by decide +kernel, by decide +kernel, by decide +kernel⟩, in_C_isSameOrBelow, by decide +kernel, by decide⟩
theorem sr_C_135 : Cond.stringRef "CommandTree" 135 "the other one is this one, or below it" ∈ lw_tbl := tb_2 _ (List.mem_of_getElem? (i := 144) rfl)
theorem cv_C_144 : ct_cV "CommandTree" 144 m_C_moveSectorsBelow 2 := ⟨tb_2 _ (List.mem_of_getElem? (i := 145) rfl), tb_2 _ (List.mem_of_getElem? (i := 147) rfl), List.mem_append_left _ (List.mem_of_getElem? (i := 16) rfl), ⟨by decide +kernel, by decide +kernel, by decide +kernel⟩, in_C_moveSectorsBelow, by decide +kernel, by decide⟩
theorem fl_C_54 : ct_fl "CommandTree" 54 2 14 := ⟨_, _, _, rfl, by decide, tb_1 _ (List.mem_of_getElem? (i := 92) rfl)⟩
theorem cv_C_147 : ct_cV "CommandTree" 147 m_T_giveUnanswered 2 := ⟨tb_2 _ (List.mem_of_getElem? (i := 149) rfl), tb_2 _ (List.mem_of_getElem? (i := 150) rfl), tb_2 _ (List.mem_of_getElem? (i := 151) rfl), ⟨by decide +kernel, by decide +kernel, by decide +kernel⟩, in_T_giveUnanswered, by decide +kernel, by decide⟩
theorem fl_T_30 : ct_fl "CommandTree$TaskList" 30 1 0 := ⟨_, _, _, rfl, by decide, tb_1 _ (List.mem_of_getElem? (i := 31) rfl)⟩
theorem fl_T_9 : ct_fl "CommandTree$TaskList" 9 1 1 := ⟨_, _, _, rfl, by decide, tb_1 _ (List.mem_of_getElem? (i := 32) rfl)⟩
theorem cv_T_38 : ct_cV "CommandTree$TaskList" 38 m_T_isAnswered 1 := ⟨tb_2 _ (List.mem_of_getElem? (i := 153) rfl), tb_2 _ (List.mem_of_getElem? (i := 154) rfl), tb_2 _ (List.mem_of_getElem? (i := 155) rfl), ⟨by decide +kernel, by decide +kernel, by decide +kernel⟩, in_T_isAnswered, by decide +kernel, by decide⟩
theorem fl_T_18 : ct_fl "CommandTree$TaskList" 18 1 3 := ⟨_, _, _, rfl, by decide, tb_1 _ (List.mem_of_getElem? (i := 34) rfl)⟩
theorem cv_L_45 : ct_cV "CommandTreeLaw" 45 m_C_offer 2 := ⟨tb_2 _ (List.mem_of_getElem? (i := 160) rfl), tb_2 _ (List.mem_of_getElem? (i := 161) rfl), tb_2 _ (List.mem_of_getElem? (i := 162) rfl), ⟨by decide +kernel, by decide +kernel, by decide +kernel⟩, in_C_offer, by decide +kernel, by decide⟩
theorem sr_C_154 : Cond.stringRef "CommandTree" 154 "the sector has no leader" ∈ lw_tbl := tb_2 _ (List.mem_of_getElem? (i := 164) rfl)
theorem sr_C_156 : Cond.stringRef "CommandTree" 156 "the person leads a sector" ∈ lw_tbl := tb_2 _ (List.mem_of_getElem? (i := 165) rfl)
theorem cv_L_48 : ct_cV "CommandTreeLaw" 48 m_C_take 2 := ⟨tb_2 _ (List.mem_of_getElem? (i := 169) rfl), tb_2 _ (List.mem_of_getElem? (i := 170) rfl), tb_2 _ (List.mem_of_getElem? (i := 171) rfl), ⟨by decide +kernel, by decide +kernel, by decide +kernel⟩, in_C_take, by decide +kernel, by decide⟩
theorem sr_C_158 : Cond.stringRef "CommandTree" 158 "it is not offered to this person" ∈ lw_tbl := tb_2 _ (List.mem_of_getElem? (i := 173) rfl)
theorem cv_L_51 : ct_cV "CommandTreeLaw" 51 m_C_task 2 := ⟨tb_2 _ (List.mem_of_getElem? (i := 177) rfl), tb_2 _ (List.mem_of_getElem? (i := 178) rfl), tb_2 _ (List.mem_of_getElem? (i := 179) rfl), ⟨by decide +kernel, by decide +kernel, by decide +kernel⟩, in_C_task, by decide +kernel, by decide⟩
theorem cn_C_160 : Cond.constant "CommandTree" 160 99999 ∈ lw_tbl := tb_2 _ (List.mem_of_getElem? (i := 181) rfl)
theorem sr_C_161 : Cond.stringRef "CommandTree" 161 "until is not the present second .. 99999" ∈ lw_tbl := tb_2 _ (List.mem_of_getElem? (i := 182) rfl)
theorem cv_C_163 : ct_cV "CommandTree" 163 m_T_isFull 0 := ⟨tb_2 _ (List.mem_of_getElem? (i := 183) rfl), tb_2 _ (List.mem_of_getElem? (i := 184) rfl), tb_2 _ (List.mem_of_getElem? (i := 185) rfl), ⟨by decide +kernel, by decide +kernel, by decide +kernel⟩, in_T_isFull, by decide +kernel, by decide⟩
theorem sr_C_167 : Cond.stringRef "CommandTree" 167 "there are 60 tasks" ∈ lw_tbl := tb_2 _ (List.mem_of_getElem? (i := 187) rfl)
theorem cv_C_169 : ct_cV "CommandTree" 169 m_T_add 2 := ⟨tb_2 _ (List.mem_of_getElem? (i := 188) rfl), tb_2 _ (List.mem_of_getElem? (i := 189) rfl), tb_2 _ (List.mem_of_getElem? (i := 190) rfl), ⟨by decide +kernel, by decide +kernel, by decide +kernel⟩, in_T_add, by decide +kernel, by decide⟩
theorem cv_T_34 : ct_cV "CommandTree$TaskList" 34 m_T_isFull 0 := ⟨tb_2 _ (List.mem_of_getElem? (i := 192) rfl), tb_2 _ (List.mem_of_getElem? (i := 184) rfl), tb_2 _ (List.mem_of_getElem? (i := 185) rfl), ⟨by decide +kernel, by decide +kernel, by decide +kernel⟩, in_T_isFull, by decide +kernel, by decide⟩
theorem fl_T_15 : ct_fl "CommandTree$TaskList" 15 1 2 := ⟨_, _, _, rfl, by decide, tb_1 _ (List.mem_of_getElem? (i := 33) rfl)⟩
theorem fp_T_30 : ct_fp "CommandTree$TaskList" 30 1 0 (.int) false := ⟨_, _, _, rfl, by decide, tb_1 _ (List.mem_of_getElem? (i := 31) rfl), rfl, by decide +kernel, rfl⟩
theorem cv_L_55 : ct_cV "CommandTreeLaw" 55 m_C_answer 2 := ⟨tb_2 _ (List.mem_of_getElem? (i := 196) rfl), tb_2 _ (List.mem_of_getElem? (i := 197) rfl), tb_2 _ (List.mem_of_getElem? (i := 198) rfl), ⟨by decide +kernel, by decide +kernel, by decide +kernel⟩, in_C_answer, by decide +kernel, by decide⟩
theorem cv_C_173 : ct_cV "CommandTree" 173 m_C_requireTask 1 := ⟨tb_2 _ (List.mem_of_getElem? (i := 200) rfl), tb_2 _ (List.mem_of_getElem? (i := 202) rfl), List.mem_append_left _ (List.mem_of_getElem? (i := 17) rfl), ⟨by decide +kernel, by decide +kernel, by decide +kernel⟩, in_C_requireTask, by decide +kernel, by decide⟩
theorem cv_C_176 : ct_cV "CommandTree" 176 m_T_isAnswered 1 := ⟨tb_2 _ (List.mem_of_getElem? (i := 209) rfl), tb_2 _ (List.mem_of_getElem? (i := 154) rfl), tb_2 _ (List.mem_of_getElem? (i := 155) rfl), ⟨by decide +kernel, by decide +kernel, by decide +kernel⟩, in_T_isAnswered, by decide +kernel, by decide⟩
theorem sr_C_179 : Cond.stringRef "CommandTree" 179 "the task was answered" ∈ lw_tbl := tb_2 _ (List.mem_of_getElem? (i := 210) rfl)
theorem cv_C_181 : ct_cV "CommandTree" 181 m_T_setAnswer 3 := ⟨tb_2 _ (List.mem_of_getElem? (i := 211) rfl), tb_2 _ (List.mem_of_getElem? (i := 212) rfl), tb_2 _ (List.mem_of_getElem? (i := 213) rfl), ⟨by decide +kernel, by decide +kernel, by decide +kernel⟩, in_T_setAnswer, by decide +kernel, by decide⟩
theorem cv_C_234 : ct_cV "CommandTree" 234 m_T_has 1 := ⟨tb_2 _ (List.mem_of_getElem? (i := 204) rfl), tb_2 _ (List.mem_of_getElem? (i := 205) rfl), tb_2 _ (List.mem_of_getElem? (i := 206) rfl), ⟨by decide +kernel, by decide +kernel, by decide +kernel⟩, in_T_has, by decide +kernel, by decide⟩
theorem sr_C_237 : Cond.stringRef "CommandTree" 237 "no such task" ∈ lw_tbl := tb_2 _ (List.mem_of_getElem? (i := 208) rfl)
theorem cv_L_59 : ct_cV "CommandTreeLaw" 59 m_C_span 1 := ⟨tb_2 _ (List.mem_of_getElem? (i := 218) rfl), tb_2 _ (List.mem_of_getElem? (i := 219) rfl), tb_2 _ (List.mem_of_getElem? (i := 220) rfl), ⟨by decide +kernel, by decide +kernel, by decide +kernel⟩, in_C_span, by decide +kernel, by decide⟩
theorem sr_C_185 : Cond.stringRef "CommandTree" 185 "the span is not 1 .. 20" ∈ lw_tbl := tb_2 _ (List.mem_of_getElem? (i := 222) rfl)
theorem cv_C_187 : ct_cV "CommandTree" 187 m_C_isPassed 1 := ⟨tb_2 _ (List.mem_of_getElem? (i := 223) rfl), tb_2 _ (List.mem_of_getElem? (i := 225) rfl), List.mem_append_left _ (List.mem_of_getElem? (i := 18) rfl), ⟨by decide +kernel, by decide +kernel, by decide +kernel⟩, in_C_isPassed, by decide +kernel, by decide⟩
theorem cv_C_209 : ct_cV "CommandTree" 209 m_C_countOpenBelow 1 := ⟨tb_2 _ (List.mem_of_getElem? (i := 227) rfl), tb_2 _ (List.mem_of_getElem? (i := 229) rfl), List.mem_append_left _ (List.mem_of_getElem? (i := 19) rfl), ⟨by decide +kernel, by decide +kernel, by decide +kernel⟩, in_C_countOpenBelow, by decide +kernel, by decide⟩
theorem cs_C_205 : ct_cS "CommandTree" 205 m_C_count 3 := ⟨tb_2 _ (List.mem_of_getElem? (i := 231) rfl), tb_2 _ (List.mem_of_getElem? (i := 232) rfl), tb_1 _ (List.mem_of_getElem? (i := 1) rfl), ⟨by decide +kernel, by decide +kernel, by decide +kernel⟩, in_C_count, by decide +kernel, by decide⟩
theorem fl_C_9 : ct_fl "CommandTree" 9 2 1 := ⟨_, _, _, rfl, by decide, tb_1 _ (List.mem_of_getElem? (i := 79) rfl)⟩
theorem cv_L_62 : ct_cV "CommandTreeLaw" 62 m_C_tick 1 := ⟨tb_2 _ (List.mem_of_getElem? (i := 237) rfl), tb_2 _ (List.mem_of_getElem? (i := 238) rfl), tb_2 _ (List.mem_of_getElem? (i := 239) rfl), ⟨by decide +kernel, by decide +kernel, by decide +kernel⟩, in_C_tick, by decide +kernel, by decide⟩
theorem sr_C_190 : Cond.stringRef "CommandTree" 190 "not 1 .. 5000 seconds, or beyond 99999" ∈ lw_tbl := tb_3 _ (List.mem_of_getElem? (i := 1) rfl)
theorem fp_C_98 : ct_fp "CommandTree" 98 2 0 (.int) false := ⟨_, _, _, rfl, by decide, tb_1 _ (List.mem_of_getElem? (i := 78) rfl), rfl, by decide +kernel, rfl⟩
theorem cv_C_192 : ct_cV "CommandTree" 192 m_T_countNewlyOverdue 2 := ⟨tb_3 _ (List.mem_of_getElem? (i := 2) rfl), tb_3 _ (List.mem_of_getElem? (i := 3) rfl), tb_3 _ (List.mem_of_getElem? (i := 4) rfl), ⟨by decide +kernel, by decide +kernel, by decide +kernel⟩, in_T_countNewlyOverdue, by decide +kernel, by decide⟩
theorem cv_T_42 : ct_cV "CommandTree$TaskList" 42 m_T_stateOf 2 := ⟨tb_3 _ (List.mem_of_getElem? (i := 6) rfl), tb_3 _ (List.mem_of_getElem? (i := 7) rfl), tb_3 _ (List.mem_of_getElem? (i := 8) rfl), ⟨by decide +kernel, by decide +kernel, by decide +kernel⟩, in_T_stateOf, by decide +kernel, by decide⟩
theorem cv_L_65 : ct_cV "CommandTreeLaw" 65 m_C_led 2 := ⟨tb_3 _ (List.mem_of_getElem? (i := 13) rfl), tb_3 _ (List.mem_of_getElem? (i := 14) rfl), tb_3 _ (List.mem_of_getElem? (i := 15) rfl), ⟨by decide +kernel, by decide +kernel, by decide +kernel⟩, in_C_led, by decide +kernel, by decide⟩
theorem sr_C_195 : Cond.stringRef "CommandTree" 195 "the second is below 0, or to come" ∈ lw_tbl := tb_3 _ (List.mem_of_getElem? (i := 17) rfl)
theorem cv_C_197 : ct_cV "CommandTree" 197 m_R_reachBackTo 1 := ⟨tb_3 _ (List.mem_of_getElem? (i := 18) rfl), tb_3 _ (List.mem_of_getElem? (i := 19) rfl), tb_3 _ (List.mem_of_getElem? (i := 20) rfl), ⟨by decide +kernel, by decide +kernel, by decide +kernel⟩, in_R_reachBackTo, by decide +kernel, by decide⟩
theorem sr_C_200 : Cond.stringRef "CommandTree" 200 "the rows of that second are not kept any more" ∈ lw_tbl := tb_3 _ (List.mem_of_getElem? (i := 22) rfl)
theorem cv_C_202 : ct_cV "CommandTree" 202 m_R_leaderBehind 2 := ⟨tb_3 _ (List.mem_of_getElem? (i := 23) rfl), tb_3 _ (List.mem_of_getElem? (i := 24) rfl), tb_3 _ (List.mem_of_getElem? (i := 25) rfl), ⟨by decide +kernel, by decide +kernel, by decide +kernel⟩, in_R_leaderBehind, by decide +kernel, by decide⟩
theorem fl_R_44 : ct_fl "CommandTree$LeaderRows" 44 0 6 := ⟨_, _, _, rfl, by decide, tb_1 _ (List.mem_of_getElem? (i := 62) rfl)⟩
theorem cv_L_68 : ct_cV "CommandTreeLaw" 68 m_C_sectorAt 2 := ⟨tb_3 _ (List.mem_of_getElem? (i := 30) rfl), tb_3 _ (List.mem_of_getElem? (i := 31) rfl), tb_3 _ (List.mem_of_getElem? (i := 32) rfl), ⟨by decide +kernel, by decide +kernel, by decide +kernel⟩, in_C_sectorAt, by decide +kernel, by decide⟩
theorem sr_C_214 : Cond.stringRef "CommandTree" 214 "no such what" ∈ lw_tbl := tb_3 _ (List.mem_of_getElem? (i := 34) rfl)
theorem cv_L_71 : ct_cV "CommandTreeLaw" 71 m_C_personAt 2 := ⟨tb_3 _ (List.mem_of_getElem? (i := 38) rfl), tb_3 _ (List.mem_of_getElem? (i := 39) rfl), tb_3 _ (List.mem_of_getElem? (i := 40) rfl), ⟨by decide +kernel, by decide +kernel, by decide +kernel⟩, in_C_personAt, by decide +kernel, by decide⟩
theorem cv_L_74 : ct_cV "CommandTreeLaw" 74 m_C_unitAt 1 := ⟨tb_3 _ (List.mem_of_getElem? (i := 45) rfl), tb_3 _ (List.mem_of_getElem? (i := 46) rfl), tb_3 _ (List.mem_of_getElem? (i := 47) rfl), ⟨by decide +kernel, by decide +kernel, by decide +kernel⟩, in_C_unitAt, by decide +kernel, by decide⟩
theorem cv_L_77 : ct_cV "CommandTreeLaw" 77 m_C_taskAt 2 := ⟨tb_3 _ (List.mem_of_getElem? (i := 52) rfl), tb_3 _ (List.mem_of_getElem? (i := 53) rfl), tb_3 _ (List.mem_of_getElem? (i := 54) rfl), ⟨by decide +kernel, by decide +kernel, by decide +kernel⟩, in_C_taskAt, by decide +kernel, by decide⟩
theorem cv_C_217 : ct_cV "CommandTree" 217 m_T_sectorOf 1 := ⟨tb_3 _ (List.mem_of_getElem? (i := 56) rfl), tb_3 _ (List.mem_of_getElem? (i := 57) rfl), tb_3 _ (List.mem_of_getElem? (i := 58) rfl), ⟨by decide +kernel, by decide +kernel, by decide +kernel⟩, in_T_sectorOf, by decide +kernel, by decide⟩
theorem cv_C_220 : ct_cV "CommandTree" 220 m_T_stateOf 2 := ⟨tb_3 _ (List.mem_of_getElem? (i := 60) rfl), tb_3 _ (List.mem_of_getElem? (i := 7) rfl), tb_3 _ (List.mem_of_getElem? (i := 8) rfl), ⟨by decide +kernel, by decide +kernel, by decide +kernel⟩, in_T_stateOf, by decide +kernel, by decide⟩
theorem cv_C_223 : ct_cV "CommandTree" 223 m_T_answeredAt 1 := ⟨tb_3 _ (List.mem_of_getElem? (i := 61) rfl), tb_3 _ (List.mem_of_getElem? (i := 62) rfl), tb_3 _ (List.mem_of_getElem? (i := 63) rfl), ⟨by decide +kernel, by decide +kernel, by decide +kernel⟩, in_T_answeredAt, by decide +kernel, by decide⟩
theorem cv_L_80 : ct_cV "CommandTreeLaw" 80 m_C_passed 1 := ⟨tb_3 _ (List.mem_of_getElem? (i := 68) rfl), tb_3 _ (List.mem_of_getElem? (i := 69) rfl), tb_3 _ (List.mem_of_getElem? (i := 70) rfl), ⟨by decide +kernel, by decide +kernel, by decide +kernel⟩, in_C_passed, by decide +kernel, by decide⟩
theorem sr_C_226 : Cond.stringRef "CommandTree" 226 "i is below 0" ∈ lw_tbl := tb_3 _ (List.mem_of_getElem? (i := 72) rfl)
theorem oi_M_1 : Cond.methodLink "CommandTreeModel" 1 objectInit ∈ lw_tbl := tb_3 _ (List.mem_of_getElem? (i := 78) rfl)
theorem fp_M_7 : ct_fp "CommandTreeModel" 7 3 3 (.array .int) true := ⟨_, _, _, rfl, by decide, tb_3 _ (List.mem_of_getElem? (i := 82) rfl), rfl, by decide +kernel, rfl⟩
theorem fp_M_13 : ct_fp "CommandTreeModel" 13 3 4 (.array .int) true := ⟨_, _, _, rfl, by decide, tb_3 _ (List.mem_of_getElem? (i := 83) rfl), rfl, by decide +kernel, rfl⟩
theorem fp_M_16 : ct_fp "CommandTreeModel" 16 3 5 (.array .int) true := ⟨_, _, _, rfl, by decide, tb_3 _ (List.mem_of_getElem? (i := 84) rfl), rfl, by decide +kernel, rfl⟩
theorem fp_M_19 : ct_fp "CommandTreeModel" 19 3 7 (.array .int) true := ⟨_, _, _, rfl, by decide, tb_3 _ (List.mem_of_getElem? (i := 86) rfl), rfl, by decide +kernel, rfl⟩
theorem fp_M_22 : ct_fp "CommandTreeModel" 22 3 8 (.int) false := ⟨_, _, _, rfl, by decide, tb_3 _ (List.mem_of_getElem? (i := 87) rfl), rfl, by decide +kernel, rfl⟩
theorem fp_M_26 : ct_fp "CommandTreeModel" 26 3 9 (.array .boolean) true := ⟨_, _, _, rfl, by decide, tb_3 _ (List.mem_of_getElem? (i := 88) rfl), rfl, by decide +kernel, rfl⟩
theorem fp_M_30 : ct_fp "CommandTreeModel" 30 3 10 (.array .int) true := ⟨_, _, _, rfl, by decide, tb_3 _ (List.mem_of_getElem? (i := 89) rfl), rfl, by decide +kernel, rfl⟩
theorem fp_M_33 : ct_fp "CommandTreeModel" 33 3 11 (.array .int) true := ⟨_, _, _, rfl, by decide, tb_3 _ (List.mem_of_getElem? (i := 90) rfl), rfl, by decide +kernel, rfl⟩
theorem fp_M_36 : ct_fp "CommandTreeModel" 36 3 12 (.array .int) true := ⟨_, _, _, rfl, by decide, tb_3 _ (List.mem_of_getElem? (i := 91) rfl), rfl, by decide +kernel, rfl⟩
theorem fp_M_39 : ct_fp "CommandTreeModel" 39 3 13 (.int) false := ⟨_, _, _, rfl, by decide, tb_3 _ (List.mem_of_getElem? (i := 92) rfl), rfl, by decide +kernel, rfl⟩
theorem fp_M_42 : ct_fp "CommandTreeModel" 42 3 15 (.array .int) true := ⟨_, _, _, rfl, by decide, tb_3 _ (List.mem_of_getElem? (i := 94) rfl), rfl, by decide +kernel, rfl⟩
theorem fp_M_45 : ct_fp "CommandTreeModel" 45 3 16 (.array .int) true := ⟨_, _, _, rfl, by decide, tb_3 _ (List.mem_of_getElem? (i := 95) rfl), rfl, by decide +kernel, rfl⟩
theorem fp_M_48 : ct_fp "CommandTreeModel" 48 3 17 (.array .int) true := ⟨_, _, _, rfl, by decide, tb_3 _ (List.mem_of_getElem? (i := 96) rfl), rfl, by decide +kernel, rfl⟩
theorem fp_M_51 : ct_fp "CommandTreeModel" 51 3 18 (.array .int) true := ⟨_, _, _, rfl, by decide, tb_3 _ (List.mem_of_getElem? (i := 97) rfl), rfl, by decide +kernel, rfl⟩
theorem fp_M_54 : ct_fp "CommandTreeModel" 54 3 20 (.array .int) true := ⟨_, _, _, rfl, by decide, tb_3 _ (List.mem_of_getElem? (i := 99) rfl), rfl, by decide +kernel, rfl⟩
theorem fp_M_57 : ct_fp "CommandTreeModel" 57 3 21 (.array .int) true := ⟨_, _, _, rfl, by decide, tb_3 _ (List.mem_of_getElem? (i := 100) rfl), rfl, by decide +kernel, rfl⟩
theorem fp_M_60 : ct_fp "CommandTreeModel" 60 3 22 (.array .int) true := ⟨_, _, _, rfl, by decide, tb_3 _ (List.mem_of_getElem? (i := 101) rfl), rfl, by decide +kernel, rfl⟩
theorem fp_M_63 : ct_fp "CommandTreeModel" 63 3 23 (.array .int) true := ⟨_, _, _, rfl, by decide, tb_3 _ (List.mem_of_getElem? (i := 102) rfl), rfl, by decide +kernel, rfl⟩
theorem fp_M_66 : ct_fp "CommandTreeModel" 66 3 24 (.int) false := ⟨_, _, _, rfl, by decide, tb_3 _ (List.mem_of_getElem? (i := 103) rfl), rfl, by decide +kernel, rfl⟩
theorem fl_M_30 : ct_fl "CommandTreeModel" 30 3 10 := ⟨_, _, _, rfl, by decide, tb_3 _ (List.mem_of_getElem? (i := 89) rfl)⟩
theorem fl_M_33 : ct_fl "CommandTreeModel" 33 3 11 := ⟨_, _, _, rfl, by decide, tb_3 _ (List.mem_of_getElem? (i := 90) rfl)⟩
theorem fl_M_36 : ct_fl "CommandTreeModel" 36 3 12 := ⟨_, _, _, rfl, by decide, tb_3 _ (List.mem_of_getElem? (i := 91) rfl)⟩
theorem fl_M_63 : ct_fl "CommandTreeModel" 63 3 23 := ⟨_, _, _, rfl, by decide, tb_3 _ (List.mem_of_getElem? (i := 102) rfl)⟩
theorem fl_M_69 : ct_fl "CommandTreeModel" 69 3 0 := ⟨_, _, _, rfl, by decide, tb_3 _ (List.mem_of_getElem? (i := 79) rfl)⟩
theorem cs_M_75 : ct_cS "CommandTreeModel" 75 m_M_within 3 := ⟨tb_3 _ (List.mem_of_getElem? (i := 163) rfl), tb_3 _ (List.mem_of_getElem? (i := 164) rfl), tb_1 _ (List.mem_of_getElem? (i := 5) rfl), ⟨by decide +kernel, by decide +kernel, by decide +kernel⟩, in_M_within, by decide +kernel, by decide⟩
theorem fl_M_72 : ct_fl "CommandTreeModel" 72 3 2 := ⟨_, _, _, rfl, by decide, tb_3 _ (List.mem_of_getElem? (i := 81) rfl)⟩
theorem cv_M_106 : ct_cV "CommandTreeModel" 106 m_M_goes 5 := ⟨tb_3 _ (List.mem_of_getElem? (i := 166) rfl), tb_3 _ (List.mem_of_getElem? (i := 168) rfl), List.mem_append_left _ (List.mem_of_getElem? (i := 20) rfl), ⟨by decide +kernel, by decide +kernel, by decide +kernel⟩, in_M_goes, by decide +kernel, by decide⟩
theorem fl_M_7 : ct_fl "CommandTreeModel" 7 3 3 := ⟨_, _, _, rfl, by decide, tb_3 _ (List.mem_of_getElem? (i := 82) rfl)⟩
theorem fl_M_13 : ct_fl "CommandTreeModel" 13 3 4 := ⟨_, _, _, rfl, by decide, tb_3 _ (List.mem_of_getElem? (i := 83) rfl)⟩
theorem fl_M_16 : ct_fl "CommandTreeModel" 16 3 5 := ⟨_, _, _, rfl, by decide, tb_3 _ (List.mem_of_getElem? (i := 84) rfl)⟩
theorem fp_M_72 : ct_fp "CommandTreeModel" 72 3 2 (.int) false := ⟨_, _, _, rfl, by decide, tb_3 _ (List.mem_of_getElem? (i := 81) rfl), rfl, by decide +kernel, rfl⟩
theorem fp_M_69 : ct_fp "CommandTreeModel" 69 3 0 (.int) false := ⟨_, _, _, rfl, by decide, tb_3 _ (List.mem_of_getElem? (i := 79) rfl), rfl, by decide +kernel, rfl⟩
theorem fl_M_79 : ct_fl "CommandTreeModel" 79 3 6 := ⟨_, _, _, rfl, by decide, tb_3 _ (List.mem_of_getElem? (i := 85) rfl)⟩
theorem fl_M_19 : ct_fl "CommandTreeModel" 19 3 7 := ⟨_, _, _, rfl, by decide, tb_3 _ (List.mem_of_getElem? (i := 86) rfl)⟩
theorem fp_M_79 : ct_fp "CommandTreeModel" 79 3 6 (.int) false := ⟨_, _, _, rfl, by decide, tb_3 _ (List.mem_of_getElem? (i := 85) rfl), rfl, by decide +kernel, rfl⟩
theorem cv_M_110 : ct_cV "CommandTreeModel" 110 m_M_isPerson 1 := ⟨tb_3 _ (List.mem_of_getElem? (i := 178) rfl), tb_3 _ (List.mem_of_getElem? (i := 180) rfl), List.mem_append_left _ (List.mem_of_getElem? (i := 21) rfl), ⟨by decide +kernel, by decide +kernel, by decide +kernel⟩, in_M_isPerson, by decide +kernel, by decide⟩
theorem fl_M_89 : ct_fl "CommandTreeModel" 89 3 1 := ⟨_, _, _, rfl, by decide, tb_3 _ (List.mem_of_getElem? (i := 80) rfl)⟩
theorem cv_M_113 : ct_cV "CommandTreeModel" 113 m_M_moves 2 := ⟨tb_3 _ (List.mem_of_getElem? (i := 182) rfl), tb_3 _ (List.mem_of_getElem? (i := 184) rfl), List.mem_append_left _ (List.mem_of_getElem? (i := 22) rfl), ⟨by decide +kernel, by decide +kernel, by decide +kernel⟩, in_M_moves, by decide +kernel, by decide⟩
theorem cv_M_96 : ct_cV "CommandTreeModel" 96 m_M_leads 1 := ⟨tb_3 _ (List.mem_of_getElem? (i := 186) rfl), tb_3 _ (List.mem_of_getElem? (i := 188) rfl), List.mem_append_left _ (List.mem_of_getElem? (i := 23) rfl), ⟨by decide +kernel, by decide +kernel, by decide +kernel⟩, in_M_leads, by decide +kernel, by decide⟩
theorem cv_M_100 : ct_cV "CommandTreeModel" 100 m_M_next 1 := ⟨tb_3 _ (List.mem_of_getElem? (i := 190) rfl), tb_3 _ (List.mem_of_getElem? (i := 192) rfl), List.mem_append_left _ (List.mem_of_getElem? (i := 24) rfl), ⟨by decide +kernel, by decide +kernel, by decide +kernel⟩, in_M_next, by decide +kernel, by decide⟩
theorem cv_M_103 : ct_cV "CommandTreeModel" 103 m_M_lead 2 := ⟨tb_3 _ (List.mem_of_getElem? (i := 194) rfl), tb_3 _ (List.mem_of_getElem? (i := 196) rfl), List.mem_append_left _ (List.mem_of_getElem? (i := 25) rfl), ⟨by decide +kernel, by decide +kernel, by decide +kernel⟩, in_M_lead, by decide +kernel, by decide⟩
theorem fl_M_22 : ct_fl "CommandTreeModel" 22 3 8 := ⟨_, _, _, rfl, by decide, tb_3 _ (List.mem_of_getElem? (i := 87) rfl)⟩
theorem cv_M_92 : ct_cV "CommandTreeModel" 92 m_M_row 2 := ⟨tb_3 _ (List.mem_of_getElem? (i := 198) rfl), tb_3 _ (List.mem_of_getElem? (i := 200) rfl), List.mem_append_left _ (List.mem_of_getElem? (i := 26) rfl), ⟨by decide +kernel, by decide +kernel, by decide +kernel⟩, in_M_row, by decide +kernel, by decide⟩
theorem fl_M_86 : ct_fl "CommandTreeModel" 86 3 19 := ⟨_, _, _, rfl, by decide, tb_3 _ (List.mem_of_getElem? (i := 98) rfl)⟩
theorem fl_M_54 : ct_fl "CommandTreeModel" 54 3 20 := ⟨_, _, _, rfl, by decide, tb_3 _ (List.mem_of_getElem? (i := 99) rfl)⟩
theorem fl_M_57 : ct_fl "CommandTreeModel" 57 3 21 := ⟨_, _, _, rfl, by decide, tb_3 _ (List.mem_of_getElem? (i := 100) rfl)⟩
theorem fl_M_60 : ct_fl "CommandTreeModel" 60 3 22 := ⟨_, _, _, rfl, by decide, tb_3 _ (List.mem_of_getElem? (i := 101) rfl)⟩
theorem fp_M_86 : ct_fp "CommandTreeModel" 86 3 19 (.int) false := ⟨_, _, _, rfl, by decide, tb_3 _ (List.mem_of_getElem? (i := 98) rfl), rfl, by decide +kernel, rfl⟩
theorem cv_M_82 : ct_cV "CommandTreeModel" 82 m_M_isSector 1 := ⟨tb_3 _ (List.mem_of_getElem? (i := 210) rfl), tb_3 _ (List.mem_of_getElem? (i := 212) rfl), List.mem_append_left _ (List.mem_of_getElem? (i := 27) rfl), ⟨by decide +kernel, by decide +kernel, by decide +kernel⟩, in_M_isSector, by decide +kernel, by decide⟩
theorem cv_M_116 : ct_cV "CommandTreeModel" 116 m_M_isOpen 1 := ⟨tb_3 _ (List.mem_of_getElem? (i := 214) rfl), tb_3 _ (List.mem_of_getElem? (i := 216) rfl), List.mem_append_left _ (List.mem_of_getElem? (i := 28) rfl), ⟨by decide +kernel, by decide +kernel, by decide +kernel⟩, in_M_isOpen, by decide +kernel, by decide⟩
theorem fl_M_26 : ct_fl "CommandTreeModel" 26 3 9 := ⟨_, _, _, rfl, by decide, tb_3 _ (List.mem_of_getElem? (i := 88) rfl)⟩
theorem cv_M_119 : ct_cV "CommandTreeModel" 119 m_M_isUnit 1 := ⟨tb_3 _ (List.mem_of_getElem? (i := 222) rfl), tb_3 _ (List.mem_of_getElem? (i := 224) rfl), List.mem_append_left _ (List.mem_of_getElem? (i := 29) rfl), ⟨by decide +kernel, by decide +kernel, by decide +kernel⟩, in_M_isUnit, by decide +kernel, by decide⟩
theorem cv_M_122 : ct_cV "CommandTreeModel" 122 m_M_isBelow 2 := ⟨tb_3 _ (List.mem_of_getElem? (i := 234) rfl), tb_3 _ (List.mem_of_getElem? (i := 236) rfl), List.mem_append_left _ (List.mem_of_getElem? (i := 30) rfl), ⟨by decide +kernel, by decide +kernel, by decide +kernel⟩, in_M_isBelow, by decide +kernel, by decide⟩
theorem fl_M_126 : ct_fl "CommandTreeModel" 126 3 14 := ⟨_, _, _, rfl, by decide, tb_3 _ (List.mem_of_getElem? (i := 93) rfl)⟩
theorem fl_M_42 : ct_fl "CommandTreeModel" 42 3 15 := ⟨_, _, _, rfl, by decide, tb_3 _ (List.mem_of_getElem? (i := 94) rfl)⟩
theorem fl_M_48 : ct_fl "CommandTreeModel" 48 3 17 := ⟨_, _, _, rfl, by decide, tb_3 _ (List.mem_of_getElem? (i := 96) rfl)⟩
theorem cn_M_129 : Cond.constant "CommandTreeModel" 129 99999 ∈ lw_tbl := tb_4 _ (List.mem_of_getElem? (i := 10) rfl)
theorem fl_M_45 : ct_fl "CommandTreeModel" 45 3 16 := ⟨_, _, _, rfl, by decide, tb_3 _ (List.mem_of_getElem? (i := 95) rfl)⟩
theorem fl_M_51 : ct_fl "CommandTreeModel" 51 3 18 := ⟨_, _, _, rfl, by decide, tb_3 _ (List.mem_of_getElem? (i := 97) rfl)⟩
theorem fp_M_126 : ct_fp "CommandTreeModel" 126 3 14 (.int) false := ⟨_, _, _, rfl, by decide, tb_3 _ (List.mem_of_getElem? (i := 93) rfl), rfl, by decide +kernel, rfl⟩
theorem cv_M_136 : ct_cV "CommandTreeModel" 136 m_M_isPassed 1 := ⟨tb_4 _ (List.mem_of_getElem? (i := 19) rfl), tb_4 _ (List.mem_of_getElem? (i := 21) rfl), List.mem_append_left _ (List.mem_of_getElem? (i := 31) rfl), ⟨by decide +kernel, by decide +kernel, by decide +kernel⟩, in_M_isPassed, by decide +kernel, by decide⟩
theorem cv_M_130 : ct_cV "CommandTreeModel" 130 m_M_below 1 := ⟨tb_4 _ (List.mem_of_getElem? (i := 23) rfl), tb_4 _ (List.mem_of_getElem? (i := 25) rfl), List.mem_append_left _ (List.mem_of_getElem? (i := 32) rfl), ⟨by decide +kernel, by decide +kernel, by decide +kernel⟩, in_M_below, by decide +kernel, by decide⟩
theorem cv_M_133 : ct_cV "CommandTreeModel" 133 m_M_unitsIn 1 := ⟨tb_4 _ (List.mem_of_getElem? (i := 27) rfl), tb_4 _ (List.mem_of_getElem? (i := 29) rfl), List.mem_append_left _ (List.mem_of_getElem? (i := 33) rfl), ⟨by decide +kernel, by decide +kernel, by decide +kernel⟩, in_M_unitsIn, by decide +kernel, by decide⟩
theorem fl_M_39 : ct_fl "CommandTreeModel" 39 3 13 := ⟨_, _, _, rfl, by decide, tb_3 _ (List.mem_of_getElem? (i := 92) rfl)⟩
theorem fp_M_89 : ct_fp "CommandTreeModel" 89 3 1 (.int) false := ⟨_, _, _, rfl, by decide, tb_3 _ (List.mem_of_getElem? (i := 80) rfl), rfl, by decide +kernel, rfl⟩
theorem fl_M_66 : ct_fl "CommandTreeModel" 66 3 24 := ⟨_, _, _, rfl, by decide, tb_3 _ (List.mem_of_getElem? (i := 103) rfl)⟩
theorem cl_L_8 : Cond.classLink "CommandTreeLaw" 8 "CommandTree" ∈ lw_tbl := tb_1 _ (List.mem_of_getElem? (i := 13) rfl)
theorem ci_L_83 : ct_cI "CommandTreeLaw" 83 m_C_init 0 := ⟨tb_1 _ (List.mem_of_getElem? (i := 15) rfl), tb_1 _ (List.mem_of_getElem? (i := 16) rfl), tb_1 _ (List.mem_of_getElem? (i := 17) rfl), ⟨by decide +kernel, by decide +kernel, by decide +kernel⟩, ⟨rfl, rfl, rfl⟩, by decide +kernel, by decide⟩
theorem cl_L_84 : Cond.classLink "CommandTreeLaw" 84 "CommandTreeModel" ∈ lw_tbl := tb_3 _ (List.mem_of_getElem? (i := 73) rfl)
theorem ci_L_86 : ct_cI "CommandTreeLaw" 86 m_M_init 0 := ⟨tb_3 _ (List.mem_of_getElem? (i := 75) rfl), tb_3 _ (List.mem_of_getElem? (i := 76) rfl), tb_3 _ (List.mem_of_getElem? (i := 77) rfl), ⟨by decide +kernel, by decide +kernel, by decide +kernel⟩, ⟨rfl, rfl, rfl⟩, by decide +kernel, by decide⟩
theorem cs_L_87 : ct_cS "CommandTreeLaw" 87 m_L_person 3 := ⟨tb_1 _ (List.mem_of_getElem? (i := 131) rfl), tb_1 _ (List.mem_of_getElem? (i := 132) rfl), tb_1 _ (List.mem_of_getElem? (i := 0) rfl), ⟨by decide +kernel, by decide +kernel, by decide +kernel⟩, in_L_person, by decide +kernel, by decide⟩
theorem cv_L_92 : ct_cV "CommandTreeLaw" 92 m_M_person 1 := ⟨tb_3 _ (List.mem_of_getElem? (i := 159) rfl), tb_3 _ (List.mem_of_getElem? (i := 160) rfl), tb_3 _ (List.mem_of_getElem? (i := 161) rfl), ⟨by decide +kernel, by decide +kernel, by decide +kernel⟩, in_M_person, by decide +kernel, by decide⟩
theorem cv_L_93 : ct_cV "CommandTreeLaw" 93 m_M_thrown 0 := ⟨tb_3 _ (List.mem_of_getElem? (i := 155) rfl), tb_3 _ (List.mem_of_getElem? (i := 156) rfl), tb_3 _ (List.mem_of_getElem? (i := 157) rfl), ⟨by decide +kernel, by decide +kernel, by decide +kernel⟩, in_M_thrown, by decide +kernel, by decide⟩
theorem cs_L_96 : ct_cS "CommandTreeLaw" 96 m_L_unit 2 := ⟨tb_1 _ (List.mem_of_getElem? (i := 225) rfl), tb_1 _ (List.mem_of_getElem? (i := 226) rfl), tb_1 _ (List.mem_of_getElem? (i := 0) rfl), ⟨by decide +kernel, by decide +kernel, by decide +kernel⟩, in_L_unit, by decide +kernel, by decide⟩
theorem cv_L_99 : ct_cV "CommandTreeLaw" 99 m_M_unit 0 := ⟨tb_3 _ (List.mem_of_getElem? (i := 170) rfl), tb_3 _ (List.mem_of_getElem? (i := 171) rfl), tb_3 _ (List.mem_of_getElem? (i := 172) rfl), ⟨by decide +kernel, by decide +kernel, by decide +kernel⟩, in_M_unit, by decide +kernel, by decide⟩
theorem cs_L_100 : ct_cS "CommandTreeLaw" 100 m_L_arrive 2 := ⟨tb_1 _ (List.mem_of_getElem? (i := 233) rfl), tb_1 _ (List.mem_of_getElem? (i := 234) rfl), tb_1 _ (List.mem_of_getElem? (i := 0) rfl), ⟨by decide +kernel, by decide +kernel, by decide +kernel⟩, in_L_arrive, by decide +kernel, by decide⟩
theorem cv_L_103 : ct_cV "CommandTreeLaw" 103 m_M_arrive 1 := ⟨tb_3 _ (List.mem_of_getElem? (i := 174) rfl), tb_3 _ (List.mem_of_getElem? (i := 175) rfl), tb_3 _ (List.mem_of_getElem? (i := 176) rfl), ⟨by decide +kernel, by decide +kernel, by decide +kernel⟩, in_M_arrive, by decide +kernel, by decide⟩
theorem cs_L_104 : ct_cS "CommandTreeLaw" 104 m_L_leave 2 := ⟨tb_2 _ (List.mem_of_getElem? (i := 81) rfl), tb_2 _ (List.mem_of_getElem? (i := 82) rfl), tb_1 _ (List.mem_of_getElem? (i := 0) rfl), ⟨by decide +kernel, by decide +kernel, by decide +kernel⟩, in_L_leave, by decide +kernel, by decide⟩
theorem cv_L_106 : ct_cV "CommandTreeLaw" 106 m_M_leave 1 := ⟨tb_3 _ (List.mem_of_getElem? (i := 202) rfl), tb_3 _ (List.mem_of_getElem? (i := 203) rfl), tb_3 _ (List.mem_of_getElem? (i := 204) rfl), ⟨by decide +kernel, by decide +kernel, by decide +kernel⟩, in_M_leave, by decide +kernel, by decide⟩
theorem cs_L_107 : ct_cS "CommandTreeLaw" 107 m_L_go 3 := ⟨tb_2 _ (List.mem_of_getElem? (i := 93) rfl), tb_2 _ (List.mem_of_getElem? (i := 94) rfl), tb_1 _ (List.mem_of_getElem? (i := 0) rfl), ⟨by decide +kernel, by decide +kernel, by decide +kernel⟩, in_L_go, by decide +kernel, by decide⟩
theorem cv_L_110 : ct_cV "CommandTreeLaw" 110 m_M_go 2 := ⟨tb_3 _ (List.mem_of_getElem? (i := 206) rfl), tb_3 _ (List.mem_of_getElem? (i := 207) rfl), tb_3 _ (List.mem_of_getElem? (i := 208) rfl), ⟨by decide +kernel, by decide +kernel, by decide +kernel⟩, in_M_go, by decide +kernel, by decide⟩
theorem cs_L_111 : ct_cS "CommandTreeLaw" 111 m_L_place 3 := ⟨tb_2 _ (List.mem_of_getElem? (i := 111) rfl), tb_2 _ (List.mem_of_getElem? (i := 112) rfl), tb_1 _ (List.mem_of_getElem? (i := 0) rfl), ⟨by decide +kernel, by decide +kernel, by decide +kernel⟩, in_L_place, by decide +kernel, by decide⟩
theorem cv_L_113 : ct_cV "CommandTreeLaw" 113 m_M_place 2 := ⟨tb_3 _ (List.mem_of_getElem? (i := 218) rfl), tb_3 _ (List.mem_of_getElem? (i := 219) rfl), tb_3 _ (List.mem_of_getElem? (i := 220) rfl), ⟨by decide +kernel, by decide +kernel, by decide +kernel⟩, in_M_place, by decide +kernel, by decide⟩
theorem cs_L_114 : ct_cS "CommandTreeLaw" 114 m_L_split 3 := ⟨tb_2 _ (List.mem_of_getElem? (i := 124) rfl), tb_2 _ (List.mem_of_getElem? (i := 125) rfl), tb_1 _ (List.mem_of_getElem? (i := 0) rfl), ⟨by decide +kernel, by decide +kernel, by decide +kernel⟩, in_L_split, by decide +kernel, by decide⟩
theorem cv_L_116 : ct_cV "CommandTreeLaw" 116 m_M_split 1 := ⟨tb_3 _ (List.mem_of_getElem? (i := 226) rfl), tb_3 _ (List.mem_of_getElem? (i := 227) rfl), tb_3 _ (List.mem_of_getElem? (i := 228) rfl), ⟨by decide +kernel, by decide +kernel, by decide +kernel⟩, in_M_split, by decide +kernel, by decide⟩
theorem cs_L_117 : ct_cS "CommandTreeLaw" 117 m_L_join 3 := ⟨tb_2 _ (List.mem_of_getElem? (i := 132) rfl), tb_2 _ (List.mem_of_getElem? (i := 133) rfl), tb_1 _ (List.mem_of_getElem? (i := 0) rfl), ⟨by decide +kernel, by decide +kernel, by decide +kernel⟩, in_L_join, by decide +kernel, by decide⟩
theorem cv_L_119 : ct_cV "CommandTreeLaw" 119 m_M_join 2 := ⟨tb_3 _ (List.mem_of_getElem? (i := 230) rfl), tb_3 _ (List.mem_of_getElem? (i := 231) rfl), tb_3 _ (List.mem_of_getElem? (i := 232) rfl), ⟨by decide +kernel, by decide +kernel, by decide +kernel⟩, in_M_join, by decide +kernel, by decide⟩
theorem cs_L_120 : ct_cS "CommandTreeLaw" 120 m_L_offer 3 := ⟨tb_2 _ (List.mem_of_getElem? (i := 157) rfl), tb_2 _ (List.mem_of_getElem? (i := 158) rfl), tb_1 _ (List.mem_of_getElem? (i := 0) rfl), ⟨by decide +kernel, by decide +kernel, by decide +kernel⟩, in_L_offer, by decide +kernel, by decide⟩
theorem cv_L_122 : ct_cV "CommandTreeLaw" 122 m_M_offer 2 := ⟨tb_3 _ (List.mem_of_getElem? (i := 238) rfl), tb_3 _ (List.mem_of_getElem? (i := 239) rfl), tb_4 _ (List.mem_of_getElem? (i := 0) rfl), ⟨by decide +kernel, by decide +kernel, by decide +kernel⟩, in_M_offer, by decide +kernel, by decide⟩
theorem cs_L_123 : ct_cS "CommandTreeLaw" 123 m_L_take 3 := ⟨tb_2 _ (List.mem_of_getElem? (i := 166) rfl), tb_2 _ (List.mem_of_getElem? (i := 167) rfl), tb_1 _ (List.mem_of_getElem? (i := 0) rfl), ⟨by decide +kernel, by decide +kernel, by decide +kernel⟩, in_L_take, by decide +kernel, by decide⟩
theorem cv_L_125 : ct_cV "CommandTreeLaw" 125 m_M_take 2 := ⟨tb_4 _ (List.mem_of_getElem? (i := 2) rfl), tb_4 _ (List.mem_of_getElem? (i := 3) rfl), tb_4 _ (List.mem_of_getElem? (i := 4) rfl), ⟨by decide +kernel, by decide +kernel, by decide +kernel⟩, in_M_take, by decide +kernel, by decide⟩
theorem cs_L_126 : ct_cS "CommandTreeLaw" 126 m_L_task 4 := ⟨tb_2 _ (List.mem_of_getElem? (i := 174) rfl), tb_2 _ (List.mem_of_getElem? (i := 175) rfl), tb_1 _ (List.mem_of_getElem? (i := 0) rfl), ⟨by decide +kernel, by decide +kernel, by decide +kernel⟩, in_L_task, by decide +kernel, by decide⟩
theorem cv_L_129 : ct_cV "CommandTreeLaw" 129 m_M_task 2 := ⟨tb_4 _ (List.mem_of_getElem? (i := 6) rfl), tb_4 _ (List.mem_of_getElem? (i := 7) rfl), tb_4 _ (List.mem_of_getElem? (i := 8) rfl), ⟨by decide +kernel, by decide +kernel, by decide +kernel⟩, in_M_task, by decide +kernel, by decide⟩
theorem cs_L_130 : ct_cS "CommandTreeLaw" 130 m_L_answer 3 := ⟨tb_2 _ (List.mem_of_getElem? (i := 193) rfl), tb_2 _ (List.mem_of_getElem? (i := 194) rfl), tb_1 _ (List.mem_of_getElem? (i := 0) rfl), ⟨by decide +kernel, by decide +kernel, by decide +kernel⟩, in_L_answer, by decide +kernel, by decide⟩
theorem cv_L_133 : ct_cV "CommandTreeLaw" 133 m_M_answer 2 := ⟨tb_4 _ (List.mem_of_getElem? (i := 11) rfl), tb_4 _ (List.mem_of_getElem? (i := 12) rfl), tb_4 _ (List.mem_of_getElem? (i := 13) rfl), ⟨by decide +kernel, by decide +kernel, by decide +kernel⟩, in_M_answer, by decide +kernel, by decide⟩
theorem cs_L_134 : ct_cS "CommandTreeLaw" 134 m_L_span 3 := ⟨tb_2 _ (List.mem_of_getElem? (i := 215) rfl), tb_2 _ (List.mem_of_getElem? (i := 216) rfl), tb_1 _ (List.mem_of_getElem? (i := 0) rfl), ⟨by decide +kernel, by decide +kernel, by decide +kernel⟩, in_L_span, by decide +kernel, by decide⟩
theorem cv_L_136 : ct_cV "CommandTreeLaw" 136 m_M_span 1 := ⟨tb_4 _ (List.mem_of_getElem? (i := 15) rfl), tb_4 _ (List.mem_of_getElem? (i := 16) rfl), tb_4 _ (List.mem_of_getElem? (i := 17) rfl), ⟨by decide +kernel, by decide +kernel, by decide +kernel⟩, in_M_span, by decide +kernel, by decide⟩
theorem cs_L_137 : ct_cS "CommandTreeLaw" 137 m_L_tick 3 := ⟨tb_2 _ (List.mem_of_getElem? (i := 234) rfl), tb_2 _ (List.mem_of_getElem? (i := 235) rfl), tb_1 _ (List.mem_of_getElem? (i := 0) rfl), ⟨by decide +kernel, by decide +kernel, by decide +kernel⟩, in_L_tick, by decide +kernel, by decide⟩
theorem cv_L_139 : ct_cV "CommandTreeLaw" 139 m_M_tick 1 := ⟨tb_4 _ (List.mem_of_getElem? (i := 31) rfl), tb_4 _ (List.mem_of_getElem? (i := 32) rfl), tb_4 _ (List.mem_of_getElem? (i := 33) rfl), ⟨by decide +kernel, by decide +kernel, by decide +kernel⟩, in_M_tick, by decide +kernel, by decide⟩
theorem cs_L_140 : ct_cS "CommandTreeLaw" 140 m_L_led 4 := ⟨tb_3 _ (List.mem_of_getElem? (i := 10) rfl), tb_3 _ (List.mem_of_getElem? (i := 11) rfl), tb_1 _ (List.mem_of_getElem? (i := 0) rfl), ⟨by decide +kernel, by decide +kernel, by decide +kernel⟩, in_L_led, by decide +kernel, by decide⟩
theorem cv_L_142 : ct_cV "CommandTreeLaw" 142 m_M_led 2 := ⟨tb_4 _ (List.mem_of_getElem? (i := 35) rfl), tb_4 _ (List.mem_of_getElem? (i := 36) rfl), tb_4 _ (List.mem_of_getElem? (i := 37) rfl), ⟨by decide +kernel, by decide +kernel, by decide +kernel⟩, in_M_led, by decide +kernel, by decide⟩
theorem cs_L_143 : ct_cS "CommandTreeLaw" 143 m_L_sectorAt 4 := ⟨tb_3 _ (List.mem_of_getElem? (i := 27) rfl), tb_3 _ (List.mem_of_getElem? (i := 28) rfl), tb_1 _ (List.mem_of_getElem? (i := 0) rfl), ⟨by decide +kernel, by decide +kernel, by decide +kernel⟩, in_L_sectorAt, by decide +kernel, by decide⟩
theorem cv_L_145 : ct_cV "CommandTreeLaw" 145 m_M_sectorAt 2 := ⟨tb_4 _ (List.mem_of_getElem? (i := 39) rfl), tb_4 _ (List.mem_of_getElem? (i := 40) rfl), tb_4 _ (List.mem_of_getElem? (i := 41) rfl), ⟨by decide +kernel, by decide +kernel, by decide +kernel⟩, in_M_sectorAt, by decide +kernel, by decide⟩
theorem cs_L_146 : ct_cS "CommandTreeLaw" 146 m_L_personAt 4 := ⟨tb_3 _ (List.mem_of_getElem? (i := 35) rfl), tb_3 _ (List.mem_of_getElem? (i := 36) rfl), tb_1 _ (List.mem_of_getElem? (i := 0) rfl), ⟨by decide +kernel, by decide +kernel, by decide +kernel⟩, in_L_personAt, by decide +kernel, by decide⟩
theorem cv_L_148 : ct_cV "CommandTreeLaw" 148 m_M_personAt 2 := ⟨tb_4 _ (List.mem_of_getElem? (i := 43) rfl), tb_4 _ (List.mem_of_getElem? (i := 44) rfl), tb_4 _ (List.mem_of_getElem? (i := 45) rfl), ⟨by decide +kernel, by decide +kernel, by decide +kernel⟩, in_M_personAt, by decide +kernel, by decide⟩
theorem cs_L_149 : ct_cS "CommandTreeLaw" 149 m_L_unitAt 3 := ⟨tb_3 _ (List.mem_of_getElem? (i := 42) rfl), tb_3 _ (List.mem_of_getElem? (i := 43) rfl), tb_1 _ (List.mem_of_getElem? (i := 0) rfl), ⟨by decide +kernel, by decide +kernel, by decide +kernel⟩, in_L_unitAt, by decide +kernel, by decide⟩
theorem cv_L_151 : ct_cV "CommandTreeLaw" 151 m_M_unitAt 1 := ⟨tb_4 _ (List.mem_of_getElem? (i := 47) rfl), tb_4 _ (List.mem_of_getElem? (i := 48) rfl), tb_4 _ (List.mem_of_getElem? (i := 49) rfl), ⟨by decide +kernel, by decide +kernel, by decide +kernel⟩, in_M_unitAt, by decide +kernel, by decide⟩
theorem cs_L_152 : ct_cS "CommandTreeLaw" 152 m_L_taskAt 4 := ⟨tb_3 _ (List.mem_of_getElem? (i := 49) rfl), tb_3 _ (List.mem_of_getElem? (i := 50) rfl), tb_1 _ (List.mem_of_getElem? (i := 0) rfl), ⟨by decide +kernel, by decide +kernel, by decide +kernel⟩, in_L_taskAt, by decide +kernel, by decide⟩
theorem cv_L_154 : ct_cV "CommandTreeLaw" 154 m_M_taskAt 2 := ⟨tb_4 _ (List.mem_of_getElem? (i := 51) rfl), tb_4 _ (List.mem_of_getElem? (i := 52) rfl), tb_4 _ (List.mem_of_getElem? (i := 53) rfl), ⟨by decide +kernel, by decide +kernel, by decide +kernel⟩, in_M_taskAt, by decide +kernel, by decide⟩
theorem cs_L_155 : ct_cS "CommandTreeLaw" 155 m_L_passed 3 := ⟨tb_3 _ (List.mem_of_getElem? (i := 65) rfl), tb_3 _ (List.mem_of_getElem? (i := 66) rfl), tb_1 _ (List.mem_of_getElem? (i := 0) rfl), ⟨by decide +kernel, by decide +kernel, by decide +kernel⟩, in_L_passed, by decide +kernel, by decide⟩
theorem cv_L_157 : ct_cV "CommandTreeLaw" 157 m_M_passed 1 := ⟨tb_4 _ (List.mem_of_getElem? (i := 55) rfl), tb_4 _ (List.mem_of_getElem? (i := 56) rfl), tb_4 _ (List.mem_of_getElem? (i := 57) rfl), ⟨by decide +kernel, by decide +kernel, by decide +kernel⟩, in_M_passed, by decide +kernel, by decide⟩
theorem cv_L_158 : ct_cV "CommandTreeLaw" 158 m_C_clock 0 := ⟨tb_1 _ (List.mem_of_getElem? (i := 127) rfl), tb_1 _ (List.mem_of_getElem? (i := 128) rfl), tb_1 _ (List.mem_of_getElem? (i := 129) rfl), ⟨by decide +kernel, by decide +kernel, by decide +kernel⟩, in_C_clock, by decide +kernel, by decide⟩
theorem cv_L_161 : ct_cV "CommandTreeLaw" 161 m_M_clock 0 := ⟨tb_4 _ (List.mem_of_getElem? (i := 59) rfl), tb_4 _ (List.mem_of_getElem? (i := 60) rfl), tb_4 _ (List.mem_of_getElem? (i := 61) rfl), ⟨by decide +kernel, by decide +kernel, by decide +kernel⟩, in_M_clock, by decide +kernel, by decide⟩
theorem ini_CommandTreeLaw : Cond.initialized "CommandTreeLaw" ∈ lw_tbl := tb_1 _ (List.mem_of_getElem? (i := 0) rfl)
theorem ini_CommandTree : Cond.initialized "CommandTree" ∈ lw_tbl := tb_1 _ (List.mem_of_getElem? (i := 1) rfl)
theorem ini_java_util_Arrays : Cond.initialized "java/util/Arrays" ∈ lw_tbl := tb_1 _ (List.mem_of_getElem? (i := 2) rfl)
theorem ini_CommandTree_TaskList : Cond.initialized "CommandTree$TaskList" ∈ lw_tbl := tb_1 _ (List.mem_of_getElem? (i := 3) rfl)
theorem ini_CommandTree_LeaderRows : Cond.initialized "CommandTree$LeaderRows" ∈ lw_tbl := tb_1 _ (List.mem_of_getElem? (i := 4) rfl)
theorem ini_CommandTreeModel : Cond.initialized "CommandTreeModel" ∈ lw_tbl := tb_1 _ (List.mem_of_getElem? (i := 5) rfl)
theorem ini_java_lang_Throwable : Cond.initialized "java/lang/Throwable" ∈ lw_tbl := tb_1 _ (List.mem_of_getElem? (i := 6) rfl)
theorem ini_java_lang_Exception : Cond.initialized "java/lang/Exception" ∈ lw_tbl := tb_1 _ (List.mem_of_getElem? (i := 7) rfl)
theorem ini_java_lang_RuntimeException : Cond.initialized "java/lang/RuntimeException" ∈ lw_tbl := tb_1 _ (List.mem_of_getElem? (i := 8) rfl)
theorem ini_java_lang_IndexOutOfBoundsException : Cond.initialized "java/lang/IndexOutOfBoundsException" ∈ lw_tbl := tb_1 _ (List.mem_of_getElem? (i := 9) rfl)
theorem ini_java_lang_UnsupportedOperationException : Cond.initialized "java/lang/UnsupportedOperationException" ∈ lw_tbl := tb_1 _ (List.mem_of_getElem? (i := 10) rfl)
theorem ini_java_lang_IllegalArgumentException : Cond.initialized "java/lang/IllegalArgumentException" ∈ lw_tbl := tb_1 _ (List.mem_of_getElem? (i := 11) rfl)
theorem ini_java_lang_IllegalStateException : Cond.initialized "java/lang/IllegalStateException" ∈ lw_tbl := tb_1 _ (List.mem_of_getElem? (i := 12) rfl)
theorem inst_C : Cond.instantiable "CommandTree" 16 ∈ lw_tbl := tb_1 _ (List.mem_of_getElem? (i := 14) rfl)
theorem inst_T : Cond.instantiable "CommandTree$TaskList" 5 ∈ lw_tbl := tb_1 _ (List.mem_of_getElem? (i := 25) rfl)
theorem arr_int : Cond.arrayClass .int ∈ lw_tbl := tb_1 _ (List.mem_of_getElem? (i := 47) rfl)
theorem arr_boolean : Cond.arrayClass .boolean ∈ lw_tbl := tb_1 _ (List.mem_of_getElem? (i := 48) rfl)
theorem inst_R : Cond.instantiable "CommandTree$LeaderRows" 7 ∈ lw_tbl := tb_1 _ (List.mem_of_getElem? (i := 50) rfl)
theorem cl_L_13 : Cond.classLink "CommandTreeLaw" 13 "java/lang/IndexOutOfBoundsException" ∈ lw_tbl := tb_1 _ (List.mem_of_getElem? (i := 134) rfl)
theorem cl_L_15 : Cond.classLink "CommandTreeLaw" 15 "java/lang/UnsupportedOperationException" ∈ lw_tbl := tb_1 _ (List.mem_of_getElem? (i := 135) rfl)
theorem cast_java_lang_IndexOutOfBoundsException : Cond.castable "java/lang/IndexOutOfBoundsException" "java/lang/IndexOutOfBoundsException" ∈ lw_tbl := tb_1 _ (List.mem_of_getElem? (i := 142) rfl)
theorem arr_byte : Cond.arrayClass .byte ∈ lw_tbl := tb_1 _ (List.mem_of_getElem? (i := 208) rfl)
theorem cast_java_lang_UnsupportedOperationException : Cond.castable "java/lang/UnsupportedOperationException" "java/lang/UnsupportedOperationException" ∈ lw_tbl := tb_1 _ (List.mem_of_getElem? (i := 211) rfl)
theorem cl_L_25 : Cond.classLink "CommandTreeLaw" 25 "java/lang/IllegalArgumentException" ∈ lw_tbl := tb_1 _ (List.mem_of_getElem? (i := 236) rfl)
theorem cl_L_27 : Cond.classLink "CommandTreeLaw" 27 "java/lang/IllegalStateException" ∈ lw_tbl := tb_1 _ (List.mem_of_getElem? (i := 237) rfl)
theorem cast_java_lang_IllegalArgumentException : Cond.castable "java/lang/IllegalArgumentException" "java/lang/IllegalArgumentException" ∈ lw_tbl := tb_2 _ (List.mem_of_getElem? (i := 8) rfl)
theorem cast_java_lang_IllegalStateException : Cond.castable "java/lang/IllegalStateException" "java/lang/IllegalStateException" ∈ lw_tbl := tb_2 _ (List.mem_of_getElem? (i := 28) rfl)
theorem inst_M : Cond.instantiable "CommandTreeModel" 25 ∈ lw_tbl := tb_3 _ (List.mem_of_getElem? (i := 74) rfl)
theorem arr_long : Cond.arrayClass .long ∈ lw_tbl := tb_4 _ (List.mem_of_getElem? (i := 63) rfl)
theorem oi_i : Cond.instanceMethod objectInit ∈ lw_tbl := tb_1 _ (List.mem_of_getElem? (i := 19) rfl)
theorem oi_c : Cond.code objectInit ⟨#[0xb1]⟩ 1 none ∈ lw_tbl := tb_1 _ (List.mem_of_getElem? (i := 20) rfl)
theorem thr_0 : ct_thr "CommandTree" 69 0 := ⟨by decide +kernel, by decide +kernel⟩
theorem thr_1 : ct_thr "CommandTree" 79 1 := ⟨by decide +kernel, by decide +kernel⟩
theorem thr_2 : ct_thr "CommandTree" 216 2 := ⟨by decide +kernel, by decide +kernel⟩
theorem thr_3 : ct_thr "CommandTree" 97 3 := ⟨by decide +kernel, by decide +kernel⟩
