/-! ===== tables, by program (wip/tools/gen_core2.py): methods, links, words ===== -/
abbrev m_Jx4a65c_init_da8c8 : Nat := 0
abbrev m_Jx4a65c_grow_92f84 : Nat := 1
abbrev m_Jx4a65c_grow_d5877 : Nat := 2
abbrev m_Jx4a65c_size_8abf5 : Nat := 3
abbrev m_Jx4a65c_elementData_915e3 : Nat := 4
abbrev m_Jx4a65c_get_915e3 : Nat := 5
abbrev m_Jx4a65c_add_72be8 : Nat := 6
abbrev m_Jx4a65c_add_9ea2d : Nat := 7
abbrev m_Jx4a65c_add_7a177 : Nat := 8
abbrev m_Jx4a65c_remove_915e3 : Nat := 9
abbrev m_Jx4a65c_fastRemove_b59b0 : Nat := 10
abbrev m_Jx4a65c_clear_da8c8 : Nat := 11
abbrev m_Jx4a65c_rangeCheckForAdd_d00df : Nat := 12
abbrev m_X0_init : Nat := 13
abbrev m_X0_clear : Nat := 14
abbrev m_X0_add : Nat := 15
abbrev m_X0_read : Nat := 16
abbrev m_X1_init : Nat := 17
abbrev m_X1_addBoat : Nat := 18
abbrev m_X1_seatsOut : Nat := 19
abbrev m_X1_seatsBack : Nat := 20
abbrev m_X2_init : Nat := 21
abbrev m_X2_goAboard : Nat := 22
abbrev m_X2_stayAt : Nat := 23
abbrev m_X2_takeRoad : Nat := 24
abbrev m_X2_copyFrom : Nat := 25
abbrev m_X3_init : Nat := 26
abbrev m_X3_mayLead : Nat := 27
abbrev m_X3_isOff : Nat := 28
abbrev m_X3_setOff : Nat := 29
abbrev m_X3_isLike : Nat := 30
abbrev m_X4_init : Nat := 31
abbrev m_X4_set : Nat := 32
abbrev m_X4_hoursBehind : Nat := 33
abbrev m_X5_init : Nat := 34
abbrev m_X5_length : Nat := 35
abbrev m_X5_at : Nat := 36
abbrev m_X5_placeOf : Nat := 37
abbrev m_X5_append : Nat := 38
abbrev m_X5_insert : Nat := 39
abbrev m_X5_takeOut : Nat := 40
abbrev m_X5_moveToEnd : Nat := 41
abbrev m_X5_markPlaces : Nat := 42
abbrev m_X5_copyFrom : Nat := 43
abbrev m_X6_init : Nat := 44
abbrev m_X6_hoursToLead : Nat := 45
abbrev m_X7_init : Nat := 46
abbrev m_X7_toldOn : Nat := 47
abbrev m_X7_tell : Nat := 48
abbrev m_X7_forget : Nat := 49
abbrev m_X7_letThrough : Nat := 50
abbrev m_X8_init : Nat := 51
abbrev m_X8_aboardFromPlace : Nat := 52
abbrev m_X8_turnBack : Nat := 53
abbrev m_X8_copyFrom : Nat := 54
abbrev m_X9_init : Nat := 55
abbrev m_X9_pilot : Nat := 56
abbrev m_X9_ship : Nat := 57
abbrev m_X9_tide : Nat := 58
abbrev m_X9_tear : Nat := 59
abbrev m_X9_boat : Nat := 60
abbrev m_X9_road : Nat := 61
abbrev m_X9_rest : Nat := 62
abbrev m_X9_off : Nat := 63
abbrev m_X9_will : Nat := 64
abbrev m_X9_hour : Nat := 65
abbrev m_X9_back : Nat := 66
abbrev m_X9_swap : Nat := 67
abbrev m_X9_undo : Nat := 68
abbrev m_X9_may : Nat := 69
abbrev m_X9_window : Nat := 70
abbrev m_X9_seats : Nat := 71
abbrev m_X9_list : Nat := 72
abbrev m_X9_asked : Nat := 73
abbrev m_X9_look : Nat := 74
abbrev m_X9_craft : Nat := 75
abbrev m_X9_fair : Nat := 76
abbrev m_X9_count : Nat := 77
abbrev m_X9_within : Nat := 78
abbrev m_X9_isDay : Nat := 79
abbrev m_X9_isNight : Nat := 80
abbrev m_X9_numberOf : Nat := 81
abbrev m_X9_pilotNumbered : Nat := 82
abbrev m_X9_shipNumbered : Nat := 83
abbrev m_X9_placeByLength : Nat := 84
abbrev m_X9_keepState : Nat := 85
abbrev m_X9_sendShips : Nat := 86
abbrev m_X9_goes : Nat := 87
abbrev m_X9_keepWaitingForSomebody : Nat := 88
abbrev m_X9_askTheToldOne : Nat := 89
abbrev m_X9_seek : Nat := 90
abbrev m_X9_agrees : Nat := 91
abbrev m_X9_against : Nat := 92
abbrev m_X9_canBeThere : Nat := 93
abbrev m_X9_needsSeat : Nat := 94
abbrev m_X9_depart : Nat := 95
abbrev m_X9_board : Nat := 96
abbrev m_X9_findLearner : Nat := 97
abbrev m_X9_bringBackFromPost : Nat := 98
abbrev m_X9_longestAtPost : Nat := 99
abbrev m_X9_endShips : Nat := 100
abbrev m_X9_endDuty : Nat := 101
abbrev m_X9_ledByNight : Nat := 102
abbrev m_X9_endRoads : Nat := 103
abbrev m_X9_listTheRested : Nat := 104
abbrev m_X9_wentJustNow : Nat := 105
abbrev m_X9_canGiveLeader : Nat := 106
abbrev m_X9_shipsThat : Nat := 107
abbrev m_X9_sumOfLooks : Nat := 108
abbrev m_X9_sumOfCrafts : Nat := 109
abbrev m_X10_init : Nat := 110
abbrev m_X10_thrown : Nat := 111
abbrev m_X10_isIn : Nat := 112
abbrev m_X10_isPilot : Nat := 113
abbrev m_X10_isShip : Nat := 114
abbrev m_X10_isDay : Nat := 115
abbrev m_X10_pilot : Nat := 116
abbrev m_X10_ship : Nat := 117
abbrev m_X10_tide : Nat := 118
abbrev m_X10_tear : Nat := 119
abbrev m_X10_boat : Nat := 120
abbrev m_X10_road : Nat := 121
abbrev m_X10_rest : Nat := 122
abbrev m_X10_off : Nat := 123
abbrev m_X10_will : Nat := 124
abbrev m_X10_mayLead : Nat := 125
abbrev m_X10_hasWindow : Nat := 126
abbrev m_X10_seatsOut : Nat := 127
abbrev m_X10_seatsBack : Nat := 128
abbrev m_X10_isNight : Nat := 129
abbrev m_X10_led : Nat := 130
abbrev m_X10_placeOf : Nat := 131
abbrev m_X10_takeOff : Nat := 132
abbrev m_X10_putAt : Nat := 133
abbrev m_X10_copy : Nat := 134
abbrev m_X10_copyBack : Nat := 135
abbrev m_X10_keep : Nat := 136
abbrev m_X10_undo : Nat := 137
abbrev m_X10_hour : Nat := 138
abbrev m_X10_queue : Nat := 139
abbrev m_X10_sends : Nat := 140
abbrev m_X10_boards : Nat := 141
abbrev m_X10_canBe : Nat := 142
abbrev m_X10_seek : Nat := 143
abbrev m_X10_asks : Nat := 144
abbrev m_X10_aLearner : Nat := 145
abbrev m_X10_goBack : Nat := 146
abbrev m_X10_ends : Nat := 147
abbrev m_X10_through : Nat := 148
abbrev m_X10_back : Nat := 149
abbrev m_X10_canSwap : Nat := 150
abbrev m_X10_swap : Nat := 151
abbrev m_X10_may : Nat := 152
abbrev m_X10_window : Nat := 153
abbrev m_X10_seats : Nat := 154
abbrev m_X10_list : Nat := 155
abbrev m_X10_asked : Nat := 156
abbrev m_X10_offs : Nat := 157
abbrev m_X10_look : Nat := 158
abbrev m_X10_craft : Nat := 159
abbrev m_X10_fair : Nat := 160
abbrev m_X10_inState : Nat := 161
abbrev m_X10_sum : Nat := 162
abbrev m_X10_count : Nat := 163
abbrev m_L_pilot : Nat := 164
abbrev m_L_ship : Nat := 165
abbrev m_L_tide : Nat := 166
abbrev m_L_tear : Nat := 167
abbrev m_L_boat : Nat := 168
abbrev m_L_road : Nat := 169
abbrev m_L_rest : Nat := 170
abbrev m_L_off : Nat := 171
abbrev m_L_will : Nat := 172
abbrev m_L_back : Nat := 173
abbrev m_L_swap : Nat := 174
abbrev m_L_may : Nat := 175
abbrev m_L_window : Nat := 176
abbrev m_L_look : Nat := 177
abbrev m_L_craft : Nat := 178
abbrev m_L_law : Nat := 179
abbrev m_Jxc12de_init_da8c8 : Nat := 180
abbrev m_Jxa1e45_init_da8c8 : Nat := 181
abbrev m_J7_copyOf_1904c : Nat := 182
abbrev m_J7_copyOf_6403c : Nat := 183
abbrev m_J8_newLength_cabcc : Nat := 184
abbrev m_J9_abs_0f7a4 : Nat := 185
abbrev m_J9_max_7cf53 : Nat := 186
abbrev m_J9_min_7cf53 : Nat := 187
abbrev m_J15_checkIndex_7cf53 : Nat := 188
abbrev m_J3_checkIndex_8e157 : Nat := 189
/-- name, code, locals, answer, handlers, number of the own name, frames, words of locals -/
abbrev xMr : Type := MethodName × ByteArray × Nat × Option FieldType × List (Nat × Nat × Nat × Nat) × Nat × Nat × Nat
def xMs_0 : List xMr := [(yJx4a65c_init_da8c8, cJx4a65c_init_da8c8, 1, none, [], 0, 14, 440),
  (yJx4a65c_grow_92f84, cJx4a65c_grow_92f84, 4, (some (.array (.object "java/lang/Object"))), [], 0, 15, 465),
  (yJx4a65c_grow_d5877, cJx4a65c_grow_d5877, 1, (some (.array (.object "java/lang/Object"))), [], 0, 16, 488),
  (yJx4a65c_size_8abf5, cJx4a65c_size_8abf5, 1, (some .int), [], 0, 12, 400),
  (yJx4a65c_elementData_915e3, cJx4a65c_elementData_915e3, 2, (some (.object "java/lang/Object")), [], 0, 12, 400),
  (yJx4a65c_get_915e3, cJx4a65c_get_915e3, 2, (some (.object "java/lang/Object")), [], 0, 14, 443),
  (yJx4a65c_add_72be8, cJx4a65c_add_72be8, 4, none, [], 0, 17, 508),
  (yJx4a65c_add_9ea2d, cJx4a65c_add_9ea2d, 2, (some .boolean), [], 0, 18, 531),
  (yJx4a65c_add_7a177, cJx4a65c_add_7a177, 5, none, [], 0, 17, 508),
  (yJx4a65c_remove_915e3, cJx4a65c_remove_915e3, 4, (some (.object "java/lang/Object")), [], 0, 14, 443),
  (yJx4a65c_fastRemove_b59b0, cJx4a65c_fastRemove_b59b0, 4, none, [], 0, 12, 400),
  (yJx4a65c_clear_da8c8, cJx4a65c_clear_da8c8, 4, none, [], 0, 12, 400),
  (yJx4a65c_rangeCheckForAdd_d00df, cJx4a65c_rangeCheckForAdd_d00df, 2, none, [], 0, 12, 400),
  (yX0_init, cX0_init, 1, none, [], 1, 12, 400),
  (yX0_clear, cX0_clear, 1, none, [], 1, 12, 400),
  (yX0_add, cX0_add, 4, none, [], 1, 12, 400),
  (yX0_read, cX0_read, 3, (some .int), [], 1, 12, 400),
  (yX1_init, cX1_init, 1, none, [], 2, 12, 400),
  (yX1_addBoat, cX1_addBoat, 4, none, [], 2, 12, 400),
  (yX1_seatsOut, cX1_seatsOut, 3, (some .int), [], 2, 12, 400),
  (yX1_seatsBack, cX1_seatsBack, 2, (some .int), [], 2, 13, 422),
  (yX2_init, cX2_init, 1, none, [], 3, 12, 400),
  (yX2_goAboard, cX2_goAboard, 2, none, [], 3, 12, 400),
  (yX2_stayAt, cX2_stayAt, 3, none, [], 3, 12, 400),
  (yX2_takeRoad, cX2_takeRoad, 2, none, [], 3, 12, 400),
  (yX2_copyFrom, cX2_copyFrom, 2, none, [], 3, 12, 400),
  (yX3_init, cX3_init, 5, none, [], 4, 13, 420),
  (yX3_mayLead, cX3_mayLead, 3, (some .boolean), [], 4, 12, 400),
  (yX3_isOff, cX3_isOff, 2, (some .boolean), [], 4, 12, 400),
  (yX3_setOff, cX3_setOff, 3, (some .boolean), [], 4, 12, 400),
  (yX3_isLike, cX3_isLike, 2, (some .boolean), [], 4, 12, 400),
  (yX4_init, cX4_init, 1, none, [], 5, 12, 400),
  (yX4_set, cX4_set, 4, none, [], 5, 12, 400),
  (yX4_hoursBehind, cX4_hoursBehind, 3, (some .int), [], 5, 12, 400),
  (yX5_init, cX5_init, 1, none, [], 6, 15, 460),
  (yX5_length, cX5_length, 1, (some .int), [], 6, 13, 420),
  (yX5_at, cX5_at, 2, (some (.object "PilotStation$Pilot")), [], 6, 15, 464),
  (yX5_placeOf, cX5_placeOf, 3, (some .int), [], 6, 15, 464)]
def xMs_1 : List xMr := [(yX5_append, cX5_append, 2, none, [], 6, 19, 552),
  (yX5_insert, cX5_insert, 3, none, [], 6, 19, 552),
  (yX5_takeOut, cX5_takeOut, 3, none, [], 6, 16, 486),
  (yX5_moveToEnd, cX5_moveToEnd, 3, none, [], 6, 19, 552),
  (yX5_markPlaces, cX5_markPlaces, 2, none, [], 6, 15, 464),
  (yX5_copyFrom, cX5_copyFrom, 3, none, [], 6, 19, 552),
  (yX6_init, cX6_init, 8, none, [], 7, 13, 420),
  (yX6_hoursToLead, cX6_hoursToLead, 1, (some .int), [], 7, 12, 400),
  (yX7_init, cX7_init, 1, none, [], 8, 12, 400),
  (yX7_toldOn, cX7_toldOn, 2, (some .int), [], 8, 12, 400),
  (yX7_tell, cX7_tell, 4, none, [], 8, 12, 400),
  (yX7_forget, cX7_forget, 2, none, [], 8, 12, 400),
  (yX7_letThrough, cX7_letThrough, 3, (some .boolean), [], 8, 13, 421),
  (yX8_init, cX8_init, 1, none, [], 9, 12, 400),
  (yX8_aboardFromPlace, cX8_aboardFromPlace, 2, (some (.object "PilotStation$Pilot")), [], 9, 12, 400),
  (yX8_turnBack, cX8_turnBack, 1, none, [], 9, 12, 400),
  (yX8_copyFrom, cX8_copyFrom, 2, none, [], 9, 12, 400),
  (yX9_init, cX9_init, 1, none, [], 10, 16, 480),
  (yX9_pilot, cX9_pilot, 5, (some .int), [], 10, 20, 573),
  (yX9_ship, cX9_ship, 8, (some .int), [], 10, 19, 552),
  (yX9_tide, cX9_tide, 3, (some .int), [], 10, 14, 442),
  (yX9_tear, cX9_tear, 3, (some .boolean), [], 10, 14, 442),
  (yX9_boat, cX9_boat, 3, (some .int), [], 10, 13, 423),
  (yX9_road, cX9_road, 2, none, [], 10, 13, 422),
  (yX9_rest, cX9_rest, 4, none, [], 10, 13, 423),
  (yX9_off, cX9_off, 5, (some .boolean), [], 10, 16, 485),
  (yX9_will, cX9_will, 5, (some .boolean), [], 10, 16, 485),
  (yX9_hour, cX9_hour, 2, (some .int), [], 10, 24, 673),
  (yX9_back, cX9_back, 6, (some .boolean), [], 10, 20, 574),
  (yX9_swap, cX9_swap, 7, (some .boolean), [], 10, 16, 485),
  (yX9_undo, cX9_undo, 2, (some .boolean), [], 10, 20, 574),
  (yX9_may, cX9_may, 4, (some .boolean), [], 10, 16, 485),
  (yX9_window, cX9_window, 3, (some .boolean), [], 10, 16, 485),
  (yX9_seats, cX9_seats, 3, (some .int), [], 10, 14, 443),
  (yX9_list, cX9_list, 2, (some .int), [], 10, 16, 485),
  (yX9_asked, cX9_asked, 3, (some .int), [], 10, 13, 422),
  (yX9_look, cX9_look, 4, (some .int), [], 10, 16, 486),
  (yX9_craft, cX9_craft, 4, (some .int), [], 10, 16, 485)]
def xMs_2 : List xMr := [(yX9_fair, cX9_fair, 5, (some .int), [], 10, 15, 464),
  (yX9_count, cX9_count, 2, (some .int), [], 10, 18, 532),
  (yX9_within, cX9_within, 3, (some .boolean), [], 10, 12, 400),
  (yX9_isDay, cX9_isDay, 1, (some .boolean), [], 10, 13, 422),
  (yX9_isNight, cX9_isNight, 2, (some .boolean), [], 10, 12, 400),
  (yX9_numberOf, cX9_numberOf, 1, (some .int), [], 10, 12, 400),
  (yX9_pilotNumbered, cX9_pilotNumbered, 2, (some (.object "PilotStation$Pilot")), [], 10, 15, 464),
  (yX9_shipNumbered, cX9_shipNumbered, 2, (some (.object "PilotStation$Ship")), [], 10, 15, 464),
  (yX9_placeByLength, cX9_placeByLength, 3, (some .int), [], 10, 15, 464),
  (yX9_keepState, cX9_keepState, 2, none, [], 10, 20, 574),
  (yX9_sendShips, cX9_sendShips, 5, (some .int), [], 10, 23, 649),
  (yX9_goes, cX9_goes, 5, (some .boolean), [], 10, 22, 625),
  (yX9_keepWaitingForSomebody, cX9_keepWaitingForSomebody, 2, none, [], 10, 12, 400),
  (yX9_askTheToldOne, cX9_askTheToldOne, 4, (some (.object "PilotStation$Pilot")), [], 10, 21, 599),
  (yX9_seek, cX9_seek, 7, (some (.object "PilotStation$Pilot")), [], 10, 21, 599),
  (yX9_agrees, cX9_agrees, 6, (some .boolean), [], 10, 20, 574),
  (yX9_against, cX9_against, 4, (some .int), [], 10, 13, 423),
  (yX9_canBeThere, cX9_canBeThere, 4, (some .boolean), [], 10, 12, 400),
  (yX9_needsSeat, cX9_needsSeat, 2, (some .boolean), [], 10, 12, 400),
  (yX9_depart, cX9_depart, 5, none, [], 10, 18, 530),
  (yX9_board, cX9_board, 3, none, [], 10, 17, 508),
  (yX9_findLearner, cX9_findLearner, 5, (some (.object "PilotStation$Pilot")), [], 10, 16, 485),
  (yX9_bringBackFromPost, cX9_bringBackFromPost, 4, none, [], 10, 16, 487),
  (yX9_longestAtPost, cX9_longestAtPost, 4, (some (.object "PilotStation$Pilot")), [], 10, 15, 464),
  (yX9_endShips, cX9_endShips, 3, none, [], 10, 15, 466),
  (yX9_endDuty, cX9_endDuty, 5, none, [], 10, 14, 442),
  (yX9_ledByNight, cX9_ledByNight, 2, (some .boolean), [], 10, 13, 421),
  (yX9_endRoads, cX9_endRoads, 3, none, [], 10, 15, 464),
  (yX9_listTheRested, cX9_listTheRested, 4, none, [], 10, 20, 573),
  (yX9_wentJustNow, cX9_wentJustNow, 2, (some .boolean), [], 10, 12, 400),
  (yX9_canGiveLeader, cX9_canGiveLeader, 2, (some .boolean), [], 10, 13, 421),
  (yX9_shipsThat, cX9_shipsThat, 4, (some .int), [], 10, 15, 464),
  (yX9_sumOfLooks, cX9_sumOfLooks, 4, (some .int), [], 10, 17, 509),
  (yX9_sumOfCrafts, cX9_sumOfCrafts, 4, (some .int), [], 10, 17, 508),
  (yX10_init, cX10_init, 1, none, [], 11, 12, 400),
  (yX10_thrown, cX10_thrown, 1, (some .int), [], 11, 12, 400),
  (yX10_isIn, cX10_isIn, 3, (some .boolean), [], 11, 12, 400),
  (yX10_isPilot, cX10_isPilot, 2, (some .boolean), [], 11, 12, 400)]
def xMs_3 : List xMr := [(yX10_isShip, cX10_isShip, 2, (some .boolean), [], 11, 12, 400),
  (yX10_isDay, cX10_isDay, 1, (some .boolean), [], 11, 12, 400),
  (yX10_pilot, cX10_pilot, 5, (some .int), [], 11, 13, 422),
  (yX10_ship, cX10_ship, 8, (some .int), [], 11, 13, 422),
  (yX10_tide, cX10_tide, 3, (some .int), [], 11, 13, 422),
  (yX10_tear, cX10_tear, 3, (some .boolean), [], 11, 13, 420),
  (yX10_boat, cX10_boat, 3, (some .int), [], 11, 13, 422),
  (yX10_road, cX10_road, 2, none, [], 11, 13, 422),
  (yX10_rest, cX10_rest, 4, none, [], 11, 13, 422),
  (yX10_off, cX10_off, 5, (some .boolean), [], 11, 13, 421),
  (yX10_will, cX10_will, 4, (some .boolean), [], 11, 13, 421),
  (yX10_mayLead, cX10_mayLead, 4, (some .boolean), [], 11, 12, 400),
  (yX10_hasWindow, cX10_hasWindow, 5, (some .boolean), [], 11, 12, 400),
  (yX10_seatsOut, cX10_seatsOut, 4, (some .int), [], 11, 12, 400),
  (yX10_seatsBack, cX10_seatsBack, 2, (some .int), [], 11, 13, 423),
  (yX10_isNight, cX10_isNight, 1, (some .boolean), [], 11, 12, 400),
  (yX10_led, cX10_led, 2, (some .int), [], 11, 12, 400),
  (yX10_placeOf, cX10_placeOf, 3, (some .int), [], 11, 12, 400),
  (yX10_takeOff, cX10_takeOff, 4, none, [], 11, 13, 422),
  (yX10_putAt, cX10_putAt, 4, none, [], 11, 12, 400),
  (yX10_copy, cX10_copy, 4, none, [], 11, 12, 400),
  (yX10_copyBack, cX10_copyBack, 4, none, [], 11, 12, 400),
  (yX10_keep, cX10_keep, 1, none, [], 11, 13, 423),
  (yX10_undo, cX10_undo, 1, (some .boolean), [], 11, 13, 423),
  (yX10_hour, cX10_hour, 5, (some .int), [], 11, 17, 520),
  (yX10_queue, cX10_queue, 5, (some .int), [], 11, 12, 400),
  (yX10_sends, cX10_sends, 5, (some .boolean), [], 11, 16, 496),
  (yX10_boards, cX10_boards, 4, none, [], 11, 14, 445),
  (yX10_canBe, cX10_canBe, 4, (some .boolean), [], 11, 12, 400),
  (yX10_seek, cX10_seek, 7, (some .int), [], 11, 15, 470),
  (yX10_asks, cX10_asks, 6, (some .int), [], 11, 14, 445),
  (yX10_aLearner, cX10_aLearner, 5, (some .int), [], 11, 13, 423),
  (yX10_goBack, cX10_goBack, 5, none, [], 11, 12, 400),
  (yX10_ends, cX10_ends, 2, none, [], 11, 14, 447),
  (yX10_through, cX10_through, 7, none, [], 11, 13, 421),
  (yX10_back, cX10_back, 6, (some .boolean), [], 11, 13, 423),
  (yX10_canSwap, cX10_canSwap, 2, (some .boolean), [], 11, 12, 400),
  (yX10_swap, cX10_swap, 5, (some .boolean), [], 11, 13, 423)]
def xMs_4 : List xMr := [(yX10_may, cX10_may, 3, (some .boolean), [], 11, 13, 423),
  (yX10_window, cX10_window, 3, (some .boolean), [], 11, 13, 424),
  (yX10_seats, cX10_seats, 3, (some .int), [], 11, 14, 444),
  (yX10_list, cX10_list, 2, (some .int), [], 11, 12, 400),
  (yX10_asked, cX10_asked, 3, (some .int), [], 11, 12, 400),
  (yX10_offs, cX10_offs, 4, (some .int), [], 11, 12, 400),
  (yX10_look, cX10_look, 3, (some .int), [], 11, 13, 423),
  (yX10_craft, cX10_craft, 3, (some .int), [], 11, 13, 422),
  (yX10_fair, cX10_fair, 5, (some .int), [], 11, 13, 423),
  (yX10_inState, cX10_inState, 4, (some .int), [], 11, 12, 400),
  (yX10_sum, cX10_sum, 4, (some .int), [], 11, 12, 400),
  (yX10_count, cX10_count, 2, (some .int), [], 11, 13, 423),
  (yL_pilot, cL_pilot, 6, (some .int), [(0, 12, 15, 13), (0, 12, 19, 15)], 12, 21, 597),
  (yL_ship, cL_ship, 9, (some .int), [(0, 18, 21, 13), (0, 18, 25, 21), (0, 18, 29, 15)], 12, 20, 579),
  (yL_tide, cL_tide, 5, (some .int), [(0, 10, 13, 21), (0, 10, 17, 13), (0, 10, 21, 15)], 12, 15, 464),
  (yL_tear, cL_tear, 4, (some .int), [(0, 16, 19, 21)], 12, 15, 464),
  (yL_boat, cL_boat, 5, (some .int), [(0, 10, 13, 13), (0, 10, 17, 15)], 12, 14, 445),
  (yL_road, cL_road, 3, (some .int), [(0, 5, 8, 13)], 12, 14, 443),
  (yL_rest, cL_rest, 5, (some .int), [(0, 7, 10, 13)], 12, 14, 446),
  (yL_off, cL_off, 6, (some .int), [(0, 19, 22, 21)], 12, 17, 509),
  (yL_will, cL_will, 5, (some .int), [(0, 17, 20, 21)], 12, 17, 509),
  (yL_back, cL_back, 4, (some .int), [(0, 16, 19, 21)], 12, 21, 599),
  (yL_swap, cL_swap, 5, (some .int), [(0, 17, 20, 21)], 12, 17, 511),
  (yL_may, cL_may, 5, (some .int), [(0, 17, 20, 21)], 12, 17, 508),
  (yL_window, cL_window, 5, (some .int), [(0, 17, 20, 21)], 12, 17, 507),
  (yL_look, cL_look, 5, (some .int), [(0, 10, 13, 21), (0, 10, 17, 13)], 12, 17, 509),
  (yL_craft, cL_craft, 5, (some .int), [(0, 10, 13, 21), (0, 10, 17, 13)], 12, 17, 508),
  (yL_law, cL_law, 7, (some .boolean), [], 12, 25, 694),
  (yJxc12de_init_da8c8, cJxc12de_init_da8c8, 1, none, [], 13, 13, 420),
  (yJxa1e45_init_da8c8, cJxa1e45_init_da8c8, 1, none, [], 14, 12, 400),
  (yJ7_copyOf_1904c, cJ7_copyOf_1904c, 2, (some (.array (.object "java/lang/Object"))), [], 15, 14, 444),
  (yJ7_copyOf_6403c, cJ7_copyOf_6403c, 4, (some (.array (.object "java/lang/Object"))), [], 15, 13, 421),
  (yJ8_newLength_cabcc, cJ8_newLength_cabcc, 4, (some .int), [], 16, 13, 421),
  (yJ9_abs_0f7a4, cJ9_abs_0f7a4, 1, (some .int), [], 17, 12, 400),
  (yJ9_max_7cf53, cJ9_max_7cf53, 2, (some .int), [], 17, 12, 400),
  (yJ9_min_7cf53, cJ9_min_7cf53, 2, (some .int), [], 17, 12, 400),
  (yJ15_checkIndex_7cf53, cJ15_checkIndex_7cf53, 2, (some .int), [], 18, 13, 422),
  (yJ3_checkIndex_8e157, cJ3_checkIndex_8e157, 3, (some .int), [], 19, 12, 400)]
def xMs : List xMr := xMs_0 ++ (xMs_1 ++ (xMs_2 ++ (xMs_3 ++ (xMs_4))))
def xm (M : Nat) : xMr := xMs.getD M (yX0_clear, cX0_clear, 0, none, [], 0, 0, 0)
def xy (M : Nat) : MethodName := (xm M).1
def xcode (M : Nat) : ByteArray := (xm M).2.1
def xmaxL (M : Nat) : Nat := (xm M).2.2.1
def xret (M : Nat) : Option FieldType := (xm M).2.2.2.1
def xhh (M : Nat) : List (Nat × Nat × Nat × Nat) := (xm M).2.2.2.2.1
def xoc (M : Nat) : Nat := (xm M).2.2.2.2.2.1
def xfr (M : Nat) : Nat := (xm M).2.2.2.2.2.2.1
def xlo (M : Nat) : Nat := (xm M).2.2.2.2.2.2.2
def xown (o : Nat) : String := ([RJx4a65c, RX0, RX1, RX2, RX3, RX4, RX5, RX6, RX7, RX8, RX9, RX10, RL, RJxc12de, RJxa1e45, RJ7, RJ8, RJ9, RJ15, RJ3] : List String).getD o ""
abbrev xCls : List vw_C := [(RJx4a65c, TJx4a65c, 3), (RX0, TX0, 4), (RX1, TX1, 2), (RX2, TX2, 9), (RX3, TX3, 9), (RX4, TX4, 3), (RX5, TX5, 1), (RX6, TX6, 9), (RX7, TX7, 2), (RX8, TX8, 8), (RX9, TX9, 15), (RX10, TX10, 56)]
/-- the kinds of the fields: 0 int, 1 boolean, 2 a reference -/
def xfts : List (List Nat) := [[0, 2, 0], [2, 2, 2, 0], [2, 0], [0, 0, 0, 0, 0, 0, 0, 0, 2], [0, 0, 0, 0, 2, 2, 2, 0, 1], [0, 0, 0], [2], [0, 1, 0, 0, 0, 0, 1, 2, 2], [2, 2], [0, 0, 2, 2, 2, 0, 0, 0], [2, 2, 2, 2, 2, 2, 2, 2, 2, 2, 0, 0, 0, 1, 1], [0, 0, 0, 2, 2, 2, 2, 2, 2, 2, 2, 2, 2, 2, 2, 2, 2, 2, 0, 0, 2, 2, 2, 2, 2, 2, 2, 2, 2, 2, 2, 2, 2, 2, 2, 2, 2, 0, 2, 2, 0, 0, 0, 0, 2, 2, 2, 0, 1, 0, 2, 2, 1, 0, 2, 2]]
def xft (c k : Nat) : Nat := (xfts.getD c []).getD k 0
/-- the k-th field of class number c -/
def xfd (c k : Nat) : String × String × String × Bool := match xCls[c]? with | some q => q.2.1 k | none => ("", "", "", true)
/-- the words of a list stand in the tables at these places, and each is good -/
def xck : List Cond → List Nat → Bool
  | [], _ => true
  | w :: ws, i :: is => decide (lw_tbl[i]? = some w) && (goodWord w && xck ws is)
  | _ :: _, [] => false
def xT : List Cond := lw_tbl.filter goodWord
theorem xck_mem : ∀ {ws : List Cond} {is : List Nat}, xck ws is = true → ∀ w ∈ ws, w ∈ xT
  | [], _, _, _, h => absurd h List.not_mem_nil
  | w :: ws, i :: is, h, x, hx => by
    simp only [xck, Bool.and_eq_true, decide_eq_true_eq] at h
    rcases List.mem_cons.mp hx with rfl | hx
    · exact List.mem_filter.mpr ⟨List.mem_of_getElem? h.1, h.2.1⟩
    · exact xck_mem h.2.2 x hx
  | _ :: _, [], h, _, _ => by simp [xck] at h
/-- field links: own name, index, class, field, places of the words, the name that the link spells is the heir's -/
def xflT : List (Nat × Nat × Nat × Nat × List Nat × Bool) := [(0, 9, 0, 1, [111], false), (0, 48, 0, 2, [112], false), (0, 63, 0, 0, [114, 115], true), (1, 9, 1, 0, [185], false), (1, 15, 1, 1, [186], false), (1, 18, 1, 2, [187], false), (1, 21, 1, 3, [188], false), (2, 9, 2, 0, [143], false), (2, 15, 2, 1, [144], false), (3, 9, 3, 0, [715], false), (3, 15, 3, 1, [717], false), (3, 18, 3, 2, [719], false), (3, 21, 3, 3, [721], false), (3, 24, 3, 4, [723], false), (3, 27, 3, 5, [725], false), (3, 30, 3, 6, [727], false), (3, 33, 3, 7, [729], false), (3, 36, 3, 8, [732], false), (4, 9, 4, 0, [753], false), (4, 15, 4, 1, [755], false), (4, 18, 4, 2, [757], false), (4, 21, 4, 3, [759], false), (4, 27, 4, 4, [761], false), (4, 31, 4, 5, [765], false), (4, 34, 4, 6, [767], false), (4, 38, 4, 7, [768], false), (4, 41, 4, 8, [770], false), (4, 45, 7, 2, [855], false), (4, 48, 7, 3, [858], false), (4, 49, 7, 5, [863], false), (5, 7, 5, 0, [157], false), (5, 13, 5, 1, [158], false), (5, 16, 5, 2, [159], false), (6, 12, 6, 0, [175], false), (6, 42, 4, 4, [763], false), (6, 46, 3, 7, [731], false), (7, 7, 7, 0, [850], false), (7, 13, 7, 1, [852], false), (7, 17, 7, 2, [854], false), (7, 20, 7, 3, [857], false), (7, 23, 7, 4, [860], false), (7, 26, 7, 5, [862], false), (7, 29, 7, 6, [865], false), (7, 35, 7, 7, [867], false), (7, 39, 7, 8, [869], false), (8, 9, 8, 0, [129], false), (8, 15, 8, 1, [130], false), (9, 9, 9, 0, [817], false), (9, 15, 9, 1, [819], false), (9, 18, 9, 2, [821], false), (9, 22, 9, 3, [823], false), (9, 25, 9, 4, [825], false), (9, 28, 9, 5, [827], false), (9, 31, 9, 6, [829], false), (9, 34, 9, 7, [831], false), (9, 37, 4, 4, [762], false), (9, 43, 3, 7, [730], false), (10, 12, 10, 0, [199], false), (10, 16, 10, 1, [200], false), (10, 19, 10, 2, [201], false), (10, 25, 10, 3, [202], false), (10, 32, 10, 4, [203], false), (10, 39, 10, 5, [204], false), (10, 46, 10, 6, [205], false), (10, 50, 10, 7, [206], false), (10, 53, 10, 8, [207], false), (10, 59, 10, 9, [208], false), (10, 63, 10, 10, [209], false), (10, 67, 10, 11, [210], false), (10, 70, 10, 12, [211], false), (10, 73, 10, 13, [212], false), (10, 77, 10, 14, [213], false), (10, 115, 4, 0, [754], false), (10, 143, 7, 0, [851], false), (10, 168, 2, 1, [145], false), (10, 190, 4, 8, [771], false), (10, 221, 7, 7, [868], false), (10, 234, 4, 4, [764], false), (10, 238, 7, 1, [853], false), (10, 256, 9, 2, [822], false), (10, 272, 4, 5, [766], false), (10, 279, 7, 8, [870], false), (10, 288, 7, 3, [859], false), (10, 312, 4, 1, [756], false), (10, 315, 4, 2, [758], false), (10, 318, 4, 3, [760], false), (10, 319, 3, 0, [716], false), (10, 322, 3, 3, [722], false), (10, 325, 3, 5, [726], false), (10, 328, 3, 6, [728], false), (10, 334, 3, 8, [733], false), (10, 338, 4, 7, [769], false), (10, 343, 9, 0, [818], false), (10, 346, 9, 1, [820], false), (10, 349, 9, 3, [824], false), (10, 352, 9, 4, [826], false), (10, 355, 9, 5, [828], false), (10, 358, 9, 6, [830], false), (10, 361, 9, 7, [832], false), (10, 364, 7, 2, [856], false), (10, 388, 1, 3, [189], false), (10, 395, 7, 4, [861], false), (10, 402, 7, 5, [864], false), (10, 448, 7, 6, [866], false), (10, 461, 3, 1, [718], false), (10, 470, 3, 4, [724], false), (10, 486, 3, 2, [720], false), (11, 7, 11, 3, [1286], false), (11, 13, 11, 4, [1287], false), (11, 16, 11, 5, [1288], false), (11, 19, 11, 6, [1289], false), (11, 23, 11, 7, [1290], false), (11, 26, 11, 8, [1291], false), (11, 29, 11, 9, [1292], false), (11, 32, 11, 10, [1293], false), (11, 35, 11, 11, [1294], false), (11, 38, 11, 12, [1295], false), (11, 41, 11, 13, [1296], false), (11, 44, 11, 14, [1297], false), (11, 47, 11, 15, [1298], false), (11, 50, 11, 16, [1299], false), (11, 53, 11, 17, [1300], false), (11, 56, 11, 20, [1303], false), (11, 59, 11, 21, [1304], false), (11, 62, 11, 22, [1305], false), (11, 65, 11, 23, [1306], false), (11, 68, 11, 24, [1307], false), (11, 71, 11, 25, [1308], false), (11, 74, 11, 26, [1309], false), (11, 77, 11, 27, [1310], false), (11, 80, 11, 28, [1311], false), (11, 83, 11, 29, [1312], false), (11, 86, 11, 30, [1313], false), (11, 89, 11, 31, [1314], false), (11, 92, 11, 32, [1315], false), (11, 95, 11, 33, [1316], false), (11, 98, 11, 34, [1317], false), (11, 101, 11, 35, [1318], false), (11, 104, 11, 36, [1319], false), (11, 107, 11, 38, [1321], false), (11, 110, 11, 39, [1322], false), (11, 113, 11, 40, [1323], false), (11, 117, 11, 41, [1324], false), (11, 120, 11, 42, [1325], false), (11, 123, 11, 43, [1326], false), (11, 126, 11, 44, [1327], false), (11, 129, 11, 45, [1328], false), (11, 132, 11, 46, [1329], false), (11, 135, 11, 50, [1333], false), (11, 138, 11, 51, [1334], false), (11, 141, 11, 54, [1337], false), (11, 144, 11, 55, [1338], false), (11, 147, 11, 0, [1283], false), (11, 150, 11, 2, [1285], false), (11, 153, 11, 19, [1302], false), (11, 160, 11, 18, [1301], false), (11, 163, 11, 52, [1335], false), (11, 172, 11, 37, [1320], false), (11, 189, 11, 53, [1336], false), (11, 196, 11, 1, [1284], false), (11, 199, 11, 47, [1330], false), (11, 205, 11, 49, [1332], false), (11, 235, 11, 48, [1331], false), (13, 7, 0, 0, [113], false)]
def xfw (q : Nat × Nat × Nat × Nat × List Nat × Bool) : List Cond := match q with
  | (a, b, c, k, _, false) => [.fieldLink (xown a) b (xfd c k).1 (xfd c k).2.1 (xfd c k).2.2.1]
  | (a, b, c, k, _, true) => [.fieldLink (xown a) b (xown c) (xfd c k).2.1 (xfd c k).2.2.1, .sameField (xown c) (xfd c k).1 (xfd c k).2.1 (xfd c k).2.2.1]
theorem xflT_ok : xflT.all (fun q => xck (xfw q) q.2.2.2.2.1 && (decide (q.2.2.2.1 < (xfts.getD q.2.2.1 []).length) && decide (q.2.2.1 < 12))) = true := by decide +kernel
def xfl (a b : Nat) : Option (Nat × Nat) := (xflT.find? (fun q => q.1 == a && q.2.1 == b)).map (fun q => (q.2.2.1, q.2.2.2.1))
/-- calls: own name, index, kind (0 virtual, 1 static, 2 special), method, arguments, class of the receiver, places of the words -/
def xmlT_0 : List (Nat × Nat × Nat × Nat × Nat × Nat × List Nat) := [(0, 1, 2, 180, 0, 13, [102, 103, 58]),
  (0, 73, 1, 184, 3, 16, [308, 309, 73]),
  (0, 66, 1, 182, 2, 15, [318, 319, 75]),
  (0, 79, 1, 186, 2, 17, [354, 312, 74]),
  (0, 69, 0, 1, 1, 0, [304, 306, 3, 59]),
  (0, 118, 1, 188, 2, 18, [261, 262, 80]),
  (0, 123, 0, 4, 1, 0, [267, 268, 269, 59]),
  (0, 129, 0, 2, 0, 0, [300, 302, 2, 59]),
  (0, 131, 0, 6, 3, 0, [296, 298, 1, 59]),
  (0, 135, 0, 12, 1, 0, [898, 900, 27, 59]),
  (0, 144, 0, 10, 2, 0, [498, 500, 10, 59]),
  (2, 19, 0, 19, 1, 2, [547, 369, 370, 61]),
  (4, 26, 2, 21, 0, 3, [711, 712, 72]),
  (6, 11, 2, 0, 0, 0, [174, 100, 59]),
  (6, 18, 0, 3, 0, 0, [289, 254, 255, 59]),
  (6, 22, 0, 5, 1, 0, [290, 258, 259, 59]),
  (6, 28, 0, 7, 1, 0, [292, 293, 294, 59]),
  (6, 32, 0, 8, 2, 0, [1239, 895, 896, 59]),
  (6, 35, 0, 37, 1, 6, [493, 461, 462, 63]),
  (6, 39, 0, 9, 1, 0, [494, 495, 496, 59])]
def xmlT_1 : List (Nat × Nat × Nat × Nat × Nat × Nat × List Nat) := [(6, 52, 0, 11, 0, 0, [285, 286, 287, 59]),
  (7, 34, 2, 51, 0, 9, [813, 814, 79]),
  (8, 18, 0, 47, 1, 8, [380, 381, 382, 60]),
  (10, 11, 2, 0, 0, 0, [99, 100, 59]),
  (10, 24, 2, 46, 0, 8, [125, 126, 60]),
  (10, 31, 2, 17, 0, 2, [139, 140, 61]),
  (10, 38, 2, 31, 0, 5, [153, 154, 62]),
  (10, 45, 2, 34, 0, 6, [169, 170, 63]),
  (10, 58, 2, 13, 0, 1, [181, 182, 64]),
  (10, 80, 1, 78, 3, 10, [602, 603, 56]),
  (10, 93, 0, 3, 0, 0, [253, 254, 255, 59]),
  (10, 104, 2, 26, 4, 4, [705, 706, 71]),
  (10, 107, 0, 7, 1, 0, [792, 293, 294, 59]),
  (10, 111, 0, 38, 1, 6, [590, 591, 592, 63]),
  (10, 133, 2, 44, 7, 7, [807, 808, 78]),
  (10, 136, 0, 84, 1, 10, [890, 892, 26, 56]),
  (10, 140, 0, 8, 2, 0, [894, 895, 896, 59]),
  (10, 144, 1, 79, 1, 10, [1146, 1147, 56]),
  (10, 152, 0, 47, 1, 8, [1151, 381, 382, 60]),
  (10, 157, 0, 48, 2, 8, [1153, 1154, 1155, 60])]
def xmlT_2 : List (Nat × Nat × Nat × Nat × Nat × Nat × List Nat) := [(10, 161, 0, 49, 1, 8, [1164, 1165, 1166, 60]),
  (10, 171, 0, 18, 2, 2, [1178, 1179, 1180, 61]),
  (10, 178, 0, 32, 3, 5, [1198, 1199, 1200, 62]),
  (10, 182, 0, 82, 1, 10, [388, 390, 7, 56]),
  (10, 186, 0, 29, 2, 4, [1209, 1210, 1211, 71]),
  (10, 193, 0, 85, 0, 10, [249, 251, 0, 56]),
  (10, 196, 0, 14, 0, 1, [356, 357, 358, 64]),
  (10, 199, 0, 42, 0, 6, [360, 361, 362, 63]),
  (10, 202, 0, 86, 1, 10, [364, 366, 4, 56]),
  (10, 205, 0, 98, 0, 10, [539, 541, 16, 56]),
  (10, 208, 0, 100, 0, 10, [556, 558, 18, 56]),
  (10, 211, 0, 103, 0, 10, [582, 584, 20, 56]),
  (10, 214, 0, 104, 0, 10, [586, 588, 21, 56]),
  (10, 217, 0, 83, 1, 10, [672, 674, 25, 56]),
  (10, 225, 0, 105, 1, 10, [1227, 1229, 29, 56]),
  (10, 229, 0, 52, 1, 9, [1231, 1232, 1233, 79]),
  (10, 241, 0, 23, 2, 3, [552, 553, 554, 72]),
  (10, 246, 0, 39, 2, 6, [1235, 1236, 1237, 63]),
  (10, 250, 0, 53, 0, 9, [1240, 1241, 1242, 79]),
  (10, 253, 0, 106, 1, 10, [1251, 1253, 30, 56])]
def xmlT_3 : List (Nat × Nat × Nat × Nat × Nat × Nat × List Nat) := [(10, 260, 0, 27, 1, 4, [475, 476, 477, 71]),
  (10, 264, 0, 22, 1, 3, [531, 532, 533, 72]),
  (10, 268, 0, 5, 1, 0, [257, 258, 259, 59]),
  (10, 275, 0, 25, 1, 3, [272, 273, 274, 72]),
  (10, 282, 0, 54, 1, 9, [277, 278, 279, 79]),
  (10, 285, 0, 43, 1, 6, [281, 282, 283, 63]),
  (10, 291, 0, 50, 2, 8, [376, 377, 378, 60]),
  (10, 295, 0, 19, 1, 2, [368, 369, 370, 61]),
  (10, 298, 0, 20, 1, 2, [543, 544, 545, 61]),
  (10, 301, 0, 36, 1, 6, [511, 512, 513, 63]),
  (10, 304, 1, 81, 1, 10, [609, 610, 56]),
  (10, 308, 0, 16, 2, 1, [616, 617, 618, 64]),
  (10, 331, 0, 37, 1, 6, [460, 461, 462, 63]),
  (10, 365, 0, 30, 1, 4, [624, 625, 626, 71]),
  (10, 369, 1, 185, 1, 17, [628, 629, 74]),
  (10, 374, 1, 186, 2, 17, [631, 312, 74]),
  (10, 377, 0, 107, 1, 10, [636, 638, 22, 56]),
  (10, 380, 0, 108, 1, 10, [640, 642, 23, 56]),
  (10, 383, 0, 35, 0, 6, [507, 508, 509, 63]),
  (10, 385, 0, 109, 1, 10, [664, 666, 24, 56])]
def xmlT_4 : List (Nat × Nat × Nat × Nat × Nat × Nat × List Nat) := [(10, 398, 0, 87, 2, 10, [372, 374, 5, 56]),
  (10, 405, 0, 89, 2, 10, [384, 386, 6, 56]),
  (10, 409, 0, 90, 3, 10, [503, 505, 11, 56]),
  (10, 413, 0, 88, 1, 10, [515, 517, 12, 56]),
  (10, 416, 0, 95, 4, 10, [519, 521, 13, 56]),
  (10, 420, 0, 15, 3, 1, [464, 465, 466, 64]),
  (10, 422, 0, 91, 4, 10, [468, 470, 9, 56]),
  (10, 426, 1, 94, 2, 10, [486, 487, 56]),
  (10, 430, 1, 92, 4, 10, [472, 473, 56]),
  (10, 434, 0, 41, 1, 6, [489, 490, 491, 63]),
  (10, 437, 0, 28, 1, 4, [479, 480, 481, 71]),
  (10, 440, 1, 93, 3, 10, [483, 484, 56]),
  (10, 444, 0, 96, 2, 10, [523, 525, 14, 56]),
  (10, 451, 0, 97, 2, 10, [535, 537, 15, 56]),
  (10, 454, 0, 40, 1, 6, [527, 528, 529, 63]),
  (10, 457, 0, 99, 0, 10, [548, 550, 17, 56]),
  (10, 464, 0, 45, 0, 7, [560, 561, 562, 78]),
  (10, 467, 0, 101, 2, 10, [564, 566, 19, 56]),
  (10, 473, 1, 102, 1, 10, [568, 569, 56]),
  (10, 476, 0, 33, 2, 5, [574, 575, 576, 62])]
def xmlT_5 : List (Nat × Nat × Nat × Nat × Nat × Nat × List Nat) := [(10, 480, 0, 24, 1, 3, [578, 579, 580, 72]),
  (10, 483, 1, 80, 1, 10, [571, 572, 56]),
  (10, 489, 0, 74, 2, 10, [644, 645, 646, 56]),
  (10, 492, 0, 75, 2, 10, [668, 669, 670, 56]),
  (11, 156, 1, 112, 3, 11, [1460, 1461, 65]),
  (11, 167, 1, 115, 1, 11, [1471, 1472, 65]),
  (11, 175, 0, 113, 1, 11, [1495, 1497, 31, 65]),
  (11, 178, 0, 127, 1, 11, [1525, 1527, 34, 65]),
  (11, 182, 0, 131, 1, 11, [1521, 1523, 33, 65]),
  (11, 185, 1, 134, 3, 11, [1518, 1519, 65]),
  (11, 192, 1, 135, 3, 11, [1507, 1508, 65]),
  (11, 202, 0, 136, 0, 11, [1514, 1516, 32, 65]),
  (11, 208, 0, 139, 1, 11, [1529, 1531, 35, 65]),
  (11, 211, 0, 140, 2, 11, [1533, 1535, 36, 65]),
  (11, 215, 0, 128, 1, 11, [1573, 1575, 46, 65]),
  (11, 218, 0, 146, 1, 11, [1577, 1579, 47, 65]),
  (11, 222, 0, 130, 1, 11, [1581, 1583, 48, 65]),
  (11, 225, 0, 147, 1, 11, [1585, 1587, 49, 65]),
  (11, 228, 0, 133, 2, 11, [1561, 1563, 43, 65]),
  (11, 232, 0, 126, 2, 11, [1537, 1539, 37, 65])]
def xmlT_6 : List (Nat × Nat × Nat × Nat × Nat × Nat × List Nat) := [(11, 238, 0, 143, 3, 11, [1541, 1543, 38, 65]),
  (11, 242, 0, 141, 3, 11, [1565, 1567, 44, 65]),
  (11, 246, 0, 145, 2, 11, [1569, 1571, 45, 65]),
  (11, 250, 0, 132, 1, 11, [1557, 1559, 42, 65]),
  (11, 253, 0, 144, 4, 11, [1545, 1547, 39, 65]),
  (11, 257, 0, 125, 2, 11, [1549, 1551, 40, 65]),
  (11, 260, 0, 142, 3, 11, [1553, 1555, 41, 65]),
  (11, 263, 0, 148, 3, 11, [1589, 1591, 50, 65]),
  (11, 267, 1, 129, 1, 11, [1593, 1594, 65]),
  (11, 270, 0, 114, 1, 11, [1600, 1602, 51, 65]),
  (11, 273, 0, 150, 1, 11, [1608, 1610, 52, 65]),
  (11, 276, 0, 157, 1, 11, [1636, 1638, 53, 65]),
  (11, 279, 0, 161, 1, 11, [1652, 1654, 54, 65]),
  (11, 282, 1, 162, 2, 11, [1656, 1657, 65]),
  (12, 7, 0, 56, 3, 10, [682, 683, 684, 56]),
  (12, 17, 0, 57, 6, 10, [797, 798, 799, 56]),
  (12, 23, 0, 58, 2, 10, [1142, 1143, 1144, 56]),
  (12, 27, 0, 59, 1, 10, [1160, 1161, 1162, 56]),
  (12, 31, 0, 60, 2, 10, [1171, 1172, 1173, 56]),
  (12, 34, 0, 61, 1, 10, [1185, 1186, 1187, 56])]
def xmlT_7 : List (Nat × Nat × Nat × Nat × Nat × Nat × List Nat) := [(12, 38, 0, 62, 3, 10, [1193, 1194, 1195, 56]),
  (12, 42, 0, 63, 3, 10, [1205, 1206, 1207, 56]),
  (12, 46, 0, 64, 2, 10, [1216, 1217, 1218, 56]),
  (12, 50, 0, 66, 1, 10, [1223, 1224, 1225, 56]),
  (12, 53, 0, 67, 2, 10, [1247, 1248, 1249, 56]),
  (12, 57, 0, 69, 2, 10, [1258, 1259, 1260, 56]),
  (12, 60, 0, 70, 2, 10, [1265, 1266, 1267, 56]),
  (12, 63, 0, 74, 2, 10, [1272, 645, 646, 56]),
  (12, 66, 0, 75, 2, 10, [1276, 669, 670, 56]),
  (12, 69, 2, 55, 0, 10, [91, 92, 56]),
  (12, 72, 2, 110, 0, 11, [1279, 1280, 65]),
  (12, 73, 1, 164, 5, 12, [677, 678, 55]),
  (12, 78, 0, 116, 3, 11, [1456, 1457, 1458, 65]),
  (12, 79, 0, 111, 0, 11, [1452, 1453, 1454, 65]),
  (12, 83, 1, 165, 8, 12, [793, 794, 55]),
  (12, 86, 0, 117, 6, 11, [1463, 1464, 1465, 65]),
  (12, 87, 1, 166, 4, 12, [1139, 1140, 55]),
  (12, 90, 0, 118, 2, 11, [1467, 1468, 1469, 65]),
  (12, 91, 1, 167, 3, 12, [1157, 1158, 55]),
  (12, 94, 0, 119, 1, 11, [1474, 1475, 1476, 65])]
def xmlT_8 : List (Nat × Nat × Nat × Nat × Nat × Nat × List Nat) := [(12, 95, 1, 168, 4, 12, [1168, 1169, 55]),
  (12, 97, 0, 120, 2, 11, [1478, 1479, 1480, 65]),
  (12, 98, 1, 169, 2, 12, [1182, 1183, 55]),
  (12, 101, 0, 121, 1, 11, [1483, 1484, 1485, 65]),
  (12, 102, 1, 170, 4, 12, [1190, 1191, 55]),
  (12, 105, 0, 122, 3, 11, [1487, 1488, 1489, 65]),
  (12, 106, 1, 171, 5, 12, [1202, 1203, 55]),
  (12, 109, 0, 123, 3, 11, [1491, 1492, 1493, 65]),
  (12, 110, 1, 172, 4, 12, [1213, 1214, 55]),
  (12, 113, 0, 124, 2, 11, [1499, 1500, 1501, 65]),
  (12, 114, 0, 65, 0, 10, [245, 246, 247, 56]),
  (12, 117, 0, 138, 0, 11, [1510, 1511, 1512, 65]),
  (12, 118, 1, 173, 3, 12, [1220, 1221, 55]),
  (12, 120, 0, 149, 1, 11, [1596, 1597, 1598, 65]),
  (12, 121, 1, 174, 4, 12, [1244, 1245, 55]),
  (12, 123, 0, 151, 2, 11, [1604, 1605, 1606, 65]),
  (12, 124, 0, 68, 0, 10, [594, 595, 596, 56]),
  (12, 128, 0, 137, 0, 11, [1503, 1504, 1505, 65]),
  (12, 129, 1, 175, 4, 12, [1255, 1256, 55]),
  (12, 131, 0, 152, 2, 11, [1612, 1613, 1614, 65])]
def xmlT_9 : List (Nat × Nat × Nat × Nat × Nat × Nat × List Nat) := [(12, 132, 1, 176, 4, 12, [1262, 1263, 55]),
  (12, 134, 0, 153, 2, 11, [1616, 1617, 1618, 65]),
  (12, 135, 0, 71, 2, 10, [598, 599, 600, 56]),
  (12, 139, 0, 154, 2, 11, [1620, 1621, 1622, 65]),
  (12, 140, 0, 72, 1, 10, [605, 606, 607, 56]),
  (12, 144, 0, 155, 1, 11, [1624, 1625, 1626, 65]),
  (12, 145, 0, 73, 2, 10, [612, 613, 614, 56]),
  (12, 148, 0, 156, 2, 11, [1628, 1629, 1630, 65]),
  (12, 149, 1, 177, 4, 12, [1269, 1270, 55]),
  (12, 151, 0, 158, 2, 11, [1632, 1633, 1634, 65]),
  (12, 152, 1, 178, 4, 12, [1273, 1274, 55]),
  (12, 154, 0, 159, 2, 11, [1640, 1641, 1642, 65]),
  (12, 155, 0, 76, 0, 10, [620, 621, 622, 56]),
  (12, 158, 0, 160, 0, 11, [1644, 1645, 1646, 65]),
  (12, 159, 0, 77, 1, 10, [632, 633, 634, 56]),
  (12, 162, 0, 163, 1, 11, [1648, 1649, 1650, 65]),
  (13, 1, 2, 181, 0, 14, [105, 106, 57]),
  (15, 300, 1, 183, 3, 15, [342, 343, 75]),
  (15, 304, 1, 187, 2, 17, [348, 349, 74]),
  (16, 194, 1, 186, 2, 17, [311, 312, 74])]
def xmlT_10 : List (Nat × Nat × Nat × Nat × Nat × Nat × List Nat) := [(18, 105, 1, 189, 3, 19, [264, 265, 81])]
def xmlT : List (Nat × Nat × Nat × Nat × Nat × Nat × List Nat) := xmlT_0 ++ (xmlT_1 ++ (xmlT_2 ++ (xmlT_3 ++ (xmlT_4 ++ (xmlT_5 ++ (xmlT_6 ++ (xmlT_7 ++ (xmlT_8 ++ (xmlT_9 ++ (xmlT_10))))))))))
def xcw (M : Nat) : Cond := match xhh M with | [] => .code (xy M) (xcode M) (xmaxL M) (xret M) | h :: t => .codeWith (xy M) (xcode M) (xmaxL M) (xret M) (h :: t)
def xmw (q : Nat × Nat × Nat × Nat × Nat × Nat × List Nat) : List Cond := match q with
  | (a, b, 0, M, _, _, _) => [.methodLink (xown a) b (xy M), .instanceMethod (xy M), .selects (xy M).cls (xy M) (xy M), .initialized (xy M).cls]
  | (a, b, 1, M, _, _, _) => [.methodLink (xown a) b (xy M), .static (xy M), .initialized (xy M).cls]
  | (a, b, _, M, _, _, _) => [.methodLink (xown a) b (xy M), .instanceMethod (xy M), .initialized (xy M).cls]
/-- what else a call row must keep: plain names, the arguments' number, the receiver's kind, no handlers but under a static call; an initialiser is one -/
def xmq (q : Nat × Nat × Nat × Nat × Nat × Nat × List Nat) : Bool := match q with
  | (_, _, k, M, n, c, _) => plainFor (xy M) && (decide ((xy M).cls ≠ "java/lang/invoke/MethodHandle" ∧ (xy M).cls ≠ "java/lang/invoke/VarHandle") && (decide ((parseMethodDescriptor (xy M).desc).map (fun d => d.parameters.length) = some n) && (decide (M < 190 ∧ M ≠ 179) && ((decide (k = 0) && (decide ((xCls[c]?).map (fun r => r.1) = some (xy M).cls) && decide (xhh M = []))) || ((decide (k = 1)) || (decide (k = 2) && (decide ((xy M).name = "<init>") && (decide (xhh M = []) && decide (xret M = none)))))))))
theorem xmlT_ok_0 : xmlT_0.all (fun q => xck (xmw q) q.2.2.2.2.2.2 && xmq q) = true := by decide +kernel
theorem xmlT_ok_1 : xmlT_1.all (fun q => xck (xmw q) q.2.2.2.2.2.2 && xmq q) = true := by decide +kernel
theorem xmlT_ok_2 : xmlT_2.all (fun q => xck (xmw q) q.2.2.2.2.2.2 && xmq q) = true := by decide +kernel
theorem xmlT_ok_3 : xmlT_3.all (fun q => xck (xmw q) q.2.2.2.2.2.2 && xmq q) = true := by decide +kernel
theorem xmlT_ok_4 : xmlT_4.all (fun q => xck (xmw q) q.2.2.2.2.2.2 && xmq q) = true := by decide +kernel
theorem xmlT_ok_5 : xmlT_5.all (fun q => xck (xmw q) q.2.2.2.2.2.2 && xmq q) = true := by decide +kernel
theorem xmlT_ok_6 : xmlT_6.all (fun q => xck (xmw q) q.2.2.2.2.2.2 && xmq q) = true := by decide +kernel
theorem xmlT_ok_7 : xmlT_7.all (fun q => xck (xmw q) q.2.2.2.2.2.2 && xmq q) = true := by decide +kernel
theorem xmlT_ok_8 : xmlT_8.all (fun q => xck (xmw q) q.2.2.2.2.2.2 && xmq q) = true := by decide +kernel
theorem xmlT_ok_9 : xmlT_9.all (fun q => xck (xmw q) q.2.2.2.2.2.2 && xmq q) = true := by decide +kernel
theorem xmlT_ok_10 : xmlT_10.all (fun q => xck (xmw q) q.2.2.2.2.2.2 && xmq q) = true := by decide +kernel
theorem xmlT_ok : ∀ q ∈ xmlT, xck (xmw q) q.2.2.2.2.2.2 = true ∧ xmq q = true := by
  intro q h
  have h2 : (xck (xmw q) q.2.2.2.2.2.2 && xmq q) = true := by
    simp only [xmlT, List.mem_append] at h
    rcases h with h | h | h | h | h | h | h | h | h | h | h
    · exact List.all_eq_true.mp xmlT_ok_0 q h
    · exact List.all_eq_true.mp xmlT_ok_1 q h
    · exact List.all_eq_true.mp xmlT_ok_2 q h
    · exact List.all_eq_true.mp xmlT_ok_3 q h
    · exact List.all_eq_true.mp xmlT_ok_4 q h
    · exact List.all_eq_true.mp xmlT_ok_5 q h
    · exact List.all_eq_true.mp xmlT_ok_6 q h
    · exact List.all_eq_true.mp xmlT_ok_7 q h
    · exact List.all_eq_true.mp xmlT_ok_8 q h
    · exact List.all_eq_true.mp xmlT_ok_9 q h
    · exact List.all_eq_true.mp xmlT_ok_10 q h
  simpa using h2
def xml (a b : Nat) : Option (Nat × Nat × Nat × Nat) := (xmlT.find? (fun q => q.1 == a && q.2.1 == b)).map (fun q => (q.2.2.1, q.2.2.2.1, q.2.2.2.2.1, q.2.2.2.2.2.1))
/-- made classes: own name, index, class, places -/
def xclT : List (Nat × Nat × Nat × List Nat) := [(4, 24, 3, [709, 710, 72]), (6, 9, 0, [173, 98, 59]), (6, 26, 4, [291, 704, 71]), (7, 32, 9, [811, 812, 79]), (10, 9, 0, [97, 98, 59]), (10, 22, 8, [123, 124, 60]), (10, 29, 2, [137, 138, 61]), (10, 36, 5, [151, 152, 62]), (10, 43, 6, [167, 168, 63]), (10, 56, 1, [179, 180, 64]), (10, 102, 4, [271, 704, 71]), (10, 131, 7, [276, 806, 78]), (12, 8, 10, [89, 90, 56]), (12, 70, 11, [1277, 1278, 65])]
def xNf (c : Nat) : Nat := (xfts.getD c []).length
theorem xclT_ok : xclT.all (fun q => xck [.classLink (xown q.1) q.2.1 (xown q.2.2.1), .instantiable (xown q.2.2.1) (xNf q.2.2.1), .initialized (xown q.2.2.1)] q.2.2.2 && decide (q.2.2.1 < 12)) = true := by decide +kernel
def xcl (a b : Nat) : Option Nat := (xclT.find? (fun q => q.1 == a && q.2.1 == b)).map (fun q => q.2.2.1)
