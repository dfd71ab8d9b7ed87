/-! the methods, by numbers: name, bytes, locals, what it answers, frames and words that it needs (by program) -/
abbrev MI : Type := MethodName × ByteArray × Nat × Option FieldType × Nat × Nat
abbrev MX0_become : Nat := 0
abbrev MX0_rowOfRooms : Nat := 1
abbrev MX0_rowOfPeople : Nat := 2
abbrev MX0_turnDoor : Nat := 3
abbrev MX0_isFull : Nat := 4
abbrev MX0_add : Nat := 5
abbrev MX0_remove : Nat := 6
abbrev MX0_peopleIn : Nat := 7
abbrev MX0_stifledSet : Nat := 8
abbrev MX0_breathIn : Nat := 9
abbrev MX0_greatestBreathIn : Nat := 10
abbrev MX0_frostIn : Nat := 11
abbrev MX0_breathOf : Nat := 12
abbrev MX0_otherVoices : Nat := 13
abbrev MX0_passHours : Nat := 14
abbrev MX0_passHour : Nat := 15
abbrev MX0_freeze : Nat := 16
abbrev MX0_burn : Nat := 17
abbrev MX0_mix : Nat := 18
abbrev MX0_breathe : Nat := 19
abbrev MX0_wellHours : Nat := 20
abbrev MX0_stifledAfter : Nat := 21
abbrev MX0_goesAsTold : Nat := 22
abbrev MX1_isMissing : Nat := 23
abbrev MX1_start : Nat := 24
abbrev MX1_put : Nat := 25
abbrev MX1_hasStretch : Nat := 26
abbrev MX2_append : Nat := 27
abbrev MX2_tell : Nat := 28
abbrev MX2_tellItem : Nat := 29
abbrev MX2_kindNamed : Nat := 30
abbrev MX2_tellOne : Nat := 31
abbrev MX2_tellRoom : Nat := 32
abbrev MX2_mayTell : Nat := 33
abbrev MX2_tellDoor : Nat := 34
abbrev MX2_tellCold : Nat := 35
abbrev MX2_isWord : Nat := 36
abbrev MX2_isNumber : Nat := 37
abbrev MX2_step : Nat := 38
abbrev MX2_tokenBegunBy : Nat := 39
abbrev MX3_room : Nat := 40
abbrev MX3_roomOf : Nat := 41
abbrev MX3_door : Nat := 42
abbrev MX3_cold : Nat := 43
abbrev MX3_one : Nat := 44
abbrev MX3_of : Nat := 45
abbrev MX3_set : Nat := 46
abbrev MX3_turn : Nat := 47
abbrev MX3_as : Nat := 48
abbrev MX3_goes : Nat := 49
abbrev MX3_hours : Nat := 50
abbrev MX3_now : Nat := 51
abbrev MX3_on : Nat := 52
abbrev MX3_when : Nat := 53
abbrev MX3_first : Nat := 54
abbrev MX3_well : Nat := 55
abbrev MX3_doors : Nat := 56
abbrev MX3_shut : Nat := 57
abbrev MX3_fire : Nat := 58
abbrev MX3_fires : Nat := 59
abbrev MX3_sleep : Nat := 60
abbrev MX3_kind : Nat := 61
abbrev MX3_costs : Nat := 62
abbrev MX3_share : Nat := 63
abbrev MX3_swept : Nat := 64
abbrev MX3_sweeps : Nat := 65
abbrev MX3_owed : Nat := 66
abbrev MX3_leaked : Nat := 67
abbrev MX3_feed : Nat := 68
abbrev MX3_wipe : Nat := 69
abbrev MX3_text : Nat := 70
abbrev MX3_sheet : Nat := 71
abbrev MX3_write : Nat := 72
abbrev MX3_copy : Nat := 73
abbrev MX3_lays : Nat := 74
abbrev MX3_book : Nat := 75
abbrev MX3_read : Nat := 76
abbrev MX3_image : Nat := 77
abbrev MX3_undo : Nat := 78
abbrev MX3_tear : Nat := 79
abbrev MX3_count : Nat := 80
abbrev MX3_status : Nat := 81
abbrev MX3_finding : Nat := 82
abbrev MX3_nobody : Nat := 83
abbrev MX3_startAhead : Nat := 84
abbrev MX3_twoFiresDo : Nat := 85
abbrev MX3_outside : Nat := 86
abbrev MX3_noRoom : Nat := 87
abbrev MX3_noKind : Nat := 88
abbrev MX3_noSheet : Nat := 89
abbrev MX3_isKindOf : Nat := 90
abbrev MX3_has : Nat := 91
abbrev MX3_exchange : Nat := 92
abbrev MX3_sum : Nat := 93
abbrev MX4_in : Nat := 94
abbrev MX4_finds : Nat := 95
abbrev MX4_has : Nat := 96
abbrev MX4_bits : Nat := 97
abbrev MX4_its : Nat := 98
abbrev MX4_puts : Nat := 99
abbrev MX4_there : Nat := 100
abbrev MX4_lies : Nat := 101
abbrev MX4_isOne : Nat := 102
abbrev MX4_isRoom : Nat := 103
abbrev MX4_isKind : Nat := 104
abbrev MX4_isSpan : Nat := 105
abbrev MX4_isTold : Nat := 106
abbrev MX4_room : Nat := 107
abbrev MX4_inside : Nat := 108
abbrev MX4_breathedIn : Nat := 109
abbrev MX4_roomOf : Nat := 110
abbrev MX4_opens : Nat := 111
abbrev MX4_door : Nat := 112
abbrev MX4_cold : Nat := 113
abbrev MX4_addOne : Nat := 114
abbrev MX4_one : Nat := 115
abbrev MX4_singers : Nat := 116
abbrev MX4_breathes : Nat := 117
abbrev MX4_of : Nat := 118
abbrev MX4_set : Nat := 119
abbrev MX4_turn : Nat := 120
abbrev MX4_as : Nat := 121
abbrev MX4_leaves : Nat := 122
abbrev MX4_goes : Nat := 123
abbrev MX4_freezes : Nat := 124
abbrev MX4_thaws : Nat := 125
abbrev MX4_draughts : Nat := 126
abbrev MX4_breathe : Nat := 127
abbrev MX4_oneHour : Nat := 128
abbrev MX4_sumOf : Nat := 129
abbrev MX4_stifled : Nat := 130
abbrev MX4_allBreathe : Nat := 131
abbrev MX4_hours : Nat := 132
abbrev MX4_now : Nat := 133
abbrev MX4_passes : Nat := 134
abbrev MX4_on : Nat := 135
abbrev MX4_untilOf : Nat := 136
abbrev MX4_when : Nat := 137
abbrev MX4_wellOnes : Nat := 138
abbrev MX4_first : Nat := 139
abbrev MX4_wellFor : Nat := 140
abbrev MX4_well : Nat := 141
abbrev MX4_doors : Nat := 142
abbrev MX4_stifledOn : Nat := 143
abbrev MX4_shut : Nat := 144
abbrev MX4_isWell : Nat := 145
abbrev MX4_fire : Nat := 146
abbrev MX4_fires : Nat := 147
abbrev MX4_sleep : Nat := 148
abbrev MX4_kind : Nat := 149
abbrev MX4_costs : Nat := 150
abbrev MX4_product : Nat := 151
abbrev MX4_greatest : Nat := 152
abbrev MX4_share : Nat := 153
abbrev MX4_frostOf : Nat := 154
abbrev MX4_swept : Nat := 155
abbrev MX4_sweeps : Nat := 156
abbrev MX4_owed : Nat := 157
abbrev MX4_leaked : Nat := 158
abbrev MX4_feed : Nat := 159
abbrev MX4_wipe : Nat := 160
abbrev MX4_byteAt : Nat := 161
abbrev MX4_isLetter : Nat := 162
abbrev MX4_isDigit : Nat := 163
abbrev MX4_advance : Nat := 164
abbrev MX4_isWord : Nat := 165
abbrev MX4_kindHere : Nat := 166
abbrev MX4_wantNumber : Nat := 167
abbrev MX4_mayWant : Nat := 168
abbrev MX4_wantOne : Nat := 169
abbrev MX4_wantRoom : Nat := 170
abbrev MX4_wantDoor : Nat := 171
abbrev MX4_wantItem : Nat := 172
abbrev MX4_text : Nat := 173
abbrev MX4_isSheet : Nat := 174
abbrev MX4_narrow : Nat := 175
abbrev MX4_sheet : Nat := 176
abbrev MX4_write : Nat := 177
abbrev MX4_isPart : Nat := 178
abbrev MX4_copy : Nat := 179
abbrev MX4_badSheet : Nat := 180
abbrev MX4_lays : Nat := 181
abbrev MX4_book : Nat := 182
abbrev MX4_isSo : Nat := 183
abbrev MX4_read : Nat := 184
abbrev MX4_moveAll : Nat := 185
abbrev MX4_image : Nat := 186
abbrev MX4_undo : Nat := 187
abbrev MX4_tear : Nat := 188
abbrev MX4_count : Nat := 189
abbrev MX4_status : Nat := 190
abbrev MJ6_numberOfTrailingZeros_0f7a4 : Nat := 191
abbrev MJ6_bitCount_0f7a4 : Nat := 192
abbrev MJ0_length_8abf5 : Nat := 193
abbrev MJ0_charAt_5068e : Nat := 194
abbrev MJ0_coder_7d493 : Nat := 195
abbrev MJ0_isLatin1_aae02 : Nat := 196
abbrev MJ0_checkIndex_df160 : Nat := 197
abbrev MJ1_charAt_3b067 : Nat := 198
abbrev MJ3_checkIndex_8e157 : Nat := 199
def na_mis0 : List MI := [(yX0_become, cX0_become, 3, none, 1, 26),
  (yX0_rowOfRooms, cX0_rowOfRooms, 2, (some (.array .int)), 0, 0),
  (yX0_rowOfPeople, cX0_rowOfPeople, 2, (some (.array .int)), 0, 0),
  (yX0_turnDoor, cX0_turnDoor, 4, (some .int), 0, 0),
  (yX0_isFull, cX0_isFull, 1, (some .boolean), 0, 0),
  (yX0_add, cX0_add, 5, (some .int), 0, 0),
  (yX0_remove, cX0_remove, 5, none, 1, 26),
  (yX0_peopleIn, cX0_peopleIn, 4, (some .int), 0, 0),
  (yX0_stifledSet, cX0_stifledSet, 3, (some .int), 0, 0),
  (yX0_breathIn, cX0_breathIn, 4, (some .int), 2, 45),
  (yX0_greatestBreathIn, cX0_greatestBreathIn, 4, (some .int), 2, 45),
  (yX0_frostIn, cX0_frostIn, 4, (some .int), 1, 21),
  (yX0_breathOf, cX0_breathOf, 3, (some .int), 1, 23),
  (yX0_otherVoices, cX0_otherVoices, 4, (some .int), 0, 0),
  (yX0_passHours, cX0_passHours, 3, none, 4, 89),
  (yX0_passHour, cX0_passHour, 1, (some .int), 3, 69),
  (yX0_freeze, cX0_freeze, 3, none, 1, 21),
  (yX0_burn, cX0_burn, 3, none, 1, 21),
  (yX0_mix, cX0_mix, 3, none, 1, 21),
  (yX0_breathe, cX0_breathe, 5, (some .int), 2, 45),
  (yX0_wellHours, cX0_wellHours, 4, (some .int), 4, 89),
  (yX0_stifledAfter, cX0_stifledAfter, 2, (some .int), 5, 111),
  (yX0_goesAsTold, cX0_goesAsTold, 4, (some .boolean), 4, 89),
  (yX1_isMissing, cX1_isMissing, 1, (some .boolean), 0, 0),
  (yX1_start, cX1_start, 4, none, 0, 0)]
def na_mis1 : List MI := [(yX1_put, cX1_put, 4, none, 0, 0),
  (yX1_hasStretch, cX1_hasStretch, 3, (some .boolean), 0, 0),
  (yX2_append, cX2_append, 4, none, 0, 0),
  (yX2_tell, cX2_tell, 3, (some .int), 8, 175),
  (yX2_tellItem, cX2_tellItem, 3, (some .boolean), 7, 153),
  (yX2_kindNamed, cX2_kindNamed, 1, (some .int), 5, 107),
  (yX2_tellOne, cX2_tellOne, 5, (some .boolean), 5, 107),
  (yX2_tellRoom, cX2_tellRoom, 3, (some .boolean), 6, 131),
  (yX2_mayTell, cX2_mayTell, 5, (some .boolean), 5, 107),
  (yX2_tellDoor, cX2_tellDoor, 3, (some .boolean), 2, 45),
  (yX2_tellCold, cX2_tellCold, 3, (some .boolean), 2, 40),
  (yX2_isWord, cX2_isWord, 3, (some .boolean), 4, 85),
  (yX2_isNumber, cX2_isNumber, 4, (some .boolean), 1, 22),
  (yX2_step, cX2_step, 1, none, 1, 20),
  (yX2_tokenBegunBy, cX2_tokenBegunBy, 1, (some .int), 0, 0),
  (yX3_room, cX3_room, 4, (some .int), 2, 44),
  (yX3_roomOf, cX3_roomOf, 3, (some .int), 3, 68),
  (yX3_door, cX3_door, 3, (some .int), 2, 44),
  (yX3_cold, cX3_cold, 3, (some .int), 2, 44),
  (yX3_one, cX3_one, 3, (some .int), 2, 44),
  (yX3_of, cX3_of, 3, (some .int), 2, 45),
  (yX3_set, cX3_set, 4, (some .int), 2, 44),
  (yX3_turn, cX3_turn, 3, (some .int), 2, 44),
  (yX3_as, cX3_as, 3, (some .int), 3, 65),
  (yX3_goes, cX3_goes, 3, (some .int), 2, 50)]
def na_mis2 : List MI := [(yX3_hours, cX3_hours, 2, (some .int), 5, 111),
  (yX3_now, cX3_now, 2, (some .int), 3, 68),
  (yX3_on, cX3_on, 5, (some .int), 5, 111),
  (yX3_when, cX3_when, 3, (some .int), 5, 112),
  (yX3_first, cX3_first, 4, (some .int), 4, 89),
  (yX3_well, cX3_well, 1, (some .int), 5, 112),
  (yX3_doors, cX3_doors, 6, (some .int), 5, 112),
  (yX3_shut, cX3_shut, 7, (some .int), 6, 132),
  (yX3_fire, cX3_fire, 5, (some .int), 5, 112),
  (yX3_fires, cX3_fires, 5, (some .int), 6, 139),
  (yX3_sleep, cX3_sleep, 7, (some .int), 5, 112),
  (yX3_kind, cX3_kind, 8, (some .int), 6, 132),
  (yX3_costs, cX3_costs, 4, (some .int), 5, 111),
  (yX3_share, cX3_share, 9, (some .long), 3, 68),
  (yX3_swept, cX3_swept, 4, (some .int), 2, 44),
  (yX3_sweeps, cX3_sweeps, 3, (some .int), 2, 44),
  (yX3_owed, cX3_owed, 3, (some .int), 0, 0),
  (yX3_leaked, cX3_leaked, 7, (some .int), 5, 111),
  (yX3_feed, cX3_feed, 3, (some .int), 2, 44),
  (yX3_wipe, cX3_wipe, 2, (some .int), 0, 0),
  (yX3_text, cX3_text, 2, (some .int), 9, 197),
  (yX3_sheet, cX3_sheet, 4, (some .int), 2, 44),
  (yX3_write, cX3_write, 8, (some .long), 2, 44),
  (yX3_copy, cX3_copy, 8, (some .int), 2, 44),
  (yX3_lays, cX3_lays, 7, (some .int), 2, 44)]
def na_mis3 : List MI := [(yX3_book, cX3_book, 6, (some .int), 4, 89),
  (yX3_read, cX3_read, 8, (some .int), 5, 112),
  (yX3_image, cX3_image, 1, (some .int), 2, 48),
  (yX3_undo, cX3_undo, 1, (some .int), 2, 48),
  (yX3_tear, cX3_tear, 2, (some .int), 0, 0),
  (yX3_count, cX3_count, 2, (some .int), 2, 44),
  (yX3_status, cX3_status, 2, (some .int), 2, 44),
  (yX3_finding, cX3_finding, 3, (some .int), 1, 22),
  (yX3_nobody, cX3_nobody, 2, (some .boolean), 1, 22),
  (yX3_startAhead, cX3_startAhead, 1, (some (.object "NinthAir$Night")), 2, 48),
  (yX3_twoFiresDo, cX3_twoFiresDo, 8, (some .boolean), 5, 112),
  (yX3_outside, cX3_outside, 3, (some .boolean), 0, 0),
  (yX3_noRoom, cX3_noRoom, 1, (some .boolean), 1, 22),
  (yX3_noKind, cX3_noKind, 1, (some .boolean), 1, 22),
  (yX3_noSheet, cX3_noSheet, 1, (some .boolean), 1, 22),
  (yX3_isKindOf, cX3_isKindOf, 4, (some .boolean), 2, 42),
  (yX3_has, cX3_has, 2, (some .boolean), 0, 0),
  (yX3_exchange, cX3_exchange, 4, (some .int), 0, 0),
  (yX3_sum, cX3_sum, 4, (some .int), 0, 0),
  (yX4_in, cX4_in, 3, (some .boolean), 0, 0),
  (yX4_finds, cX4_finds, 2, (some .int), 0, 0),
  (yX4_has, cX4_has, 2, (some .boolean), 0, 0),
  (yX4_bits, cX4_bits, 3, (some .int), 0, 0),
  (yX4_its, cX4_its, 3, (some .int), 0, 0),
  (yX4_puts, cX4_puts, 4, none, 0, 0)]
def na_mis4 : List MI := [(yX4_there, cX4_there, 3, (some .int), 0, 0),
  (yX4_lies, cX4_lies, 4, none, 0, 0),
  (yX4_isOne, cX4_isOne, 2, (some .boolean), 1, 22),
  (yX4_isRoom, cX4_isRoom, 1, (some .boolean), 1, 22),
  (yX4_isKind, cX4_isKind, 1, (some .boolean), 1, 22),
  (yX4_isSpan, cX4_isSpan, 1, (some .boolean), 1, 22),
  (yX4_isTold, cX4_isTold, 2, (some .boolean), 1, 22),
  (yX4_room, cX4_room, 5, (some .int), 2, 43),
  (yX4_inside, cX4_inside, 4, (some .int), 1, 22),
  (yX4_breathedIn, cX4_breathedIn, 4, (some .int), 3, 67),
  (yX4_roomOf, cX4_roomOf, 3, (some .int), 4, 90),
  (yX4_opens, cX4_opens, 3, none, 0, 0),
  (yX4_door, cX4_door, 4, (some .int), 1, 22),
  (yX4_cold, cX4_cold, 3, (some .int), 1, 22),
  (yX4_addOne, cX4_addOne, 5, none, 1, 23),
  (yX4_one, cX4_one, 3, (some .int), 2, 47),
  (yX4_singers, cX4_singers, 4, (some .int), 1, 22),
  (yX4_breathes, cX4_breathes, 3, (some .int), 2, 45),
  (yX4_of, cX4_of, 3, (some .int), 3, 67),
  (yX4_set, cX4_set, 6, (some .int), 2, 43),
  (yX4_turn, cX4_turn, 4, (some .int), 2, 43),
  (yX4_as, cX4_as, 5, (some .int), 2, 43),
  (yX4_leaves, cX4_leaves, 3, none, 0, 0),
  (yX4_goes, cX4_goes, 3, (some .int), 2, 43),
  (yX4_freezes, cX4_freezes, 3, none, 1, 23)]
def na_mis5 : List MI := [(yX4_thaws, cX4_thaws, 3, none, 1, 23),
  (yX4_draughts, cX4_draughts, 4, none, 1, 23),
  (yX4_breathe, cX4_breathe, 5, none, 3, 67),
  (yX4_oneHour, cX4_oneHour, 2, none, 4, 91),
  (yX4_sumOf, cX4_sumOf, 4, (some .int), 1, 22),
  (yX4_stifled, cX4_stifled, 3, (some .int), 1, 22),
  (yX4_allBreathe, cX4_allBreathe, 3, (some .int), 3, 67),
  (yX4_hours, cX4_hours, 3, (some .int), 5, 112),
  (yX4_now, cX4_now, 2, (some .int), 4, 89),
  (yX4_passes, cX4_passes, 3, none, 5, 112),
  (yX4_on, cX4_on, 5, (some .int), 6, 134),
  (yX4_untilOf, cX4_untilOf, 3, (some .int), 5, 112),
  (yX4_when, cX4_when, 3, (some .int), 6, 134),
  (yX4_wellOnes, cX4_wellOnes, 1, (some .int), 2, 44),
  (yX4_first, cX4_first, 4, (some .int), 5, 112),
  (yX4_wellFor, cX4_wellFor, 1, (some .int), 6, 134),
  (yX4_well, cX4_well, 1, (some .int), 7, 154),
  (yX4_doors, cX4_doors, 6, (some .int), 7, 154),
  (yX4_stifledOn, cX4_stifledOn, 3, (some .int), 6, 134),
  (yX4_shut, cX4_shut, 7, (some .int), 7, 156),
  (yX4_isWell, cX4_isWell, 4, (some .boolean), 6, 134),
  (yX4_fire, cX4_fire, 5, (some .int), 7, 157),
  (yX4_fires, cX4_fires, 9, (some .int), 7, 157),
  (yX4_sleep, cX4_sleep, 7, (some .int), 6, 134),
  (yX4_kind, cX4_kind, 8, (some .int), 7, 156)]
def na_mis6 : List MI := [(yX4_costs, cX4_costs, 5, (some .int), 6, 134),
  (yX4_product, cX4_product, 4, (some .long), 0, 0),
  (yX4_greatest, cX4_greatest, 5, (some .int), 3, 67),
  (yX4_share, cX4_share, 7, (some .long), 4, 91),
  (yX4_frostOf, cX4_frostOf, 4, (some .int), 1, 22),
  (yX4_swept, cX4_swept, 4, (some .int), 2, 45),
  (yX4_sweeps, cX4_sweeps, 3, (some .int), 2, 45),
  (yX4_owed, cX4_owed, 3, (some .int), 1, 22),
  (yX4_leaked, cX4_leaked, 6, (some .int), 6, 134),
  (yX4_feed, cX4_feed, 4, (some .int), 1, 22),
  (yX4_wipe, cX4_wipe, 2, (some .int), 0, 0),
  (yX4_byteAt, cX4_byteAt, 2, (some .int), 0, 0),
  (yX4_isLetter, cX4_isLetter, 1, (some .boolean), 1, 22),
  (yX4_isDigit, cX4_isDigit, 1, (some .boolean), 1, 22),
  (yX4_advance, cX4_advance, 2, none, 2, 42),
  (yX4_isWord, cX4_isWord, 3, (some .boolean), 0, 0),
  (yX4_kindHere, cX4_kindHere, 1, (some .int), 1, 22),
  (yX4_wantNumber, cX4_wantNumber, 4, (some .int), 3, 63),
  (yX4_mayWant, cX4_mayWant, 6, (some .int), 4, 86),
  (yX4_wantOne, cX4_wantOne, 4, none, 5, 111),
  (yX4_wantRoom, cX4_wantRoom, 6, none, 5, 111),
  (yX4_wantDoor, cX4_wantDoor, 3, none, 4, 86),
  (yX4_wantItem, cX4_wantItem, 1, none, 6, 136),
  (yX4_text, cX4_text, 3, (some .int), 7, 156),
  (yX4_isSheet, cX4_isSheet, 1, (some .boolean), 1, 22)]
def na_mis7 : List MI := [(yX4_narrow, cX4_narrow, 3, (some .long), 0, 0),
  (yX4_sheet, cX4_sheet, 5, (some .int), 2, 42),
  (yX4_write, cX4_write, 7, (some .long), 2, 42),
  (yX4_isPart, cX4_isPart, 4, (some .boolean), 0, 0),
  (yX4_copy, cX4_copy, 7, (some .int), 2, 42),
  (yX4_badSheet, cX4_badSheet, 2, (some .int), 2, 42),
  (yX4_lays, cX4_lays, 7, (some .int), 3, 63),
  (yX4_book, cX4_book, 5, (some .int), 5, 112),
  (yX4_isSo, cX4_isSo, 5, (some .boolean), 5, 112),
  (yX4_read, cX4_read, 6, (some .int), 6, 136),
  (yX4_moveAll, cX4_moveAll, 4, none, 0, 0),
  (yX4_image, cX4_image, 1, (some .int), 1, 23),
  (yX4_undo, cX4_undo, 1, (some .int), 1, 23),
  (yX4_tear, cX4_tear, 2, (some .int), 0, 0),
  (yX4_count, cX4_count, 4, (some .int), 2, 45),
  (yX4_status, cX4_status, 4, (some .int), 1, 22),
  (yJ6_numberOfTrailingZeros_0f7a4, cJ6_numberOfTrailingZeros_0f7a4, 2, (some .int), 0, 0),
  (yJ6_bitCount_0f7a4, cJ6_bitCount_0f7a4, 1, (some .int), 0, 0),
  (yJ0_length_8abf5, cJ0_length_8abf5, 1, (some .int), 1, 20),
  (yJ0_charAt_5068e, cJ0_charAt_5068e, 2, (some .char), 3, 64),
  (yJ0_coder_7d493, cJ0_coder_7d493, 1, (some .byte), 0, 0),
  (yJ0_isLatin1_aae02, cJ0_isLatin1_aae02, 1, (some .boolean), 0, 0),
  (yJ0_checkIndex_df160, cJ0_checkIndex_df160, 2, none, 1, 22),
  (yJ1_charAt_3b067, cJ1_charAt_3b067, 2, (some .char), 2, 43),
  (yJ3_checkIndex_8e157, cJ3_checkIndex_8e157, 3, (some .int), 0, 0)]
def na_mis : List MI := na_mis0 ++ na_mis1 ++ na_mis2 ++ na_mis3 ++ na_mis4 ++ na_mis5 ++ na_mis6 ++ na_mis7
def na_mi (j : Nat) : MI := match na_nth na_mis j with
  | some q => q
  | none => (yL_law, code, 4, some .boolean, 0, 0)
