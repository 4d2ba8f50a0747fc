/-! The code, resolved: printed by wip/whole/gen.py out of the claim's names. -/
abbrev m_Tokens_init : Nat := 0
abbrev m_Law_init : Nat := 1
abbrev m_Reader_init : Nat := 2
abbrev m_Arr_fill_aII : Nat := 3
abbrev m_Window_empty : Nat := 4
abbrev m_Window_init : Nat := 5
abbrev m_Hanging_empty : Nat := 6
abbrev m_Hanging_init : Nat := 7
abbrev m_History_init : Nat := 8
abbrev m_Tray_init : Nat := 9
abbrev m_Joinings_init : Nat := 10
abbrev m_Mender_init : Nat := 11
abbrev m_Watcher_init : Nat := 12
abbrev m_Hook_init : Nat := 13
abbrev m_Mod_plain : Nat := 14
abbrev m_Mod_init : Nat := 15
abbrev m_Hook_putOnTape : Nat := 16
abbrev m_Hook_feed : Nat := 17
abbrev m_Mod_feed : Nat := 18
abbrev m_Law_strike : Nat := 19
abbrev m_Math_min_II : Nat := 20
abbrev m_Math_max_II : Nat := 21
abbrev m_Tokens_kindOf : Nat := 22
abbrev m_Tokens_readNumber : Nat := 23
abbrev m_Tokens_findWord : Nat := 24
abbrev m_Tokens_step : Nat := 25
abbrev m_Tokens_open : Nat := 26
abbrev m_Tokens_isSound : Nat := 27
abbrev m_Reader_mayBegin : Nat := 28
abbrev m_Tokens_failAt : Nat := 29
abbrev m_Tokens_refuse : Nat := 30
abbrev m_Tokens_passNumber : Nat := 31
abbrev m_Reader_readRow : Nat := 32
abbrev m_Tokens_pass : Nat := 33
abbrev m_Reader_readMark : Nat := 34
abbrev m_Window_isHook : Nat := 35
abbrev m_Window_isRing : Nat := 36
abbrev m_Hanging_isJoined : Nat := 37
abbrev m_Window_isBroken : Nat := 38
abbrev m_Hanging_hookOn : Nat := 39
abbrev m_Hanging_joinedAhead : Nat := 40
abbrev m_Hanging_joinedBehind : Nat := 41
abbrev m_Window_sagBetween : Nat := 42
abbrev m_Hanging_whyNotJoin : Nat := 43
abbrev m_Reader_readJoin : Nat := 44
abbrev m_Law_mayEnter : Nat := 45
abbrev m_Law_emit : Nat := 46
abbrev m_Law_readUnit : Nat := 47
abbrev m_Law_isName : Nat := 48
abbrev m_Law_readAtom : Nat := 49
abbrev m_Law_isBetween : Nat := 50
abbrev m_Law_readPart : Nat := 51
abbrev m_Law_readTruth : Nat := 52
abbrev m_Reader_readSetting : Nat := 53
abbrev m_Reader_readLine : Nat := 54
abbrev m_Law_push : Nat := 55
abbrev m_Law_valueOf : Nat := 56
abbrev m_Law_pull : Nat := 57
abbrev m_Math_min_JJ : Nat := 58
abbrev m_Math_max_JJ : Nat := 59
abbrev m_Law_kept : Nat := 60
abbrev m_Law_combine : Nat := 61
abbrev m_Law_holds : Nat := 62
abbrev m_Law_settle : Nat := 63
abbrev m_Reader_readText : Nat := 64
abbrev m_Reader_foundFault : Nat := 65
abbrev m_Reader_foundPlace : Nat := 66
abbrev m_Hanging_takeFrom : Nat := 67
abbrev m_History_forget : Nat := 68
abbrev m_Joinings_forget : Nat := 69
abbrev m_Hook_window : Nat := 70
abbrev m_Mod_within : Nat := 71
abbrev m_Mod_see : Nat := 72
abbrev m_Mod_isSmall : Nat := 73
abbrev m_Mod_keyAt : Nat := 74
abbrev m_Mod_isDigit : Nat := 75
abbrev m_Mod_next : Nat := 76
abbrev m_Mod_is : Nat := 77
abbrev m_Mod_fails : Nat := 78
abbrev m_Mod_takes : Nat := 79
abbrev m_Mod_takesRow : Nat := 80
abbrev m_Mod_eats : Nat := 81
abbrev m_Mod_goesIn : Nat := 82
abbrev m_Mod_codes : Nat := 83
abbrev m_Mod_readAtom : Nat := 84
abbrev m_Mod_readTerm : Nat := 85
abbrev m_Mod_readSum : Nat := 86
abbrev m_Mod_readUnit : Nat := 87
abbrev m_Mod_readBoth : Nat := 88
abbrev m_Mod_readTruth : Nat := 89
abbrev m_Mod_readLaw : Nat := 90
abbrev m_Mod_readChair : Nat := 91
abbrev m_Mod_readSlip : Nat := 92
abbrev m_Mod_isHung : Nat := 93
abbrev m_Mod_readMark : Nat := 94
abbrev m_Mod_hookAt : Nat := 95
abbrev m_Mod_isIn : Nat := 96
abbrev m_Mod_sag : Nat := 97
abbrev m_Mod_whyNot : Nat := 98
abbrev m_Mod_readJoin : Nat := 99
abbrev m_Mod_readLine : Nat := 100
abbrev m_Mod_window : Nat := 101
abbrev m_Hook_fault : Nat := 102
abbrev m_Mod_fault : Nat := 103
abbrev m_Hanging_sagOf : Nat := 104
abbrev m_Window_isRight : Nat := 105
abbrev m_Hanging_isRightlyJoined : Nat := 106
abbrev m_Hook_hook : Nat := 107
abbrev m_Mod_isHook : Nat := 108
abbrev m_Mod_nextJoined : Nat := 109
abbrev m_Mod_sagOf : Nat := 110
abbrev m_Mod_wordOf : Nat := 111
abbrev m_Mod_between : Nat := 112
abbrev m_Mod_isRight : Nat := 113
abbrev m_Mod_isRightNow : Nat := 114
abbrev m_Mod_hook : Nat := 115
abbrev m_Hook_ring : Nat := 116
abbrev m_Mod_isRing : Nat := 117
abbrev m_Mod_ring : Nat := 118
abbrev m_Hook_belongs : Nat := 119
abbrev m_Mod_belongs : Nat := 120
abbrev m_Hanging_joinedIn : Nat := 121
abbrev m_Hanging_rightIn : Nat := 122
abbrev m_Hanging_greatestSag : Nat := 123
abbrev m_Hanging_sagSum : Nat := 124
abbrev m_Hook_sags : Nat := 125
abbrev m_Mod_joinedMany : Nat := 126
abbrev m_Mod_sags : Nat := 127
abbrev m_Hook_why : Nat := 128
abbrev m_Mod_why : Nat := 129
abbrev m_History_push : Nat := 130
abbrev m_Window_chairFor : Nat := 131
abbrev m_Math_abs : Nat := 132
abbrev m_Window_secondsAt : Nat := 133
abbrev m_Hanging_workAt : Nat := 134
abbrev m_Hanging_attach : Nat := 135
abbrev m_Hook_join : Nat := 136
abbrev m_Mod_keeps : Nat := 137
abbrev m_Mod_standsFor : Nat := 138
abbrev m_Mod_works : Nat := 139
abbrev m_Mod_goesTo : Nat := 140
abbrev m_Mod_joins : Nat := 141
abbrev m_Mod_notes : Nat := 142
abbrev m_Mod_join : Nat := 143
abbrev m_Hanging_whyNotUnhook : Nat := 144
abbrev m_Hanging_detach : Nat := 145
abbrev m_Hook_unhook : Nat := 146
abbrev m_Mod_whyNotOff : Nat := 147
abbrev m_Mod_unhooks : Nat := 148
abbrev m_Mod_unhook : Nat := 149
abbrev m_Math_floorMod : Nat := 150
abbrev m_History_pop : Nat := 151
abbrev m_Hook_undo : Nat := 152
abbrev m_Mod_undo : Nat := 153
abbrev m_Hook_isTray : Nat := 154
abbrev m_Tray_isMissing : Nat := 155
abbrev m_Tray_at : Nat := 156
abbrev m_Hanging_isJoinDeed : Nat := 157
abbrev m_Hanging_isUnhookDeed : Nat := 158
abbrev m_Hanging_whyNotDeed : Nat := 159
abbrev m_Hanging_doDeeds : Nat := 160
abbrev m_Hook_judge : Nat := 161
abbrev m_Mod_noTray : Nat := 162
abbrev m_Mod_whyNotTold : Nat := 163
abbrev m_Mod_tells : Nat := 164
abbrev m_Mod_isAgain : Nat := 165
abbrev m_Mod_judge : Nat := 166
abbrev m_Hook_trayCode : Nat := 167
abbrev m_Hook_perform : Nat := 168
abbrev m_Mod_perform : Nat := 169
abbrev m_Hanging_nextDraw : Nat := 170
abbrev m_Hanging_spendDay : Nat := 171
abbrev m_Hook_day : Nat := 172
abbrev m_Mod_draw : Nat := 173
abbrev m_Mod_day : Nat := 174
abbrev m_Hanging_secondsToUnhook : Nat := 175
abbrev m_Hook_undoing : Nat := 176
abbrev m_Mod_undoing : Nat := 177
abbrev m_Hook_rowOf : Nat := 178
abbrev m_Joinings_addMoved : Nat := 179
abbrev m_Joinings_countBehind : Nat := 180
abbrev m_Joinings_countFor : Nat := 181
abbrev m_Hook_joinings : Nat := 182
abbrev m_Mod_spot : Nat := 183
abbrev m_Mod_shows : Nat := 184
abbrev m_Mod_follows : Nat := 185
abbrev m_Mod_laysWays : Nat := 186
abbrev m_Mod_laysAll : Nat := 187
abbrev m_Mod_waysOf : Nat := 188
abbrev m_Mod_joinings : Nat := 189
abbrev m_Hook_full : Nat := 190
abbrev m_Mod_fullOf : Nat := 191
abbrev m_Mod_full : Nat := 192
abbrev m_Mender_canStand : Nat := 193
abbrev m_Window_canFollow : Nat := 194
abbrev m_Mender_canCome : Nat := 195
abbrev m_Mender_worthOf : Nat := 196
abbrev m_Mender_bestBehind : Nat := 197
abbrev m_Mender_choose : Nat := 198
abbrev m_Mender_tell : Nat := 199
abbrev m_Mender_mend : Nat := 200
abbrev m_Hook_mended : Nat := 201
abbrev m_Mod_asksHook : Nat := 202
abbrev m_Mod_keptBy : Nat := 203
abbrev m_Mod_laysRight : Nat := 204
abbrev m_Mod_foundNone : Nat := 205
abbrev m_Mod_findsRight : Nat := 206
abbrev m_Mod_mended : Nat := 207
abbrev m_Joinings_measureBehind : Nat := 208
abbrev m_Joinings_leastOfFull : Nat := 209
abbrev m_Joinings_chooseEven : Nat := 210
abbrev m_Joinings_evenFor : Nat := 211
abbrev m_Hook_evenest : Nat := 212
abbrev m_Mod_worse : Nat := 213
abbrev m_Mod_leastBy : Nat := 214
abbrev m_Mod_laysLeast : Nat := 215
abbrev m_Mod_laysEvenest : Nat := 216
abbrev m_Mod_findsEvenest : Nat := 217
abbrev m_Mod_evenest : Nat := 218
abbrev m_Hook_spread : Nat := 219
abbrev m_Mod_spread : Nat := 220
abbrev m_Joinings_ringInFull : Nat := 221
abbrev m_Hook_fullAt : Nat := 222
abbrev m_Mod_fullAt : Nat := 223
abbrev m_Tray_isWithin : Nat := 224
abbrev m_Reckoner_costAt : Nat := 225
abbrev m_Reckoner_worstWith : Nat := 226
abbrev m_Reckoner_worstOfLooks : Nat := 227
abbrev m_Reckoner_firstLook : Nat := 228
abbrev m_Hook_looks : Nat := 229
abbrev m_Mod_lookAt : Nat := 230
abbrev m_Mod_laysLooks : Nat := 231
abbrev m_Mod_looks : Nat := 232
abbrev m_Tray_hasTwins : Nat := 233
abbrev m_Reckoner_secondsBy : Nat := 234
abbrev m_Reckoner_fillRounds : Nat := 235
abbrev m_Reckoner_secondsOfRound : Nat := 236
abbrev m_Reckoner_orderRound : Nat := 237
abbrev m_Hook_rounds : Nat := 238
abbrev m_Mod_goesRound : Nat := 239
abbrev m_Mod_rounds : Nat := 240
abbrev m_Hanging_joinedWithRemainder : Nat := 241
abbrev m_Hook_pleats : Nat := 242
abbrev m_Mod_pleats : Nat := 243
abbrev m_Reckoner_power : Nat := 244
abbrev m_Reckoner_upperOfGroup : Nat := 245
abbrev m_Reckoner_averageUpper : Nat := 246
abbrev m_Reckoner_averageLower : Nat := 247
abbrev m_Reckoner_commonDivisor : Nat := 248
abbrev m_Hook_average : Nat := 249
abbrev m_Mod_power : Nat := 250
abbrev m_Mod_hungAtOnce : Nat := 251
abbrev m_Mod_averageBy : Nat := 252
abbrev m_Mod_common : Nat := 253
abbrev m_Mod_average : Nat := 254
abbrev m_Hook_bestLook : Nat := 255
abbrev m_Mod_bestLook : Nat := 256
abbrev m_Window_rightOneOut : Nat := 257
abbrev m_Hook_oneOut : Nat := 258
abbrev m_Mod_rightOut : Nat := 259
abbrev m_Mod_oneOut : Nat := 260
abbrev m_Hook_out : Nat := 261
abbrev m_Mod_out : Nat := 262
abbrev m_Window_gaps : Nat := 263
abbrev m_Tray_least : Nat := 264
abbrev m_Hook_sightCode : Nat := 265
abbrev m_Watcher_seenAt : Nat := 266
abbrev m_Watcher_narrowed : Nat := 267
abbrev m_Watcher_survey : Nat := 268
abbrev m_Watcher_has : Nat := 269
abbrev m_Watcher_fits : Nat := 270
abbrev m_Watcher_addMoved : Nat := 271
abbrev m_Watcher_countBehind : Nat := 272
abbrev m_Watcher_countFits : Nat := 273
abbrev m_Hook_seen : Nat := 274
abbrev m_Mod_noSeen : Nat := 275
abbrev m_Mod_seen : Nat := 276
abbrev m_Watcher_countAheadOf : Nat := 277
abbrev m_Watcher_countAhead : Nat := 278
abbrev m_Watcher_countThrough : Nat := 279
abbrev m_Watcher_ringInAll : Nat := 280
abbrev m_Hook_sure : Nat := 281
abbrev m_Mod_sure : Nat := 282
abbrev m_Arr_fill_aJJ : Nat := 283
abbrev m_Tray_make : Nat := 284
abbrev m_Hook_numbers : Nat := 285
abbrev m_Mod_numbers : Nat := 286
abbrev m_Tray_cut : Nat := 287
abbrev m_Tray_put : Nat := 288
abbrev m_Hook_write : Nat := 289
abbrev m_Mod_cut : Nat := 290
abbrev m_Mod_write : Nat := 291
abbrev m_Hanging_seenAt : Nat := 292
abbrev m_Hook_copy : Nat := 293
abbrev m_Mod_sagOver : Nat := 294
abbrev m_Mod_copy : Nat := 295
abbrev m_Window_takeFrom : Nat := 296
abbrev m_Hook_image : Nat := 297
abbrev m_Mod_image : Nat := 298
abbrev m_Hook_restore : Nat := 299
abbrev m_Mod_restore : Nat := 300
abbrev m_Intg_bitCount : Nat := 301
abbrev m_Hook_count : Nat := 302
abbrev m_Mod_brokenMany : Nat := 303
abbrev m_Mod_count : Nat := 304
abbrev m_Lw_law : Nat := 305
def cd_Tokens_init : List (Nat × AB) := [
  (0, ([(0, .aload_n 0, 1, (0, 0, 0, 0, 0), [], []), (1, .invokespecial 3, 3, (0, 1, 2, 0, 42), [], []), (4, .aload_n 0, 1, (0, 0, 0, 0, 0), [], []), (5, .iconst 0, 1, (0, 0, 0, 0, 0), [], []), (6, .newarray .byte, 2, (22, 0, 0, 0, 0), [], [])], 8, [0])),
  (8, ([(8, .putfield 9, 3, (6, 0, 2, 43, 0), [], [])], 11, [0])),
  (11, ([(11, .aload_n 0, 1, (0, 0, 0, 0, 0), [], []), (12, .iconst 0, 1, (0, 0, 0, 0, 0), [], []), (13, .putfield 15, 3, (6, 1, 0, 44, 0), [], [])], 16, [0])),
  (16, ([(16, .aload_n 0, 1, (0, 0, 0, 0, 0), [], []), (17, .iconst 0, 1, (0, 0, 0, 0, 0), [], []), (18, .putfield 19, 3, (6, 2, 0, 45, 0), [], [])], 21, [0])),
  (21, ([(21, .aload_n 0, 1, (0, 0, 0, 0, 0), [], []), (22, .iconst 0, 1, (0, 0, 0, 0, 0), [], []), (23, .putfield 22, 3, (6, 3, 0, 46, 0), [], [])], 26, [0])),
  (26, ([(26, .aload_n 0, 1, (0, 0, 0, 0, 0), [], []), (27, .iconst 0, 1, (0, 0, 0, 0, 0), [], []), (28, .putfield 25, 3, (6, 4, 0, 49, 0), [], [])], 31, [0])),
  (31, ([(31, .aload_n 0, 1, (0, 0, 0, 0, 0), [], []), (32, .iconst 0, 1, (0, 0, 0, 0, 0), [], []), (33, .putfield 28, 3, (6, 5, 0, 51, 0), [], [])], 36, [0])),
  (36, ([(36, .aload_n 0, 1, (0, 0, 0, 0, 0), [], []), (37, .iconst 0, 1, (0, 0, 0, 0, 0), [], []), (38, .putfield 31, 3, (6, 6, 0, 54, 0), [], [])], 41, [0])),
  (41, ([(41, .aload_n 0, 1, (0, 0, 0, 0, 0), [], []), (42, .iconst (-1), 1, (0, 0, 0, 0, 0), [], []), (43, .putfield 34, 3, (6, 7, 0, 56, 0), [], [])], 46, [])),
  (46, ([(46, .return_, 1, (0, 0, 0, 0, 0), [], [])], 0, []))]
def cd_Law_init : List (Nat × AB) := [
  (0, ([(0, .aload_n 0, 1, (0, 0, 0, 0, 0), [], []), (1, .invokespecial 3, 3, (0, 1, 2, 0, 81), [], []), (4, .aload_n 0, 1, (0, 0, 0, 0, 0), [], []), (5, .sipush 900, 3, (0, 0, 0, 0, 0), [], []), (8, .newarray .int, 2, (20, 0, 0, 0, 0), [], [])], 10, [0])),
  (10, ([(10, .putfield 9, 3, (3, 0, 2, 82, 0), [], [])], 13, [0])),
  (13, ([(13, .aload_n 0, 1, (0, 0, 0, 0, 0), [], []), (14, .bipush 64, 2, (0, 0, 0, 0, 0), [], []), (16, .newarray .int, 2, (20, 0, 0, 0, 0), [], [])], 18, [0])),
  (18, ([(18, .putfield 15, 3, (3, 1, 2, 83, 0), [], [])], 21, [0])),
  (21, ([(21, .aload_n 0, 1, (0, 0, 0, 0, 0), [], []), (22, .iconst 0, 1, (0, 0, 0, 0, 0), [], []), (23, .putfield 18, 3, (3, 2, 0, 84, 0), [], [])], 26, [0])),
  (26, ([(26, .aload_n 0, 1, (0, 0, 0, 0, 0), [], []), (27, .iconst 0, 1, (0, 0, 0, 0, 0), [], []), (28, .putfield 22, 3, (3, 3, 0, 85, 0), [], [])], 31, [])),
  (31, ([(31, .return_, 1, (0, 0, 0, 0, 0), [], [])], 0, []))]
def cd_Reader_init : List (Nat × AB) := [
  (0, ([(0, .aload_n 0, 1, (0, 0, 0, 0, 0), [], []), (1, .invokespecial 3, 3, (0, 1, 2, 0, 36), [], []), (4, .aload_n 0, 1, (0, 0, 0, 0, 0), [], []), (5, .new 9, 3, (6, 8, 0, 37, 0), [], [])], 8, [0])),
  (8, ([(8, .dup, 1, (0, 0, 0, 0, 0), [], []), (9, .invokespecial 11, 3, (0, 1, 11, 6, 39), [0], [1])], 0, [])),
  (12, ([(12, .putfield 12, 3, (5, 0, 2, 96, 0), [], [])], 15, [0])),
  (15, ([(15, .aload_n 0, 1, (0, 0, 0, 0, 0), [], []), (16, .new 18, 3, (3, 4, 0, 76, 0), [], [])], 19, [])),
  (19, ([(19, .dup, 1, (0, 0, 0, 0, 0), [], []), (20, .invokespecial 20, 3, (1, 1, 11, 3, 78), [], [1])], 0, [])),
  (23, ([(23, .putfield 21, 3, (5, 1, 2, 97, 0), [], [])], 26, [])),
  (26, ([(26, .return_, 1, (0, 0, 0, 0, 0), [], [])], 0, []))]
def cd_Arr_fill_aII : List (Nat × AB) := [
  (0, ([(0, .iconst 0, 1, (0, 0, 0, 0, 0), [], []), (1, .istore_n 2, 1, (0, 0, 0, 0, 0), [], []), (2, .aload_n 0, 1, (0, 0, 0, 0, 0), [], []), (3, .arraylength, 1, (20, 0, 0, 0, 0), [], []), (4, .istore_n 3, 1, (0, 0, 0, 0, 0), [], [])], 5, [0, 1, 2, 3])),
  (5, ([(5, .iload_n 2, 1, (0, 0, 0, 0, 0), [], []), (6, .iload_n 3, 1, (0, 0, 0, 0, 0), [], []), (7, .if_icmp .ge 13, 3, (20, 0, 0, 0, 0), [], [0, 1, 2, 3])], 0, [])),
  (10, ([(10, .aload_n 0, 1, (0, 0, 0, 0, 0), [], []), (11, .iload_n 2, 1, (0, 0, 0, 0, 0), [], []), (12, .iload_n 1, 1, (0, 0, 0, 0, 0), [], []), (13, .iastore, 1, (0, 0, 0, 0, 0), [], [])], 14, [0, 1, 2, 3])),
  (14, ([(14, .iinc 2 1, 3, (0, 0, 0, 0, 0), [], []), (17, .goto (-12), 3, (5, 0, 0, 0, 0), [0, 1, 2, 3], [])], 0, [])),
  (20, ([(20, .return_, 1, (0, 0, 0, 0, 0), [], [])], 0, []))]
def cd_Window_empty : List (Nat × AB) := [
  (0, ([(0, .aload_n 0, 1, (0, 0, 0, 0, 0), [], []), (1, .getfield 9, 3, (9, 0, 2, 116, 0), [], []), (4, .iconst 0, 1, (0, 0, 0, 0, 0), [], []), (5, .invokestatic 30, 3, (3, 2, 1, 0, 113), [0], [4])], 0, [])),
  (8, ([(8, .aload_n 0, 1, (0, 0, 0, 0, 0), [], []), (9, .getfield 15, 3, (9, 1, 2, 119, 0), [], []), (12, .iconst 0, 1, (0, 0, 0, 0, 0), [], []), (13, .invokestatic 30, 3, (3, 2, 1, 0, 113), [0], [4])], 0, [])),
  (16, ([(16, .aload_n 0, 1, (0, 0, 0, 0, 0), [], []), (17, .getfield 18, 3, (9, 2, 2, 122, 0), [], []), (20, .iconst 0, 1, (0, 0, 0, 0, 0), [], []), (21, .invokestatic 30, 3, (3, 2, 1, 0, 113), [0], [4])], 0, [])),
  (24, ([(24, .aload_n 0, 1, (0, 0, 0, 0, 0), [], []), (25, .getfield 21, 3, (9, 3, 2, 126, 0), [], []), (28, .iconst 0, 1, (0, 0, 0, 0, 0), [], []), (29, .invokestatic 30, 3, (3, 2, 1, 0, 113), [0], [4])], 0, [])),
  (32, ([(32, .aload_n 0, 1, (0, 0, 0, 0, 0), [], []), (33, .getfield 24, 3, (9, 4, 2, 130, 0), [], []), (36, .iconst 0, 1, (0, 0, 0, 0, 0), [], []), (37, .invokestatic 30, 3, (3, 2, 1, 0, 113), [0], [4])], 0, [])),
  (40, ([(40, .aload_n 0, 1, (0, 0, 0, 0, 0), [], []), (41, .iconst 0, 1, (0, 0, 0, 0, 0), [], []), (42, .putfield 36, 3, (9, 5, 0, 133, 0), [], [])], 45, [0])),
  (45, ([(45, .aload_n 0, 1, (0, 0, 0, 0, 0), [], []), (46, .iconst 0, 1, (0, 0, 0, 0, 0), [], []), (47, .putfield 40, 3, (9, 6, 0, 141, 0), [], [])], 50, [0])),
  (50, ([(50, .aload_n 0, 1, (0, 0, 0, 0, 0), [], []), (51, .iconst 0, 1, (0, 0, 0, 0, 0), [], []), (52, .putfield 43, 3, (9, 7, 0, 150, 0), [], [])], 55, [0])),
  (55, ([(55, .aload_n 0, 1, (0, 0, 0, 0, 0), [], []), (56, .iconst 1, 1, (0, 0, 0, 0, 0), [], []), (57, .putfield 46, 3, (9, 8, 0, 153, 0), [], [])], 60, [0])),
  (60, ([(60, .aload_n 0, 1, (0, 0, 0, 0, 0), [], []), (61, .iconst 5, 1, (0, 0, 0, 0, 0), [], []), (62, .putfield 49, 3, (9, 9, 0, 156, 0), [], [])], 65, [0])),
  (65, ([(65, .aload_n 0, 1, (0, 0, 0, 0, 0), [], []), (66, .iconst 2, 1, (0, 0, 0, 0, 0), [], []), (67, .putfield 52, 3, (9, 10, 0, 159, 0), [], [])], 70, [0])),
  (70, ([(70, .aload_n 0, 1, (0, 0, 0, 0, 0), [], []), (71, .iconst 0, 1, (0, 0, 0, 0, 0), [], []), (72, .putfield 55, 3, (9, 11, 0, 163, 0), [], [])], 75, [0])),
  (75, ([(75, .aload_n 0, 1, (0, 0, 0, 0, 0), [], []), (76, .iconst 0, 1, (0, 0, 0, 0, 0), [], []), (77, .putfield 58, 3, (9, 12, 0, 167, 0), [], [])], 80, [0])),
  (80, ([(80, .aload_n 0, 1, (0, 0, 0, 0, 0), [], []), (81, .bipush 10, 2, (0, 0, 0, 0, 0), [], []), (83, .putfield 61, 3, (9, 13, 0, 170, 0), [], [])], 86, [0])),
  (86, ([(86, .aload_n 0, 1, (0, 0, 0, 0, 0), [], []), (87, .iconst 0, 1, (0, 0, 0, 0, 0), [], []), (88, .putfield 64, 3, (9, 14, 0, 173, 0), [], [])], 91, [])),
  (91, ([(91, .return_, 1, (0, 0, 0, 0, 0), [], [])], 0, []))]
def cd_Window_init : List (Nat × AB) := [
  (0, ([(0, .aload_n 0, 1, (0, 0, 0, 0, 0), [], []), (1, .invokespecial 3, 3, (0, 1, 2, 0, 108), [], []), (4, .aload_n 0, 1, (0, 0, 0, 0, 0), [], []), (5, .bipush 12, 2, (0, 0, 0, 0, 0), [], []), (7, .newarray .int, 2, (20, 0, 0, 0, 0), [], [])], 9, [0])),
  (9, ([(9, .putfield 9, 3, (9, 0, 2, 116, 0), [], [])], 12, [0])),
  (12, ([(12, .aload_n 0, 1, (0, 0, 0, 0, 0), [], []), (13, .bipush 12, 2, (0, 0, 0, 0, 0), [], []), (15, .newarray .int, 2, (20, 0, 0, 0, 0), [], [])], 17, [0])),
  (17, ([(17, .putfield 15, 3, (9, 1, 2, 119, 0), [], [])], 20, [0])),
  (20, ([(20, .aload_n 0, 1, (0, 0, 0, 0, 0), [], []), (21, .bipush 12, 2, (0, 0, 0, 0, 0), [], []), (23, .newarray .int, 2, (20, 0, 0, 0, 0), [], [])], 25, [0])),
  (25, ([(25, .putfield 18, 3, (9, 2, 2, 122, 0), [], [])], 28, [0])),
  (28, ([(28, .aload_n 0, 1, (0, 0, 0, 0, 0), [], []), (29, .bipush 12, 2, (0, 0, 0, 0, 0), [], []), (31, .newarray .int, 2, (20, 0, 0, 0, 0), [], [])], 33, [0])),
  (33, ([(33, .putfield 21, 3, (9, 3, 2, 126, 0), [], [])], 36, [0])),
  (36, ([(36, .aload_n 0, 1, (0, 0, 0, 0, 0), [], []), (37, .bipush 12, 2, (0, 0, 0, 0, 0), [], []), (39, .newarray .int, 2, (20, 0, 0, 0, 0), [], [])], 41, [0])),
  (41, ([(41, .putfield 24, 3, (9, 4, 2, 130, 0), [], [])], 44, [0])),
  (44, ([(44, .aload_n 0, 1, (0, 0, 0, 0, 0), [], []), (45, .invokevirtual 27, 3, (4, 1, 11, 9, 109), [], [1])], 0, [])),
  (48, ([(48, .return_, 1, (0, 0, 0, 0, 0), [], [])], 0, []))]
def cd_Hanging_empty : List (Nat × AB) := [
  (0, ([(0, .aload_n 0, 1, (0, 0, 0, 0, 0), [], []), (1, .getfield 9, 3, (0, 0, 2, 218, 0), [], []), (4, .iconst (-1), 1, (0, 0, 0, 0, 0), [], []), (5, .invokestatic 18, 3, (3, 2, 1, 0, 217), [0], [4])], 0, [])),
  (8, ([(8, .aload_n 0, 1, (0, 0, 0, 0, 0), [], []), (9, .iconst 0, 1, (0, 0, 0, 0, 0), [], []), (10, .putfield 24, 3, (0, 1, 0, 223, 0), [], [])], 13, [0])),
  (13, ([(13, .aload_n 0, 1, (0, 0, 0, 0, 0), [], []), (14, .iconst 0, 1, (0, 0, 0, 0, 0), [], []), (15, .putfield 28, 3, (0, 2, 0, 226, 0), [], [])], 18, [])),
  (18, ([(18, .return_, 1, (0, 0, 0, 0, 0), [], [])], 0, []))]
def cd_Hanging_init : List (Nat × AB) := [
  (0, ([(0, .aload_n 0, 1, (0, 0, 0, 0, 0), [], []), (1, .invokespecial 3, 3, (0, 1, 2, 0, 212), [], []), (4, .aload_n 0, 1, (0, 0, 0, 0, 0), [], []), (5, .bipush 12, 2, (0, 0, 0, 0, 0), [], []), (7, .newarray .int, 2, (20, 0, 0, 0, 0), [], [])], 9, [0])),
  (9, ([(9, .putfield 9, 3, (0, 0, 2, 218, 0), [], [])], 12, [0])),
  (12, ([(12, .aload_n 0, 1, (0, 0, 0, 0, 0), [], []), (13, .invokevirtual 15, 3, (6, 1, 11, 0, 213), [], [1])], 0, [])),
  (16, ([(16, .return_, 1, (0, 0, 0, 0, 0), [], [])], 0, []))]
def cd_History_init : List (Nat × AB) := [
  (0, ([(0, .aload_n 0, 1, (0, 0, 0, 0, 0), [], []), (1, .invokespecial 3, 3, (0, 1, 2, 0, 241), [], []), (4, .aload_n 0, 1, (0, 0, 0, 0, 0), [], []), (5, .sipush 140, 3, (0, 0, 0, 0, 0), [], []), (8, .newarray .int, 2, (20, 0, 0, 0, 0), [], [])], 10, [0])),
  (10, ([(10, .putfield 11, 3, (1, 0, 2, 242, 0), [], [])], 13, [0])),
  (13, ([(13, .aload_n 0, 1, (0, 0, 0, 0, 0), [], []), (14, .iconst 0, 1, (0, 0, 0, 0, 0), [], []), (15, .putfield 15, 3, (1, 1, 0, 243, 0), [], [])], 18, [0])),
  (18, ([(18, .aload_n 0, 1, (0, 0, 0, 0, 0), [], []), (19, .iconst 0, 1, (0, 0, 0, 0, 0), [], []), (20, .putfield 19, 3, (1, 2, 0, 244, 0), [], [])], 23, [])),
  (23, ([(23, .return_, 1, (0, 0, 0, 0, 0), [], [])], 0, []))]
def cd_Tray_init : List (Nat × AB) := [
  (0, ([(0, .aload_n 0, 1, (0, 0, 0, 0, 0), [], []), (1, .invokespecial 3, 3, (0, 1, 2, 0, 259), [], []), (4, .aload_n 0, 1, (0, 0, 0, 0, 0), [], []), (5, .bipush 40, 2, (0, 0, 0, 0, 0), [], []), (7, .newarray .long, 2, (21, 0, 0, 0, 0), [], [])], 9, [0])),
  (9, ([(9, .putfield 9, 3, (7, 0, 2, 260, 0), [], [])], 12, [0])),
  (12, ([(12, .aload_n 0, 1, (0, 0, 0, 0, 0), [], []), (13, .iconst 0, 1, (0, 0, 0, 0, 0), [], []), (14, .putfield 15, 3, (7, 1, 0, 261, 0), [], [])], 17, [0])),
  (17, ([(17, .aload_n 0, 1, (0, 0, 0, 0, 0), [], []), (18, .iconst (-1), 1, (0, 0, 0, 0, 0), [], []), (19, .putfield 19, 3, (7, 2, 0, 262, 0), [], [])], 22, [])),
  (22, ([(22, .return_, 1, (0, 0, 0, 0, 0), [], [])], 0, []))]
def cd_Joinings_init : List (Nat × AB) := [
  (0, ([(0, .aload_n 0, 1, (0, 0, 0, 0, 0), [], []), (1, .invokespecial 3, 3, (0, 1, 2, 0, 281), [], []), (4, .aload_n 0, 1, (0, 0, 0, 0, 0), [], []), (5, .sipush 1728, 3, (0, 0, 0, 0, 0), [], []), (8, .newarray .int, 2, (20, 0, 0, 0, 0), [], [])], 10, [0])),
  (10, ([(10, .putfield 9, 3, (2, 0, 2, 282, 0), [], [])], 13, [0])),
  (13, ([(13, .aload_n 0, 1, (0, 0, 0, 0, 0), [], []), (14, .bipush 13, 2, (0, 0, 0, 0, 0), [], []), (16, .newarray .int, 2, (20, 0, 0, 0, 0), [], [])], 18, [0])),
  (18, ([(18, .putfield 15, 3, (2, 1, 2, 283, 0), [], [])], 21, [0])),
  (21, ([(21, .aload_n 0, 1, (0, 0, 0, 0, 0), [], []), (22, .bipush 12, 2, (0, 0, 0, 0, 0), [], []), (24, .newarray .int, 2, (20, 0, 0, 0, 0), [], [])], 26, [0])),
  (26, ([(26, .putfield 18, 3, (2, 4, 2, 288, 0), [], [])], 29, [0])),
  (29, ([(29, .aload_n 0, 1, (0, 0, 0, 0, 0), [], []), (30, .iconst 0, 1, (0, 0, 0, 0, 0), [], []), (31, .putfield 21, 3, (2, 2, 0, 285, 0), [], [])], 34, [0])),
  (34, ([(34, .aload_n 0, 1, (0, 0, 0, 0, 0), [], []), (35, .iconst 0, 1, (0, 0, 0, 0, 0), [], []), (36, .putfield 25, 3, (2, 3, 3, 287, 0), [], [])], 39, [0])),
  (39, ([(39, .aload_n 0, 1, (0, 0, 0, 0, 0), [], []), (40, .iconst 0, 1, (0, 0, 0, 0, 0), [], []), (41, .putfield 29, 3, (2, 5, 0, 290, 0), [], [])], 44, [0])),
  (44, ([(44, .aload_n 0, 1, (0, 0, 0, 0, 0), [], []), (45, .iconst 0, 1, (0, 0, 0, 0, 0), [], []), (46, .putfield 32, 3, (2, 6, 0, 292, 0), [], [])], 49, [0])),
  (49, ([(49, .aload_n 0, 1, (0, 0, 0, 0, 0), [], []), (50, .iconst 0, 1, (0, 0, 0, 0, 0), [], []), (51, .putfield 35, 3, (2, 7, 3, 294, 0), [], [])], 54, [])),
  (54, ([(54, .return_, 1, (0, 0, 0, 0, 0), [], [])], 0, []))]
def cd_Mender_init : List (Nat × AB) := [
  (0, ([(0, .aload_n 0, 1, (0, 0, 0, 0, 0), [], []), (1, .invokespecial 3, 3, (0, 1, 2, 0, 318), [], []), (4, .aload_n 0, 1, (0, 0, 0, 0, 0), [], []), (5, .bipush 12, 2, (0, 0, 0, 0, 0), [], []), (7, .newarray .int, 2, (20, 0, 0, 0, 0), [], [])], 9, [0])),
  (9, ([(9, .putfield 9, 3, (4, 0, 2, 319, 0), [], [])], 12, [0])),
  (12, ([(12, .aload_n 0, 1, (0, 0, 0, 0, 0), [], []), (13, .iconst 0, 1, (0, 0, 0, 0, 0), [], []), (14, .putfield 15, 3, (4, 1, 0, 321, 0), [], [])], 17, [0])),
  (17, ([(17, .aload_n 0, 1, (0, 0, 0, 0, 0), [], []), (18, .iconst 0, 1, (0, 0, 0, 0, 0), [], []), (19, .putfield 19, 3, (4, 2, 0, 323, 0), [], [])], 22, [0])),
  (22, ([(22, .aload_n 0, 1, (0, 0, 0, 0, 0), [], []), (23, .sipush 144, 3, (0, 0, 0, 0, 0), [], []), (26, .newarray .int, 2, (20, 0, 0, 0, 0), [], [])], 28, [0])),
  (28, ([(28, .putfield 22, 3, (4, 3, 2, 325, 0), [], [])], 31, [0])),
  (31, ([(31, .aload_n 0, 1, (0, 0, 0, 0, 0), [], []), (32, .bipush 13, 2, (0, 0, 0, 0, 0), [], []), (34, .newarray .int, 2, (20, 0, 0, 0, 0), [], [])], 36, [])),
  (36, ([(36, .putfield 25, 3, (4, 4, 2, 326, 0), [], [])], 39, [])),
  (39, ([(39, .return_, 1, (0, 0, 0, 0, 0), [], [])], 0, []))]
def cd_Watcher_init : List (Nat × AB) := [
  (0, ([(0, .aload_n 0, 1, (0, 0, 0, 0, 0), [], []), (1, .invokespecial 3, 3, (0, 1, 2, 0, 343), [], []), (4, .aload_n 0, 1, (0, 0, 0, 0, 0), [], []), (5, .sipush 144, 3, (0, 0, 0, 0, 0), [], []), (8, .newarray .int, 2, (20, 0, 0, 0, 0), [], [])], 10, [0])),
  (10, ([(10, .putfield 9, 3, (8, 0, 2, 344, 0), [], [])], 13, [0])),
  (13, ([(13, .aload_n 0, 1, (0, 0, 0, 0, 0), [], []), (14, .iconst 0, 1, (0, 0, 0, 0, 0), [], []), (15, .putfield 15, 3, (8, 1, 0, 345, 0), [], [])], 18, [0])),
  (18, ([(18, .aload_n 0, 1, (0, 0, 0, 0, 0), [], []), (19, .iconst 0, 1, (0, 0, 0, 0, 0), [], []), (20, .putfield 19, 3, (8, 2, 0, 346, 0), [], [])], 23, [])),
  (23, ([(23, .return_, 1, (0, 0, 0, 0, 0), [], [])], 0, []))]
def cd_Hook_init : List (Nat × AB) := [
  (0, ([(0, .aload_n 0, 1, (0, 0, 0, 0, 0), [], []), (1, .invokespecial 3, 3, (0, 1, 2, 0, 28), [], []), (4, .aload_n 0, 1, (0, 0, 0, 0, 0), [], []), (5, .sipush 900, 3, (0, 0, 0, 0, 0), [], []), (8, .newarray .byte, 2, (22, 0, 0, 0, 0), [], [])], 10, [0])),
  (10, ([(10, .putfield 9, 3, (10, 0, 2, 354, 0), [], [])], 13, [0])),
  (13, ([(13, .aload_n 0, 1, (0, 0, 0, 0, 0), [], []), (14, .iconst 0, 1, (0, 0, 0, 0, 0), [], []), (15, .putfield 13, 3, (10, 1, 0, 355, 0), [], [])], 18, [0])),
  (18, ([(18, .aload_n 0, 1, (0, 0, 0, 0, 0), [], []), (19, .new 17, 3, (5, 2, 0, 31, 0), [], [])], 22, [0])),
  (22, ([(22, .dup, 1, (0, 0, 0, 0, 0), [], []), (23, .invokespecial 19, 3, (2, 1, 11, 5, 33), [0], [1])], 0, [])),
  (26, ([(26, .putfield 20, 3, (10, 2, 2, 356, 0), [], [])], 29, [0])),
  (29, ([(29, .aload_n 0, 1, (0, 0, 0, 0, 0), [], []), (30, .iconst 0, 1, (0, 0, 0, 0, 0), [], []), (31, .putfield 24, 3, (10, 3, 0, 357, 0), [], [])], 34, [0])),
  (34, ([(34, .aload_n 0, 1, (0, 0, 0, 0, 0), [], []), (35, .iconst (-1), 1, (0, 0, 0, 0, 0), [], []), (36, .putfield 27, 3, (10, 4, 0, 358, 0), [], [])], 39, [0])),
  (39, ([(39, .aload_n 0, 1, (0, 0, 0, 0, 0), [], []), (40, .new 30, 3, (9, 15, 0, 103, 0), [], [])], 43, [0])),
  (43, ([(43, .dup, 1, (0, 0, 0, 0, 0), [], []), (44, .invokespecial 32, 3, (5, 1, 11, 9, 105), [0], [1])], 0, [])),
  (47, ([(47, .putfield 33, 3, (10, 5, 2, 359, 0), [], [])], 50, [0])),
  (50, ([(50, .aload_n 0, 1, (0, 0, 0, 0, 0), [], []), (51, .new 30, 3, (9, 15, 0, 103, 0), [], [])], 54, [0])),
  (54, ([(54, .dup, 1, (0, 0, 0, 0, 0), [], []), (55, .invokespecial 32, 3, (5, 1, 11, 9, 105), [0], [1])], 0, [])),
  (58, ([(58, .putfield 37, 3, (10, 6, 2, 360, 0), [], [])], 61, [0])),
  (61, ([(61, .aload_n 0, 1, (0, 0, 0, 0, 0), [], []), (62, .new 40, 3, (0, 3, 0, 207, 0), [], [])], 65, [0])),
  (65, ([(65, .dup, 1, (0, 0, 0, 0, 0), [], []), (66, .invokespecial 42, 3, (7, 1, 11, 0, 209), [0], [1])], 0, [])),
  (69, ([(69, .putfield 43, 3, (10, 7, 2, 361, 0), [], [])], 72, [0])),
  (72, ([(72, .aload_n 0, 1, (0, 0, 0, 0, 0), [], []), (73, .new 40, 3, (0, 3, 0, 207, 0), [], [])], 76, [0])),
  (76, ([(76, .dup, 1, (0, 0, 0, 0, 0), [], []), (77, .invokespecial 42, 3, (7, 1, 11, 0, 209), [0], [1])], 0, [])),
  (80, ([(80, .putfield 47, 3, (10, 8, 2, 362, 0), [], [])], 83, [0])),
  (83, ([(83, .aload_n 0, 1, (0, 0, 0, 0, 0), [], []), (84, .new 50, 3, (1, 3, 0, 236, 0), [], [])], 87, [0])),
  (87, ([(87, .dup, 1, (0, 0, 0, 0, 0), [], []), (88, .invokespecial 52, 3, (8, 1, 11, 1, 238), [0], [1])], 0, [])),
  (91, ([(91, .putfield 53, 3, (10, 9, 2, 363, 0), [], [])], 94, [0])),
  (94, ([(94, .aload_n 0, 1, (0, 0, 0, 0, 0), [], []), (95, .iconst 4, 1, (0, 0, 0, 0, 0), [], []), (96, .anewarray 57, 3, (24, 0, 0, 253, 0), [], [])], 99, [0])),
  (99, ([(99, .putfield 59, 3, (10, 10, 2, 364, 0), [], [])], 102, [0])),
  (102, ([(102, .iconst 0, 1, (0, 0, 0, 0, 0), [], []), (103, .istore_n 1, 1, (0, 0, 0, 0, 0), [], [])], 104, [0, 1])),
  (104, ([(104, .iload_n 1, 1, (0, 0, 0, 0, 0), [], []), (105, .iconst 4, 1, (0, 0, 0, 0, 0), [], []), (106, .if_icmp .ge 22, 3, (128, 0, 0, 0, 0), [0], [0, 1])], 0, [])),
  (109, ([(109, .aload_n 0, 1, (0, 0, 0, 0, 0), [], []), (110, .getfield 59, 3, (10, 10, 2, 364, 0), [], []), (113, .iload_n 1, 1, (0, 0, 0, 0, 0), [], []), (114, .new 57, 3, (7, 3, 0, 253, 0), [], [])], 117, [0, 1])),
  (117, ([(117, .dup, 1, (0, 0, 0, 0, 0), [], []), (118, .invokespecial 63, 3, (9, 1, 11, 7, 256), [0, 1], [1])], 0, [])),
  (121, ([(121, .aastore, 1, (24, 7, 0, 0, 0), [], [])], 122, [0, 1])),
  (122, ([(122, .iinc 1 1, 3, (0, 0, 0, 0, 0), [], []), (125, .goto (-21), 3, (104, 0, 0, 0, 0), [0, 1], [])], 0, [])),
  (128, ([(128, .aload_n 0, 1, (0, 0, 0, 0, 0), [], []), (129, .iconst 2, 1, (0, 0, 0, 0, 0), [], []), (130, .anewarray 30, 3, (25, 0, 0, 103, 0), [], [])], 133, [0])),
  (133, ([(133, .putfield 64, 3, (10, 11, 2, 365, 0), [], [])], 136, [0])),
  (136, ([(136, .aload_n 0, 1, (0, 0, 0, 0, 0), [], []), (137, .iconst 2, 1, (0, 0, 0, 0, 0), [], []), (138, .anewarray 40, 3, (26, 0, 0, 207, 0), [], [])], 141, [0])),
  (141, ([(141, .putfield 68, 3, (10, 12, 2, 366, 0), [], [])], 144, [0])),
  (144, ([(144, .aload_n 0, 1, (0, 0, 0, 0, 0), [], []), (145, .iconst 2, 1, (0, 0, 0, 0, 0), [], []), (146, .newarray .boolean, 2, (23, 0, 0, 0, 0), [], [])], 148, [0])),
  (148, ([(148, .putfield 72, 3, (10, 13, 2, 367, 0), [], [])], 151, [0])),
  (151, ([(151, .iconst 0, 1, (0, 0, 0, 0, 0), [], []), (152, .istore_n 1, 1, (0, 0, 0, 0, 0), [], [])], 153, [0, 1])),
  (153, ([(153, .iload_n 1, 1, (0, 0, 0, 0, 0), [], []), (154, .iconst 2, 1, (0, 0, 0, 0, 0), [], []), (155, .if_icmp .ge 35, 3, (190, 0, 0, 0, 0), [0], [0, 1])], 0, [])),
  (158, ([(158, .aload_n 0, 1, (0, 0, 0, 0, 0), [], []), (159, .getfield 64, 3, (10, 11, 2, 365, 0), [], []), (162, .iload_n 1, 1, (0, 0, 0, 0, 0), [], []), (163, .new 30, 3, (9, 15, 0, 103, 0), [], [])], 166, [0, 1])),
  (166, ([(166, .dup, 1, (0, 0, 0, 0, 0), [], []), (167, .invokespecial 32, 3, (5, 1, 11, 9, 105), [0, 1], [1])], 0, [])),
  (170, ([(170, .aastore, 1, (25, 9, 0, 0, 0), [], [])], 171, [0, 1])),
  (171, ([(171, .aload_n 0, 1, (0, 0, 0, 0, 0), [], []), (172, .getfield 68, 3, (10, 12, 2, 366, 0), [], []), (175, .iload_n 1, 1, (0, 0, 0, 0, 0), [], []), (176, .new 40, 3, (0, 3, 0, 207, 0), [], [])], 179, [0, 1])),
  (179, ([(179, .dup, 1, (0, 0, 0, 0, 0), [], []), (180, .invokespecial 42, 3, (7, 1, 11, 0, 209), [0, 1], [1])], 0, [])),
  (183, ([(183, .aastore, 1, (26, 0, 0, 0, 0), [], [])], 184, [0, 1])),
  (184, ([(184, .iinc 1 1, 3, (0, 0, 0, 0, 0), [], []), (187, .goto (-34), 3, (153, 0, 0, 0, 0), [0, 1], [])], 0, [])),
  (190, ([(190, .aload_n 0, 1, (0, 0, 0, 0, 0), [], []), (191, .new 76, 3, (2, 8, 0, 276, 0), [], [])], 194, [0])),
  (194, ([(194, .dup, 1, (0, 0, 0, 0, 0), [], []), (195, .invokespecial 78, 3, (10, 1, 11, 2, 278), [0], [1])], 0, [])),
  (198, ([(198, .putfield 79, 3, (10, 14, 2, 368, 0), [], [])], 201, [0])),
  (201, ([(201, .aload_n 0, 1, (0, 0, 0, 0, 0), [], []), (202, .new 83, 3, (4, 5, 0, 313, 0), [], [])], 205, [0])),
  (205, ([(205, .dup, 1, (0, 0, 0, 0, 0), [], []), (206, .invokespecial 85, 3, (11, 1, 11, 4, 315), [0], [1])], 0, [])),
  (209, ([(209, .putfield 86, 3, (10, 15, 2, 369, 0), [], [])], 212, [0])),
  (212, ([(212, .aload_n 0, 1, (0, 0, 0, 0, 0), [], []), (213, .new 90, 3, (8, 3, 0, 338, 0), [], [])], 216, [0])),
  (216, ([(216, .dup, 1, (0, 0, 0, 0, 0), [], []), (217, .invokespecial 92, 3, (12, 1, 11, 8, 340), [0], [1])], 0, [])),
  (220, ([(220, .putfield 93, 3, (10, 16, 2, 370, 0), [], [])], 223, [0])),
  (223, ([(223, .aload_n 0, 1, (0, 0, 0, 0, 0), [], []), (224, .sipush 3456, 3, (0, 0, 0, 0, 0), [], []), (227, .newarray .int, 2, (20, 0, 0, 0, 0), [], [])], 229, [0])),
  (229, ([(229, .putfield 97, 3, (10, 17, 2, 371, 0), [], [])], 232, [0])),
  (232, ([(232, .aload_n 0, 1, (0, 0, 0, 0, 0), [], []), (233, .bipush 8, 2, (0, 0, 0, 0, 0), [], []), (235, .newarray .int, 2, (20, 0, 0, 0, 0), [], [])], 237, [])),
  (237, ([(237, .putfield 101, 3, (10, 18, 2, 372, 0), [], [])], 240, [])),
  (240, ([(240, .return_, 1, (0, 0, 0, 0, 0), [], [])], 0, []))]
def cd_Mod_plain : List (Nat × AB) := [
  (0, ([(0, .iconst 0, 1, (0, 0, 0, 0, 0), [], []), (1, .istore_n 1, 1, (0, 0, 0, 0, 0), [], [])], 2, [0, 1])),
  (2, ([(2, .iload_n 1, 1, (0, 0, 0, 0, 0), [], []), (3, .sipush 1115, 3, (0, 0, 0, 0, 0), [], []), (6, .if_icmp .ge 13, 3, (19, 0, 0, 0, 0), [0], [0, 1])], 0, [])),
  (9, ([(9, .aload_n 0, 1, (0, 0, 0, 0, 0), [], []), (10, .iload_n 1, 1, (0, 0, 0, 0, 0), [], []), (11, .iconst 0, 1, (0, 0, 0, 0, 0), [], []), (12, .iastore, 1, (0, 0, 0, 0, 0), [], [])], 13, [0, 1])),
  (13, ([(13, .iinc 1 1, 3, (0, 0, 0, 0, 0), [], []), (16, .goto (-14), 3, (2, 0, 0, 0, 0), [0, 1], [])], 0, [])),
  (19, ([(19, .aload_n 0, 1, (0, 0, 0, 0, 0), [], []), (20, .iconst 3, 1, (0, 0, 0, 0, 0), [], []), (21, .iconst 1, 1, (0, 0, 0, 0, 0), [], []), (22, .iastore, 1, (0, 0, 0, 0, 0), [], [])], 23, [0])),
  (23, ([(23, .aload_n 0, 1, (0, 0, 0, 0, 0), [], []), (24, .iconst 4, 1, (0, 0, 0, 0, 0), [], []), (25, .iconst 5, 1, (0, 0, 0, 0, 0), [], []), (26, .iastore, 1, (0, 0, 0, 0, 0), [], [])], 27, [0])),
  (27, ([(27, .aload_n 0, 1, (0, 0, 0, 0, 0), [], []), (28, .iconst 5, 1, (0, 0, 0, 0, 0), [], []), (29, .iconst 2, 1, (0, 0, 0, 0, 0), [], []), (30, .iastore, 1, (0, 0, 0, 0, 0), [], [])], 31, [0])),
  (31, ([(31, .aload_n 0, 1, (0, 0, 0, 0, 0), [], []), (32, .bipush 8, 2, (0, 0, 0, 0, 0), [], []), (34, .bipush 10, 2, (0, 0, 0, 0, 0), [], []), (36, .iastore, 1, (0, 0, 0, 0, 0), [], [])], 37, [0])),
  (37, ([(37, .iconst 0, 1, (0, 0, 0, 0, 0), [], []), (38, .istore_n 1, 1, (0, 0, 0, 0, 0), [], [])], 39, [0, 1])),
  (39, ([(39, .iload_n 1, 1, (0, 0, 0, 0, 0), [], []), (40, .bipush 12, 2, (0, 0, 0, 0, 0), [], []), (42, .if_icmp .ge 16, 3, (58, 0, 0, 0, 0), [], [0, 1])], 0, [])),
  (45, ([(45, .aload_n 0, 1, (0, 0, 0, 0, 0), [], []), (46, .bipush 61, 2, (0, 0, 0, 0, 0), [], []), (48, .iload_n 1, 1, (0, 0, 0, 0, 0), [], []), (49, .iadd, 1, (0, 0, 0, 0, 0), [], []), (50, .iconst (-1), 1, (0, 0, 0, 0, 0), [], []), (51, .iastore, 1, (0, 0, 0, 0, 0), [], [])], 52, [0, 1])),
  (52, ([(52, .iinc 1 1, 3, (0, 0, 0, 0, 0), [], []), (55, .goto (-16), 3, (39, 0, 0, 0, 0), [0, 1], [])], 0, [])),
  (58, ([(58, .return_, 1, (0, 0, 0, 0, 0), [], [])], 0, []))]
def cd_Mod_init : List (Nat × AB) := [
  (0, ([(0, .aload_n 0, 1, (0, 0, 0, 0, 0), [], []), (1, .invokespecial 7, 3, (0, 1, 2, 0, 1251), [], []), (4, .aload_n 0, 1, (0, 0, 0, 0, 0), [], []), (5, .sipush 3345, 3, (0, 0, 0, 0, 0), [], []), (8, .newarray .int, 2, (20, 0, 0, 0, 0), [], [])], 10, [0])),
  (10, ([(10, .putfield 13, 3, (11, 1, 2, 1256, 0), [], [])], 13, [0])),
  (13, ([(13, .aload_n 0, 1, (0, 0, 0, 0, 0), [], []), (14, .iconst 2, 1, (0, 0, 0, 0, 0), [], []), (15, .newarray .boolean, 2, (23, 0, 0, 0, 0), [], [])], 17, [0])),
  (17, ([(17, .putfield 17, 3, (11, 2, 2, 1257, 0), [], [])], 20, [0])),
  (20, ([(20, .aload_n 0, 1, (0, 0, 0, 0, 0), [], []), (21, .sipush 900, 3, (0, 0, 0, 0, 0), [], []), (24, .newarray .int, 2, (20, 0, 0, 0, 0), [], [])], 26, [0])),
  (26, ([(26, .putfield 21, 3, (11, 3, 2, 1258, 0), [], [])], 29, [0])),
  (29, ([(29, .aload_n 0, 1, (0, 0, 0, 0, 0), [], []), (30, .sipush 1115, 3, (0, 0, 0, 0, 0), [], []), (33, .newarray .int, 2, (20, 0, 0, 0, 0), [], [])], 35, [0])),
  (35, ([(35, .putfield 24, 3, (11, 4, 2, 1259, 0), [], [])], 38, [0])),
  (38, ([(38, .aload_n 0, 1, (0, 0, 0, 0, 0), [], []), (39, .iconst (-1), 1, (0, 0, 0, 0, 0), [], []), (40, .putfield 27, 3, (11, 14, 0, 1269, 0), [], [])], 43, [0])),
  (43, ([(43, .aload_n 0, 1, (0, 0, 0, 0, 0), [], []), (44, .sipush 900, 3, (0, 0, 0, 0, 0), [], []), (47, .newarray .int, 2, (20, 0, 0, 0, 0), [], [])], 49, [0])),
  (49, ([(49, .putfield 30, 3, (11, 15, 2, 1270, 0), [], [])], 52, [0])),
  (52, ([(52, .aload_n 0, 1, (0, 0, 0, 0, 0), [], []), (53, .bipush 14, 2, (0, 0, 0, 0, 0), [], []), (55, .newarray .int, 2, (20, 0, 0, 0, 0), [], [])], 57, [0])),
  (57, ([(57, .putfield 33, 3, (11, 16, 2, 1271, 0), [], [])], 60, [0])),
  (60, ([(60, .aload_n 0, 1, (0, 0, 0, 0, 0), [], []), (61, .sipush 2197, 3, (0, 0, 0, 0, 0), [], []), (64, .newarray .long, 2, (21, 0, 0, 0, 0), [], [])], 66, [0])),
  (66, ([(66, .putfield 36, 3, (11, 19, 2, 1274, 0), [], [])], 69, [0])),
  (69, ([(69, .aload_n 0, 1, (0, 0, 0, 0, 0), [], []), (70, .bipush 12, 2, (0, 0, 0, 0, 0), [], []), (72, .newarray .int, 2, (20, 0, 0, 0, 0), [], [])], 74, [0])),
  (74, ([(74, .putfield 40, 3, (11, 23, 2, 1278, 0), [], [])], 77, [0])),
  (77, ([(77, .aload_n 0, 1, (0, 0, 0, 0, 0), [], []), (78, .sipush 169, 3, (0, 0, 0, 0, 0), [], []), (81, .newarray .int, 2, (20, 0, 0, 0, 0), [], [])], 83, [0])),
  (83, ([(83, .putfield 43, 3, (11, 24, 2, 1279, 0), [], [])], 86, [0])),
  (86, ([(86, .aload_n 0, 1, (0, 0, 0, 0, 0), [], []), (87, .sipush 2197, 3, (0, 0, 0, 0, 0), [], []), (90, .newarray .int, 2, (20, 0, 0, 0, 0), [], [])], 92, [0])),
  (92, ([(92, .putfield 46, 3, (11, 25, 2, 1280, 0), [], [])], 95, [0])),
  (95, ([(95, .aload_n 0, 1, (0, 0, 0, 0, 0), [], []), (96, .sipush 2197, 3, (0, 0, 0, 0, 0), [], []), (99, .newarray .int, 2, (20, 0, 0, 0, 0), [], [])], 101, [0])),
  (101, ([(101, .putfield 49, 3, (11, 26, 2, 1281, 0), [], [])], 104, [0])),
  (104, ([(104, .aload_n 0, 1, (0, 0, 0, 0, 0), [], []), (105, .sipush 441, 3, (0, 0, 0, 0, 0), [], []), (108, .newarray .int, 2, (20, 0, 0, 0, 0), [], [])], 110, [0])),
  (110, ([(110, .putfield 52, 3, (11, 29, 2, 1284, 0), [], [])], 113, [0])),
  (113, ([(113, .aload_n 0, 1, (0, 0, 0, 0, 0), [], []), (114, .bipush 8, 2, (0, 0, 0, 0, 0), [], []), (116, .newarray .int, 2, (20, 0, 0, 0, 0), [], [])], 118, [0])),
  (118, ([(118, .putfield 55, 3, (11, 30, 2, 1285, 0), [], [])], 121, [0])),
  (121, ([(121, .aload_n 0, 1, (0, 0, 0, 0, 0), [], []), (122, .bipush 8, 2, (0, 0, 0, 0, 0), [], []), (124, .newarray .int, 2, (20, 0, 0, 0, 0), [], [])], 126, [0])),
  (126, ([(126, .putfield 58, 3, (11, 31, 2, 1286, 0), [], [])], 129, [0])),
  (129, ([(129, .aload_n 0, 1, (0, 0, 0, 0, 0), [], []), (130, .iconst 4, 1, (0, 0, 0, 0, 0), [], []), (131, .newarray .int, 2, (20, 0, 0, 0, 0), [], [])], 133, [0])),
  (133, ([(133, .dup, 1, (0, 0, 0, 0, 0), [], []), (134, .iconst 0, 1, (0, 0, 0, 0, 0), [], []), (135, .iconst (-1), 1, (0, 0, 0, 0, 0), [], []), (136, .iastore, 1, (0, 0, 0, 0, 0), [], [])], 137, [0])),
  (137, ([(137, .dup, 1, (0, 0, 0, 0, 0), [], []), (138, .iconst 1, 1, (0, 0, 0, 0, 0), [], []), (139, .iconst (-1), 1, (0, 0, 0, 0, 0), [], []), (140, .iastore, 1, (0, 0, 0, 0, 0), [], [])], 141, [0])),
  (141, ([(141, .dup, 1, (0, 0, 0, 0, 0), [], []), (142, .iconst 2, 1, (0, 0, 0, 0, 0), [], []), (143, .iconst (-1), 1, (0, 0, 0, 0, 0), [], []), (144, .iastore, 1, (0, 0, 0, 0, 0), [], [])], 145, [0])),
  (145, ([(145, .dup, 1, (0, 0, 0, 0, 0), [], []), (146, .iconst 3, 1, (0, 0, 0, 0, 0), [], []), (147, .iconst (-1), 1, (0, 0, 0, 0, 0), [], []), (148, .iastore, 1, (0, 0, 0, 0, 0), [], [])], 149, [0])),
  (149, ([(149, .putfield 61, 3, (11, 33, 2, 1288, 0), [], [])], 152, [0])),
  (152, ([(152, .aload_n 0, 1, (0, 0, 0, 0, 0), [], []), (153, .iconst 4, 1, (0, 0, 0, 0, 0), [], []), (154, .newarray .int, 2, (20, 0, 0, 0, 0), [], [])], 156, [0])),
  (156, ([(156, .putfield 64, 3, (11, 34, 2, 1289, 0), [], [])], 159, [0])),
  (159, ([(159, .aload_n 0, 1, (0, 0, 0, 0, 0), [], []), (160, .sipush 160, 3, (0, 0, 0, 0, 0), [], []), (163, .newarray .long, 2, (21, 0, 0, 0, 0), [], [])], 165, [0])),
  (165, ([(165, .putfield 67, 3, (11, 35, 2, 1290, 0), [], [])], 168, [0])),
  (168, ([(168, .aload_n 0, 1, (0, 0, 0, 0, 0), [], []), (169, .getfield 13, 3, (11, 1, 2, 1256, 0), [], []), (172, .invokestatic 70, 3, (14, 1, 1, 0, 1252), [], [2])], 0, [])),
  (175, ([(175, .return_, 1, (0, 0, 0, 0, 0), [], [])], 0, []))]
def cd_Hook_putOnTape : List (Nat × AB) := [
  (0, ([(0, .bipush 24, 2, (0, 0, 0, 0, 0), [], []), (2, .istore_n 2, 1, (0, 0, 0, 0, 0), [], [])], 3, [0, 1, 2])),
  (3, ([(3, .iload_n 2, 1, (0, 0, 0, 0, 0), [], []), (4, .ifCond .lt 42, 3, (46, 0, 0, 0, 0), [], [0, 1, 2])], 0, [])),
  (7, ([(7, .aload_n 0, 1, (0, 0, 0, 0, 0), [], []), (8, .getfield 13, 3, (10, 1, 0, 355, 0), [], []), (11, .sipush 900, 3, (0, 0, 0, 0, 0), [], []), (14, .if_icmp .ge 32, 3, (46, 0, 0, 0, 0), [], [0, 1, 2])], 0, [])),
  (17, ([(17, .aload_n 0, 1, (0, 0, 0, 0, 0), [], []), (18, .getfield 9, 3, (10, 0, 2, 354, 0), [], []), (21, .aload_n 0, 1, (0, 0, 0, 0, 0), [], []), (22, .getfield 13, 3, (10, 1, 0, 355, 0), [], []), (25, .iload_n 1, 1, (0, 0, 0, 0, 0), [], []), (26, .iload_n 2, 1, (0, 0, 0, 0, 0), [], []), (27, .iushr, 1, (0, 0, 0, 0, 0), [], []), (28, .i2b, 1, (0, 0, 0, 0, 0), [], []), (29, .bastore, 1, (22, 0, 0, 0, 0), [], [])], 30, [0, 1, 2])),
  (30, ([(30, .aload_n 0, 1, (0, 0, 0, 0, 0), [], []), (31, .dup, 1, (0, 0, 0, 0, 0), [], []), (32, .getfield 13, 3, (10, 1, 0, 355, 0), [], []), (35, .iconst 1, 1, (0, 0, 0, 0, 0), [], []), (36, .iadd, 1, (0, 0, 0, 0, 0), [], []), (37, .putfield 13, 3, (10, 1, 0, 355, 0), [], [])], 40, [0, 1, 2])),
  (40, ([(40, .iinc 2 (-8), 3, (0, 0, 0, 0, 0), [], []), (43, .goto (-40), 3, (3, 0, 0, 0, 0), [0, 1, 2], [])], 0, [])),
  (46, ([(46, .return_, 1, (0, 0, 0, 0, 0), [], [])], 0, []))]
def cd_Hook_feed : List (Nat × AB) := [
  (0, ([(0, .aload_n 0, 1, (0, 0, 0, 0, 0), [], []), (1, .getfield 13, 3, (10, 1, 0, 355, 0), [], []), (4, .bipush 20, 2, (0, 0, 0, 0, 0), [], []), (6, .iadd, 1, (0, 0, 0, 0, 0), [], []), (7, .sipush 900, 3, (0, 0, 0, 0, 0), [], []), (10, .if_icmp .le 6, 3, (16, 0, 0, 0, 0), [0, 1, 2, 3, 4, 5], [])], 0, [])),
  (13, ([(13, .bipush (-5), 2, (0, 0, 0, 0, 0), [], []), (15, .ireturn, 1, (0, 0, 0, 0, 0), [], [])], 0, [])),
  (16, ([(16, .aload_n 0, 1, (0, 0, 0, 0, 0), [], []), (17, .iload_n 1, 1, (0, 0, 0, 0, 0), [], []), (18, .invokevirtual 104, 3, (16, 2, 11, 10, 416), [0, 2, 3, 4, 5], [3])], 0, [])),
  (21, ([(21, .aload_n 0, 1, (0, 0, 0, 0, 0), [], []), (22, .iload_n 2, 1, (0, 0, 0, 0, 0), [], []), (23, .invokevirtual 104, 3, (16, 2, 11, 10, 416), [0, 3, 4, 5], [3])], 0, [])),
  (26, ([(26, .aload_n 0, 1, (0, 0, 0, 0, 0), [], []), (27, .iload_n 3, 1, (0, 0, 0, 0, 0), [], []), (28, .invokevirtual 104, 3, (16, 2, 11, 10, 416), [0, 4, 5], [3])], 0, [])),
  (31, ([(31, .aload_n 0, 1, (0, 0, 0, 0, 0), [], []), (32, .iload 4, 2, (0, 0, 0, 0, 0), [], []), (34, .invokevirtual 104, 3, (16, 2, 11, 10, 416), [0, 5], [3])], 0, [])),
  (37, ([(37, .aload_n 0, 1, (0, 0, 0, 0, 0), [], []), (38, .iload 5, 2, (0, 0, 0, 0, 0), [], []), (40, .invokevirtual 104, 3, (16, 2, 11, 10, 416), [0], [3])], 0, [])),
  (43, ([(43, .aload_n 0, 1, (0, 0, 0, 0, 0), [], []), (44, .getfield 13, 3, (10, 1, 0, 355, 0), [], []), (47, .ireturn, 1, (0, 0, 0, 0, 0), [], [])], 0, []))]
def cd_Mod_feed : List (Nat × AB) := [
  (0, ([(0, .aload_n 0, 1, (0, 0, 0, 0, 0), [], []), (1, .iconst 0, 1, (0, 0, 0, 0, 0), [], []), (2, .putfield 1, 3, (11, 0, 0, 1255, 0), [], [])], 5, [0, 1, 2, 3, 4, 5])),
  (5, ([(5, .aload_n 0, 1, (0, 0, 0, 0, 0), [], []), (6, .getfield 74, 3, (11, 5, 0, 1260, 0), [], []), (9, .bipush 20, 2, (0, 0, 0, 0, 0), [], []), (11, .iadd, 1, (0, 0, 0, 0, 0), [], []), (12, .sipush 900, 3, (0, 0, 0, 0, 0), [], []), (15, .if_icmp .le 6, 3, (21, 0, 0, 0, 0), [0, 1, 2, 3, 4, 5], [])], 0, [])),
  (18, ([(18, .bipush (-5), 2, (0, 0, 0, 0, 0), [], []), (20, .ireturn, 1, (0, 0, 0, 0, 0), [], [])], 0, [])),
  (21, ([(21, .iconst 0, 1, (0, 0, 0, 0, 0), [], []), (22, .istore 6, 2, (0, 0, 0, 0, 0), [], [])], 24, [0, 1, 2, 3, 4, 5, 6])),
  (24, ([(24, .iload 6, 2, (0, 0, 0, 0, 0), [], []), (26, .bipush 20, 2, (0, 0, 0, 0, 0), [], []), (28, .if_icmp .ge 93, 3, (121, 0, 0, 0, 0), [0], [0, 1, 2, 3, 4, 5, 6])], 0, [])),
  (31, ([(31, .iload 6, 2, (0, 0, 0, 0, 0), [], []), (33, .iconst 4, 1, (0, 0, 0, 0, 0), [], []), (34, .if_icmp .ge 7, 3, (41, 0, 0, 0, 0), [0, 1, 2, 3, 4, 5, 6], [0, 1, 2, 3, 4, 5, 6])], 0, [])),
  (37, ([(37, .iload_n 1, 1, (0, 0, 0, 0, 0), [], []), (38, .goto 39, 3, (77, 0, 0, 0, 0), [0, 1, 2, 3, 4, 5, 6], [])], 0, [])),
  (41, ([(41, .iload 6, 2, (0, 0, 0, 0, 0), [], []), (43, .bipush 8, 2, (0, 0, 0, 0, 0), [], []), (45, .if_icmp .ge 7, 3, (52, 0, 0, 0, 0), [0, 1, 2, 3, 4, 5, 6], [0, 1, 2, 3, 4, 5, 6])], 0, [])),
  (48, ([(48, .iload_n 2, 1, (0, 0, 0, 0, 0), [], []), (49, .goto 28, 3, (77, 0, 0, 0, 0), [0, 1, 2, 3, 4, 5, 6], [])], 0, [])),
  (52, ([(52, .iload 6, 2, (0, 0, 0, 0, 0), [], []), (54, .bipush 12, 2, (0, 0, 0, 0, 0), [], []), (56, .if_icmp .ge 7, 3, (63, 0, 0, 0, 0), [0, 1, 2, 3, 4, 5, 6], [0, 1, 2, 3, 4, 5, 6])], 0, [])),
  (59, ([(59, .iload_n 3, 1, (0, 0, 0, 0, 0), [], []), (60, .goto 17, 3, (77, 0, 0, 0, 0), [0, 1, 2, 3, 4, 5, 6], [])], 0, [])),
  (63, ([(63, .iload 6, 2, (0, 0, 0, 0, 0), [], []), (65, .bipush 16, 2, (0, 0, 0, 0, 0), [], []), (67, .if_icmp .ge 8, 3, (75, 0, 0, 0, 0), [0, 1, 2, 3, 4, 5, 6], [0, 1, 2, 3, 4, 5, 6])], 0, [])),
  (70, ([(70, .iload 4, 2, (0, 0, 0, 0, 0), [], []), (72, .goto 5, 3, (77, 0, 0, 0, 0), [0, 1, 2, 3, 4, 5, 6], [])], 0, [])),
  (75, ([(75, .iload 5, 2, (0, 0, 0, 0, 0), [], [])], 77, [0, 1, 2, 3, 4, 5, 6])),
  (77, ([(77, .istore 7, 2, (0, 0, 0, 0, 0), [], []), (79, .aload_n 0, 1, (0, 0, 0, 0, 0), [], []), (80, .getfield 21, 3, (11, 3, 2, 1258, 0), [], []), (83, .aload_n 0, 1, (0, 0, 0, 0, 0), [], []), (84, .getfield 74, 3, (11, 5, 0, 1260, 0), [], []), (87, .iload 7, 2, (0, 0, 0, 0, 0), [], []), (89, .bipush 24, 2, (0, 0, 0, 0, 0), [], []), (91, .bipush 8, 2, (0, 0, 0, 0, 0), [], []), (93, .iload 6, 2, (0, 0, 0, 0, 0), [], []), (95, .iconst 4, 1, (0, 0, 0, 0, 0), [], []), (96, .irem, 1, (0, 0, 0, 0, 0), [], []), (97, .imul, 1, (0, 0, 0, 0, 0), [], []), (98, .isub, 1, (0, 0, 0, 0, 0), [], []), (99, .ishr, 1, (0, 0, 0, 0, 0), [], []), (100, .sipush 255, 3, (0, 0, 0, 0, 0), [], []), (103, .iand, 1, (0, 0, 0, 0, 0), [], []), (104, .iastore, 1, (0, 0, 0, 0, 0), [], [])], 105, [0, 1, 2, 3, 4, 5, 6])),
  (105, ([(105, .aload_n 0, 1, (0, 0, 0, 0, 0), [], []), (106, .dup, 1, (0, 0, 0, 0, 0), [], []), (107, .getfield 74, 3, (11, 5, 0, 1260, 0), [], []), (110, .iconst 1, 1, (0, 0, 0, 0, 0), [], []), (111, .iadd, 1, (0, 0, 0, 0, 0), [], []), (112, .putfield 74, 3, (11, 5, 0, 1260, 0), [], [])], 115, [0, 1, 2, 3, 4, 5, 6])),
  (115, ([(115, .iinc 6 1, 3, (0, 0, 0, 0, 0), [], []), (118, .goto (-94), 3, (24, 0, 0, 0, 0), [0, 1, 2, 3, 4, 5, 6], [])], 0, [])),
  (121, ([(121, .aload_n 0, 1, (0, 0, 0, 0, 0), [], []), (122, .getfield 74, 3, (11, 5, 0, 1260, 0), [], []), (125, .ireturn, 1, (0, 0, 0, 0, 0), [], [])], 0, []))]
def cd_Law_strike : List (Nat × AB) := [
  (0, ([(0, .aload_n 0, 1, (0, 0, 0, 0, 0), [], []), (1, .iconst 0, 1, (0, 0, 0, 0, 0), [], []), (2, .putfield 18, 3, (3, 2, 0, 84, 0), [], [])], 5, [])),
  (5, ([(5, .return_, 1, (0, 0, 0, 0, 0), [], [])], 0, []))]
def cd_Math_min_II : List (Nat × AB) := [
  (0, ([(0, .iload_n 0, 1, (0, 0, 0, 0, 0), [], []), (1, .iload_n 1, 1, (0, 0, 0, 0, 0), [], []), (2, .if_icmp .gt 7, 3, (9, 0, 0, 0, 0), [1], [0])], 0, [])),
  (5, ([(5, .iload_n 0, 1, (0, 0, 0, 0, 0), [], []), (6, .goto 4, 3, (10, 0, 0, 0, 0), [], [])], 0, [])),
  (9, ([(9, .iload_n 1, 1, (0, 0, 0, 0, 0), [], [])], 10, [])),
  (10, ([(10, .ireturn, 1, (0, 0, 0, 0, 0), [], [])], 0, []))]
def cd_Math_max_II : List (Nat × AB) := [
  (0, ([(0, .iload_n 0, 1, (0, 0, 0, 0, 0), [], []), (1, .iload_n 1, 1, (0, 0, 0, 0, 0), [], []), (2, .if_icmp .lt 7, 3, (9, 0, 0, 0, 0), [1], [0])], 0, [])),
  (5, ([(5, .iload_n 0, 1, (0, 0, 0, 0, 0), [], []), (6, .goto 4, 3, (10, 0, 0, 0, 0), [], [])], 0, [])),
  (9, ([(9, .iload_n 1, 1, (0, 0, 0, 0, 0), [], [])], 10, [])),
  (10, ([(10, .ireturn, 1, (0, 0, 0, 0, 0), [], [])], 0, []))]
def cd_Tokens_kindOf : List (Nat × AB) := [
  (0, ([(0, .iload_n 0, 1, (0, 0, 0, 0, 0), [], []), (1, .bipush 48, 2, (0, 0, 0, 0, 0), [], []), (3, .if_icmp .lt 11, 3, (14, 0, 0, 0, 0), [0], [0])], 0, [])),
  (6, ([(6, .iload_n 0, 1, (0, 0, 0, 0, 0), [], []), (7, .bipush 57, 2, (0, 0, 0, 0, 0), [], []), (9, .if_icmp .gt 5, 3, (14, 0, 0, 0, 0), [0], [])], 0, [])),
  (12, ([(12, .iconst 2, 1, (0, 0, 0, 0, 0), [], []), (13, .ireturn, 1, (0, 0, 0, 0, 0), [], [])], 0, [])),
  (14, ([(14, .iload_n 0, 1, (0, 0, 0, 0, 0), [], []), (15, .bipush 97, 2, (0, 0, 0, 0, 0), [], []), (17, .if_icmp .lt 11, 3, (28, 0, 0, 0, 0), [0], [0])], 0, [])),
  (20, ([(20, .iload_n 0, 1, (0, 0, 0, 0, 0), [], []), (21, .bipush 122, 2, (0, 0, 0, 0, 0), [], []), (23, .if_icmp .gt 5, 3, (28, 0, 0, 0, 0), [0], [])], 0, [])),
  (26, ([(26, .iconst 3, 1, (0, 0, 0, 0, 0), [], []), (27, .ireturn, 1, (0, 0, 0, 0, 0), [], [])], 0, [])),
  (28, ([(28, .iload_n 0, 1, (0, 0, 0, 0, 0), [], []), (29, .ifCond .le 17, 3, (46, 0, 0, 0, 0), [], [0])], 0, [])),
  (32, ([(32, .ldc 59, 2, (3, 0, 0, 0, 0), [], []), (34, .iload_n 0, 1, (0, 0, 0, 0, 0), [], []), (35, .i2c, 1, (0, 0, 0, 0, 0), [], []), (36, .invokevirtual 61, 3, (0, 2, 6, 0, 452), [], []), (39, .ifCond .lt 7, 3, (46, 0, 0, 0, 0), [], [0])], 0, [])),
  (42, ([(42, .iload_n 0, 1, (0, 0, 0, 0, 0), [], []), (43, .goto 4, 3, (47, 0, 0, 0, 0), [], [])], 0, [])),
  (46, ([(46, .iconst 1, 1, (0, 0, 0, 0, 0), [], [])], 47, [])),
  (47, ([(47, .ireturn, 1, (0, 0, 0, 0, 0), [], [])], 0, []))]
def cd_Tokens_readNumber : List (Nat × AB) := [
  (0, ([(0, .aload_n 0, 1, (0, 0, 0, 0, 0), [], []), (1, .iconst 0, 1, (0, 0, 0, 0, 0), [], []), (2, .putfield 25, 3, (6, 4, 0, 49, 0), [], [])], 5, [0])),
  (5, ([(5, .aload_n 0, 1, (0, 0, 0, 0, 0), [], []), (6, .getfield 19, 3, (6, 2, 0, 45, 0), [], []), (9, .aload_n 0, 1, (0, 0, 0, 0, 0), [], []), (10, .getfield 28, 3, (6, 5, 0, 51, 0), [], []), (13, .isub, 1, (0, 0, 0, 0, 0), [], []), (14, .iconst 3, 1, (0, 0, 0, 0, 0), [], []), (15, .if_icmp .le 9, 3, (24, 0, 0, 0, 0), [0], [0])], 0, [])),
  (18, ([(18, .aload_n 0, 1, (0, 0, 0, 0, 0), [], []), (19, .iconst 1, 1, (0, 0, 0, 0, 0), [], []), (20, .putfield 22, 3, (6, 3, 0, 46, 0), [], [])], 23, [])),
  (23, ([(23, .return_, 1, (0, 0, 0, 0, 0), [], [])], 0, [])),
  (24, ([(24, .aload_n 0, 1, (0, 0, 0, 0, 0), [], []), (25, .getfield 28, 3, (6, 5, 0, 51, 0), [], []), (28, .istore_n 1, 1, (0, 0, 0, 0, 0), [], [])], 29, [0, 1])),
  (29, ([(29, .iload_n 1, 1, (0, 0, 0, 0, 0), [], []), (30, .aload_n 0, 1, (0, 0, 0, 0, 0), [], []), (31, .getfield 19, 3, (6, 2, 0, 45, 0), [], []), (34, .if_icmp .ge 30, 3, (64, 0, 0, 0, 0), [], [0, 1])], 0, [])),
  (37, ([(37, .aload_n 0, 1, (0, 0, 0, 0, 0), [], []), (38, .aload_n 0, 1, (0, 0, 0, 0, 0), [], []), (39, .getfield 25, 3, (6, 4, 0, 49, 0), [], []), (42, .bipush 10, 2, (0, 0, 0, 0, 0), [], []), (44, .imul, 1, (0, 0, 0, 0, 0), [], []), (45, .aload_n 0, 1, (0, 0, 0, 0, 0), [], []), (46, .getfield 9, 3, (6, 0, 2, 43, 0), [], []), (49, .iload_n 1, 1, (0, 0, 0, 0, 0), [], []), (50, .baload, 1, (22, 0, 0, 0, 0), [], []), (51, .iadd, 1, (0, 0, 0, 0, 0), [], []), (52, .bipush 48, 2, (0, 0, 0, 0, 0), [], []), (54, .isub, 1, (0, 0, 0, 0, 0), [], []), (55, .putfield 25, 3, (6, 4, 0, 49, 0), [], [])], 58, [0, 1])),
  (58, ([(58, .iinc 1 1, 3, (0, 0, 0, 0, 0), [], []), (61, .goto (-32), 3, (29, 0, 0, 0, 0), [0, 1], [])], 0, [])),
  (64, ([(64, .return_, 1, (0, 0, 0, 0, 0), [], [])], 0, []))]
def cd_Tokens_findWord : List (Nat × AB) := [
  (0, ([(0, .sipush 128, 3, (0, 0, 0, 0, 0), [], []), (3, .istore_n 1, 1, (0, 0, 0, 0, 0), [], []), (4, .aload_n 0, 1, (0, 0, 0, 0, 0), [], []), (5, .getfield 28, 3, (6, 5, 0, 51, 0), [], []), (8, .istore_n 2, 1, (0, 0, 0, 0, 0), [], []), (9, .iconst 1, 1, (0, 0, 0, 0, 0), [], []), (10, .istore_n 3, 1, (0, 0, 0, 0, 0), [], []), (11, .iconst 0, 1, (0, 0, 0, 0, 0), [], []), (12, .istore 4, 2, (0, 0, 0, 0, 0), [], [])], 14, [0, 1, 2, 3, 4])),
  (14, ([(14, .iload 4, 2, (0, 0, 0, 0, 0), [], []), (16, .ldc 67, 2, (2, 0, 0, 0, 0), [], []), (18, .invokevirtual 69, 3, (0, 1, 4, 0, 543), [], []), (21, .if_icmp .ge 98, 3, (119, 0, 0, 0, 0), [], [0, 1, 2, 3, 4])], 0, [])),
  (24, ([(24, .aload_n 0, 1, (0, 0, 0, 0, 0), [], []), (25, .getfield 22, 3, (6, 3, 0, 46, 0), [], []), (28, .iconst 3, 1, (0, 0, 0, 0, 0), [], []), (29, .if_icmp .ne 90, 3, (119, 0, 0, 0, 0), [], [0, 1, 2, 3, 4])], 0, [])),
  (32, ([(32, .ldc 67, 2, (2, 0, 0, 0, 0), [], []), (34, .iload 4, 2, (0, 0, 0, 0, 0), [], []), (36, .invokevirtual 72, 3, (0, 2, 5, 0, 544), [], []), (39, .istore 5, 2, (0, 0, 0, 0, 0), [], []), (41, .iload 5, 2, (0, 0, 0, 0, 0), [], []), (43, .bipush 32, 2, (0, 0, 0, 0, 0), [], []), (45, .if_icmp .eq 38, 3, (83, 0, 0, 0, 0), [0, 1, 2, 3, 4], [0, 1, 2, 3, 4, 5])], 0, [])),
  (48, ([(48, .iload_n 3, 1, (0, 0, 0, 0, 0), [], []), (49, .ifCond .eq 26, 3, (75, 0, 0, 0, 0), [0, 1, 2, 4], [0, 1, 2, 4, 5])], 0, [])),
  (52, ([(52, .iload_n 2, 1, (0, 0, 0, 0, 0), [], []), (53, .aload_n 0, 1, (0, 0, 0, 0, 0), [], []), (54, .getfield 19, 3, (6, 2, 0, 45, 0), [], []), (57, .if_icmp .ge 18, 3, (75, 0, 0, 0, 0), [0, 1, 2, 4], [0, 1, 2, 4, 5])], 0, [])),
  (60, ([(60, .aload_n 0, 1, (0, 0, 0, 0, 0), [], []), (61, .getfield 9, 3, (6, 0, 2, 43, 0), [], []), (64, .iload_n 2, 1, (0, 0, 0, 0, 0), [], []), (65, .baload, 1, (22, 0, 0, 0, 0), [], []), (66, .iload 5, 2, (0, 0, 0, 0, 0), [], []), (68, .if_icmp .ne 7, 3, (75, 0, 0, 0, 0), [0, 1, 2, 4], [0, 1, 2, 4])], 0, [])),
  (71, ([(71, .iconst 1, 1, (0, 0, 0, 0, 0), [], []), (72, .goto 4, 3, (76, 0, 0, 0, 0), [0, 1, 2, 4], [])], 0, [])),
  (75, ([(75, .iconst 0, 1, (0, 0, 0, 0, 0), [], [])], 76, [0, 1, 2, 4])),
  (76, ([(76, .istore_n 3, 1, (0, 0, 0, 0, 0), [], []), (77, .iinc 2 1, 3, (0, 0, 0, 0, 0), [], []), (80, .goto 33, 3, (113, 0, 0, 0, 0), [0, 1, 2, 3, 4], [])], 0, [])),
  (83, ([(83, .iload_n 3, 1, (0, 0, 0, 0, 0), [], []), (84, .ifCond .eq 19, 3, (103, 0, 0, 0, 0), [0, 1, 4], [0, 1, 2, 3, 4])], 0, [])),
  (87, ([(87, .iload_n 2, 1, (0, 0, 0, 0, 0), [], []), (88, .aload_n 0, 1, (0, 0, 0, 0, 0), [], []), (89, .getfield 19, 3, (6, 2, 0, 45, 0), [], []), (92, .if_icmp .ne 11, 3, (103, 0, 0, 0, 0), [0, 1, 4], [0, 1, 2, 3, 4])], 0, [])),
  (95, ([(95, .aload_n 0, 1, (0, 0, 0, 0, 0), [], []), (96, .iload_n 1, 1, (0, 0, 0, 0, 0), [], []), (97, .putfield 22, 3, (6, 3, 0, 46, 0), [], [])], 100, [0, 1, 2, 3, 4])),
  (100, ([(100, .goto 13, 3, (113, 0, 0, 0, 0), [0, 1, 2, 3, 4], [])], 0, [])),
  (103, ([(103, .iinc 1 1, 3, (0, 0, 0, 0, 0), [], []), (106, .aload_n 0, 1, (0, 0, 0, 0, 0), [], []), (107, .getfield 28, 3, (6, 5, 0, 51, 0), [], []), (110, .istore_n 2, 1, (0, 0, 0, 0, 0), [], []), (111, .iconst 1, 1, (0, 0, 0, 0, 0), [], []), (112, .istore_n 3, 1, (0, 0, 0, 0, 0), [], [])], 113, [0, 1, 2, 3, 4])),
  (113, ([(113, .iinc 4 1, 3, (0, 0, 0, 0, 0), [], []), (116, .goto (-102), 3, (14, 0, 0, 0, 0), [0, 1, 2, 3, 4], [])], 0, [])),
  (119, ([(119, .return_, 1, (0, 0, 0, 0, 0), [], [])], 0, []))]
def cd_Tokens_step : List (Nat × AB) := [
  (0, ([(0, .aload_n 0, 1, (0, 0, 0, 0, 0), [], []), (1, .getfield 19, 3, (6, 2, 0, 45, 0), [], []), (4, .aload_n 0, 1, (0, 0, 0, 0, 0), [], []), (5, .getfield 15, 3, (6, 1, 0, 44, 0), [], []), (8, .if_icmp .ge 44, 3, (52, 0, 0, 0, 0), [0], [0])], 0, [])),
  (11, ([(11, .aload_n 0, 1, (0, 0, 0, 0, 0), [], []), (12, .getfield 9, 3, (6, 0, 2, 43, 0), [], []), (15, .aload_n 0, 1, (0, 0, 0, 0, 0), [], []), (16, .getfield 19, 3, (6, 2, 0, 45, 0), [], []), (19, .baload, 1, (22, 0, 0, 0, 0), [], []), (20, .bipush 32, 2, (0, 0, 0, 0, 0), [], []), (22, .if_icmp .eq 17, 3, (39, 0, 0, 0, 0), [0], [0])], 0, [])),
  (25, ([(25, .aload_n 0, 1, (0, 0, 0, 0, 0), [], []), (26, .getfield 9, 3, (6, 0, 2, 43, 0), [], []), (29, .aload_n 0, 1, (0, 0, 0, 0, 0), [], []), (30, .getfield 19, 3, (6, 2, 0, 45, 0), [], []), (33, .baload, 1, (22, 0, 0, 0, 0), [], []), (34, .bipush 10, 2, (0, 0, 0, 0, 0), [], []), (36, .if_icmp .ne 16, 3, (52, 0, 0, 0, 0), [0], [0])], 0, [])),
  (39, ([(39, .aload_n 0, 1, (0, 0, 0, 0, 0), [], []), (40, .dup, 1, (0, 0, 0, 0, 0), [], []), (41, .getfield 19, 3, (6, 2, 0, 45, 0), [], []), (44, .iconst 1, 1, (0, 0, 0, 0, 0), [], []), (45, .iadd, 1, (0, 0, 0, 0, 0), [], []), (46, .putfield 19, 3, (6, 2, 0, 45, 0), [], [])], 49, [0])),
  (49, ([(49, .goto (-49), 3, (0, 0, 0, 0, 0), [0], [])], 0, [])),
  (52, ([(52, .aload_n 0, 1, (0, 0, 0, 0, 0), [], []), (53, .aload_n 0, 1, (0, 0, 0, 0, 0), [], []), (54, .getfield 19, 3, (6, 2, 0, 45, 0), [], []), (57, .putfield 28, 3, (6, 5, 0, 51, 0), [], [])], 60, [0])),
  (60, ([(60, .aload_n 0, 1, (0, 0, 0, 0, 0), [], []), (61, .iconst 0, 1, (0, 0, 0, 0, 0), [], []), (62, .putfield 22, 3, (6, 3, 0, 46, 0), [], [])], 65, [0])),
  (65, ([(65, .aload_n 0, 1, (0, 0, 0, 0, 0), [], []), (66, .getfield 19, 3, (6, 2, 0, 45, 0), [], []), (69, .aload_n 0, 1, (0, 0, 0, 0, 0), [], []), (70, .getfield 15, 3, (6, 1, 0, 44, 0), [], []), (73, .if_icmp .ge 29, 3, (102, 0, 0, 0, 0), [0], [0])], 0, [])),
  (76, ([(76, .aload_n 0, 1, (0, 0, 0, 0, 0), [], []), (77, .aload_n 0, 1, (0, 0, 0, 0, 0), [], []), (78, .getfield 9, 3, (6, 0, 2, 43, 0), [], []), (81, .aload_n 0, 1, (0, 0, 0, 0, 0), [], []), (82, .getfield 19, 3, (6, 2, 0, 45, 0), [], []), (85, .baload, 1, (22, 0, 0, 0, 0), [], []), (86, .invokestatic 49, 3, (22, 1, 0, 0, 448), [0], [1])], 0, [])),
  (89, ([(89, .putfield 22, 3, (6, 3, 0, 46, 0), [], [])], 92, [0])),
  (92, ([(92, .aload_n 0, 1, (0, 0, 0, 0, 0), [], []), (93, .dup, 1, (0, 0, 0, 0, 0), [], []), (94, .getfield 19, 3, (6, 2, 0, 45, 0), [], []), (97, .iconst 1, 1, (0, 0, 0, 0, 0), [], []), (98, .iadd, 1, (0, 0, 0, 0, 0), [], []), (99, .putfield 19, 3, (6, 2, 0, 45, 0), [], [])], 102, [0])),
  (102, ([(102, .aload_n 0, 1, (0, 0, 0, 0, 0), [], []), (103, .getfield 19, 3, (6, 2, 0, 45, 0), [], []), (106, .aload_n 0, 1, (0, 0, 0, 0, 0), [], []), (107, .getfield 15, 3, (6, 1, 0, 44, 0), [], []), (110, .if_icmp .ge 51, 3, (161, 0, 0, 0, 0), [0], [0])], 0, [])),
  (113, ([(113, .aload_n 0, 1, (0, 0, 0, 0, 0), [], []), (114, .getfield 22, 3, (6, 3, 0, 46, 0), [], []), (117, .iconst 2, 1, (0, 0, 0, 0, 0), [], []), (118, .if_icmp .eq 11, 3, (129, 0, 0, 0, 0), [0], [0])], 0, [])),
  (121, ([(121, .aload_n 0, 1, (0, 0, 0, 0, 0), [], []), (122, .getfield 22, 3, (6, 3, 0, 46, 0), [], []), (125, .iconst 3, 1, (0, 0, 0, 0, 0), [], []), (126, .if_icmp .ne 35, 3, (161, 0, 0, 0, 0), [0], [0])], 0, [])),
  (129, ([(129, .aload_n 0, 1, (0, 0, 0, 0, 0), [], []), (130, .getfield 9, 3, (6, 0, 2, 43, 0), [], []), (133, .aload_n 0, 1, (0, 0, 0, 0, 0), [], []), (134, .getfield 19, 3, (6, 2, 0, 45, 0), [], []), (137, .baload, 1, (22, 0, 0, 0, 0), [], []), (138, .invokestatic 49, 3, (22, 1, 0, 0, 448), [0], [1])], 0, [])),
  (141, ([(141, .aload_n 0, 1, (0, 0, 0, 0, 0), [], []), (142, .getfield 22, 3, (6, 3, 0, 46, 0), [], []), (145, .if_icmp .ne 16, 3, (161, 0, 0, 0, 0), [0], [0])], 0, [])),
  (148, ([(148, .aload_n 0, 1, (0, 0, 0, 0, 0), [], []), (149, .dup, 1, (0, 0, 0, 0, 0), [], []), (150, .getfield 19, 3, (6, 2, 0, 45, 0), [], []), (153, .iconst 1, 1, (0, 0, 0, 0, 0), [], []), (154, .iadd, 1, (0, 0, 0, 0, 0), [], []), (155, .putfield 19, 3, (6, 2, 0, 45, 0), [], [])], 158, [0])),
  (158, ([(158, .goto (-56), 3, (102, 0, 0, 0, 0), [0], [])], 0, [])),
  (161, ([(161, .aload_n 0, 1, (0, 0, 0, 0, 0), [], []), (162, .getfield 22, 3, (6, 3, 0, 46, 0), [], []), (165, .iconst 2, 1, (0, 0, 0, 0, 0), [], []), (166, .if_icmp .ne 10, 3, (176, 0, 0, 0, 0), [0], [0])], 0, [])),
  (169, ([(169, .aload_n 0, 1, (0, 0, 0, 0, 0), [], []), (170, .invokevirtual 53, 3, (23, 1, 11, 6, 534), [], [2])], 0, [])),
  (173, ([(173, .goto 15, 3, (188, 0, 0, 0, 0), [], [])], 0, [])),
  (176, ([(176, .aload_n 0, 1, (0, 0, 0, 0, 0), [], []), (177, .getfield 22, 3, (6, 3, 0, 46, 0), [], []), (180, .iconst 3, 1, (0, 0, 0, 0, 0), [], []), (181, .if_icmp .ne 7, 3, (188, 0, 0, 0, 0), [], [0])], 0, [])),
  (184, ([(184, .aload_n 0, 1, (0, 0, 0, 0, 0), [], []), (185, .invokevirtual 56, 3, (24, 1, 11, 6, 538), [], [6])], 0, [])),
  (188, ([(188, .return_, 1, (0, 0, 0, 0, 0), [], [])], 0, []))]
def cd_Tokens_open : List (Nat × AB) := [
  (0, ([(0, .aload_n 0, 1, (0, 0, 0, 0, 0), [], []), (1, .aload_n 1, 1, (0, 0, 0, 0, 0), [], []), (2, .putfield 9, 3, (6, 0, 2, 43, 0), [], [])], 5, [0, 1, 2])),
  (5, ([(5, .aload_n 0, 1, (0, 0, 0, 0, 0), [], []), (6, .iconst 0, 1, (0, 0, 0, 0, 0), [], []), (7, .iload_n 2, 1, (0, 0, 0, 0, 0), [], []), (8, .aload_n 1, 1, (0, 0, 0, 0, 0), [], []), (9, .arraylength, 1, (22, 0, 0, 0, 0), [], []), (10, .invokestatic 37, 3, (20, 2, 0, 0, 438), [0], [2])], 0, [])),
  (13, ([(13, .invokestatic 43, 3, (21, 2, 0, 0, 441), [0], [2])], 0, [])),
  (16, ([(16, .putfield 15, 3, (6, 1, 0, 44, 0), [], [])], 19, [0])),
  (19, ([(19, .aload_n 0, 1, (0, 0, 0, 0, 0), [], []), (20, .iconst 0, 1, (0, 0, 0, 0, 0), [], []), (21, .putfield 19, 3, (6, 2, 0, 45, 0), [], [])], 24, [0])),
  (24, ([(24, .aload_n 0, 1, (0, 0, 0, 0, 0), [], []), (25, .iconst 0, 1, (0, 0, 0, 0, 0), [], []), (26, .putfield 31, 3, (6, 6, 0, 54, 0), [], [])], 29, [0])),
  (29, ([(29, .aload_n 0, 1, (0, 0, 0, 0, 0), [], []), (30, .iconst (-1), 1, (0, 0, 0, 0, 0), [], []), (31, .putfield 34, 3, (6, 7, 0, 56, 0), [], [])], 34, [0])),
  (34, ([(34, .aload_n 0, 1, (0, 0, 0, 0, 0), [], []), (35, .invokevirtual 46, 3, (25, 1, 11, 6, 444), [], [1])], 0, [])),
  (38, ([(38, .return_, 1, (0, 0, 0, 0, 0), [], [])], 0, []))]
def cd_Tokens_isSound : List (Nat × AB) := [
  (0, ([(0, .aload_n 0, 1, (0, 0, 0, 0, 0), [], []), (1, .getfield 31, 3, (6, 6, 0, 54, 0), [], []), (4, .ifCond .ne 7, 3, (11, 0, 0, 0, 0), [], [])], 0, [])),
  (7, ([(7, .iconst 1, 1, (0, 0, 0, 0, 0), [], []), (8, .goto 4, 3, (12, 0, 0, 0, 0), [], [])], 0, [])),
  (11, ([(11, .iconst 0, 1, (0, 0, 0, 0, 0), [], [])], 12, [])),
  (12, ([(12, .ireturn, 1, (1, 0, 0, 0, 0), [], [])], 0, []))]
def cd_Reader_mayBegin : List (Nat × AB) := [
  (0, ([(0, .iload_n 0, 1, (0, 0, 0, 0, 0), [], []), (1, .tableswitch 101 128 137 #[55, 68, 81, 81, 81, 101, 101, 101, 101, 81], 55, (102, 0, 0, 0, 0), [128, 56, 129, 69, 130, 82, 131, 82, 132, 82, 133, 102, 134, 102, 135, 102, 136, 102, 137, 82], [0, 1])], 0, [])),
  (56, ([(56, .aload_n 1, 1, (0, 0, 0, 0, 0), [], []), (57, .getfield 87, 3, (9, 6, 0, 145, 0), [], []), (60, .ifCond .ne 7, 3, (67, 0, 0, 0, 0), [], [])], 0, [])),
  (63, ([(63, .iconst 1, 1, (0, 0, 0, 0, 0), [], []), (64, .goto 4, 3, (68, 0, 0, 0, 0), [], [])], 0, [])),
  (67, ([(67, .iconst 0, 1, (0, 0, 0, 0, 0), [], [])], 68, [])),
  (68, ([(68, .ireturn, 1, (1, 0, 0, 0, 0), [], [])], 0, [])),
  (69, ([(69, .aload_n 1, 1, (0, 0, 0, 0, 0), [], []), (70, .getfield 93, 3, (9, 5, 0, 135, 0), [], []), (73, .ifCond .ne 7, 3, (80, 0, 0, 0, 0), [], [])], 0, [])),
  (76, ([(76, .iconst 1, 1, (0, 0, 0, 0, 0), [], []), (77, .goto 4, 3, (81, 0, 0, 0, 0), [], [])], 0, [])),
  (80, ([(80, .iconst 0, 1, (0, 0, 0, 0, 0), [], [])], 81, [])),
  (81, ([(81, .ireturn, 1, (1, 0, 0, 0, 0), [], [])], 0, [])),
  (82, ([(82, .aload_n 1, 1, (0, 0, 0, 0, 0), [], []), (83, .getfield 87, 3, (9, 6, 0, 145, 0), [], []), (86, .ifCond .le 14, 3, (100, 0, 0, 0, 0), [], [1])], 0, [])),
  (89, ([(89, .aload_n 1, 1, (0, 0, 0, 0, 0), [], []), (90, .getfield 93, 3, (9, 5, 0, 135, 0), [], []), (93, .ifCond .le 7, 3, (100, 0, 0, 0, 0), [], [])], 0, [])),
  (96, ([(96, .iconst 1, 1, (0, 0, 0, 0, 0), [], []), (97, .goto 4, 3, (101, 0, 0, 0, 0), [], [])], 0, [])),
  (100, ([(100, .iconst 0, 1, (0, 0, 0, 0, 0), [], [])], 101, [])),
  (101, ([(101, .ireturn, 1, (1, 0, 0, 0, 0), [], [])], 0, [])),
  (102, ([(102, .iload_n 0, 1, (0, 0, 0, 0, 0), [], []), (103, .sipush 133, 3, (0, 0, 0, 0, 0), [], []), (106, .if_icmp .lt 14, 3, (120, 0, 0, 0, 0), [], [0])], 0, [])),
  (109, ([(109, .iload_n 0, 1, (0, 0, 0, 0, 0), [], []), (110, .sipush 136, 3, (0, 0, 0, 0, 0), [], []), (113, .if_icmp .gt 7, 3, (120, 0, 0, 0, 0), [], [])], 0, [])),
  (116, ([(116, .iconst 1, 1, (0, 0, 0, 0, 0), [], []), (117, .goto 4, 3, (121, 0, 0, 0, 0), [], [])], 0, [])),
  (120, ([(120, .iconst 0, 1, (0, 0, 0, 0, 0), [], [])], 121, [])),
  (121, ([(121, .ireturn, 1, (1, 0, 0, 0, 0), [], [])], 0, []))]
def cd_Tokens_failAt : List (Nat × AB) := [
  (0, ([(0, .aload_n 0, 1, (0, 0, 0, 0, 0), [], []), (1, .getfield 31, 3, (6, 6, 0, 54, 0), [], []), (4, .ifCond .ne 13, 3, (17, 0, 0, 0, 0), [], [0, 1, 2])], 0, [])),
  (7, ([(7, .aload_n 0, 1, (0, 0, 0, 0, 0), [], []), (8, .iload_n 2, 1, (0, 0, 0, 0, 0), [], []), (9, .putfield 31, 3, (6, 6, 0, 54, 0), [], [])], 12, [0, 1])),
  (12, ([(12, .aload_n 0, 1, (0, 0, 0, 0, 0), [], []), (13, .iload_n 1, 1, (0, 0, 0, 0, 0), [], []), (14, .putfield 34, 3, (6, 7, 0, 56, 0), [], [])], 17, [])),
  (17, ([(17, .return_, 1, (0, 0, 0, 0, 0), [], [])], 0, []))]
def cd_Tokens_refuse : List (Nat × AB) := [
  (0, ([(0, .aload_n 0, 1, (0, 0, 0, 0, 0), [], []), (1, .aload_n 0, 1, (0, 0, 0, 0, 0), [], []), (2, .getfield 28, 3, (6, 5, 0, 51, 0), [], []), (5, .aload_n 0, 1, (0, 0, 0, 0, 0), [], []), (6, .getfield 22, 3, (6, 3, 0, 46, 0), [], []), (9, .iconst 1, 1, (0, 0, 0, 0, 0), [], []), (10, .if_icmp .ne 7, 3, (17, 0, 0, 0, 0), [], [])], 0, [])),
  (13, ([(13, .iconst 1, 1, (0, 0, 0, 0, 0), [], []), (14, .goto 4, 3, (18, 0, 0, 0, 0), [], [])], 0, [])),
  (17, ([(17, .iconst 2, 1, (0, 0, 0, 0, 0), [], [])], 18, [])),
  (18, ([(18, .invokevirtual 76, 3, (29, 3, 11, 6, 579), [], [3])], 0, [])),
  (21, ([(21, .return_, 1, (0, 0, 0, 0, 0), [], [])], 0, []))]
def cd_Tokens_passNumber : List (Nat × AB) := [
  (0, ([(0, .aload_n 0, 1, (0, 0, 0, 0, 0), [], []), (1, .getfield 25, 3, (6, 4, 0, 49, 0), [], []), (4, .istore_n 3, 1, (0, 0, 0, 0, 0), [], []), (5, .aload_n 0, 1, (0, 0, 0, 0, 0), [], []), (6, .getfield 22, 3, (6, 3, 0, 46, 0), [], []), (9, .iconst 2, 1, (0, 0, 0, 0, 0), [], []), (10, .if_icmp .eq 9, 3, (19, 0, 0, 0, 0), [0, 1, 2, 3], [0, 1])], 0, [])),
  (13, ([(13, .aload_n 0, 1, (0, 0, 0, 0, 0), [], []), (14, .invokevirtual 80, 3, (30, 1, 11, 6, 592), [1], [1])], 0, [])),
  (17, ([(17, .iload_n 1, 1, (0, 0, 0, 0, 0), [], []), (18, .ireturn, 1, (0, 0, 0, 0, 0), [], [])], 0, [])),
  (19, ([(19, .iload_n 3, 1, (0, 0, 0, 0, 0), [], []), (20, .iload_n 1, 1, (0, 0, 0, 0, 0), [], []), (21, .if_icmp .lt 8, 3, (29, 0, 0, 0, 0), [0, 1], [0, 1, 2, 3])], 0, [])),
  (24, ([(24, .iload_n 3, 1, (0, 0, 0, 0, 0), [], []), (25, .iload_n 2, 1, (0, 0, 0, 0, 0), [], []), (26, .if_icmp .le 14, 3, (40, 0, 0, 0, 0), [0, 3], [0, 1])], 0, [])),
  (29, ([(29, .aload_n 0, 1, (0, 0, 0, 0, 0), [], []), (30, .aload_n 0, 1, (0, 0, 0, 0, 0), [], []), (31, .getfield 28, 3, (6, 5, 0, 51, 0), [], []), (34, .iconst 3, 1, (0, 0, 0, 0, 0), [], []), (35, .invokevirtual 76, 3, (29, 3, 11, 6, 579), [1], [3])], 0, [])),
  (38, ([(38, .iload_n 1, 1, (0, 0, 0, 0, 0), [], []), (39, .ireturn, 1, (0, 0, 0, 0, 0), [], [])], 0, [])),
  (40, ([(40, .aload_n 0, 1, (0, 0, 0, 0, 0), [], []), (41, .invokevirtual 46, 3, (25, 1, 11, 6, 444), [3], [1])], 0, [])),
  (44, ([(44, .iload_n 3, 1, (0, 0, 0, 0, 0), [], []), (45, .ireturn, 1, (0, 0, 0, 0, 0), [], [])], 0, []))]
def cd_Reader_readRow : List (Nat × AB) := [
  (0, ([(0, .iconst 1, 1, (0, 0, 0, 0, 0), [], []), (1, .istore_n 2, 1, (0, 0, 0, 0, 0), [], []), (2, .iconst 0, 1, (0, 0, 0, 0, 0), [], []), (3, .istore_n 3, 1, (0, 0, 0, 0, 0), [], [])], 4, [0, 1, 2, 3])),
  (4, ([(4, .iload_n 3, 1, (0, 0, 0, 0, 0), [], []), (5, .bipush 12, 2, (0, 0, 0, 0, 0), [], []), (7, .if_icmp .gt 89, 3, (96, 0, 0, 0, 0), [2], [0, 1, 2, 3])], 0, [])),
  (10, ([(10, .iload_n 3, 1, (0, 0, 0, 0, 0), [], []), (11, .ifCond .eq 14, 3, (25, 0, 0, 0, 0), [0, 1, 2, 3], [0, 1, 2, 3])], 0, [])),
  (14, ([(14, .aload_n 0, 1, (0, 0, 0, 0, 0), [], []), (15, .getfield 12, 3, (5, 0, 2, 96, 0), [], []), (18, .getfield 51, 3, (6, 3, 0, 47, 0), [], []), (21, .iconst 2, 1, (0, 0, 0, 0, 0), [], []), (22, .if_icmp .ne 74, 3, (96, 0, 0, 0, 0), [2], [0, 1, 2, 3])], 0, [])),
  (25, ([(25, .aload_n 0, 1, (0, 0, 0, 0, 0), [], []), (26, .getfield 12, 3, (5, 0, 2, 96, 0), [], []), (29, .getfield 124, 3, (6, 5, 0, 53, 0), [], []), (32, .istore 4, 2, (0, 0, 0, 0, 0), [], []), (34, .aload_n 0, 1, (0, 0, 0, 0, 0), [], []), (35, .getfield 12, 3, (5, 0, 2, 96, 0), [], []), (38, .iconst 1, 1, (0, 0, 0, 0, 0), [], []), (39, .bipush 99, 2, (0, 0, 0, 0, 0), [], []), (41, .invokevirtual 109, 3, (31, 3, 10, 6, 588), [0, 1, 2, 3, 4], [4])], 0, [])),
  (44, ([(44, .istore 5, 2, (0, 0, 0, 0, 0), [], []), (46, .aload_n 0, 1, (0, 0, 0, 0, 0), [], []), (47, .getfield 12, 3, (5, 0, 2, 96, 0), [], []), (50, .invokevirtual 47, 3, (27, 1, 10, 6, 564), [0, 1, 2, 3, 4, 5], [1])], 0, [])),
  (53, ([(53, .ifCond .ne 5, 3, (58, 0, 0, 0, 0), [0, 1, 2, 3, 4, 5], [2])], 0, [])),
  (56, ([(56, .iload_n 2, 1, (0, 0, 0, 0, 0), [], []), (57, .ireturn, 1, (0, 0, 0, 0, 0), [], [])], 0, [])),
  (58, ([(58, .iload_n 2, 1, (0, 0, 0, 0, 0), [], []), (59, .bipush 12, 2, (0, 0, 0, 0, 0), [], []), (61, .if_icmp .ne 15, 3, (76, 0, 0, 0, 0), [0, 1, 2, 3, 5], [0, 2, 4])], 0, [])),
  (64, ([(64, .aload_n 0, 1, (0, 0, 0, 0, 0), [], []), (65, .getfield 12, 3, (5, 0, 2, 96, 0), [], []), (68, .iload 4, 2, (0, 0, 0, 0, 0), [], []), (70, .iconst 4, 1, (0, 0, 0, 0, 0), [], []), (71, .invokevirtual 127, 3, (29, 3, 11, 6, 593), [2], [3])], 0, [])),
  (74, ([(74, .iload_n 2, 1, (0, 0, 0, 0, 0), [], []), (75, .ireturn, 1, (0, 0, 0, 0, 0), [], [])], 0, [])),
  (76, ([(76, .aload_n 1, 1, (0, 0, 0, 0, 0), [], []), (77, .iload_n 2, 1, (0, 0, 0, 0, 0), [], []), (78, .aload_n 1, 1, (0, 0, 0, 0, 0), [], []), (79, .iload_n 2, 1, (0, 0, 0, 0, 0), [], []), (80, .iconst 1, 1, (0, 0, 0, 0, 0), [], []), (81, .isub, 1, (0, 0, 0, 0, 0), [], []), (82, .iaload, 1, (20, 0, 0, 0, 0), [], []), (83, .iload 5, 2, (0, 0, 0, 0, 0), [], []), (85, .iadd, 1, (0, 0, 0, 0, 0), [], []), (86, .iastore, 1, (0, 0, 0, 0, 0), [], [])], 87, [0, 1, 2, 3])),
  (87, ([(87, .iinc 2 1, 3, (0, 0, 0, 0, 0), [], []), (90, .iinc 3 1, 3, (0, 0, 0, 0, 0), [], []), (93, .goto (-89), 3, (4, 0, 0, 0, 0), [0, 1, 2, 3], [])], 0, [])),
  (96, ([(96, .iload_n 2, 1, (0, 0, 0, 0, 0), [], []), (97, .ireturn, 1, (0, 0, 0, 0, 0), [], [])], 0, []))]
def cd_Tokens_pass : List (Nat × AB) := [
  (0, ([(0, .aload_n 0, 1, (0, 0, 0, 0, 0), [], []), (1, .getfield 22, 3, (6, 3, 0, 46, 0), [], []), (4, .iload_n 1, 1, (0, 0, 0, 0, 0), [], []), (5, .if_icmp .ne 10, 3, (15, 0, 0, 0, 0), [0], [0])], 0, [])),
  (8, ([(8, .aload_n 0, 1, (0, 0, 0, 0, 0), [], []), (9, .invokevirtual 46, 3, (25, 1, 11, 6, 444), [], [1])], 0, [])),
  (12, ([(12, .goto 7, 3, (19, 0, 0, 0, 0), [], [])], 0, [])),
  (15, ([(15, .aload_n 0, 1, (0, 0, 0, 0, 0), [], []), (16, .invokevirtual 80, 3, (30, 1, 11, 6, 592), [], [1])], 0, [])),
  (19, ([(19, .return_, 1, (0, 0, 0, 0, 0), [], [])], 0, []))]
def cd_Reader_readMark : List (Nat × AB) := [
  (0, ([(0, .aload_n 0, 1, (0, 0, 0, 0, 0), [], []), (1, .getfield 12, 3, (5, 0, 2, 96, 0), [], []), (4, .iconst 0, 1, (0, 0, 0, 0, 0), [], []), (5, .iload_n 2, 1, (0, 0, 0, 0, 0), [], []), (6, .iconst 1, 1, (0, 0, 0, 0, 0), [], []), (7, .isub, 1, (0, 0, 0, 0, 0), [], []), (8, .invokevirtual 109, 3, (31, 3, 10, 6, 588), [0, 1], [4])], 0, [])),
  (11, ([(11, .istore_n 3, 1, (0, 0, 0, 0, 0), [], []), (12, .aload_n 0, 1, (0, 0, 0, 0, 0), [], []), (13, .getfield 12, 3, (5, 0, 2, 96, 0), [], []), (16, .sipush 138, 3, (0, 0, 0, 0, 0), [], []), (19, .invokevirtual 58, 3, (33, 2, 11, 6, 598), [0, 1, 3], [2])], 0, [])),
  (22, ([(22, .aload_n 0, 1, (0, 0, 0, 0, 0), [], []), (23, .getfield 12, 3, (5, 0, 2, 96, 0), [], []), (26, .iconst 0, 1, (0, 0, 0, 0, 0), [], []), (27, .bipush 99, 2, (0, 0, 0, 0, 0), [], []), (29, .invokevirtual 109, 3, (31, 3, 10, 6, 588), [0, 1, 3], [4])], 0, [])),
  (32, ([(32, .istore 4, 2, (0, 0, 0, 0, 0), [], []), (34, .aload_n 0, 1, (0, 0, 0, 0, 0), [], []), (35, .getfield 12, 3, (5, 0, 2, 96, 0), [], []), (38, .invokevirtual 47, 3, (27, 1, 10, 6, 564), [1, 3, 4], [1])], 0, [])),
  (41, ([(41, .ifCond .eq 14, 3, (55, 0, 0, 0, 0), [], [1, 3, 4])], 0, [])),
  (44, ([(44, .iload_n 3, 1, (0, 0, 0, 0, 0), [], []), (45, .aload_n 1, 1, (0, 0, 0, 0, 0), [], []), (46, .arraylength, 1, (20, 0, 0, 0, 0), [], []), (47, .if_icmp .ge 8, 3, (55, 0, 0, 0, 0), [], [1, 3, 4])], 0, [])),
  (50, ([(50, .aload_n 1, 1, (0, 0, 0, 0, 0), [], []), (51, .iload_n 3, 1, (0, 0, 0, 0, 0), [], []), (52, .iload 4, 2, (0, 0, 0, 0, 0), [], []), (54, .iastore, 1, (0, 0, 0, 0, 0), [], [])], 55, [])),
  (55, ([(55, .return_, 1, (0, 0, 0, 0, 0), [], [])], 0, []))]
def cd_Window_isHook : List (Nat × AB) := [
  (0, ([(0, .iload_n 1, 1, (0, 0, 0, 0, 0), [], []), (1, .ifCond .lt 15, 3, (16, 0, 0, 0, 0), [], [0, 1])], 0, [])),
  (4, ([(4, .iload_n 1, 1, (0, 0, 0, 0, 0), [], []), (5, .aload_n 0, 1, (0, 0, 0, 0, 0), [], []), (6, .getfield 36, 3, (9, 5, 0, 133, 0), [], []), (9, .if_icmp .ge 7, 3, (16, 0, 0, 0, 0), [], [])], 0, [])),
  (12, ([(12, .iconst 1, 1, (0, 0, 0, 0, 0), [], []), (13, .goto 4, 3, (17, 0, 0, 0, 0), [], [])], 0, [])),
  (16, ([(16, .iconst 0, 1, (0, 0, 0, 0, 0), [], [])], 17, [])),
  (17, ([(17, .ireturn, 1, (1, 0, 0, 0, 0), [], [])], 0, []))]
def cd_Window_isRing : List (Nat × AB) := [
  (0, ([(0, .iload_n 1, 1, (0, 0, 0, 0, 0), [], []), (1, .ifCond .lt 15, 3, (16, 0, 0, 0, 0), [], [0, 1])], 0, [])),
  (4, ([(4, .iload_n 1, 1, (0, 0, 0, 0, 0), [], []), (5, .aload_n 0, 1, (0, 0, 0, 0, 0), [], []), (6, .getfield 40, 3, (9, 6, 0, 141, 0), [], []), (9, .if_icmp .ge 7, 3, (16, 0, 0, 0, 0), [], [])], 0, [])),
  (12, ([(12, .iconst 1, 1, (0, 0, 0, 0, 0), [], []), (13, .goto 4, 3, (17, 0, 0, 0, 0), [], [])], 0, [])),
  (16, ([(16, .iconst 0, 1, (0, 0, 0, 0, 0), [], [])], 17, [])),
  (17, ([(17, .ireturn, 1, (1, 0, 0, 0, 0), [], [])], 0, []))]
def cd_Hanging_isJoined : List (Nat × AB) := [
  (0, ([(0, .iload_n 1, 1, (0, 0, 0, 0, 0), [], []), (1, .ifCond .lt 23, 3, (24, 0, 0, 0, 0), [], [0, 1])], 0, [])),
  (4, ([(4, .iload_n 1, 1, (0, 0, 0, 0, 0), [], []), (5, .bipush 12, 2, (0, 0, 0, 0, 0), [], []), (7, .if_icmp .ge 17, 3, (24, 0, 0, 0, 0), [], [0, 1])], 0, [])),
  (10, ([(10, .aload_n 0, 1, (0, 0, 0, 0, 0), [], []), (11, .getfield 9, 3, (0, 0, 2, 218, 0), [], []), (14, .iload_n 1, 1, (0, 0, 0, 0, 0), [], []), (15, .iaload, 1, (20, 0, 0, 0, 0), [], []), (16, .iconst (-1), 1, (0, 0, 0, 0, 0), [], []), (17, .if_icmp .eq 7, 3, (24, 0, 0, 0, 0), [], [])], 0, [])),
  (20, ([(20, .iconst 1, 1, (0, 0, 0, 0, 0), [], []), (21, .goto 4, 3, (25, 0, 0, 0, 0), [], [])], 0, [])),
  (24, ([(24, .iconst 0, 1, (0, 0, 0, 0, 0), [], [])], 25, [])),
  (25, ([(25, .ireturn, 1, (1, 0, 0, 0, 0), [], [])], 0, []))]
def cd_Window_isBroken : List (Nat × AB) := [
  (0, ([(0, .aload_n 0, 1, (0, 0, 0, 0, 0), [], []), (1, .getfield 43, 3, (9, 7, 0, 150, 0), [], []), (4, .iload_n 1, 1, (0, 0, 0, 0, 0), [], []), (5, .iushr, 1, (0, 0, 0, 0, 0), [], []), (6, .iconst 1, 1, (0, 0, 0, 0, 0), [], []), (7, .iand, 1, (0, 0, 0, 0, 0), [], []), (8, .ifCond .eq 7, 3, (15, 0, 0, 0, 0), [], [])], 0, [])),
  (11, ([(11, .iconst 1, 1, (0, 0, 0, 0, 0), [], []), (12, .goto 4, 3, (16, 0, 0, 0, 0), [], [])], 0, [])),
  (15, ([(15, .iconst 0, 1, (0, 0, 0, 0, 0), [], [])], 16, [])),
  (16, ([(16, .ireturn, 1, (1, 0, 0, 0, 0), [], [])], 0, []))]
def cd_Hanging_hookOn : List (Nat × AB) := [
  (0, ([(0, .iconst 0, 1, (0, 0, 0, 0, 0), [], []), (1, .istore_n 3, 1, (0, 0, 0, 0, 0), [], [])], 2, [0, 1, 2, 3])),
  (2, ([(2, .iload_n 3, 1, (0, 0, 0, 0, 0), [], []), (3, .aload_n 1, 1, (0, 0, 0, 0, 0), [], []), (4, .getfield 47, 3, (9, 5, 0, 136, 0), [], []), (7, .if_icmp .ge 21, 3, (28, 0, 0, 0, 0), [], [0, 1, 2, 3])], 0, [])),
  (10, ([(10, .aload_n 0, 1, (0, 0, 0, 0, 0), [], []), (11, .getfield 9, 3, (0, 0, 2, 218, 0), [], []), (14, .iload_n 3, 1, (0, 0, 0, 0, 0), [], []), (15, .iaload, 1, (20, 0, 0, 0, 0), [], []), (16, .iload_n 2, 1, (0, 0, 0, 0, 0), [], []), (17, .if_icmp .ne 5, 3, (22, 0, 0, 0, 0), [0, 1, 2, 3], [3])], 0, [])),
  (20, ([(20, .iload_n 3, 1, (0, 0, 0, 0, 0), [], []), (21, .ireturn, 1, (0, 0, 0, 0, 0), [], [])], 0, [])),
  (22, ([(22, .iinc 3 1, 3, (0, 0, 0, 0, 0), [], []), (25, .goto (-23), 3, (2, 0, 0, 0, 0), [0, 1, 2, 3], [])], 0, [])),
  (28, ([(28, .iconst (-1), 1, (0, 0, 0, 0, 0), [], []), (29, .ireturn, 1, (0, 0, 0, 0, 0), [], [])], 0, []))]
def cd_Hanging_joinedAhead : List (Nat × AB) := [
  (0, ([(0, .iload_n 1, 1, (0, 0, 0, 0, 0), [], []), (1, .iconst 1, 1, (0, 0, 0, 0, 0), [], []), (2, .isub, 1, (0, 0, 0, 0, 0), [], []), (3, .istore_n 2, 1, (0, 0, 0, 0, 0), [], [])], 4, [0, 2])),
  (4, ([(4, .iload_n 2, 1, (0, 0, 0, 0, 0), [], []), (5, .ifCond .lt 19, 3, (24, 0, 0, 0, 0), [], [0, 2])], 0, [])),
  (8, ([(8, .aload_n 0, 1, (0, 0, 0, 0, 0), [], []), (9, .iload_n 2, 1, (0, 0, 0, 0, 0), [], []), (10, .invokevirtual 37, 3, (37, 2, 10, 0, 618), [0, 2], [2])], 0, [])),
  (13, ([(13, .ifCond .eq 5, 3, (18, 0, 0, 0, 0), [0, 2], [2])], 0, [])),
  (16, ([(16, .iload_n 2, 1, (0, 0, 0, 0, 0), [], []), (17, .ireturn, 1, (0, 0, 0, 0, 0), [], [])], 0, [])),
  (18, ([(18, .iinc 2 (-1), 3, (0, 0, 0, 0, 0), [], []), (21, .goto (-17), 3, (4, 0, 0, 0, 0), [0, 2], [])], 0, [])),
  (24, ([(24, .iconst (-1), 1, (0, 0, 0, 0, 0), [], []), (25, .ireturn, 1, (0, 0, 0, 0, 0), [], [])], 0, []))]
def cd_Hanging_joinedBehind : List (Nat × AB) := [
  (0, ([(0, .iload_n 2, 1, (0, 0, 0, 0, 0), [], []), (1, .iconst 1, 1, (0, 0, 0, 0, 0), [], []), (2, .iadd, 1, (0, 0, 0, 0, 0), [], []), (3, .istore_n 3, 1, (0, 0, 0, 0, 0), [], [])], 4, [0, 1, 3])),
  (4, ([(4, .iload_n 3, 1, (0, 0, 0, 0, 0), [], []), (5, .aload_n 1, 1, (0, 0, 0, 0, 0), [], []), (6, .getfield 47, 3, (9, 5, 0, 136, 0), [], []), (9, .if_icmp .ge 19, 3, (28, 0, 0, 0, 0), [], [0, 1, 3])], 0, [])),
  (12, ([(12, .aload_n 0, 1, (0, 0, 0, 0, 0), [], []), (13, .iload_n 3, 1, (0, 0, 0, 0, 0), [], []), (14, .invokevirtual 37, 3, (37, 2, 10, 0, 618), [0, 1, 3], [2])], 0, [])),
  (17, ([(17, .ifCond .eq 5, 3, (22, 0, 0, 0, 0), [0, 1, 3], [3])], 0, [])),
  (20, ([(20, .iload_n 3, 1, (0, 0, 0, 0, 0), [], []), (21, .ireturn, 1, (0, 0, 0, 0, 0), [], [])], 0, [])),
  (22, ([(22, .iinc 3 1, 3, (0, 0, 0, 0, 0), [], []), (25, .goto (-21), 3, (4, 0, 0, 0, 0), [0, 1, 3], [])], 0, [])),
  (28, ([(28, .iconst (-1), 1, (0, 0, 0, 0, 0), [], []), (29, .ireturn, 1, (0, 0, 0, 0, 0), [], [])], 0, []))]
def cd_Window_sagBetween : List (Nat × AB) := [
  (0, ([(0, .aload_n 0, 1, (0, 0, 0, 0, 0), [], []), (1, .getfield 9, 3, (9, 0, 2, 116, 0), [], []), (4, .iload_n 3, 1, (0, 0, 0, 0, 0), [], []), (5, .iaload, 1, (20, 0, 0, 0, 0), [], []), (6, .aload_n 0, 1, (0, 0, 0, 0, 0), [], []), (7, .getfield 9, 3, (9, 0, 2, 116, 0), [], []), (10, .iload_n 1, 1, (0, 0, 0, 0, 0), [], []), (11, .iaload, 1, (20, 0, 0, 0, 0), [], []), (12, .isub, 1, (0, 0, 0, 0, 0), [], []), (13, .aload_n 0, 1, (0, 0, 0, 0, 0), [], []), (14, .getfield 15, 3, (9, 1, 2, 119, 0), [], []), (17, .iload 4, 2, (0, 0, 0, 0, 0), [], []), (19, .iaload, 1, (20, 0, 0, 0, 0), [], []), (20, .aload_n 0, 1, (0, 0, 0, 0, 0), [], []), (21, .getfield 15, 3, (9, 1, 2, 119, 0), [], []), (24, .iload_n 2, 1, (0, 0, 0, 0, 0), [], []), (25, .iaload, 1, (20, 0, 0, 0, 0), [], []), (26, .isub, 1, (0, 0, 0, 0, 0), [], []), (27, .isub, 1, (0, 0, 0, 0, 0), [], []), (28, .ireturn, 1, (0, 0, 0, 0, 0), [], [])], 0, []))]
def cd_Hanging_whyNotJoin : List (Nat × AB) := [
  (0, ([(0, .aload_n 1, 1, (0, 0, 0, 0, 0), [], []), (1, .iload_n 2, 1, (0, 0, 0, 0, 0), [], []), (2, .invokevirtual 77, 3, (35, 2, 10, 9, 610), [0, 1, 2, 3], [2])], 0, [])),
  (5, ([(5, .ifCond .eq 11, 3, (16, 0, 0, 0, 0), [], [0, 1, 2, 3])], 0, [])),
  (8, ([(8, .aload_n 1, 1, (0, 0, 0, 0, 0), [], []), (9, .iload_n 3, 1, (0, 0, 0, 0, 0), [], []), (10, .invokevirtual 80, 3, (36, 2, 10, 9, 614), [0, 1, 2, 3], [2])], 0, [])),
  (13, ([(13, .ifCond .ne 5, 3, (18, 0, 0, 0, 0), [0, 1, 2, 3], [])], 0, [])),
  (16, ([(16, .iconst 1, 1, (0, 0, 0, 0, 0), [], []), (17, .ireturn, 1, (0, 0, 0, 0, 0), [], [])], 0, [])),
  (18, ([(18, .aload_n 0, 1, (0, 0, 0, 0, 0), [], []), (19, .iload_n 2, 1, (0, 0, 0, 0, 0), [], []), (20, .invokevirtual 37, 3, (37, 2, 10, 0, 618), [0, 1, 2, 3], [2])], 0, [])),
  (23, ([(23, .ifCond .ne 21, 3, (44, 0, 0, 0, 0), [], [0, 1, 2, 3])], 0, [])),
  (26, ([(26, .aload_n 1, 1, (0, 0, 0, 0, 0), [], []), (27, .iload_n 3, 1, (0, 0, 0, 0, 0), [], []), (28, .invokevirtual 83, 3, (38, 2, 10, 9, 622), [0, 1, 2, 3], [2])], 0, [])),
  (31, ([(31, .ifCond .ne 13, 3, (44, 0, 0, 0, 0), [], [0, 1, 2, 3])], 0, [])),
  (34, ([(34, .aload_n 0, 1, (0, 0, 0, 0, 0), [], []), (35, .aload_n 1, 1, (0, 0, 0, 0, 0), [], []), (36, .iload_n 3, 1, (0, 0, 0, 0, 0), [], []), (37, .invokevirtual 86, 3, (39, 3, 10, 0, 626), [0, 1, 2, 3], [4])], 0, [])),
  (40, ([(40, .iconst (-1), 1, (0, 0, 0, 0, 0), [], []), (41, .if_icmp .eq 5, 3, (46, 0, 0, 0, 0), [0, 1, 2, 3], [])], 0, [])),
  (44, ([(44, .iconst 2, 1, (0, 0, 0, 0, 0), [], []), (45, .ireturn, 1, (0, 0, 0, 0, 0), [], [])], 0, [])),
  (46, ([(46, .aload_n 0, 1, (0, 0, 0, 0, 0), [], []), (47, .iload_n 2, 1, (0, 0, 0, 0, 0), [], []), (48, .invokevirtual 89, 3, (40, 2, 10, 0, 630), [0, 1, 2, 3], [3])], 0, [])),
  (51, ([(51, .istore 4, 2, (0, 0, 0, 0, 0), [], []), (53, .aload_n 0, 1, (0, 0, 0, 0, 0), [], []), (54, .aload_n 1, 1, (0, 0, 0, 0, 0), [], []), (55, .iload_n 2, 1, (0, 0, 0, 0, 0), [], []), (56, .invokevirtual 54, 3, (41, 3, 10, 0, 634), [0, 1, 2, 3, 4], [4])], 0, [])),
  (59, ([(59, .istore 5, 2, (0, 0, 0, 0, 0), [], []), (61, .iload 4, 2, (0, 0, 0, 0, 0), [], []), (63, .iconst (-1), 1, (0, 0, 0, 0, 0), [], []), (64, .if_icmp .eq 14, 3, (78, 0, 0, 0, 0), [0, 1, 2, 3, 4, 5], [0, 1, 2, 3, 4, 5])], 0, [])),
  (67, ([(67, .aload_n 0, 1, (0, 0, 0, 0, 0), [], []), (68, .getfield 9, 3, (0, 0, 2, 218, 0), [], []), (71, .iload 4, 2, (0, 0, 0, 0, 0), [], []), (73, .iaload, 1, (20, 0, 0, 0, 0), [], []), (74, .iload_n 3, 1, (0, 0, 0, 0, 0), [], []), (75, .if_icmp .gt 20, 3, (95, 0, 0, 0, 0), [], [0, 1, 2, 3, 4, 5])], 0, [])),
  (78, ([(78, .iload 5, 2, (0, 0, 0, 0, 0), [], []), (80, .iconst (-1), 1, (0, 0, 0, 0, 0), [], []), (81, .if_icmp .eq 16, 3, (97, 0, 0, 0, 0), [0, 1, 2, 3, 4, 5], [0, 1, 2, 3, 4, 5])], 0, [])),
  (84, ([(84, .aload_n 0, 1, (0, 0, 0, 0, 0), [], []), (85, .getfield 9, 3, (0, 0, 2, 218, 0), [], []), (88, .iload 5, 2, (0, 0, 0, 0, 0), [], []), (90, .iaload, 1, (20, 0, 0, 0, 0), [], []), (91, .iload_n 3, 1, (0, 0, 0, 0, 0), [], []), (92, .if_icmp .ge 5, 3, (97, 0, 0, 0, 0), [0, 1, 2, 3, 4, 5], [])], 0, [])),
  (95, ([(95, .iconst 3, 1, (0, 0, 0, 0, 0), [], []), (96, .ireturn, 1, (0, 0, 0, 0, 0), [], [])], 0, [])),
  (97, ([(97, .iload 4, 2, (0, 0, 0, 0, 0), [], []), (99, .iconst (-1), 1, (0, 0, 0, 0, 0), [], []), (100, .if_icmp .eq 23, 3, (123, 0, 0, 0, 0), [0, 1, 2, 3, 5], [0, 1, 2, 3, 4, 5])], 0, [])),
  (103, ([(103, .aload_n 1, 1, (0, 0, 0, 0, 0), [], []), (104, .iload 4, 2, (0, 0, 0, 0, 0), [], []), (106, .aload_n 0, 1, (0, 0, 0, 0, 0), [], []), (107, .getfield 9, 3, (0, 0, 2, 218, 0), [], []), (110, .iload 4, 2, (0, 0, 0, 0, 0), [], []), (112, .iaload, 1, (20, 0, 0, 0, 0), [], []), (113, .iload_n 2, 1, (0, 0, 0, 0, 0), [], []), (114, .iload_n 3, 1, (0, 0, 0, 0, 0), [], []), (115, .invokevirtual 58, 3, (42, 5, 10, 9, 638), [0, 1, 2, 3, 5], [5])], 0, [])),
  (118, ([(118, .ifCond .ge 5, 3, (123, 0, 0, 0, 0), [0, 1, 2, 3, 5], [])], 0, [])),
  (121, ([(121, .iconst 4, 1, (0, 0, 0, 0, 0), [], []), (122, .ireturn, 1, (0, 0, 0, 0, 0), [], [])], 0, [])),
  (123, ([(123, .iload 5, 2, (0, 0, 0, 0, 0), [], []), (125, .iconst (-1), 1, (0, 0, 0, 0, 0), [], []), (126, .if_icmp .eq 25, 3, (151, 0, 0, 0, 0), [], [0, 1, 2, 3, 5])], 0, [])),
  (129, ([(129, .aload_n 1, 1, (0, 0, 0, 0, 0), [], []), (130, .iload_n 2, 1, (0, 0, 0, 0, 0), [], []), (131, .iload_n 3, 1, (0, 0, 0, 0, 0), [], []), (132, .iload 5, 2, (0, 0, 0, 0, 0), [], []), (134, .aload_n 0, 1, (0, 0, 0, 0, 0), [], []), (135, .getfield 9, 3, (0, 0, 2, 218, 0), [], []), (138, .iload 5, 2, (0, 0, 0, 0, 0), [], []), (140, .iaload, 1, (20, 0, 0, 0, 0), [], []), (141, .invokevirtual 58, 3, (42, 5, 10, 9, 638), [], [5])], 0, [])),
  (144, ([(144, .ifCond .ge 7, 3, (151, 0, 0, 0, 0), [], [])], 0, [])),
  (147, ([(147, .iconst 4, 1, (0, 0, 0, 0, 0), [], []), (148, .goto 4, 3, (152, 0, 0, 0, 0), [], [])], 0, [])),
  (151, ([(151, .iconst 0, 1, (0, 0, 0, 0, 0), [], [])], 152, [])),
  (152, ([(152, .ireturn, 1, (0, 0, 0, 0, 0), [], [])], 0, []))]
def cd_Reader_readJoin : List (Nat × AB) := [
  (0, ([(0, .aload_n 0, 1, (0, 0, 0, 0, 0), [], []), (1, .getfield 12, 3, (5, 0, 2, 96, 0), [], []), (4, .iconst 0, 1, (0, 0, 0, 0, 0), [], []), (5, .aload_n 1, 1, (0, 0, 0, 0, 0), [], []), (6, .getfield 93, 3, (9, 5, 0, 135, 0), [], []), (9, .iconst 1, 1, (0, 0, 0, 0, 0), [], []), (10, .isub, 1, (0, 0, 0, 0, 0), [], []), (11, .invokevirtual 109, 3, (31, 3, 10, 6, 588), [0, 1, 2], [4])], 0, [])),
  (14, ([(14, .istore_n 3, 1, (0, 0, 0, 0, 0), [], []), (15, .aload_n 0, 1, (0, 0, 0, 0, 0), [], []), (16, .getfield 12, 3, (5, 0, 2, 96, 0), [], []), (19, .getfield 124, 3, (6, 5, 0, 53, 0), [], []), (22, .istore 4, 2, (0, 0, 0, 0, 0), [], []), (24, .aload_n 0, 1, (0, 0, 0, 0, 0), [], []), (25, .getfield 12, 3, (5, 0, 2, 96, 0), [], []), (28, .iconst 0, 1, (0, 0, 0, 0, 0), [], []), (29, .aload_n 1, 1, (0, 0, 0, 0, 0), [], []), (30, .getfield 87, 3, (9, 6, 0, 145, 0), [], []), (33, .iconst 1, 1, (0, 0, 0, 0, 0), [], []), (34, .isub, 1, (0, 0, 0, 0, 0), [], []), (35, .invokevirtual 109, 3, (31, 3, 10, 6, 588), [0, 1, 2, 3, 4], [4])], 0, [])),
  (38, ([(38, .istore 5, 2, (0, 0, 0, 0, 0), [], []), (40, .aload_n 0, 1, (0, 0, 0, 0, 0), [], []), (41, .getfield 12, 3, (5, 0, 2, 96, 0), [], []), (44, .invokevirtual 47, 3, (27, 1, 10, 6, 564), [0, 1, 2, 3, 4, 5], [1])], 0, [])),
  (47, ([(47, .ifCond .ne 4, 3, (51, 0, 0, 0, 0), [0, 1, 2, 3, 4, 5], [])], 0, [])),
  (50, ([(50, .return_, 1, (0, 0, 0, 0, 0), [], [])], 0, [])),
  (51, ([(51, .aload_n 2, 1, (0, 0, 0, 0, 0), [], []), (52, .aload_n 1, 1, (0, 0, 0, 0, 0), [], []), (53, .iload_n 3, 1, (0, 0, 0, 0, 0), [], []), (54, .iload 5, 2, (0, 0, 0, 0, 0), [], []), (56, .invokevirtual 131, 3, (43, 4, 10, 0, 606), [0, 2, 3, 4, 5], [6])], 0, [])),
  (59, ([(59, .ifCond .ne 14, 3, (73, 0, 0, 0, 0), [0, 4], [2, 3, 5])], 0, [])),
  (62, ([(62, .aload_n 2, 1, (0, 0, 0, 0, 0), [], []), (63, .getfield 135, 3, (0, 0, 2, 222, 0), [], []), (66, .iload_n 3, 1, (0, 0, 0, 0, 0), [], []), (67, .iload 5, 2, (0, 0, 0, 0, 0), [], []), (69, .iastore, 1, (0, 0, 0, 0, 0), [], [])], 70, [])),
  (70, ([(70, .goto 13, 3, (83, 0, 0, 0, 0), [], [])], 0, [])),
  (73, ([(73, .aload_n 0, 1, (0, 0, 0, 0, 0), [], []), (74, .getfield 12, 3, (5, 0, 2, 96, 0), [], []), (77, .iload 4, 2, (0, 0, 0, 0, 0), [], []), (79, .iconst 3, 1, (0, 0, 0, 0, 0), [], []), (80, .invokevirtual 127, 3, (29, 3, 11, 6, 593), [], [3])], 0, [])),
  (83, ([(83, .return_, 1, (0, 0, 0, 0, 0), [], [])], 0, []))]
def cd_Law_mayEnter : List (Nat × AB) := [
  (0, ([(0, .iload_n 1, 1, (0, 0, 0, 0, 0), [], []), (1, .bipush 6, 2, (0, 0, 0, 0, 0), [], []), (3, .if_icmp .lt 14, 3, (17, 0, 0, 0, 0), [], [0])], 0, [])),
  (6, ([(6, .aload_n 0, 1, (0, 0, 0, 0, 0), [], []), (7, .aload_n 0, 1, (0, 0, 0, 0, 0), [], []), (8, .getfield 59, 3, (6, 5, 0, 52, 0), [], []), (11, .iconst 4, 1, (0, 0, 0, 0, 0), [], []), (12, .invokevirtual 62, 3, (29, 3, 11, 6, 659), [], [3])], 0, [])),
  (15, ([(15, .iconst 0, 1, (0, 0, 0, 0, 0), [], []), (16, .ireturn, 1, (1, 0, 0, 0, 0), [], [])], 0, [])),
  (17, ([(17, .iconst 1, 1, (0, 0, 0, 0, 0), [], []), (18, .ireturn, 1, (1, 0, 0, 0, 0), [], [])], 0, []))]
def cd_Law_emit : List (Nat × AB) := [
  (0, ([(0, .aload_n 0, 1, (0, 0, 0, 0, 0), [], []), (1, .getfield 18, 3, (3, 2, 0, 84, 0), [], []), (4, .aload_n 0, 1, (0, 0, 0, 0, 0), [], []), (5, .getfield 9, 3, (3, 0, 2, 82, 0), [], []), (8, .arraylength, 1, (20, 0, 0, 0, 0), [], []), (9, .if_icmp .ge 23, 3, (32, 0, 0, 0, 0), [], [0, 1])], 0, [])),
  (12, ([(12, .aload_n 0, 1, (0, 0, 0, 0, 0), [], []), (13, .getfield 9, 3, (3, 0, 2, 82, 0), [], []), (16, .aload_n 0, 1, (0, 0, 0, 0, 0), [], []), (17, .getfield 18, 3, (3, 2, 0, 84, 0), [], []), (20, .iload_n 1, 1, (0, 0, 0, 0, 0), [], []), (21, .iastore, 1, (0, 0, 0, 0, 0), [], [])], 22, [0])),
  (22, ([(22, .aload_n 0, 1, (0, 0, 0, 0, 0), [], []), (23, .dup, 1, (0, 0, 0, 0, 0), [], []), (24, .getfield 18, 3, (3, 2, 0, 84, 0), [], []), (27, .iconst 1, 1, (0, 0, 0, 0, 0), [], []), (28, .iadd, 1, (0, 0, 0, 0, 0), [], []), (29, .putfield 18, 3, (3, 2, 0, 84, 0), [], [])], 32, [])),
  (32, ([(32, .return_, 1, (0, 0, 0, 0, 0), [], [])], 0, []))]
def cd_Law_readUnit : List (Nat × AB) := [
  (0, ([(0, .aload_n 1, 1, (0, 0, 0, 0, 0), [], []), (1, .getfield 45, 3, (6, 3, 0, 48, 0), [], []), (4, .sipush 141, 3, (0, 0, 0, 0, 0), [], []), (7, .if_icmp .ne 32, 3, (39, 0, 0, 0, 0), [0, 1, 2], [0, 1, 2])], 0, [])),
  (10, ([(10, .aload_n 1, 1, (0, 0, 0, 0, 0), [], []), (11, .iload_n 2, 1, (0, 0, 0, 0, 0), [], []), (12, .invokestatic 66, 3, (45, 2, 0, 0, 656), [0, 1, 2], [2])], 0, [])),
  (15, ([(15, .ifCond .eq 23, 3, (38, 0, 0, 0, 0), [], [0, 1, 2])], 0, [])),
  (18, ([(18, .aload_n 1, 1, (0, 0, 0, 0, 0), [], []), (19, .invokevirtual 52, 3, (25, 1, 11, 6, 660), [0, 1, 2], [1])], 0, [])),
  (22, ([(22, .aload_n 0, 1, (0, 0, 0, 0, 0), [], []), (23, .aload_n 1, 1, (0, 0, 0, 0, 0), [], []), (24, .iconst 2, 1, (0, 0, 0, 0, 0), [], []), (25, .iload_n 2, 1, (0, 0, 0, 0, 0), [], []), (26, .iconst 1, 1, (0, 0, 0, 0, 0), [], []), (27, .iadd, 1, (0, 0, 0, 0, 0), [], []), (28, .invokevirtual 28, 3, (51, 4, 11, 3, 647), [0], [6])], 0, [])),
  (31, ([(31, .aload_n 0, 1, (0, 0, 0, 0, 0), [], []), (32, .sipush 141, 3, (0, 0, 0, 0, 0), [], []), (35, .invokevirtual 55, 3, (46, 2, 11, 3, 661), [], [2])], 0, [])),
  (38, ([(38, .return_, 1, (0, 0, 0, 0, 0), [], [])], 0, [])),
  (39, ([(39, .aload_n 1, 1, (0, 0, 0, 0, 0), [], []), (40, .getfield 45, 3, (6, 3, 0, 48, 0), [], []), (43, .bipush 91, 2, (0, 0, 0, 0, 0), [], []), (45, .if_icmp .ne 45, 3, (90, 0, 0, 0, 0), [0, 1, 2], [0, 1, 2])], 0, [])),
  (48, ([(48, .aload_n 1, 1, (0, 0, 0, 0, 0), [], []), (49, .iload_n 2, 1, (0, 0, 0, 0, 0), [], []), (50, .invokestatic 66, 3, (45, 2, 0, 0, 656), [0, 1, 2], [2])], 0, [])),
  (53, ([(53, .ifCond .eq 36, 3, (89, 0, 0, 0, 0), [], [0, 1, 2])], 0, [])),
  (56, ([(56, .aload_n 1, 1, (0, 0, 0, 0, 0), [], []), (57, .invokevirtual 52, 3, (25, 1, 11, 6, 660), [0, 1, 2], [1])], 0, [])),
  (60, ([(60, .aload_n 0, 1, (0, 0, 0, 0, 0), [], []), (61, .aload_n 1, 1, (0, 0, 0, 0, 0), [], []), (62, .iconst 0, 1, (0, 0, 0, 0, 0), [], []), (63, .iload_n 2, 1, (0, 0, 0, 0, 0), [], []), (64, .iconst 1, 1, (0, 0, 0, 0, 0), [], []), (65, .iadd, 1, (0, 0, 0, 0, 0), [], []), (66, .invokevirtual 28, 3, (51, 4, 11, 3, 647), [1], [6])], 0, [])),
  (69, ([(69, .aload_n 1, 1, (0, 0, 0, 0, 0), [], []), (70, .getfield 45, 3, (6, 3, 0, 48, 0), [], []), (73, .bipush 93, 2, (0, 0, 0, 0, 0), [], []), (75, .if_icmp .ne 10, 3, (85, 0, 0, 0, 0), [1], [1])], 0, [])),
  (78, ([(78, .aload_n 1, 1, (0, 0, 0, 0, 0), [], []), (79, .invokevirtual 52, 3, (25, 1, 11, 6, 660), [], [1])], 0, [])),
  (82, ([(82, .goto 7, 3, (89, 0, 0, 0, 0), [], [])], 0, [])),
  (85, ([(85, .aload_n 1, 1, (0, 0, 0, 0, 0), [], []), (86, .invokevirtual 70, 3, (30, 1, 11, 6, 665), [], [1])], 0, [])),
  (89, ([(89, .return_, 1, (0, 0, 0, 0, 0), [], [])], 0, [])),
  (90, ([(90, .aload_n 0, 1, (0, 0, 0, 0, 0), [], []), (91, .aload_n 1, 1, (0, 0, 0, 0, 0), [], []), (92, .iconst 3, 1, (0, 0, 0, 0, 0), [], []), (93, .iload_n 2, 1, (0, 0, 0, 0, 0), [], []), (94, .invokevirtual 28, 3, (51, 4, 11, 3, 647), [0, 1, 2], [6])], 0, [])),
  (97, ([(97, .aload_n 1, 1, (0, 0, 0, 0, 0), [], []), (98, .getfield 45, 3, (6, 3, 0, 48, 0), [], []), (101, .istore_n 3, 1, (0, 0, 0, 0, 0), [], []), (102, .iload_n 3, 1, (0, 0, 0, 0, 0), [], []), (103, .bipush 61, 2, (0, 0, 0, 0, 0), [], []), (105, .if_icmp .eq 15, 3, (120, 0, 0, 0, 0), [0, 1, 2, 3], [0, 1, 2, 3])], 0, [])),
  (108, ([(108, .iload_n 3, 1, (0, 0, 0, 0, 0), [], []), (109, .bipush 60, 2, (0, 0, 0, 0, 0), [], []), (111, .if_icmp .eq 9, 3, (120, 0, 0, 0, 0), [0, 1, 2, 3], [0, 1, 2, 3])], 0, [])),
  (114, ([(114, .iload_n 3, 1, (0, 0, 0, 0, 0), [], []), (115, .bipush 62, 2, (0, 0, 0, 0, 0), [], []), (117, .if_icmp .ne 22, 3, (139, 0, 0, 0, 0), [1], [0, 1, 2, 3])], 0, [])),
  (120, ([(120, .aload_n 1, 1, (0, 0, 0, 0, 0), [], []), (121, .invokevirtual 52, 3, (25, 1, 11, 6, 660), [0, 1, 2, 3], [1])], 0, [])),
  (124, ([(124, .aload_n 0, 1, (0, 0, 0, 0, 0), [], []), (125, .aload_n 1, 1, (0, 0, 0, 0, 0), [], []), (126, .iconst 3, 1, (0, 0, 0, 0, 0), [], []), (127, .iload_n 2, 1, (0, 0, 0, 0, 0), [], []), (128, .invokevirtual 28, 3, (51, 4, 11, 3, 647), [0, 3], [6])], 0, [])),
  (131, ([(131, .aload_n 0, 1, (0, 0, 0, 0, 0), [], []), (132, .iload_n 3, 1, (0, 0, 0, 0, 0), [], []), (133, .invokevirtual 55, 3, (46, 2, 11, 3, 661), [], [2])], 0, [])),
  (136, ([(136, .goto 7, 3, (143, 0, 0, 0, 0), [], [])], 0, [])),
  (139, ([(139, .aload_n 1, 1, (0, 0, 0, 0, 0), [], []), (140, .invokevirtual 70, 3, (30, 1, 11, 6, 665), [], [1])], 0, [])),
  (143, ([(143, .return_, 1, (0, 0, 0, 0, 0), [], [])], 0, []))]
def cd_Law_isName : List (Nat × AB) := [
  (0, ([(0, .iload_n 0, 1, (0, 0, 0, 0, 0), [], []), (1, .sipush 130, 3, (0, 0, 0, 0, 0), [], []), (4, .if_icmp .eq 24, 3, (28, 0, 0, 0, 0), [], [0])], 0, [])),
  (7, ([(7, .iload_n 0, 1, (0, 0, 0, 0, 0), [], []), (8, .sipush 131, 3, (0, 0, 0, 0, 0), [], []), (11, .if_icmp .eq 17, 3, (28, 0, 0, 0, 0), [], [0])], 0, [])),
  (14, ([(14, .iload_n 0, 1, (0, 0, 0, 0, 0), [], []), (15, .sipush 142, 3, (0, 0, 0, 0, 0), [], []), (18, .if_icmp .lt 14, 3, (32, 0, 0, 0, 0), [], [0])], 0, [])),
  (21, ([(21, .iload_n 0, 1, (0, 0, 0, 0, 0), [], []), (22, .sipush 145, 3, (0, 0, 0, 0, 0), [], []), (25, .if_icmp .gt 7, 3, (32, 0, 0, 0, 0), [], [])], 0, [])),
  (28, ([(28, .iconst 1, 1, (0, 0, 0, 0, 0), [], []), (29, .goto 4, 3, (33, 0, 0, 0, 0), [], [])], 0, [])),
  (32, ([(32, .iconst 0, 1, (0, 0, 0, 0, 0), [], [])], 33, [])),
  (33, ([(33, .ireturn, 1, (1, 0, 0, 0, 0), [], [])], 0, []))]
def cd_Law_readAtom : List (Nat × AB) := [
  (0, ([(0, .aload_n 1, 1, (0, 0, 0, 0, 0), [], []), (1, .getfield 45, 3, (6, 3, 0, 48, 0), [], []), (4, .bipush 40, 2, (0, 0, 0, 0, 0), [], []), (6, .if_icmp .ne 47, 3, (53, 0, 0, 0, 0), [0, 1], [0, 1, 2])], 0, [])),
  (9, ([(9, .aload_n 1, 1, (0, 0, 0, 0, 0), [], []), (10, .iload_n 2, 1, (0, 0, 0, 0, 0), [], []), (11, .invokestatic 66, 3, (45, 2, 0, 0, 656), [0, 1, 2], [2])], 0, [])),
  (14, ([(14, .ifCond .eq 95, 3, (109, 0, 0, 0, 0), [], [0, 1, 2])], 0, [])),
  (17, ([(17, .aload_n 1, 1, (0, 0, 0, 0, 0), [], []), (18, .invokevirtual 52, 3, (25, 1, 11, 6, 660), [0, 1, 2], [1])], 0, [])),
  (21, ([(21, .aload_n 0, 1, (0, 0, 0, 0, 0), [], []), (22, .aload_n 1, 1, (0, 0, 0, 0, 0), [], []), (23, .iconst 3, 1, (0, 0, 0, 0, 0), [], []), (24, .iload_n 2, 1, (0, 0, 0, 0, 0), [], []), (25, .iconst 1, 1, (0, 0, 0, 0, 0), [], []), (26, .iadd, 1, (0, 0, 0, 0, 0), [], []), (27, .invokevirtual 28, 3, (51, 4, 11, 3, 647), [1], [6])], 0, [])),
  (30, ([(30, .aload_n 1, 1, (0, 0, 0, 0, 0), [], []), (31, .getfield 45, 3, (6, 3, 0, 48, 0), [], []), (34, .bipush 41, 2, (0, 0, 0, 0, 0), [], []), (36, .if_icmp .ne 10, 3, (46, 0, 0, 0, 0), [1], [1])], 0, [])),
  (39, ([(39, .aload_n 1, 1, (0, 0, 0, 0, 0), [], []), (40, .invokevirtual 52, 3, (25, 1, 11, 6, 660), [], [1])], 0, [])),
  (43, ([(43, .goto 66, 3, (109, 0, 0, 0, 0), [], [])], 0, [])),
  (46, ([(46, .aload_n 1, 1, (0, 0, 0, 0, 0), [], []), (47, .invokevirtual 70, 3, (30, 1, 11, 6, 665), [], [1])], 0, [])),
  (50, ([(50, .goto 59, 3, (109, 0, 0, 0, 0), [], [])], 0, [])),
  (53, ([(53, .aload_n 1, 1, (0, 0, 0, 0, 0), [], []), (54, .getfield 45, 3, (6, 3, 0, 48, 0), [], []), (57, .iconst 2, 1, (0, 0, 0, 0, 0), [], []), (58, .if_icmp .ne 22, 3, (80, 0, 0, 0, 0), [0, 1], [0, 1])], 0, [])),
  (61, ([(61, .aload_n 0, 1, (0, 0, 0, 0, 0), [], []), (62, .sipush 1000, 3, (0, 0, 0, 0, 0), [], []), (65, .aload_n 1, 1, (0, 0, 0, 0, 0), [], []), (66, .getfield 73, 3, (6, 4, 0, 50, 0), [], []), (69, .iadd, 1, (0, 0, 0, 0, 0), [], []), (70, .invokevirtual 55, 3, (46, 2, 11, 3, 661), [1], [2])], 0, [])),
  (73, ([(73, .aload_n 1, 1, (0, 0, 0, 0, 0), [], []), (74, .invokevirtual 52, 3, (25, 1, 11, 6, 660), [], [1])], 0, [])),
  (77, ([(77, .goto 32, 3, (109, 0, 0, 0, 0), [], [])], 0, [])),
  (80, ([(80, .aload_n 1, 1, (0, 0, 0, 0, 0), [], []), (81, .getfield 45, 3, (6, 3, 0, 48, 0), [], []), (84, .invokestatic 76, 3, (48, 1, 0, 0, 670), [0, 1], [1])], 0, [])),
  (87, ([(87, .ifCond .eq 18, 3, (105, 0, 0, 0, 0), [1], [0, 1])], 0, [])),
  (90, ([(90, .aload_n 0, 1, (0, 0, 0, 0, 0), [], []), (91, .aload_n 1, 1, (0, 0, 0, 0, 0), [], []), (92, .getfield 45, 3, (6, 3, 0, 48, 0), [], []), (95, .invokevirtual 55, 3, (46, 2, 11, 3, 661), [1], [2])], 0, [])),
  (98, ([(98, .aload_n 1, 1, (0, 0, 0, 0, 0), [], []), (99, .invokevirtual 52, 3, (25, 1, 11, 6, 660), [], [1])], 0, [])),
  (102, ([(102, .goto 7, 3, (109, 0, 0, 0, 0), [], [])], 0, [])),
  (105, ([(105, .aload_n 1, 1, (0, 0, 0, 0, 0), [], []), (106, .invokevirtual 70, 3, (30, 1, 11, 6, 665), [], [1])], 0, [])),
  (109, ([(109, .return_, 1, (0, 0, 0, 0, 0), [], [])], 0, []))]
def cd_Law_isBetween : List (Nat × AB) := [
  (0, ([(0, .iload_n 0, 1, (0, 0, 0, 0, 0), [], []), (1, .tableswitch 91 0 4 #[35, 48, 91, 61, 79], 35, (92, 0, 0, 0, 0), [0, 36, 1, 49, 2, 92, 3, 62, 4, 80], [1])], 0, [])),
  (36, ([(36, .iload_n 1, 1, (0, 0, 0, 0, 0), [], []), (37, .sipush 139, 3, (0, 0, 0, 0, 0), [], []), (40, .if_icmp .ne 7, 3, (47, 0, 0, 0, 0), [], [])], 0, [])),
  (43, ([(43, .iconst 1, 1, (0, 0, 0, 0, 0), [], []), (44, .goto 4, 3, (48, 0, 0, 0, 0), [], [])], 0, [])),
  (47, ([(47, .iconst 0, 1, (0, 0, 0, 0, 0), [], [])], 48, [])),
  (48, ([(48, .ireturn, 1, (1, 0, 0, 0, 0), [], [])], 0, [])),
  (49, ([(49, .iload_n 1, 1, (0, 0, 0, 0, 0), [], []), (50, .sipush 140, 3, (0, 0, 0, 0, 0), [], []), (53, .if_icmp .ne 7, 3, (60, 0, 0, 0, 0), [], [])], 0, [])),
  (56, ([(56, .iconst 1, 1, (0, 0, 0, 0, 0), [], []), (57, .goto 4, 3, (61, 0, 0, 0, 0), [], [])], 0, [])),
  (60, ([(60, .iconst 0, 1, (0, 0, 0, 0, 0), [], [])], 61, [])),
  (61, ([(61, .ireturn, 1, (1, 0, 0, 0, 0), [], [])], 0, [])),
  (62, ([(62, .iload_n 1, 1, (0, 0, 0, 0, 0), [], []), (63, .bipush 43, 2, (0, 0, 0, 0, 0), [], []), (65, .if_icmp .eq 9, 3, (74, 0, 0, 0, 0), [], [1])], 0, [])),
  (68, ([(68, .iload_n 1, 1, (0, 0, 0, 0, 0), [], []), (69, .bipush 45, 2, (0, 0, 0, 0, 0), [], []), (71, .if_icmp .ne 7, 3, (78, 0, 0, 0, 0), [], [])], 0, [])),
  (74, ([(74, .iconst 1, 1, (0, 0, 0, 0, 0), [], []), (75, .goto 4, 3, (79, 0, 0, 0, 0), [], [])], 0, [])),
  (78, ([(78, .iconst 0, 1, (0, 0, 0, 0, 0), [], [])], 79, [])),
  (79, ([(79, .ireturn, 1, (1, 0, 0, 0, 0), [], [])], 0, [])),
  (80, ([(80, .iload_n 1, 1, (0, 0, 0, 0, 0), [], []), (81, .bipush 42, 2, (0, 0, 0, 0, 0), [], []), (83, .if_icmp .ne 7, 3, (90, 0, 0, 0, 0), [], [])], 0, [])),
  (86, ([(86, .iconst 1, 1, (0, 0, 0, 0, 0), [], []), (87, .goto 4, 3, (91, 0, 0, 0, 0), [], [])], 0, [])),
  (90, ([(90, .iconst 0, 1, (0, 0, 0, 0, 0), [], [])], 91, [])),
  (91, ([(91, .ireturn, 1, (1, 0, 0, 0, 0), [], [])], 0, [])),
  (92, ([(92, .iconst 0, 1, (0, 0, 0, 0, 0), [], []), (93, .ireturn, 1, (1, 0, 0, 0, 0), [], [])], 0, []))]
def cd_Law_readPart : List (Nat × AB) := [
  (0, ([(0, .iload_n 3, 1, (0, 0, 0, 0, 0), [], []), (1, .bipush 6, 2, (0, 0, 0, 0, 0), [], []), (3, .if_icmp .gt 10, 3, (13, 0, 0, 0, 0), [], [0, 1, 2, 3])], 0, [])),
  (6, ([(6, .aload_n 1, 1, (0, 0, 0, 0, 0), [], []), (7, .invokevirtual 34, 3, (27, 1, 10, 6, 651), [0, 1, 2, 3], [1])], 0, [])),
  (10, ([(10, .ifCond .ne 4, 3, (14, 0, 0, 0, 0), [0, 1, 2, 3], [])], 0, [])),
  (13, ([(13, .return_, 1, (0, 0, 0, 0, 0), [], [])], 0, [])),
  (14, ([(14, .iload_n 2, 1, (0, 0, 0, 0, 0), [], []), (15, .iconst 2, 1, (0, 0, 0, 0, 0), [], []), (16, .if_icmp .ne 10, 3, (26, 0, 0, 0, 0), [0, 1, 2, 3], [0, 1, 3])], 0, [])),
  (19, ([(19, .aload_n 0, 1, (0, 0, 0, 0, 0), [], []), (20, .aload_n 1, 1, (0, 0, 0, 0, 0), [], []), (21, .iload_n 3, 1, (0, 0, 0, 0, 0), [], []), (22, .invokevirtual 38, 3, (47, 3, 11, 3, 652), [], [4])], 0, [])),
  (25, ([(25, .return_, 1, (0, 0, 0, 0, 0), [], [])], 0, [])),
  (26, ([(26, .iload_n 2, 1, (0, 0, 0, 0, 0), [], []), (27, .iconst 5, 1, (0, 0, 0, 0, 0), [], []), (28, .if_icmp .lt 10, 3, (38, 0, 0, 0, 0), [0, 1, 2, 3], [0, 1, 3])], 0, [])),
  (31, ([(31, .aload_n 0, 1, (0, 0, 0, 0, 0), [], []), (32, .aload_n 1, 1, (0, 0, 0, 0, 0), [], []), (33, .iload_n 3, 1, (0, 0, 0, 0, 0), [], []), (34, .invokevirtual 42, 3, (49, 3, 11, 3, 666), [], [3])], 0, [])),
  (37, ([(37, .return_, 1, (0, 0, 0, 0, 0), [], [])], 0, [])),
  (38, ([(38, .aload_n 0, 1, (0, 0, 0, 0, 0), [], []), (39, .aload_n 1, 1, (0, 0, 0, 0, 0), [], []), (40, .iload_n 2, 1, (0, 0, 0, 0, 0), [], []), (41, .iconst 1, 1, (0, 0, 0, 0, 0), [], []), (42, .iadd, 1, (0, 0, 0, 0, 0), [], []), (43, .iload_n 3, 1, (0, 0, 0, 0, 0), [], []), (44, .invokevirtual 28, 3, (51, 4, 11, 3, 647), [0, 1, 2, 3], [6])], 0, [])),
  (47, ([(47, .iconst 0, 1, (0, 0, 0, 0, 0), [], []), (48, .istore 4, 2, (0, 0, 0, 0, 0), [], [])], 50, [0, 1, 2, 3, 4])),
  (50, ([(50, .iload 4, 2, (0, 0, 0, 0, 0), [], []), (52, .sipush 900, 3, (0, 0, 0, 0, 0), [], []), (55, .if_icmp .ge 52, 3, (107, 0, 0, 0, 0), [], [0, 1, 2, 3, 4])], 0, [])),
  (58, ([(58, .aload_n 1, 1, (0, 0, 0, 0, 0), [], []), (59, .invokevirtual 34, 3, (27, 1, 10, 6, 651), [0, 1, 2, 3, 4], [1])], 0, [])),
  (62, ([(62, .ifCond .eq 45, 3, (107, 0, 0, 0, 0), [], [0, 1, 2, 3, 4])], 0, [])),
  (65, ([(65, .iload_n 2, 1, (0, 0, 0, 0, 0), [], []), (66, .aload_n 1, 1, (0, 0, 0, 0, 0), [], []), (67, .getfield 45, 3, (6, 3, 0, 48, 0), [], []), (70, .invokestatic 48, 3, (50, 2, 0, 0, 673), [0, 1, 2, 3, 4], [2])], 0, [])),
  (73, ([(73, .ifCond .eq 34, 3, (107, 0, 0, 0, 0), [], [0, 1, 2, 3, 4])], 0, [])),
  (76, ([(76, .aload_n 1, 1, (0, 0, 0, 0, 0), [], []), (77, .getfield 45, 3, (6, 3, 0, 48, 0), [], []), (80, .istore 5, 2, (0, 0, 0, 0, 0), [], []), (82, .aload_n 1, 1, (0, 0, 0, 0, 0), [], []), (83, .invokevirtual 52, 3, (25, 1, 11, 6, 660), [0, 1, 2, 3, 4, 5], [1])], 0, [])),
  (86, ([(86, .aload_n 0, 1, (0, 0, 0, 0, 0), [], []), (87, .aload_n 1, 1, (0, 0, 0, 0, 0), [], []), (88, .iload_n 2, 1, (0, 0, 0, 0, 0), [], []), (89, .iconst 1, 1, (0, 0, 0, 0, 0), [], []), (90, .iadd, 1, (0, 0, 0, 0, 0), [], []), (91, .iload_n 3, 1, (0, 0, 0, 0, 0), [], []), (92, .invokevirtual 28, 3, (51, 4, 11, 3, 647), [0, 1, 2, 3, 4, 5], [6])], 0, [])),
  (95, ([(95, .aload_n 0, 1, (0, 0, 0, 0, 0), [], []), (96, .iload 5, 2, (0, 0, 0, 0, 0), [], []), (98, .invokevirtual 55, 3, (46, 2, 11, 3, 661), [0, 1, 2, 3, 4], [2])], 0, [])),
  (101, ([(101, .iinc 4 1, 3, (0, 0, 0, 0, 0), [], []), (104, .goto (-54), 3, (50, 0, 0, 0, 0), [0, 1, 2, 3, 4], [])], 0, [])),
  (107, ([(107, .return_, 1, (0, 0, 0, 0, 0), [], [])], 0, []))]
def cd_Law_readTruth : List (Nat × AB) := [
  (0, ([(0, .aload_n 0, 1, (0, 0, 0, 0, 0), [], []), (1, .invokevirtual 25, 3, (19, 1, 11, 3, 646), [0, 1], [1])], 0, [])),
  (4, ([(4, .aload_n 0, 1, (0, 0, 0, 0, 0), [], []), (5, .aload_n 1, 1, (0, 0, 0, 0, 0), [], []), (6, .iconst 0, 1, (0, 0, 0, 0, 0), [], []), (7, .iconst 0, 1, (0, 0, 0, 0, 0), [], []), (8, .invokevirtual 28, 3, (51, 4, 11, 3, 647), [], [6])], 0, [])),
  (11, ([(11, .return_, 1, (0, 0, 0, 0, 0), [], [])], 0, []))]
def cd_Reader_readSetting : List (Nat × AB) := [
  (0, ([(0, .iload_n 1, 1, (0, 0, 0, 0, 0), [], []), (1, .sipush 134, 3, (0, 0, 0, 0, 0), [], []), (4, .if_icmp .ne 48, 3, (52, 0, 0, 0, 0), [0, 1, 2], [0, 2])], 0, [])),
  (7, ([(7, .aload_n 2, 1, (0, 0, 0, 0, 0), [], []), (8, .aload_n 0, 1, (0, 0, 0, 0, 0), [], []), (9, .getfield 12, 3, (5, 0, 2, 96, 0), [], []), (12, .iconst 0, 1, (0, 0, 0, 0, 0), [], []), (13, .bipush 9, 2, (0, 0, 0, 0, 0), [], []), (15, .invokevirtual 109, 3, (31, 3, 10, 6, 588), [0, 2], [4])], 0, [])),
  (18, ([(18, .putfield 138, 3, (9, 8, 0, 154, 0), [], [])], 21, [0, 2])),
  (21, ([(21, .aload_n 2, 1, (0, 0, 0, 0, 0), [], []), (22, .aload_n 0, 1, (0, 0, 0, 0, 0), [], []), (23, .getfield 12, 3, (5, 0, 2, 96, 0), [], []), (26, .iconst 0, 1, (0, 0, 0, 0, 0), [], []), (27, .bipush 99, 2, (0, 0, 0, 0, 0), [], []), (29, .invokevirtual 109, 3, (31, 3, 10, 6, 588), [0, 2], [4])], 0, [])),
  (32, ([(32, .putfield 141, 3, (9, 9, 0, 157, 0), [], [])], 35, [0, 2])),
  (35, ([(35, .aload_n 2, 1, (0, 0, 0, 0, 0), [], []), (36, .aload_n 0, 1, (0, 0, 0, 0, 0), [], []), (37, .getfield 12, 3, (5, 0, 2, 96, 0), [], []), (40, .iconst 1, 1, (0, 0, 0, 0, 0), [], []), (41, .bipush 99, 2, (0, 0, 0, 0, 0), [], []), (43, .invokevirtual 109, 3, (31, 3, 10, 6, 588), [], [4])], 0, [])),
  (46, ([(46, .putfield 144, 3, (9, 10, 0, 160, 0), [], [])], 49, [])),
  (49, ([(49, .goto 56, 3, (105, 0, 0, 0, 0), [], [])], 0, [])),
  (52, ([(52, .iload_n 1, 1, (0, 0, 0, 0, 0), [], []), (53, .sipush 135, 3, (0, 0, 0, 0, 0), [], []), (56, .if_icmp .ne 20, 3, (76, 0, 0, 0, 0), [0, 2], [0, 2])], 0, [])),
  (59, ([(59, .aload_n 2, 1, (0, 0, 0, 0, 0), [], []), (60, .aload_n 0, 1, (0, 0, 0, 0, 0), [], []), (61, .getfield 12, 3, (5, 0, 2, 96, 0), [], []), (64, .iconst 2, 1, (0, 0, 0, 0, 0), [], []), (65, .bipush 6, 2, (0, 0, 0, 0, 0), [], []), (67, .invokevirtual 109, 3, (31, 3, 10, 6, 588), [], [4])], 0, [])),
  (70, ([(70, .putfield 147, 3, (9, 11, 0, 164, 0), [], [])], 73, [])),
  (73, ([(73, .goto 32, 3, (105, 0, 0, 0, 0), [], [])], 0, [])),
  (76, ([(76, .aload_n 2, 1, (0, 0, 0, 0, 0), [], []), (77, .aload_n 0, 1, (0, 0, 0, 0, 0), [], []), (78, .getfield 12, 3, (5, 0, 2, 96, 0), [], []), (81, .iconst 0, 1, (0, 0, 0, 0, 0), [], []), (82, .bipush 9, 2, (0, 0, 0, 0, 0), [], []), (84, .invokevirtual 109, 3, (31, 3, 10, 6, 588), [0, 2], [4])], 0, [])),
  (87, ([(87, .putfield 150, 3, (9, 12, 0, 168, 0), [], [])], 90, [0, 2])),
  (90, ([(90, .aload_n 2, 1, (0, 0, 0, 0, 0), [], []), (91, .aload_n 0, 1, (0, 0, 0, 0, 0), [], []), (92, .getfield 12, 3, (5, 0, 2, 96, 0), [], []), (95, .iconst 0, 1, (0, 0, 0, 0, 0), [], []), (96, .sipush 999, 3, (0, 0, 0, 0, 0), [], []), (99, .invokevirtual 109, 3, (31, 3, 10, 6, 588), [], [4])], 0, [])),
  (102, ([(102, .putfield 153, 3, (9, 13, 0, 171, 0), [], [])], 105, [])),
  (105, ([(105, .return_, 1, (0, 0, 0, 0, 0), [], [])], 0, []))]
def cd_Reader_readLine : List (Nat × AB) := [
  (0, ([(0, .aload_n 0, 1, (0, 0, 0, 0, 0), [], []), (1, .getfield 12, 3, (5, 0, 2, 96, 0), [], []), (4, .getfield 51, 3, (6, 3, 0, 47, 0), [], []), (7, .istore_n 3, 1, (0, 0, 0, 0, 0), [], []), (8, .iload_n 3, 1, (0, 0, 0, 0, 0), [], []), (9, .aload_n 1, 1, (0, 0, 0, 0, 0), [], []), (10, .invokestatic 69, 3, (28, 2, 0, 0, 572), [0, 1, 2, 3], [2])], 0, [])),
  (13, ([(13, .ifCond .ne 11, 3, (24, 0, 0, 0, 0), [0, 1, 2, 3], [0])], 0, [])),
  (16, ([(16, .aload_n 0, 1, (0, 0, 0, 0, 0), [], []), (17, .getfield 12, 3, (5, 0, 2, 96, 0), [], []), (20, .invokevirtual 73, 3, (30, 1, 11, 6, 575), [], [1])], 0, [])),
  (23, ([(23, .return_, 1, (0, 0, 0, 0, 0), [], [])], 0, [])),
  (24, ([(24, .aload_n 0, 1, (0, 0, 0, 0, 0), [], []), (25, .getfield 12, 3, (5, 0, 2, 96, 0), [], []), (28, .invokevirtual 76, 3, (25, 1, 11, 6, 583), [0, 1, 2, 3], [1])], 0, [])),
  (31, ([(31, .iload_n 3, 1, (0, 0, 0, 0, 0), [], []), (32, .tableswitch 176 128 137 #[56, 71, 86, 101, 116, 153, 176, 176, 176, 144], 56, (208, 0, 0, 0, 0), [128, 88, 129, 103, 130, 118, 131, 133, 132, 148, 133, 185, 134, 208, 135, 208, 136, 208, 137, 176], [0, 1, 2, 3])], 0, [])),
  (88, ([(88, .aload_n 1, 1, (0, 0, 0, 0, 0), [], []), (89, .aload_n 0, 1, (0, 0, 0, 0, 0), [], []), (90, .aload_n 1, 1, (0, 0, 0, 0, 0), [], []), (91, .getfield 79, 3, (9, 1, 2, 120, 0), [], []), (94, .invokevirtual 83, 3, (32, 2, 10, 5, 584), [], [6])], 0, [])),
  (97, ([(97, .putfield 87, 3, (9, 6, 0, 145, 0), [], [])], 100, [])),
  (100, ([(100, .goto 114, 3, (214, 0, 0, 0, 0), [], [])], 0, [])),
  (103, ([(103, .aload_n 1, 1, (0, 0, 0, 0, 0), [], []), (104, .aload_n 0, 1, (0, 0, 0, 0, 0), [], []), (105, .aload_n 1, 1, (0, 0, 0, 0, 0), [], []), (106, .getfield 90, 3, (9, 0, 2, 117, 0), [], []), (109, .invokevirtual 83, 3, (32, 2, 10, 5, 584), [], [6])], 0, [])),
  (112, ([(112, .putfield 93, 3, (9, 5, 0, 135, 0), [], [])], 115, [])),
  (115, ([(115, .goto 99, 3, (214, 0, 0, 0, 0), [], [])], 0, [])),
  (118, ([(118, .aload_n 0, 1, (0, 0, 0, 0, 0), [], []), (119, .aload_n 1, 1, (0, 0, 0, 0, 0), [], []), (120, .getfield 96, 3, (9, 2, 2, 123, 0), [], []), (123, .aload_n 1, 1, (0, 0, 0, 0, 0), [], []), (124, .getfield 93, 3, (9, 5, 0, 135, 0), [], []), (127, .invokevirtual 99, 3, (34, 3, 11, 5, 594), [], [5])], 0, [])),
  (130, ([(130, .goto 84, 3, (214, 0, 0, 0, 0), [], [])], 0, [])),
  (133, ([(133, .aload_n 0, 1, (0, 0, 0, 0, 0), [], []), (134, .aload_n 1, 1, (0, 0, 0, 0, 0), [], []), (135, .getfield 103, 3, (9, 3, 2, 127, 0), [], []), (138, .aload_n 1, 1, (0, 0, 0, 0, 0), [], []), (139, .getfield 87, 3, (9, 6, 0, 145, 0), [], []), (142, .invokevirtual 99, 3, (34, 3, 11, 5, 594), [], [5])], 0, [])),
  (145, ([(145, .goto 69, 3, (214, 0, 0, 0, 0), [], [])], 0, [])),
  (148, ([(148, .aload_n 1, 1, (0, 0, 0, 0, 0), [], []), (149, .dup, 1, (0, 0, 0, 0, 0), [], []), (150, .getfield 106, 3, (9, 7, 0, 151, 0), [], []), (153, .iconst 1, 1, (0, 0, 0, 0, 0), [], []), (154, .aload_n 0, 1, (0, 0, 0, 0, 0), [], []), (155, .getfield 12, 3, (5, 0, 2, 96, 0), [], []), (158, .iconst 0, 1, (0, 0, 0, 0, 0), [], []), (159, .aload_n 1, 1, (0, 0, 0, 0, 0), [], []), (160, .getfield 87, 3, (9, 6, 0, 145, 0), [], []), (163, .iconst 1, 1, (0, 0, 0, 0, 0), [], []), (164, .isub, 1, (0, 0, 0, 0, 0), [], []), (165, .invokevirtual 109, 3, (31, 3, 10, 6, 588), [], [4])], 0, [])),
  (168, ([(168, .ishl, 1, (0, 0, 0, 0, 0), [], []), (169, .ior, 1, (0, 0, 0, 0, 0), [], []), (170, .putfield 106, 3, (9, 7, 0, 151, 0), [], [])], 173, [])),
  (173, ([(173, .goto 41, 3, (214, 0, 0, 0, 0), [], [])], 0, [])),
  (176, ([(176, .aload_n 0, 1, (0, 0, 0, 0, 0), [], []), (177, .aload_n 1, 1, (0, 0, 0, 0, 0), [], []), (178, .aload_n 2, 1, (0, 0, 0, 0, 0), [], []), (179, .invokevirtual 113, 3, (44, 3, 11, 5, 602), [], [6])], 0, [])),
  (182, ([(182, .goto 32, 3, (214, 0, 0, 0, 0), [], [])], 0, [])),
  (185, ([(185, .aload_n 0, 1, (0, 0, 0, 0, 0), [], []), (186, .getfield 12, 3, (5, 0, 2, 96, 0), [], []), (189, .bipush 58, 2, (0, 0, 0, 0, 0), [], []), (191, .invokevirtual 58, 3, (33, 2, 11, 6, 598), [0], [2])], 0, [])),
  (194, ([(194, .aload_n 0, 1, (0, 0, 0, 0, 0), [], []), (195, .getfield 21, 3, (5, 1, 2, 97, 0), [], []), (198, .aload_n 0, 1, (0, 0, 0, 0, 0), [], []), (199, .getfield 12, 3, (5, 0, 2, 96, 0), [], []), (202, .invokevirtual 116, 3, (52, 2, 11, 3, 642), [], [2])], 0, [])),
  (205, ([(205, .goto 9, 3, (214, 0, 0, 0, 0), [], [])], 0, [])),
  (208, ([(208, .aload_n 0, 1, (0, 0, 0, 0, 0), [], []), (209, .iload_n 3, 1, (0, 0, 0, 0, 0), [], []), (210, .aload_n 1, 1, (0, 0, 0, 0, 0), [], []), (211, .invokevirtual 120, 3, (53, 3, 11, 5, 676), [], [3])], 0, [])),
  (214, ([(214, .return_, 1, (0, 0, 0, 0, 0), [], [])], 0, []))]
def cd_Law_push : List (Nat × AB) := [
  (0, ([(0, .aload_n 0, 1, (0, 0, 0, 0, 0), [], []), (1, .getfield 22, 3, (3, 3, 0, 85, 0), [], []), (4, .bipush 64, 2, (0, 0, 0, 0, 0), [], []), (6, .if_icmp .ge 23, 3, (29, 0, 0, 0, 0), [], [0, 1])], 0, [])),
  (9, ([(9, .aload_n 0, 1, (0, 0, 0, 0, 0), [], []), (10, .getfield 15, 3, (3, 1, 2, 83, 0), [], []), (13, .aload_n 0, 1, (0, 0, 0, 0, 0), [], []), (14, .getfield 22, 3, (3, 3, 0, 85, 0), [], []), (17, .iload_n 1, 1, (0, 0, 0, 0, 0), [], []), (18, .iastore, 1, (0, 0, 0, 0, 0), [], [])], 19, [0])),
  (19, ([(19, .aload_n 0, 1, (0, 0, 0, 0, 0), [], []), (20, .dup, 1, (0, 0, 0, 0, 0), [], []), (21, .getfield 22, 3, (3, 3, 0, 85, 0), [], []), (24, .iconst 1, 1, (0, 0, 0, 0, 0), [], []), (25, .iadd, 1, (0, 0, 0, 0, 0), [], []), (26, .putfield 22, 3, (3, 3, 0, 85, 0), [], [])], 29, [])),
  (29, ([(29, .return_, 1, (0, 0, 0, 0, 0), [], [])], 0, []))]
def cd_Law_valueOf : List (Nat × AB) := [
  (0, ([(0, .iload_n 0, 1, (0, 0, 0, 0, 0), [], []), (1, .tableswitch 98 130 144 #[75, 77, 98, 98, 98, 98, 98, 98, 98, 98, 98, 98, 79, 86, 93], 75, (99, 0, 0, 0, 0), [130, 76, 131, 78, 132, 99, 133, 99, 134, 99, 135, 99, 136, 99, 137, 99, 138, 99, 139, 99, 140, 99, 141, 99, 142, 80, 143, 87, 144, 94], [1, 2, 3])], 0, [])),
  (76, ([(76, .iload_n 2, 1, (0, 0, 0, 0, 0), [], []), (77, .ireturn, 1, (0, 0, 0, 0, 0), [], [])], 0, [])),
  (78, ([(78, .iload_n 3, 1, (0, 0, 0, 0, 0), [], []), (79, .ireturn, 1, (0, 0, 0, 0, 0), [], [])], 0, [])),
  (80, ([(80, .aload_n 1, 1, (0, 0, 0, 0, 0), [], []), (81, .getfield 110, 3, (9, 2, 2, 125, 0), [], []), (84, .iload_n 2, 1, (0, 0, 0, 0, 0), [], []), (85, .iaload, 1, (20, 0, 0, 0, 0), [], []), (86, .ireturn, 1, (0, 0, 0, 0, 0), [], [])], 0, [])),
  (87, ([(87, .aload_n 1, 1, (0, 0, 0, 0, 0), [], []), (88, .getfield 113, 3, (9, 3, 2, 129, 0), [], []), (91, .iload_n 3, 1, (0, 0, 0, 0, 0), [], []), (92, .iaload, 1, (20, 0, 0, 0, 0), [], []), (93, .ireturn, 1, (0, 0, 0, 0, 0), [], [])], 0, [])),
  (94, ([(94, .aload_n 1, 1, (0, 0, 0, 0, 0), [], []), (95, .getfield 80, 3, (9, 5, 0, 139, 0), [], []), (98, .ireturn, 1, (0, 0, 0, 0, 0), [], [])], 0, [])),
  (99, ([(99, .aload_n 1, 1, (0, 0, 0, 0, 0), [], []), (100, .getfield 85, 3, (9, 6, 0, 148, 0), [], []), (103, .ireturn, 1, (0, 0, 0, 0, 0), [], [])], 0, []))]
def cd_Law_pull : List (Nat × AB) := [
  (0, ([(0, .aload_n 0, 1, (0, 0, 0, 0, 0), [], []), (1, .getfield 22, 3, (3, 3, 0, 85, 0), [], []), (4, .ifCond .ne 5, 3, (9, 0, 0, 0, 0), [0], [])], 0, [])),
  (7, ([(7, .iconst 0, 1, (0, 0, 0, 0, 0), [], []), (8, .ireturn, 1, (0, 0, 0, 0, 0), [], [])], 0, [])),
  (9, ([(9, .aload_n 0, 1, (0, 0, 0, 0, 0), [], []), (10, .dup, 1, (0, 0, 0, 0, 0), [], []), (11, .getfield 22, 3, (3, 3, 0, 85, 0), [], []), (14, .iconst 1, 1, (0, 0, 0, 0, 0), [], []), (15, .isub, 1, (0, 0, 0, 0, 0), [], []), (16, .putfield 22, 3, (3, 3, 0, 85, 0), [], [])], 19, [0])),
  (19, ([(19, .aload_n 0, 1, (0, 0, 0, 0, 0), [], []), (20, .getfield 15, 3, (3, 1, 2, 83, 0), [], []), (23, .aload_n 0, 1, (0, 0, 0, 0, 0), [], []), (24, .getfield 22, 3, (3, 3, 0, 85, 0), [], []), (27, .iaload, 1, (20, 0, 0, 0, 0), [], []), (28, .ireturn, 1, (0, 0, 0, 0, 0), [], [])], 0, []))]
def cd_Math_min_JJ : List (Nat × AB) := [
  (0, ([(0, .lload_n 0, 1, (0, 0, 0, 0, 0), [], []), (1, .lload_n 2, 1, (0, 0, 0, 0, 0), [], []), (2, .lcmp, 1, (0, 0, 0, 0, 0), [], []), (3, .ifCond .gt 7, 3, (10, 0, 0, 0, 0), [2], [0])], 0, [])),
  (6, ([(6, .lload_n 0, 1, (0, 0, 0, 0, 0), [], []), (7, .goto 4, 3, (11, 0, 0, 0, 0), [], [])], 0, [])),
  (10, ([(10, .lload_n 2, 1, (0, 0, 0, 0, 0), [], [])], 11, [])),
  (11, ([(11, .lreturn, 1, (0, 0, 0, 0, 0), [], [])], 0, []))]
def cd_Math_max_JJ : List (Nat × AB) := [
  (0, ([(0, .lload_n 0, 1, (0, 0, 0, 0, 0), [], []), (1, .lload_n 2, 1, (0, 0, 0, 0, 0), [], []), (2, .lcmp, 1, (0, 0, 0, 0, 0), [], []), (3, .ifCond .lt 7, 3, (10, 0, 0, 0, 0), [2], [0])], 0, [])),
  (6, ([(6, .lload_n 0, 1, (0, 0, 0, 0, 0), [], []), (7, .goto 4, 3, (11, 0, 0, 0, 0), [], [])], 0, [])),
  (10, ([(10, .lload_n 2, 1, (0, 0, 0, 0, 0), [], [])], 11, [])),
  (11, ([(11, .lreturn, 1, (0, 0, 0, 0, 0), [], [])], 0, []))]
def cd_Law_kept : List (Nat × AB) := [
  (0, ([(0, .ldc2_w 120, 3, (0, 0, 0, 705, (-1000000)), [], []), (3, .ldc2_w 122, 3, (0, 0, 0, 706, 1000000), [], []), (6, .lload_n 0, 1, (0, 0, 0, 0, 0), [], []), (7, .invokestatic 124, 3, (58, 2, 0, 0, 707), [], [4])], 0, [])),
  (10, ([(10, .invokestatic 130, 3, (59, 2, 0, 0, 710), [], [4])], 0, [])),
  (13, ([(13, .l2i, 1, (0, 0, 0, 0, 0), [], []), (14, .ireturn, 1, (0, 0, 0, 0, 0), [], [])], 0, []))]
def cd_Law_combine : List (Nat × AB) := [
  (0, ([(0, .iload_n 0, 1, (0, 0, 0, 0, 0), [], []), (1, .lookupswitch 131 #[(42, 85), (43, 67), (45, 76), (60, 105), (61, 94), (62, 116), (140, 127)], 67, (132, 0, 0, 0, 0), [42, 86, 43, 68, 45, 77, 60, 106, 61, 95, 62, 117, 140, 128], [1, 2])], 0, [])),
  (68, ([(68, .iload_n 1, 1, (0, 0, 0, 0, 0), [], []), (69, .i2l, 1, (0, 0, 0, 0, 0), [], []), (70, .iload_n 2, 1, (0, 0, 0, 0, 0), [], []), (71, .i2l, 1, (0, 0, 0, 0, 0), [], []), (72, .ladd, 1, (0, 0, 0, 0, 0), [], []), (73, .invokestatic 116, 3, (60, 1, 0, 0, 702), [], [2])], 0, [])),
  (76, ([(76, .ireturn, 1, (0, 0, 0, 0, 0), [], [])], 0, [])),
  (77, ([(77, .iload_n 1, 1, (0, 0, 0, 0, 0), [], []), (78, .i2l, 1, (0, 0, 0, 0, 0), [], []), (79, .iload_n 2, 1, (0, 0, 0, 0, 0), [], []), (80, .i2l, 1, (0, 0, 0, 0, 0), [], []), (81, .lsub, 1, (0, 0, 0, 0, 0), [], []), (82, .invokestatic 116, 3, (60, 1, 0, 0, 702), [], [2])], 0, [])),
  (85, ([(85, .ireturn, 1, (0, 0, 0, 0, 0), [], [])], 0, [])),
  (86, ([(86, .iload_n 1, 1, (0, 0, 0, 0, 0), [], []), (87, .i2l, 1, (0, 0, 0, 0, 0), [], []), (88, .iload_n 2, 1, (0, 0, 0, 0, 0), [], []), (89, .i2l, 1, (0, 0, 0, 0, 0), [], []), (90, .lmul, 1, (0, 0, 0, 0, 0), [], []), (91, .invokestatic 116, 3, (60, 1, 0, 0, 702), [], [2])], 0, [])),
  (94, ([(94, .ireturn, 1, (0, 0, 0, 0, 0), [], [])], 0, [])),
  (95, ([(95, .iload_n 1, 1, (0, 0, 0, 0, 0), [], []), (96, .iload_n 2, 1, (0, 0, 0, 0, 0), [], []), (97, .if_icmp .ne 7, 3, (104, 0, 0, 0, 0), [], [])], 0, [])),
  (100, ([(100, .iconst 1, 1, (0, 0, 0, 0, 0), [], []), (101, .goto 4, 3, (105, 0, 0, 0, 0), [], [])], 0, [])),
  (104, ([(104, .iconst 0, 1, (0, 0, 0, 0, 0), [], [])], 105, [])),
  (105, ([(105, .ireturn, 1, (0, 0, 0, 0, 0), [], [])], 0, [])),
  (106, ([(106, .iload_n 1, 1, (0, 0, 0, 0, 0), [], []), (107, .iload_n 2, 1, (0, 0, 0, 0, 0), [], []), (108, .if_icmp .ge 7, 3, (115, 0, 0, 0, 0), [], [])], 0, [])),
  (111, ([(111, .iconst 1, 1, (0, 0, 0, 0, 0), [], []), (112, .goto 4, 3, (116, 0, 0, 0, 0), [], [])], 0, [])),
  (115, ([(115, .iconst 0, 1, (0, 0, 0, 0, 0), [], [])], 116, [])),
  (116, ([(116, .ireturn, 1, (0, 0, 0, 0, 0), [], [])], 0, [])),
  (117, ([(117, .iload_n 1, 1, (0, 0, 0, 0, 0), [], []), (118, .iload_n 2, 1, (0, 0, 0, 0, 0), [], []), (119, .if_icmp .le 7, 3, (126, 0, 0, 0, 0), [], [])], 0, [])),
  (122, ([(122, .iconst 1, 1, (0, 0, 0, 0, 0), [], []), (123, .goto 4, 3, (127, 0, 0, 0, 0), [], [])], 0, [])),
  (126, ([(126, .iconst 0, 1, (0, 0, 0, 0, 0), [], [])], 127, [])),
  (127, ([(127, .ireturn, 1, (0, 0, 0, 0, 0), [], [])], 0, [])),
  (128, ([(128, .iload_n 1, 1, (0, 0, 0, 0, 0), [], []), (129, .iload_n 2, 1, (0, 0, 0, 0, 0), [], []), (130, .iand, 1, (0, 0, 0, 0, 0), [], []), (131, .ireturn, 1, (0, 0, 0, 0, 0), [], [])], 0, [])),
  (132, ([(132, .iload_n 1, 1, (0, 0, 0, 0, 0), [], []), (133, .iload_n 2, 1, (0, 0, 0, 0, 0), [], []), (134, .ior, 1, (0, 0, 0, 0, 0), [], []), (135, .ireturn, 1, (0, 0, 0, 0, 0), [], [])], 0, []))]
def cd_Law_holds : List (Nat × AB) := [
  (0, ([(0, .aload_n 0, 1, (0, 0, 0, 0, 0), [], []), (1, .iconst 0, 1, (0, 0, 0, 0, 0), [], []), (2, .putfield 22, 3, (3, 3, 0, 85, 0), [], [])], 5, [0, 1, 2, 3])),
  (5, ([(5, .iconst 0, 1, (0, 0, 0, 0, 0), [], []), (6, .istore 4, 2, (0, 0, 0, 0, 0), [], [])], 8, [0, 1, 2, 3, 4])),
  (8, ([(8, .iload 4, 2, (0, 0, 0, 0, 0), [], []), (10, .aload_n 0, 1, (0, 0, 0, 0, 0), [], []), (11, .getfield 18, 3, (3, 2, 0, 84, 0), [], []), (14, .if_icmp .ge 104, 3, (118, 0, 0, 0, 0), [0], [0, 1, 2, 3, 4])], 0, [])),
  (17, ([(17, .aload_n 0, 1, (0, 0, 0, 0, 0), [], []), (18, .getfield 9, 3, (3, 0, 2, 82, 0), [], []), (21, .iload 4, 2, (0, 0, 0, 0, 0), [], []), (23, .iaload, 1, (20, 0, 0, 0, 0), [], []), (24, .istore 5, 2, (0, 0, 0, 0, 0), [], []), (26, .iload 5, 2, (0, 0, 0, 0, 0), [], []), (28, .sipush 1000, 3, (0, 0, 0, 0, 0), [], []), (31, .if_icmp .lt 16, 3, (47, 0, 0, 0, 0), [0, 1, 2, 3, 4, 5], [0, 1, 2, 3, 4, 5])], 0, [])),
  (34, ([(34, .aload_n 0, 1, (0, 0, 0, 0, 0), [], []), (35, .iload 5, 2, (0, 0, 0, 0, 0), [], []), (37, .sipush 1000, 3, (0, 0, 0, 0, 0), [], []), (40, .isub, 1, (0, 0, 0, 0, 0), [], []), (41, .invokevirtual 95, 3, (55, 2, 11, 3, 688), [0, 1, 2, 3, 4], [2])], 0, [])),
  (44, ([(44, .goto 68, 3, (112, 0, 0, 0, 0), [0, 1, 2, 3, 4], [])], 0, [])),
  (47, ([(47, .iload 5, 2, (0, 0, 0, 0, 0), [], []), (49, .invokestatic 76, 3, (48, 1, 0, 0, 670), [0, 1, 2, 3, 4, 5], [1])], 0, [])),
  (52, ([(52, .ifCond .eq 18, 3, (70, 0, 0, 0, 0), [0, 1, 2, 3, 4, 5], [0, 1, 2, 3, 4, 5])], 0, [])),
  (55, ([(55, .aload_n 0, 1, (0, 0, 0, 0, 0), [], []), (56, .iload 5, 2, (0, 0, 0, 0, 0), [], []), (58, .aload_n 1, 1, (0, 0, 0, 0, 0), [], []), (59, .iload_n 2, 1, (0, 0, 0, 0, 0), [], []), (60, .iload_n 3, 1, (0, 0, 0, 0, 0), [], []), (61, .invokestatic 98, 3, (56, 4, 0, 0, 692), [0, 1, 2, 3, 4], [4])], 0, [])),
  (64, ([(64, .invokevirtual 95, 3, (55, 2, 11, 3, 688), [0, 1, 2, 3, 4], [2])], 0, [])),
  (67, ([(67, .goto 45, 3, (112, 0, 0, 0, 0), [0, 1, 2, 3, 4], [])], 0, [])),
  (70, ([(70, .iload 5, 2, (0, 0, 0, 0, 0), [], []), (72, .sipush 141, 3, (0, 0, 0, 0, 0), [], []), (75, .if_icmp .ne 16, 3, (91, 0, 0, 0, 0), [0, 1, 2, 3, 4, 5], [0, 1, 2, 3, 4])], 0, [])),
  (78, ([(78, .aload_n 0, 1, (0, 0, 0, 0, 0), [], []), (79, .iconst 1, 1, (0, 0, 0, 0, 0), [], []), (80, .aload_n 0, 1, (0, 0, 0, 0, 0), [], []), (81, .invokevirtual 102, 3, (57, 1, 10, 3, 695), [0, 1, 2, 3, 4], [1])], 0, [])),
  (84, ([(84, .isub, 1, (0, 0, 0, 0, 0), [], []), (85, .invokevirtual 95, 3, (55, 2, 11, 3, 688), [0, 1, 2, 3, 4], [2])], 0, [])),
  (88, ([(88, .goto 24, 3, (112, 0, 0, 0, 0), [0, 1, 2, 3, 4], [])], 0, [])),
  (91, ([(91, .aload_n 0, 1, (0, 0, 0, 0, 0), [], []), (92, .invokevirtual 102, 3, (57, 1, 10, 3, 695), [0, 1, 2, 3, 4, 5], [1])], 0, [])),
  (95, ([(95, .istore 6, 2, (0, 0, 0, 0, 0), [], []), (97, .aload_n 0, 1, (0, 0, 0, 0, 0), [], []), (98, .iload 5, 2, (0, 0, 0, 0, 0), [], []), (100, .aload_n 0, 1, (0, 0, 0, 0, 0), [], []), (101, .invokevirtual 102, 3, (57, 1, 10, 3, 695), [0, 1, 2, 3, 4, 6], [1])], 0, [])),
  (104, ([(104, .iload 6, 2, (0, 0, 0, 0, 0), [], []), (106, .invokestatic 106, 3, (61, 3, 0, 0, 699), [0, 1, 2, 3, 4], [3])], 0, [])),
  (109, ([(109, .invokevirtual 95, 3, (55, 2, 11, 3, 688), [0, 1, 2, 3, 4], [2])], 0, [])),
  (112, ([(112, .iinc 4 1, 3, (0, 0, 0, 0, 0), [], []), (115, .goto (-107), 3, (8, 0, 0, 0, 0), [0, 1, 2, 3, 4], [])], 0, [])),
  (118, ([(118, .aload_n 0, 1, (0, 0, 0, 0, 0), [], []), (119, .invokevirtual 102, 3, (57, 1, 10, 3, 695), [], [1])], 0, [])),
  (122, ([(122, .ifCond .eq 7, 3, (129, 0, 0, 0, 0), [], [])], 0, [])),
  (125, ([(125, .iconst 1, 1, (0, 0, 0, 0, 0), [], []), (126, .goto 4, 3, (130, 0, 0, 0, 0), [], [])], 0, [])),
  (129, ([(129, .iconst 0, 1, (0, 0, 0, 0, 0), [], [])], 130, [])),
  (130, ([(130, .ireturn, 1, (1, 0, 0, 0, 0), [], [])], 0, []))]
def cd_Law_settle : List (Nat × AB) := [
  (0, ([(0, .iconst 0, 1, (0, 0, 0, 0, 0), [], []), (1, .istore_n 2, 1, (0, 0, 0, 0, 0), [], [])], 2, [0, 1, 2])),
  (2, ([(2, .iload_n 2, 1, (0, 0, 0, 0, 0), [], []), (3, .aload_n 1, 1, (0, 0, 0, 0, 0), [], []), (4, .getfield 80, 3, (9, 5, 0, 139, 0), [], []), (7, .if_icmp .ge 70, 3, (77, 0, 0, 0, 0), [], [0, 1, 2])], 0, [])),
  (10, ([(10, .iconst 0, 1, (0, 0, 0, 0, 0), [], []), (11, .istore_n 3, 1, (0, 0, 0, 0, 0), [], []), (12, .iconst 0, 1, (0, 0, 0, 0, 0), [], []), (13, .istore 4, 2, (0, 0, 0, 0, 0), [], [])], 15, [0, 1, 2, 3, 4])),
  (15, ([(15, .iload 4, 2, (0, 0, 0, 0, 0), [], []), (17, .aload_n 1, 1, (0, 0, 0, 0, 0), [], []), (18, .getfield 85, 3, (9, 6, 0, 148, 0), [], []), (21, .if_icmp .ge 43, 3, (64, 0, 0, 0, 0), [0, 1, 2, 3], [0, 1, 2, 3, 4])], 0, [])),
  (24, ([(24, .aload_n 0, 1, (0, 0, 0, 0, 0), [], []), (25, .getfield 18, 3, (3, 2, 0, 84, 0), [], []), (28, .ifCond .ne 12, 3, (40, 0, 0, 0, 0), [0, 1, 2, 3, 4], [0, 1, 2, 3, 4])], 0, [])),
  (31, ([(31, .iload_n 2, 1, (0, 0, 0, 0, 0), [], []), (32, .iload 4, 2, (0, 0, 0, 0, 0), [], []), (34, .if_icmp .ne 24, 3, (58, 0, 0, 0, 0), [0, 1, 2, 3, 4], [0, 1, 2, 3, 4])], 0, [])),
  (37, ([(37, .goto 14, 3, (51, 0, 0, 0, 0), [0, 1, 2, 3, 4], [])], 0, [])),
  (40, ([(40, .aload_n 0, 1, (0, 0, 0, 0, 0), [], []), (41, .aload_n 1, 1, (0, 0, 0, 0, 0), [], []), (42, .iload_n 2, 1, (0, 0, 0, 0, 0), [], []), (43, .iload 4, 2, (0, 0, 0, 0, 0), [], []), (45, .invokevirtual 88, 3, (62, 4, 10, 3, 684), [0, 1, 2, 3, 4], [7])], 0, [])),
  (48, ([(48, .ifCond .eq 10, 3, (58, 0, 0, 0, 0), [0, 1, 2, 3, 4], [0, 1, 2, 3, 4])], 0, [])),
  (51, ([(51, .iload_n 3, 1, (0, 0, 0, 0, 0), [], []), (52, .iconst 1, 1, (0, 0, 0, 0, 0), [], []), (53, .iload 4, 2, (0, 0, 0, 0, 0), [], []), (55, .ishl, 1, (0, 0, 0, 0, 0), [], []), (56, .ior, 1, (0, 0, 0, 0, 0), [], []), (57, .istore_n 3, 1, (0, 0, 0, 0, 0), [], [])], 58, [0, 1, 2, 3, 4])),
  (58, ([(58, .iinc 4 1, 3, (0, 0, 0, 0, 0), [], []), (61, .goto (-46), 3, (15, 0, 0, 0, 0), [0, 1, 2, 3, 4], [])], 0, [])),
  (64, ([(64, .aload_n 1, 1, (0, 0, 0, 0, 0), [], []), (65, .getfield 92, 3, (9, 4, 2, 131, 0), [], []), (68, .iload_n 2, 1, (0, 0, 0, 0, 0), [], []), (69, .iload_n 3, 1, (0, 0, 0, 0, 0), [], []), (70, .iastore, 1, (0, 0, 0, 0, 0), [], [])], 71, [0, 1, 2])),
  (71, ([(71, .iinc 2 1, 3, (0, 0, 0, 0, 0), [], []), (74, .goto (-72), 3, (2, 0, 0, 0, 0), [0, 1, 2], [])], 0, [])),
  (77, ([(77, .return_, 1, (0, 0, 0, 0, 0), [], [])], 0, []))]
def cd_Reader_readText : List (Nat × AB) := [
  (0, ([(0, .aload_n 3, 1, (0, 0, 0, 0, 0), [], []), (1, .invokevirtual 32, 3, (4, 1, 11, 9, 428), [0, 1, 2, 3, 4], [1])], 0, [])),
  (4, ([(4, .aload 4, 2, (0, 0, 0, 0, 0), [], []), (6, .invokevirtual 37, 3, (6, 1, 11, 0, 429), [0, 1, 2, 3, 4], [1])], 0, [])),
  (9, ([(9, .aload_n 0, 1, (0, 0, 0, 0, 0), [], []), (10, .getfield 21, 3, (5, 1, 2, 97, 0), [], []), (13, .invokevirtual 40, 3, (19, 1, 11, 3, 430), [0, 1, 2, 3, 4], [1])], 0, [])),
  (16, ([(16, .aload_n 0, 1, (0, 0, 0, 0, 0), [], []), (17, .getfield 12, 3, (5, 0, 2, 96, 0), [], []), (20, .aload_n 1, 1, (0, 0, 0, 0, 0), [], []), (21, .iload_n 2, 1, (0, 0, 0, 0, 0), [], []), (22, .invokevirtual 43, 3, (26, 3, 11, 6, 434), [0, 3, 4], [3])], 0, [])),
  (25, ([(25, .iconst 0, 1, (0, 0, 0, 0, 0), [], []), (26, .istore 5, 2, (0, 0, 0, 0, 0), [], [])], 28, [0, 3, 4, 5])),
  (28, ([(28, .iload 5, 2, (0, 0, 0, 0, 0), [], []), (30, .sipush 900, 3, (0, 0, 0, 0, 0), [], []), (33, .if_icmp .ge 55, 3, (88, 0, 0, 0, 0), [0, 3], [0, 3, 4, 5])], 0, [])),
  (36, ([(36, .aload_n 0, 1, (0, 0, 0, 0, 0), [], []), (37, .getfield 12, 3, (5, 0, 2, 96, 0), [], []), (40, .invokevirtual 47, 3, (27, 1, 10, 6, 564), [0, 3, 4, 5], [1])], 0, [])),
  (43, ([(43, .ifCond .eq 45, 3, (88, 0, 0, 0, 0), [0, 3], [0, 3, 4, 5])], 0, [])),
  (46, ([(46, .aload_n 0, 1, (0, 0, 0, 0, 0), [], []), (47, .getfield 12, 3, (5, 0, 2, 96, 0), [], []), (50, .getfield 51, 3, (6, 3, 0, 47, 0), [], []), (53, .ifCond .eq 35, 3, (88, 0, 0, 0, 0), [0, 3], [0, 3, 4, 5])], 0, [])),
  (56, ([(56, .aload_n 0, 1, (0, 0, 0, 0, 0), [], []), (57, .aload_n 3, 1, (0, 0, 0, 0, 0), [], []), (58, .aload 4, 2, (0, 0, 0, 0, 0), [], []), (60, .invokevirtual 54, 3, (54, 3, 11, 5, 568), [0, 3, 4, 5], [4])], 0, [])),
  (63, ([(63, .aload_n 0, 1, (0, 0, 0, 0, 0), [], []), (64, .getfield 12, 3, (5, 0, 2, 96, 0), [], []), (67, .bipush 59, 2, (0, 0, 0, 0, 0), [], []), (69, .invokevirtual 58, 3, (33, 2, 11, 6, 598), [0, 3, 4, 5], [2])], 0, [])),
  (72, ([(72, .aload_n 3, 1, (0, 0, 0, 0, 0), [], []), (73, .dup, 1, (0, 0, 0, 0, 0), [], []), (74, .getfield 62, 3, (9, 14, 0, 174, 0), [], []), (77, .iconst 1, 1, (0, 0, 0, 0, 0), [], []), (78, .iadd, 1, (0, 0, 0, 0, 0), [], []), (79, .putfield 62, 3, (9, 14, 0, 174, 0), [], [])], 82, [0, 3, 4, 5])),
  (82, ([(82, .iinc 5 1, 3, (0, 0, 0, 0, 0), [], []), (85, .goto (-57), 3, (28, 0, 0, 0, 0), [0, 3, 4, 5], [])], 0, [])),
  (88, ([(88, .aload_n 0, 1, (0, 0, 0, 0, 0), [], []), (89, .getfield 12, 3, (5, 0, 2, 96, 0), [], []), (92, .invokevirtual 47, 3, (27, 1, 10, 6, 564), [0, 3], [1])], 0, [])),
  (95, ([(95, .ifCond .eq 11, 3, (106, 0, 0, 0, 0), [], [0, 3])], 0, [])),
  (98, ([(98, .aload_n 0, 1, (0, 0, 0, 0, 0), [], []), (99, .getfield 21, 3, (5, 1, 2, 97, 0), [], []), (102, .aload_n 3, 1, (0, 0, 0, 0, 0), [], []), (103, .invokevirtual 65, 3, (63, 2, 11, 3, 680), [], [5])], 0, [])),
  (106, ([(106, .return_, 1, (0, 0, 0, 0, 0), [], [])], 0, []))]
def cd_Reader_foundFault : List (Nat × AB) := [
  (0, ([(0, .aload_n 0, 1, (0, 0, 0, 0, 0), [], []), (1, .getfield 12, 3, (5, 0, 2, 96, 0), [], []), (4, .getfield 25, 3, (6, 6, 0, 55, 0), [], []), (7, .ireturn, 1, (0, 0, 0, 0, 0), [], [])], 0, []))]
def cd_Reader_foundPlace : List (Nat × AB) := [
  (0, ([(0, .aload_n 0, 1, (0, 0, 0, 0, 0), [], []), (1, .getfield 12, 3, (5, 0, 2, 96, 0), [], []), (4, .getfield 29, 3, (6, 7, 0, 57, 0), [], []), (7, .ireturn, 1, (0, 0, 0, 0, 0), [], [])], 0, []))]
def cd_Hanging_takeFrom : List (Nat × AB) := [
  (0, ([(0, .aload_n 1, 1, (0, 0, 0, 0, 0), [], []), (1, .getfield 9, 3, (0, 0, 2, 218, 0), [], []), (4, .iconst 0, 1, (0, 0, 0, 0, 0), [], []), (5, .aload_n 0, 1, (0, 0, 0, 0, 0), [], []), (6, .getfield 9, 3, (0, 0, 2, 218, 0), [], []), (9, .iconst 0, 1, (0, 0, 0, 0, 0), [], []), (10, .bipush 12, 2, (0, 0, 0, 0, 0), [], []), (12, .invokestatic 31, 3, (0, 5, 3, 0, 725), [], [])], 15, [0, 1])),
  (15, ([(15, .aload_n 0, 1, (0, 0, 0, 0, 0), [], []), (16, .aload_n 1, 1, (0, 0, 0, 0, 0), [], []), (17, .getfield 24, 3, (0, 1, 0, 223, 0), [], []), (20, .putfield 24, 3, (0, 1, 0, 223, 0), [], [])], 23, [0, 1])),
  (23, ([(23, .aload_n 0, 1, (0, 0, 0, 0, 0), [], []), (24, .aload_n 1, 1, (0, 0, 0, 0, 0), [], []), (25, .getfield 28, 3, (0, 2, 0, 226, 0), [], []), (28, .putfield 28, 3, (0, 2, 0, 226, 0), [], [])], 31, [])),
  (31, ([(31, .return_, 1, (0, 0, 0, 0, 0), [], [])], 0, []))]
def cd_History_forget : List (Nat × AB) := [
  (0, ([(0, .aload_n 0, 1, (0, 0, 0, 0, 0), [], []), (1, .iconst 0, 1, (0, 0, 0, 0, 0), [], []), (2, .putfield 19, 3, (1, 2, 0, 244, 0), [], [])], 5, [])),
  (5, ([(5, .return_, 1, (0, 0, 0, 0, 0), [], [])], 0, []))]
def cd_Joinings_forget : List (Nat × AB) := [
  (0, ([(0, .aload_n 0, 1, (0, 0, 0, 0, 0), [], []), (1, .iconst 0, 1, (0, 0, 0, 0, 0), [], []), (2, .putfield 25, 3, (2, 3, 3, 287, 0), [], [])], 5, [0])),
  (5, ([(5, .aload_n 0, 1, (0, 0, 0, 0, 0), [], []), (6, .iconst 0, 1, (0, 0, 0, 0, 0), [], []), (7, .putfield 35, 3, (2, 7, 3, 294, 0), [], [])], 10, [])),
  (10, ([(10, .return_, 1, (0, 0, 0, 0, 0), [], [])], 0, []))]
def cd_Hook_window : List (Nat × AB) := [
  (0, ([(0, .iload_n 1, 1, (0, 0, 0, 0, 0), [], []), (1, .ifCond .lt 11, 3, (12, 0, 0, 0, 0), [], [0, 1])], 0, [])),
  (4, ([(4, .iload_n 1, 1, (0, 0, 0, 0, 0), [], []), (5, .aload_n 0, 1, (0, 0, 0, 0, 0), [], []), (6, .getfield 13, 3, (10, 1, 0, 355, 0), [], []), (9, .if_icmp .le 6, 3, (15, 0, 0, 0, 0), [0, 1], [])], 0, [])),
  (12, ([(12, .bipush (-3), 2, (0, 0, 0, 0, 0), [], []), (14, .ireturn, 1, (0, 0, 0, 0, 0), [], [])], 0, [])),
  (15, ([(15, .aload_n 0, 1, (0, 0, 0, 0, 0), [], []), (16, .iconst 0, 1, (0, 0, 0, 0, 0), [], []), (17, .putfield 13, 3, (10, 1, 0, 355, 0), [], [])], 20, [0, 1])),
  (20, ([(20, .aload_n 0, 1, (0, 0, 0, 0, 0), [], []), (21, .getfield 20, 3, (10, 2, 2, 356, 0), [], []), (24, .aload_n 0, 1, (0, 0, 0, 0, 0), [], []), (25, .getfield 9, 3, (10, 0, 2, 354, 0), [], []), (28, .iload_n 1, 1, (0, 0, 0, 0, 0), [], []), (29, .aload_n 0, 1, (0, 0, 0, 0, 0), [], []), (30, .getfield 37, 3, (10, 6, 2, 360, 0), [], []), (33, .aload_n 0, 1, (0, 0, 0, 0, 0), [], []), (34, .getfield 47, 3, (10, 8, 2, 362, 0), [], []), (37, .invokevirtual 108, 3, (64, 5, 11, 5, 424), [0], [6])], 0, [])),
  (40, ([(40, .aload_n 0, 1, (0, 0, 0, 0, 0), [], []), (41, .aload_n 0, 1, (0, 0, 0, 0, 0), [], []), (42, .getfield 20, 3, (10, 2, 2, 356, 0), [], []), (45, .invokevirtual 112, 3, (65, 1, 10, 5, 713), [0], [1])], 0, [])),
  (48, ([(48, .putfield 24, 3, (10, 3, 0, 357, 0), [], [])], 51, [0])),
  (51, ([(51, .aload_n 0, 1, (0, 0, 0, 0, 0), [], []), (52, .aload_n 0, 1, (0, 0, 0, 0, 0), [], []), (53, .getfield 20, 3, (10, 2, 2, 356, 0), [], []), (56, .invokevirtual 116, 3, (66, 1, 10, 5, 717), [0], [1])], 0, [])),
  (59, ([(59, .putfield 27, 3, (10, 4, 0, 358, 0), [], [])], 62, [0])),
  (62, ([(62, .aload_n 0, 1, (0, 0, 0, 0, 0), [], []), (63, .getfield 24, 3, (10, 3, 0, 357, 0), [], []), (66, .ifCond .eq 11, 3, (77, 0, 0, 0, 0), [0], [0])], 0, [])),
  (69, ([(69, .bipush (-30), 2, (0, 0, 0, 0, 0), [], []), (71, .aload_n 0, 1, (0, 0, 0, 0, 0), [], []), (72, .getfield 24, 3, (10, 3, 0, 357, 0), [], []), (75, .isub, 1, (0, 0, 0, 0, 0), [], []), (76, .ireturn, 1, (0, 0, 0, 0, 0), [], [])], 0, [])),
  (77, ([(77, .aload_n 0, 1, (0, 0, 0, 0, 0), [], []), (78, .getfield 33, 3, (10, 5, 2, 359, 0), [], []), (81, .astore_n 2, 1, (0, 0, 0, 0, 0), [], []), (82, .aload_n 0, 1, (0, 0, 0, 0, 0), [], []), (83, .aload_n 0, 1, (0, 0, 0, 0, 0), [], []), (84, .getfield 37, 3, (10, 6, 2, 360, 0), [], []), (87, .putfield 33, 3, (10, 5, 2, 359, 0), [], [])], 90, [0, 2])),
  (90, ([(90, .aload_n 0, 1, (0, 0, 0, 0, 0), [], []), (91, .aload_n 2, 1, (0, 0, 0, 0, 0), [], []), (92, .putfield 37, 3, (10, 6, 2, 360, 0), [], [])], 95, [0])),
  (95, ([(95, .aload_n 0, 1, (0, 0, 0, 0, 0), [], []), (96, .getfield 43, 3, (10, 7, 2, 361, 0), [], []), (99, .aload_n 0, 1, (0, 0, 0, 0, 0), [], []), (100, .getfield 47, 3, (10, 8, 2, 362, 0), [], []), (103, .invokevirtual 119, 3, (67, 2, 11, 0, 721), [0], [2])], 0, [])),
  (106, ([(106, .aload_n 0, 1, (0, 0, 0, 0, 0), [], []), (107, .getfield 53, 3, (10, 9, 2, 363, 0), [], []), (110, .invokevirtual 123, 3, (68, 1, 11, 1, 728), [0], [1])], 0, [])),
  (113, ([(113, .aload_n 0, 1, (0, 0, 0, 0, 0), [], []), (114, .getfield 79, 3, (10, 14, 2, 368, 0), [], []), (117, .invokevirtual 126, 3, (69, 1, 11, 2, 732), [0], [1])], 0, [])),
  (120, ([(120, .aload_n 0, 1, (0, 0, 0, 0, 0), [], []), (121, .getfield 33, 3, (10, 5, 2, 359, 0), [], []), (124, .getfield 127, 3, (9, 14, 0, 175, 0), [], []), (127, .ireturn, 1, (0, 0, 0, 0, 0), [], [])], 0, []))]
def cd_Mod_within : List (Nat × AB) := [
  (0, ([(0, .lload_n 0, 1, (0, 0, 0, 0, 0), [], []), (1, .lload_n 2, 1, (0, 0, 0, 0, 0), [], []), (2, .lcmp, 1, (0, 0, 0, 0, 0), [], []), (3, .ifCond .lt 14, 3, (17, 0, 0, 0, 0), [], [0, 4])], 0, [])),
  (6, ([(6, .lload_n 0, 1, (0, 0, 0, 0, 0), [], []), (7, .lload 4, 2, (0, 0, 0, 0, 0), [], []), (9, .lcmp, 1, (0, 0, 0, 0, 0), [], []), (10, .ifCond .gt 7, 3, (17, 0, 0, 0, 0), [], [])], 0, [])),
  (13, ([(13, .iconst 1, 1, (0, 0, 0, 0, 0), [], []), (14, .goto 4, 3, (18, 0, 0, 0, 0), [], [])], 0, [])),
  (17, ([(17, .iconst 0, 1, (0, 0, 0, 0, 0), [], [])], 18, [])),
  (18, ([(18, .ireturn, 1, (1, 0, 0, 0, 0), [], [])], 0, []))]
def cd_Mod_see : List (Nat × AB) := [
  (0, ([(0, .iload_n 1, 1, (0, 0, 0, 0, 0), [], []), (1, .aload_n 0, 1, (0, 0, 0, 0, 0), [], []), (2, .getfield 77, 3, (11, 8, 0, 1263, 0), [], []), (5, .if_icmp .ge 12, 3, (17, 0, 0, 0, 0), [], [0, 1])], 0, [])),
  (8, ([(8, .aload_n 0, 1, (0, 0, 0, 0, 0), [], []), (9, .getfield 21, 3, (11, 3, 2, 1258, 0), [], []), (12, .iload_n 1, 1, (0, 0, 0, 0, 0), [], []), (13, .iaload, 1, (20, 0, 0, 0, 0), [], []), (14, .goto 4, 3, (18, 0, 0, 0, 0), [], [])], 0, [])),
  (17, ([(17, .iconst (-1), 1, (0, 0, 0, 0, 0), [], [])], 18, [])),
  (18, ([(18, .ireturn, 1, (0, 0, 0, 0, 0), [], [])], 0, []))]
def cd_Mod_isSmall : List (Nat × AB) := [
  (0, ([(0, .iload_n 0, 1, (0, 0, 0, 0, 0), [], []), (1, .bipush 97, 2, (0, 0, 0, 0, 0), [], []), (3, .if_icmp .lt 13, 3, (16, 0, 0, 0, 0), [], [0])], 0, [])),
  (6, ([(6, .iload_n 0, 1, (0, 0, 0, 0, 0), [], []), (7, .bipush 122, 2, (0, 0, 0, 0, 0), [], []), (9, .if_icmp .gt 7, 3, (16, 0, 0, 0, 0), [], [])], 0, [])),
  (12, ([(12, .iconst 1, 1, (0, 0, 0, 0, 0), [], []), (13, .goto 4, 3, (17, 0, 0, 0, 0), [], [])], 0, [])),
  (16, ([(16, .iconst 0, 1, (0, 0, 0, 0, 0), [], [])], 17, [])),
  (17, ([(17, .ireturn, 1, (1, 0, 0, 0, 0), [], [])], 0, []))]
def cd_Mod_keyAt : List (Nat × AB) := [
  (0, ([(0, .iconst 0, 1, (0, 0, 0, 0, 0), [], []), (1, .istore_n 1, 1, (0, 0, 0, 0, 0), [], []), (2, .iconst 1, 1, (0, 0, 0, 0, 0), [], []), (3, .istore_n 2, 1, (0, 0, 0, 0, 0), [], [])], 4, [0, 1, 2])),
  (4, ([(4, .iload_n 2, 1, (0, 0, 0, 0, 0), [], []), (5, .ldc 80, 2, (4, 0, 0, 0, 0), [], []), (7, .invokevirtual 82, 3, (0, 1, 4, 0, 1391), [], []), (10, .if_icmp .ge 113, 3, (123, 0, 0, 0, 0), [], [0, 1, 2])], 0, [])),
  (13, ([(13, .iconst 0, 1, (0, 0, 0, 0, 0), [], []), (14, .istore_n 3, 1, (0, 0, 0, 0, 0), [], [])], 15, [0, 1, 2, 3])),
  (15, ([(15, .ldc 80, 2, (4, 0, 0, 0, 0), [], []), (17, .iload_n 2, 1, (0, 0, 0, 0, 0), [], []), (18, .iload_n 3, 1, (0, 0, 0, 0, 0), [], []), (19, .iadd, 1, (0, 0, 0, 0, 0), [], []), (20, .invokevirtual 88, 3, (0, 2, 5, 0, 1392), [], []), (23, .bipush 32, 2, (0, 0, 0, 0, 0), [], []), (25, .if_icmp .eq 44, 3, (69, 0, 0, 0, 0), [0, 1, 2, 3], [0, 1, 2, 3])], 0, [])),
  (28, ([(28, .aload_n 0, 1, (0, 0, 0, 0, 0), [], []), (29, .getfield 92, 3, (11, 6, 0, 1261, 0), [], []), (32, .iload_n 3, 1, (0, 0, 0, 0, 0), [], []), (33, .iadd, 1, (0, 0, 0, 0, 0), [], []), (34, .aload_n 0, 1, (0, 0, 0, 0, 0), [], []), (35, .getfield 95, 3, (11, 7, 0, 1262, 0), [], []), (38, .if_icmp .ge 31, 3, (69, 0, 0, 0, 0), [0, 1, 2, 3], [0, 1, 2, 3])], 0, [])),
  (41, ([(41, .aload_n 0, 1, (0, 0, 0, 0, 0), [], []), (42, .getfield 21, 3, (11, 3, 2, 1258, 0), [], []), (45, .aload_n 0, 1, (0, 0, 0, 0, 0), [], []), (46, .getfield 92, 3, (11, 6, 0, 1261, 0), [], []), (49, .iload_n 3, 1, (0, 0, 0, 0, 0), [], []), (50, .iadd, 1, (0, 0, 0, 0, 0), [], []), (51, .iaload, 1, (20, 0, 0, 0, 0), [], []), (52, .ldc 80, 2, (4, 0, 0, 0, 0), [], []), (54, .iload_n 2, 1, (0, 0, 0, 0, 0), [], []), (55, .iload_n 3, 1, (0, 0, 0, 0, 0), [], []), (56, .iadd, 1, (0, 0, 0, 0, 0), [], []), (57, .invokevirtual 88, 3, (0, 2, 5, 0, 1392), [], []), (60, .if_icmp .ne 9, 3, (69, 0, 0, 0, 0), [0, 1, 2, 3], [0, 1, 2, 3])], 0, [])),
  (63, ([(63, .iinc 3 1, 3, (0, 0, 0, 0, 0), [], []), (66, .goto (-51), 3, (15, 0, 0, 0, 0), [0, 1, 2, 3], [])], 0, [])),
  (69, ([(69, .ldc 80, 2, (4, 0, 0, 0, 0), [], []), (71, .iload_n 2, 1, (0, 0, 0, 0, 0), [], []), (72, .iload_n 3, 1, (0, 0, 0, 0, 0), [], []), (73, .iadd, 1, (0, 0, 0, 0, 0), [], []), (74, .invokevirtual 88, 3, (0, 2, 5, 0, 1392), [], []), (77, .bipush 32, 2, (0, 0, 0, 0, 0), [], []), (79, .if_icmp .ne 18, 3, (97, 0, 0, 0, 0), [0, 1, 2], [0, 1, 2, 3])], 0, [])),
  (82, ([(82, .aload_n 0, 1, (0, 0, 0, 0, 0), [], []), (83, .getfield 92, 3, (11, 6, 0, 1261, 0), [], []), (86, .iload_n 3, 1, (0, 0, 0, 0, 0), [], []), (87, .iadd, 1, (0, 0, 0, 0, 0), [], []), (88, .aload_n 0, 1, (0, 0, 0, 0, 0), [], []), (89, .getfield 95, 3, (11, 7, 0, 1262, 0), [], []), (92, .if_icmp .ne 5, 3, (97, 0, 0, 0, 0), [0, 1, 2], [1])], 0, [])),
  (95, ([(95, .iload_n 1, 1, (0, 0, 0, 0, 0), [], []), (96, .ireturn, 1, (0, 0, 0, 0, 0), [], [])], 0, [])),
  (97, ([(97, .ldc 80, 2, (4, 0, 0, 0, 0), [], []), (99, .iload_n 2, 1, (0, 0, 0, 0, 0), [], []), (100, .invokevirtual 88, 3, (0, 2, 5, 0, 1392), [], []), (103, .bipush 32, 2, (0, 0, 0, 0, 0), [], []), (105, .if_icmp .eq 9, 3, (114, 0, 0, 0, 0), [0, 1, 2], [0, 1, 2])], 0, [])),
  (108, ([(108, .iinc 2 1, 3, (0, 0, 0, 0, 0), [], []), (111, .goto (-14), 3, (97, 0, 0, 0, 0), [0, 1, 2], [])], 0, [])),
  (114, ([(114, .iinc 2 1, 3, (0, 0, 0, 0, 0), [], []), (117, .iinc 1 1, 3, (0, 0, 0, 0, 0), [], []), (120, .goto (-116), 3, (4, 0, 0, 0, 0), [0, 1, 2], [])], 0, [])),
  (123, ([(123, .bipush 20, 2, (0, 0, 0, 0, 0), [], []), (125, .ireturn, 1, (0, 0, 0, 0, 0), [], [])], 0, []))]
def cd_Mod_isDigit : List (Nat × AB) := [
  (0, ([(0, .iload_n 0, 1, (0, 0, 0, 0, 0), [], []), (1, .bipush 48, 2, (0, 0, 0, 0, 0), [], []), (3, .if_icmp .lt 13, 3, (16, 0, 0, 0, 0), [], [0])], 0, [])),
  (6, ([(6, .iload_n 0, 1, (0, 0, 0, 0, 0), [], []), (7, .bipush 57, 2, (0, 0, 0, 0, 0), [], []), (9, .if_icmp .gt 7, 3, (16, 0, 0, 0, 0), [], [])], 0, [])),
  (12, ([(12, .iconst 1, 1, (0, 0, 0, 0, 0), [], []), (13, .goto 4, 3, (17, 0, 0, 0, 0), [], [])], 0, [])),
  (16, ([(16, .iconst 0, 1, (0, 0, 0, 0, 0), [], [])], 17, [])),
  (17, ([(17, .ireturn, 1, (1, 0, 0, 0, 0), [], [])], 0, []))]
def cd_Mod_next : List (Nat × AB) := [
  (0, ([(0, .aload_n 0, 1, (0, 0, 0, 0, 0), [], []), (1, .aload_n 0, 1, (0, 0, 0, 0, 0), [], []), (2, .getfield 95, 3, (11, 7, 0, 1262, 0), [], []), (5, .putfield 92, 3, (11, 6, 0, 1261, 0), [], [])], 8, [0])),
  (8, ([(8, .aload_n 0, 1, (0, 0, 0, 0, 0), [], []), (9, .aload_n 0, 1, (0, 0, 0, 0, 0), [], []), (10, .getfield 92, 3, (11, 6, 0, 1261, 0), [], []), (13, .invokevirtual 98, 3, (72, 2, 10, 11, 1379), [0], [2])], 0, [])),
  (16, ([(16, .bipush 10, 2, (0, 0, 0, 0, 0), [], []), (18, .if_icmp .eq 16, 3, (34, 0, 0, 0, 0), [0], [0])], 0, [])),
  (21, ([(21, .aload_n 0, 1, (0, 0, 0, 0, 0), [], []), (22, .aload_n 0, 1, (0, 0, 0, 0, 0), [], []), (23, .getfield 92, 3, (11, 6, 0, 1261, 0), [], []), (26, .invokevirtual 98, 3, (72, 2, 10, 11, 1379), [0], [2])], 0, [])),
  (29, ([(29, .bipush 32, 2, (0, 0, 0, 0, 0), [], []), (31, .if_icmp .ne 16, 3, (47, 0, 0, 0, 0), [0], [0])], 0, [])),
  (34, ([(34, .aload_n 0, 1, (0, 0, 0, 0, 0), [], []), (35, .dup, 1, (0, 0, 0, 0, 0), [], []), (36, .getfield 92, 3, (11, 6, 0, 1261, 0), [], []), (39, .iconst 1, 1, (0, 0, 0, 0, 0), [], []), (40, .iadd, 1, (0, 0, 0, 0, 0), [], []), (41, .putfield 92, 3, (11, 6, 0, 1261, 0), [], [])], 44, [0])),
  (44, ([(44, .goto (-36), 3, (8, 0, 0, 0, 0), [0], [])], 0, [])),
  (47, ([(47, .aload_n 0, 1, (0, 0, 0, 0, 0), [], []), (48, .aload_n 0, 1, (0, 0, 0, 0, 0), [], []), (49, .getfield 92, 3, (11, 6, 0, 1261, 0), [], []), (52, .putfield 95, 3, (11, 7, 0, 1262, 0), [], [])], 55, [0])),
  (55, ([(55, .aload_n 0, 1, (0, 0, 0, 0, 0), [], []), (56, .getfield 92, 3, (11, 6, 0, 1261, 0), [], []), (59, .aload_n 0, 1, (0, 0, 0, 0, 0), [], []), (60, .getfield 77, 3, (11, 8, 0, 1263, 0), [], []), (63, .if_icmp .lt 12, 3, (75, 0, 0, 0, 0), [0], [0])], 0, [])),
  (66, ([(66, .aload_n 0, 1, (0, 0, 0, 0, 0), [], []), (67, .bipush 22, 2, (0, 0, 0, 0, 0), [], []), (69, .putfield 102, 3, (11, 9, 0, 1264, 0), [], [])], 72, [])),
  (72, ([(72, .goto 222, 3, (294, 0, 0, 0, 0), [], [])], 0, [])),
  (75, ([(75, .aload_n 0, 1, (0, 0, 0, 0, 0), [], []), (76, .aload_n 0, 1, (0, 0, 0, 0, 0), [], []), (77, .getfield 92, 3, (11, 6, 0, 1261, 0), [], []), (80, .invokevirtual 98, 3, (72, 2, 10, 11, 1379), [0], [2])], 0, [])),
  (83, ([(83, .invokestatic 105, 3, (73, 1, 0, 0, 1383), [0], [1])], 0, [])),
  (86, ([(86, .ifCond .eq 41, 3, (127, 0, 0, 0, 0), [0], [0])], 0, [])),
  (89, ([(89, .aload_n 0, 1, (0, 0, 0, 0, 0), [], []), (90, .aload_n 0, 1, (0, 0, 0, 0, 0), [], []), (91, .getfield 95, 3, (11, 7, 0, 1262, 0), [], []), (94, .invokevirtual 98, 3, (72, 2, 10, 11, 1379), [0], [2])], 0, [])),
  (97, ([(97, .invokestatic 105, 3, (73, 1, 0, 0, 1383), [0], [1])], 0, [])),
  (100, ([(100, .ifCond .eq 16, 3, (116, 0, 0, 0, 0), [0], [0])], 0, [])),
  (103, ([(103, .aload_n 0, 1, (0, 0, 0, 0, 0), [], []), (104, .dup, 1, (0, 0, 0, 0, 0), [], []), (105, .getfield 95, 3, (11, 7, 0, 1262, 0), [], []), (108, .iconst 1, 1, (0, 0, 0, 0, 0), [], []), (109, .iadd, 1, (0, 0, 0, 0, 0), [], []), (110, .putfield 95, 3, (11, 7, 0, 1262, 0), [], [])], 113, [0])),
  (113, ([(113, .goto (-24), 3, (89, 0, 0, 0, 0), [0], [])], 0, [])),
  (116, ([(116, .aload_n 0, 1, (0, 0, 0, 0, 0), [], []), (117, .aload_n 0, 1, (0, 0, 0, 0, 0), [], []), (118, .invokevirtual 109, 3, (74, 1, 10, 11, 1386), [], [4])], 0, [])),
  (121, ([(121, .putfield 102, 3, (11, 9, 0, 1264, 0), [], [])], 124, [])),
  (124, ([(124, .goto 170, 3, (294, 0, 0, 0, 0), [], [])], 0, [])),
  (127, ([(127, .aload_n 0, 1, (0, 0, 0, 0, 0), [], []), (128, .aload_n 0, 1, (0, 0, 0, 0, 0), [], []), (129, .getfield 92, 3, (11, 6, 0, 1261, 0), [], []), (132, .invokevirtual 98, 3, (72, 2, 10, 11, 1379), [0], [2])], 0, [])),
  (135, ([(135, .invokestatic 112, 3, (75, 1, 0, 0, 1393), [0], [1])], 0, [])),
  (138, ([(138, .ifCond .eq 98, 3, (236, 0, 0, 0, 0), [0], [0])], 0, [])),
  (141, ([(141, .aload_n 0, 1, (0, 0, 0, 0, 0), [], []), (142, .iconst 0, 1, (0, 0, 0, 0, 0), [], []), (143, .putfield 115, 3, (11, 10, 0, 1265, 0), [], [])], 146, [0])),
  (146, ([(146, .aload_n 0, 1, (0, 0, 0, 0, 0), [], []), (147, .aload_n 0, 1, (0, 0, 0, 0, 0), [], []), (148, .getfield 95, 3, (11, 7, 0, 1262, 0), [], []), (151, .invokevirtual 98, 3, (72, 2, 10, 11, 1379), [0], [2])], 0, [])),
  (154, ([(154, .invokestatic 112, 3, (75, 1, 0, 0, 1393), [0], [1])], 0, [])),
  (157, ([(157, .ifCond .eq 52, 3, (209, 0, 0, 0, 0), [0], [0])], 0, [])),
  (160, ([(160, .aload_n 0, 1, (0, 0, 0, 0, 0), [], []), (161, .getfield 95, 3, (11, 7, 0, 1262, 0), [], []), (164, .aload_n 0, 1, (0, 0, 0, 0, 0), [], []), (165, .getfield 92, 3, (11, 6, 0, 1261, 0), [], []), (168, .isub, 1, (0, 0, 0, 0, 0), [], []), (169, .iconst 3, 1, (0, 0, 0, 0, 0), [], []), (170, .if_icmp .ge 26, 3, (196, 0, 0, 0, 0), [0], [0])], 0, [])),
  (173, ([(173, .aload_n 0, 1, (0, 0, 0, 0, 0), [], []), (174, .bipush 10, 2, (0, 0, 0, 0, 0), [], []), (176, .aload_n 0, 1, (0, 0, 0, 0, 0), [], []), (177, .getfield 115, 3, (11, 10, 0, 1265, 0), [], []), (180, .imul, 1, (0, 0, 0, 0, 0), [], []), (181, .aload_n 0, 1, (0, 0, 0, 0, 0), [], []), (182, .aload_n 0, 1, (0, 0, 0, 0, 0), [], []), (183, .getfield 95, 3, (11, 7, 0, 1262, 0), [], []), (186, .invokevirtual 98, 3, (72, 2, 10, 11, 1379), [0], [2])], 0, [])),
  (189, ([(189, .iadd, 1, (0, 0, 0, 0, 0), [], []), (190, .bipush 48, 2, (0, 0, 0, 0, 0), [], []), (192, .isub, 1, (0, 0, 0, 0, 0), [], []), (193, .putfield 115, 3, (11, 10, 0, 1265, 0), [], [])], 196, [0])),
  (196, ([(196, .aload_n 0, 1, (0, 0, 0, 0, 0), [], []), (197, .dup, 1, (0, 0, 0, 0, 0), [], []), (198, .getfield 95, 3, (11, 7, 0, 1262, 0), [], []), (201, .iconst 1, 1, (0, 0, 0, 0, 0), [], []), (202, .iadd, 1, (0, 0, 0, 0, 0), [], []), (203, .putfield 95, 3, (11, 7, 0, 1262, 0), [], [])], 206, [0])),
  (206, ([(206, .goto (-60), 3, (146, 0, 0, 0, 0), [0], [])], 0, [])),
  (209, ([(209, .aload_n 0, 1, (0, 0, 0, 0, 0), [], []), (210, .aload_n 0, 1, (0, 0, 0, 0, 0), [], []), (211, .getfield 95, 3, (11, 7, 0, 1262, 0), [], []), (214, .aload_n 0, 1, (0, 0, 0, 0, 0), [], []), (215, .getfield 92, 3, (11, 6, 0, 1261, 0), [], []), (218, .isub, 1, (0, 0, 0, 0, 0), [], []), (219, .iconst 3, 1, (0, 0, 0, 0, 0), [], []), (220, .if_icmp .le 8, 3, (228, 0, 0, 0, 0), [], [])], 0, [])),
  (223, ([(223, .bipush 23, 2, (0, 0, 0, 0, 0), [], []), (225, .goto 5, 3, (230, 0, 0, 0, 0), [], [])], 0, [])),
  (228, ([(228, .bipush 21, 2, (0, 0, 0, 0, 0), [], [])], 230, [])),
  (230, ([(230, .putfield 102, 3, (11, 9, 0, 1264, 0), [], [])], 233, [])),
  (233, ([(233, .goto 61, 3, (294, 0, 0, 0, 0), [], [])], 0, [])),
  (236, ([(236, .aload_n 0, 1, (0, 0, 0, 0, 0), [], []), (237, .dup, 1, (0, 0, 0, 0, 0), [], []), (238, .getfield 95, 3, (11, 7, 0, 1262, 0), [], []), (241, .iconst 1, 1, (0, 0, 0, 0, 0), [], []), (242, .iadd, 1, (0, 0, 0, 0, 0), [], []), (243, .putfield 95, 3, (11, 7, 0, 1262, 0), [], [])], 246, [0])),
  (246, ([(246, .aload_n 0, 1, (0, 0, 0, 0, 0), [], []), (247, .bipush 23, 2, (0, 0, 0, 0, 0), [], []), (249, .putfield 102, 3, (11, 9, 0, 1264, 0), [], [])], 252, [0])),
  (252, ([(252, .iconst 0, 1, (0, 0, 0, 0, 0), [], []), (253, .istore_n 1, 1, (0, 0, 0, 0, 0), [], [])], 254, [0, 1])),
  (254, ([(254, .iload_n 1, 1, (0, 0, 0, 0, 0), [], []), (255, .ldc 118, 2, (3, 0, 0, 0, 0), [], []), (257, .invokevirtual 82, 3, (0, 1, 4, 0, 1391), [], []), (260, .if_icmp .ge 34, 3, (294, 0, 0, 0, 0), [], [0, 1])], 0, [])),
  (263, ([(263, .aload_n 0, 1, (0, 0, 0, 0, 0), [], []), (264, .aload_n 0, 1, (0, 0, 0, 0, 0), [], []), (265, .getfield 92, 3, (11, 6, 0, 1261, 0), [], []), (268, .invokevirtual 98, 3, (72, 2, 10, 11, 1379), [0, 1], [2])], 0, [])),
  (271, ([(271, .ldc 118, 2, (3, 0, 0, 0, 0), [], []), (273, .iload_n 1, 1, (0, 0, 0, 0, 0), [], []), (274, .invokevirtual 88, 3, (0, 2, 5, 0, 1392), [], []), (277, .if_icmp .ne 11, 3, (288, 0, 0, 0, 0), [0, 1], [0, 1])], 0, [])),
  (280, ([(280, .aload_n 0, 1, (0, 0, 0, 0, 0), [], []), (281, .bipush 25, 2, (0, 0, 0, 0, 0), [], []), (283, .iload_n 1, 1, (0, 0, 0, 0, 0), [], []), (284, .iadd, 1, (0, 0, 0, 0, 0), [], []), (285, .putfield 102, 3, (11, 9, 0, 1264, 0), [], [])], 288, [0, 1])),
  (288, ([(288, .iinc 1 1, 3, (0, 0, 0, 0, 0), [], []), (291, .goto (-37), 3, (254, 0, 0, 0, 0), [0, 1], [])], 0, [])),
  (294, ([(294, .return_, 1, (0, 0, 0, 0, 0), [], [])], 0, []))]
def cd_Mod_is : List (Nat × AB) := [
  (0, ([(0, .aload_n 0, 1, (0, 0, 0, 0, 0), [], []), (1, .getfield 120, 3, (11, 11, 0, 1266, 0), [], []), (4, .ifCond .ne 15, 3, (19, 0, 0, 0, 0), [], [0, 1])], 0, [])),
  (7, ([(7, .aload_n 0, 1, (0, 0, 0, 0, 0), [], []), (8, .getfield 102, 3, (11, 9, 0, 1264, 0), [], []), (11, .iload_n 1, 1, (0, 0, 0, 0, 0), [], []), (12, .if_icmp .ne 7, 3, (19, 0, 0, 0, 0), [], [])], 0, [])),
  (15, ([(15, .iconst 1, 1, (0, 0, 0, 0, 0), [], []), (16, .goto 4, 3, (20, 0, 0, 0, 0), [], [])], 0, [])),
  (19, ([(19, .iconst 0, 1, (0, 0, 0, 0, 0), [], [])], 20, [])),
  (20, ([(20, .ireturn, 1, (1, 0, 0, 0, 0), [], [])], 0, []))]
def cd_Mod_fails : List (Nat × AB) := [
  (0, ([(0, .aload_n 0, 1, (0, 0, 0, 0, 0), [], []), (1, .getfield 120, 3, (11, 11, 0, 1266, 0), [], []), (4, .ifCond .eq 4, 3, (8, 0, 0, 0, 0), [0, 1], [])], 0, [])),
  (7, ([(7, .return_, 1, (0, 0, 0, 0, 0), [], [])], 0, [])),
  (8, ([(8, .aload_n 0, 1, (0, 0, 0, 0, 0), [], []), (9, .aload_n 0, 1, (0, 0, 0, 0, 0), [], []), (10, .getfield 102, 3, (11, 9, 0, 1264, 0), [], []), (13, .bipush 23, 2, (0, 0, 0, 0, 0), [], []), (15, .if_icmp .ne 7, 3, (22, 0, 0, 0, 0), [0, 1], [0])], 0, [])),
  (18, ([(18, .iconst 1, 1, (0, 0, 0, 0, 0), [], []), (19, .goto 4, 3, (23, 0, 0, 0, 0), [0], [])], 0, [])),
  (22, ([(22, .iload_n 1, 1, (0, 0, 0, 0, 0), [], [])], 23, [0])),
  (23, ([(23, .putfield 120, 3, (11, 11, 0, 1266, 0), [], [])], 26, [0])),
  (26, ([(26, .aload_n 0, 1, (0, 0, 0, 0, 0), [], []), (27, .aload_n 0, 1, (0, 0, 0, 0, 0), [], []), (28, .getfield 92, 3, (11, 6, 0, 1261, 0), [], []), (31, .putfield 123, 3, (11, 12, 0, 1267, 0), [], [])], 34, [])),
  (34, ([(34, .return_, 1, (0, 0, 0, 0, 0), [], [])], 0, []))]
def cd_Mod_takes : List (Nat × AB) := [
  (0, ([(0, .aload_n 0, 1, (0, 0, 0, 0, 0), [], []), (1, .bipush 21, 2, (0, 0, 0, 0, 0), [], []), (3, .invokevirtual 126, 3, (77, 2, 10, 11, 1401), [0, 1, 2], [2])], 0, [])),
  (6, ([(6, .ifCond .ne 11, 3, (17, 0, 0, 0, 0), [0, 1, 2], [0])], 0, [])),
  (9, ([(9, .aload_n 0, 1, (0, 0, 0, 0, 0), [], []), (10, .iconst 2, 1, (0, 0, 0, 0, 0), [], []), (11, .invokevirtual 132, 3, (78, 2, 11, 11, 1410), [0], [2])], 0, [])),
  (14, ([(14, .goto 23, 3, (37, 0, 0, 0, 0), [0], [])], 0, [])),
  (17, ([(17, .aload_n 0, 1, (0, 0, 0, 0, 0), [], []), (18, .getfield 115, 3, (11, 10, 0, 1265, 0), [], []), (21, .i2l, 1, (0, 0, 0, 0, 0), [], []), (22, .iload_n 1, 1, (0, 0, 0, 0, 0), [], []), (23, .i2l, 1, (0, 0, 0, 0, 0), [], []), (24, .iload_n 2, 1, (0, 0, 0, 0, 0), [], []), (25, .i2l, 1, (0, 0, 0, 0, 0), [], []), (26, .invokestatic 136, 3, (71, 3, 0, 0, 1372), [0], [6])], 0, [])),
  (29, ([(29, .ifCond .ne 8, 3, (37, 0, 0, 0, 0), [0], [0])], 0, [])),
  (32, ([(32, .aload_n 0, 1, (0, 0, 0, 0, 0), [], []), (33, .iconst 3, 1, (0, 0, 0, 0, 0), [], []), (34, .invokevirtual 132, 3, (78, 2, 11, 11, 1410), [0], [2])], 0, [])),
  (37, ([(37, .aload_n 0, 1, (0, 0, 0, 0, 0), [], []), (38, .getfield 115, 3, (11, 10, 0, 1265, 0), [], []), (41, .istore_n 3, 1, (0, 0, 0, 0, 0), [], []), (42, .aload_n 0, 1, (0, 0, 0, 0, 0), [], []), (43, .getfield 120, 3, (11, 11, 0, 1266, 0), [], []), (46, .ifCond .ne 7, 3, (53, 0, 0, 0, 0), [3], [0, 3])], 0, [])),
  (49, ([(49, .aload_n 0, 1, (0, 0, 0, 0, 0), [], []), (50, .invokevirtual 129, 3, (76, 1, 11, 11, 1375), [3], [2])], 0, [])),
  (53, ([(53, .iload_n 3, 1, (0, 0, 0, 0, 0), [], []), (54, .ireturn, 1, (0, 0, 0, 0, 0), [], [])], 0, []))]
def cd_Mod_takesRow : List (Nat × AB) := [
  (0, ([(0, .iconst 0, 1, (0, 0, 0, 0, 0), [], []), (1, .istore_n 2, 1, (0, 0, 0, 0, 0), [], [])], 2, [0, 1, 2])),
  (2, ([(2, .aload_n 0, 1, (0, 0, 0, 0, 0), [], []), (3, .getfield 120, 3, (11, 11, 0, 1266, 0), [], []), (6, .ifCond .ne 83, 3, (89, 0, 0, 0, 0), [2], [0, 1, 2])], 0, [])),
  (9, ([(9, .iload_n 2, 1, (0, 0, 0, 0, 0), [], []), (10, .ifCond .eq 12, 3, (22, 0, 0, 0, 0), [0, 1, 2], [0, 1, 2])], 0, [])),
  (13, ([(13, .aload_n 0, 1, (0, 0, 0, 0, 0), [], []), (14, .bipush 21, 2, (0, 0, 0, 0, 0), [], []), (16, .invokevirtual 126, 3, (77, 2, 10, 11, 1401), [0, 1, 2], [2])], 0, [])),
  (19, ([(19, .ifCond .eq 70, 3, (89, 0, 0, 0, 0), [2], [0, 1, 2])], 0, [])),
  (22, ([(22, .iload_n 2, 1, (0, 0, 0, 0, 0), [], []), (23, .bipush 11, 2, (0, 0, 0, 0, 0), [], []), (25, .if_icmp .ne 32, 3, (57, 0, 0, 0, 0), [0, 1, 2], [0, 1, 2])], 0, [])),
  (28, ([(28, .aload_n 0, 1, (0, 0, 0, 0, 0), [], []), (29, .bipush 21, 2, (0, 0, 0, 0, 0), [], []), (31, .invokevirtual 126, 3, (77, 2, 10, 11, 1401), [0, 1, 2], [2])], 0, [])),
  (34, ([(34, .ifCond .eq 23, 3, (57, 0, 0, 0, 0), [0, 1, 2], [0, 1, 2])], 0, [])),
  (37, ([(37, .aload_n 0, 1, (0, 0, 0, 0, 0), [], []), (38, .getfield 115, 3, (11, 10, 0, 1265, 0), [], []), (41, .i2l, 1, (0, 0, 0, 0, 0), [], []), (42, .lconst 1, 1, (0, 0, 0, 0, 0), [], []), (43, .ldc2_w 140, 3, (0, 0, 0, 1409, 99), [], []), (46, .invokestatic 136, 3, (71, 3, 0, 0, 1372), [0, 1, 2], [6])], 0, [])),
  (49, ([(49, .ifCond .eq 8, 3, (57, 0, 0, 0, 0), [0, 1, 2], [0, 1, 2])], 0, [])),
  (52, ([(52, .aload_n 0, 1, (0, 0, 0, 0, 0), [], []), (53, .iconst 4, 1, (0, 0, 0, 0, 0), [], []), (54, .invokevirtual 132, 3, (78, 2, 11, 11, 1410), [0, 1, 2], [2])], 0, [])),
  (57, ([(57, .aload_n 0, 1, (0, 0, 0, 0, 0), [], []), (58, .iconst 1, 1, (0, 0, 0, 0, 0), [], []), (59, .bipush 99, 2, (0, 0, 0, 0, 0), [], []), (61, .invokevirtual 142, 3, (79, 3, 10, 11, 1414), [0, 1, 2], [4])], 0, [])),
  (64, ([(64, .istore_n 3, 1, (0, 0, 0, 0, 0), [], []), (65, .aload_n 0, 1, (0, 0, 0, 0, 0), [], []), (66, .getfield 120, 3, (11, 11, 0, 1266, 0), [], []), (69, .ifCond .eq 5, 3, (74, 0, 0, 0, 0), [0, 1, 2, 3], [])], 0, [])),
  (72, ([(72, .iconst 0, 1, (0, 0, 0, 0, 0), [], []), (73, .ireturn, 1, (0, 0, 0, 0, 0), [], [])], 0, [])),
  (74, ([(74, .aload_n 0, 1, (0, 0, 0, 0, 0), [], []), (75, .getfield 24, 3, (11, 4, 2, 1259, 0), [], []), (78, .iload_n 1, 1, (0, 0, 0, 0, 0), [], []), (79, .iload_n 2, 1, (0, 0, 0, 0, 0), [], []), (80, .iadd, 1, (0, 0, 0, 0, 0), [], []), (81, .iload_n 3, 1, (0, 0, 0, 0, 0), [], []), (82, .iastore, 1, (0, 0, 0, 0, 0), [], [])], 83, [0, 1, 2])),
  (83, ([(83, .iinc 2 1, 3, (0, 0, 0, 0, 0), [], []), (86, .goto (-84), 3, (2, 0, 0, 0, 0), [0, 1, 2], [])], 0, [])),
  (89, ([(89, .iload_n 2, 1, (0, 0, 0, 0, 0), [], []), (90, .ireturn, 1, (0, 0, 0, 0, 0), [], [])], 0, []))]
def cd_Mod_eats : List (Nat × AB) := [
  (0, ([(0, .aload_n 0, 1, (0, 0, 0, 0, 0), [], []), (1, .iload_n 1, 1, (0, 0, 0, 0, 0), [], []), (2, .invokevirtual 126, 3, (77, 2, 10, 11, 1401), [0], [2])], 0, [])),
  (5, ([(5, .ifCond .ne 5, 3, (10, 0, 0, 0, 0), [0], [])], 0, [])),
  (8, ([(8, .iconst 0, 1, (0, 0, 0, 0, 0), [], []), (9, .ireturn, 1, (1, 0, 0, 0, 0), [], [])], 0, [])),
  (10, ([(10, .aload_n 0, 1, (0, 0, 0, 0, 0), [], []), (11, .invokevirtual 129, 3, (76, 1, 11, 11, 1375), [], [2])], 0, [])),
  (14, ([(14, .iconst 1, 1, (0, 0, 0, 0, 0), [], []), (15, .ireturn, 1, (1, 0, 0, 0, 0), [], [])], 0, []))]
def cd_Mod_goesIn : List (Nat × AB) := [
  (0, ([(0, .iload_n 1, 1, (0, 0, 0, 0, 0), [], []), (1, .bipush 6, 2, (0, 0, 0, 0, 0), [], []), (3, .if_icmp .ne 8, 3, (11, 0, 0, 0, 0), [0], [0])], 0, [])),
  (6, ([(6, .aload_n 0, 1, (0, 0, 0, 0, 0), [], []), (7, .iconst 4, 1, (0, 0, 0, 0, 0), [], []), (8, .invokevirtual 132, 3, (78, 2, 11, 11, 1410), [0], [2])], 0, [])),
  (11, ([(11, .aload_n 0, 1, (0, 0, 0, 0, 0), [], []), (12, .getfield 120, 3, (11, 11, 0, 1266, 0), [], []), (15, .ifCond .ne 7, 3, (22, 0, 0, 0, 0), [0], [0])], 0, [])),
  (18, ([(18, .aload_n 0, 1, (0, 0, 0, 0, 0), [], []), (19, .invokevirtual 129, 3, (76, 1, 11, 11, 1375), [0], [2])], 0, [])),
  (22, ([(22, .aload_n 0, 1, (0, 0, 0, 0, 0), [], []), (23, .getfield 120, 3, (11, 11, 0, 1266, 0), [], []), (26, .ifCond .ne 7, 3, (33, 0, 0, 0, 0), [], [])], 0, [])),
  (29, ([(29, .iconst 1, 1, (0, 0, 0, 0, 0), [], []), (30, .goto 4, 3, (34, 0, 0, 0, 0), [], [])], 0, [])),
  (33, ([(33, .iconst 0, 1, (0, 0, 0, 0, 0), [], [])], 34, [])),
  (34, ([(34, .ireturn, 1, (1, 0, 0, 0, 0), [], [])], 0, []))]
def cd_Mod_codes : List (Nat × AB) := [
  (0, ([(0, .aload_n 0, 1, (0, 0, 0, 0, 0), [], []), (1, .getfield 120, 3, (11, 11, 0, 1266, 0), [], []), (4, .ifCond .eq 4, 3, (8, 0, 0, 0, 0), [0, 1], [])], 0, [])),
  (7, ([(7, .return_, 1, (0, 0, 0, 0, 0), [], [])], 0, [])),
  (8, ([(8, .aload_n 0, 1, (0, 0, 0, 0, 0), [], []), (9, .getfield 24, 3, (11, 4, 2, 1259, 0), [], []), (12, .sipush 215, 3, (0, 0, 0, 0, 0), [], []), (15, .aload_n 0, 1, (0, 0, 0, 0, 0), [], []), (16, .getfield 24, 3, (11, 4, 2, 1259, 0), [], []), (19, .sipush 214, 3, (0, 0, 0, 0, 0), [], []), (22, .iaload, 1, (20, 0, 0, 0, 0), [], []), (23, .iadd, 1, (0, 0, 0, 0, 0), [], []), (24, .iload_n 1, 1, (0, 0, 0, 0, 0), [], []), (25, .iastore, 1, (0, 0, 0, 0, 0), [], [])], 26, [0])),
  (26, ([(26, .aload_n 0, 1, (0, 0, 0, 0, 0), [], []), (27, .getfield 24, 3, (11, 4, 2, 1259, 0), [], []), (30, .sipush 214, 3, (0, 0, 0, 0, 0), [], []), (33, .dup2, 1, (0, 0, 0, 0, 0), [], []), (34, .iaload, 1, (20, 0, 0, 0, 0), [], []), (35, .iconst 1, 1, (0, 0, 0, 0, 0), [], []), (36, .iadd, 1, (0, 0, 0, 0, 0), [], []), (37, .iastore, 1, (0, 0, 0, 0, 0), [], [])], 38, [])),
  (38, ([(38, .return_, 1, (0, 0, 0, 0, 0), [], [])], 0, []))]
def cd_Mod_readAtom : List (Nat × AB) := [
  (0, ([(0, .aload_n 0, 1, (0, 0, 0, 0, 0), [], []), (1, .bipush 21, 2, (0, 0, 0, 0, 0), [], []), (3, .invokevirtual 126, 3, (77, 2, 10, 11, 1401), [0, 1], [2])], 0, [])),
  (6, ([(6, .ifCond .eq 18, 3, (24, 0, 0, 0, 0), [0, 1], [0])], 0, [])),
  (9, ([(9, .aload_n 0, 1, (0, 0, 0, 0, 0), [], []), (10, .aload_n 0, 1, (0, 0, 0, 0, 0), [], []), (11, .getfield 115, 3, (11, 10, 0, 1265, 0), [], []), (14, .invokevirtual 146, 3, (83, 2, 11, 11, 1442), [0], [2])], 0, [])),
  (17, ([(17, .aload_n 0, 1, (0, 0, 0, 0, 0), [], []), (18, .invokevirtual 129, 3, (76, 1, 11, 11, 1375), [], [2])], 0, [])),
  (21, ([(21, .goto 132, 3, (153, 0, 0, 0, 0), [], [])], 0, [])),
  (24, ([(24, .aload_n 0, 1, (0, 0, 0, 0, 0), [], []), (25, .iconst 2, 1, (0, 0, 0, 0, 0), [], []), (26, .invokevirtual 149, 3, (81, 2, 10, 11, 1422), [0, 1], [2])], 0, [])),
  (29, ([(29, .ifCond .eq 13, 3, (42, 0, 0, 0, 0), [0, 1], [0])], 0, [])),
  (32, ([(32, .aload_n 0, 1, (0, 0, 0, 0, 0), [], []), (33, .sipush 1000, 3, (0, 0, 0, 0, 0), [], []), (36, .invokevirtual 146, 3, (83, 2, 11, 11, 1442), [], [2])], 0, [])),
  (39, ([(39, .goto 114, 3, (153, 0, 0, 0, 0), [], [])], 0, [])),
  (42, ([(42, .aload_n 0, 1, (0, 0, 0, 0, 0), [], []), (43, .iconst 4, 1, (0, 0, 0, 0, 0), [], []), (44, .invokevirtual 149, 3, (81, 2, 10, 11, 1422), [0, 1], [2])], 0, [])),
  (47, ([(47, .ifCond .eq 13, 3, (60, 0, 0, 0, 0), [0, 1], [0])], 0, [])),
  (50, ([(50, .aload_n 0, 1, (0, 0, 0, 0, 0), [], []), (51, .sipush 1001, 3, (0, 0, 0, 0, 0), [], []), (54, .invokevirtual 146, 3, (83, 2, 11, 11, 1442), [], [2])], 0, [])),
  (57, ([(57, .goto 96, 3, (153, 0, 0, 0, 0), [], [])], 0, [])),
  (60, ([(60, .aload_n 0, 1, (0, 0, 0, 0, 0), [], []), (61, .getfield 120, 3, (11, 11, 0, 1266, 0), [], []), (64, .ifCond .ne 42, 3, (106, 0, 0, 0, 0), [0, 1], [0, 1])], 0, [])),
  (67, ([(67, .aload_n 0, 1, (0, 0, 0, 0, 0), [], []), (68, .getfield 102, 3, (11, 9, 0, 1264, 0), [], []), (71, .i2l, 1, (0, 0, 0, 0, 0), [], []), (72, .ldc2_w 152, 3, (0, 0, 0, 1458, 14), [], []), (75, .ldc2_w 154, 3, (0, 0, 0, 1459, 17), [], []), (78, .invokestatic 136, 3, (71, 3, 0, 0, 1372), [0, 1], [6])], 0, [])),
  (81, ([(81, .ifCond .eq 25, 3, (106, 0, 0, 0, 0), [0, 1], [0])], 0, [])),
  (84, ([(84, .aload_n 0, 1, (0, 0, 0, 0, 0), [], []), (85, .sipush 1002, 3, (0, 0, 0, 0, 0), [], []), (88, .aload_n 0, 1, (0, 0, 0, 0, 0), [], []), (89, .getfield 102, 3, (11, 9, 0, 1264, 0), [], []), (92, .iadd, 1, (0, 0, 0, 0, 0), [], []), (93, .bipush 14, 2, (0, 0, 0, 0, 0), [], []), (95, .isub, 1, (0, 0, 0, 0, 0), [], []), (96, .invokevirtual 146, 3, (83, 2, 11, 11, 1442), [0], [2])], 0, [])),
  (99, ([(99, .aload_n 0, 1, (0, 0, 0, 0, 0), [], []), (100, .invokevirtual 129, 3, (76, 1, 11, 11, 1375), [], [2])], 0, [])),
  (103, ([(103, .goto 50, 3, (153, 0, 0, 0, 0), [], [])], 0, [])),
  (106, ([(106, .aload_n 0, 1, (0, 0, 0, 0, 0), [], []), (107, .bipush 30, 2, (0, 0, 0, 0, 0), [], []), (109, .invokevirtual 126, 3, (77, 2, 10, 11, 1401), [0, 1], [2])], 0, [])),
  (112, ([(112, .ifCond .eq 36, 3, (148, 0, 0, 0, 0), [0], [0, 1])], 0, [])),
  (115, ([(115, .aload_n 0, 1, (0, 0, 0, 0, 0), [], []), (116, .iload_n 1, 1, (0, 0, 0, 0, 0), [], []), (117, .invokevirtual 156, 3, (82, 2, 10, 11, 1438), [0, 1], [2])], 0, [])),
  (120, ([(120, .ifCond .ne 4, 3, (124, 0, 0, 0, 0), [0, 1], [])], 0, [])),
  (123, ([(123, .return_, 1, (0, 0, 0, 0, 0), [], [])], 0, [])),
  (124, ([(124, .aload_n 0, 1, (0, 0, 0, 0, 0), [], []), (125, .iload_n 1, 1, (0, 0, 0, 0, 0), [], []), (126, .iconst 1, 1, (0, 0, 0, 0, 0), [], []), (127, .iadd, 1, (0, 0, 0, 0, 0), [], []), (128, .invokevirtual 159, 3, (86, 2, 11, 11, 1446), [0], [3])], 0, [])),
  (131, ([(131, .aload_n 0, 1, (0, 0, 0, 0, 0), [], []), (132, .bipush 31, 2, (0, 0, 0, 0, 0), [], []), (134, .invokevirtual 149, 3, (81, 2, 10, 11, 1422), [0], [2])], 0, [])),
  (137, ([(137, .ifCond .ne 16, 3, (153, 0, 0, 0, 0), [], [0])], 0, [])),
  (140, ([(140, .aload_n 0, 1, (0, 0, 0, 0, 0), [], []), (141, .iconst 2, 1, (0, 0, 0, 0, 0), [], []), (142, .invokevirtual 132, 3, (78, 2, 11, 11, 1410), [], [2])], 0, [])),
  (145, ([(145, .goto 8, 3, (153, 0, 0, 0, 0), [], [])], 0, [])),
  (148, ([(148, .aload_n 0, 1, (0, 0, 0, 0, 0), [], []), (149, .iconst 2, 1, (0, 0, 0, 0, 0), [], []), (150, .invokevirtual 132, 3, (78, 2, 11, 11, 1410), [], [2])], 0, [])),
  (153, ([(153, .return_, 1, (0, 0, 0, 0, 0), [], [])], 0, []))]
def cd_Mod_readTerm : List (Nat × AB) := [
  (0, ([(0, .aload_n 0, 1, (0, 0, 0, 0, 0), [], []), (1, .iload_n 1, 1, (0, 0, 0, 0, 0), [], []), (2, .invokevirtual 162, 3, (84, 2, 11, 11, 1454), [0, 1], [2])], 0, [])),
  (5, ([(5, .aload_n 0, 1, (0, 0, 0, 0, 0), [], []), (6, .bipush 29, 2, (0, 0, 0, 0, 0), [], []), (8, .invokevirtual 149, 3, (81, 2, 10, 11, 1422), [0, 1], [2])], 0, [])),
  (11, ([(11, .ifCond .eq 18, 3, (29, 0, 0, 0, 0), [], [0, 1])], 0, [])),
  (14, ([(14, .aload_n 0, 1, (0, 0, 0, 0, 0), [], []), (15, .iload_n 1, 1, (0, 0, 0, 0, 0), [], []), (16, .invokevirtual 162, 3, (84, 2, 11, 11, 1454), [0, 1], [2])], 0, [])),
  (19, ([(19, .aload_n 0, 1, (0, 0, 0, 0, 0), [], []), (20, .sipush 3002, 3, (0, 0, 0, 0, 0), [], []), (23, .invokevirtual 146, 3, (83, 2, 11, 11, 1442), [0, 1], [2])], 0, [])),
  (26, ([(26, .goto (-21), 3, (5, 0, 0, 0, 0), [0, 1], [])], 0, [])),
  (29, ([(29, .return_, 1, (0, 0, 0, 0, 0), [], [])], 0, []))]
def cd_Mod_readSum : List (Nat × AB) := [
  (0, ([(0, .aload_n 0, 1, (0, 0, 0, 0, 0), [], []), (1, .iload_n 1, 1, (0, 0, 0, 0, 0), [], []), (2, .invokevirtual 165, 3, (85, 2, 11, 11, 1450), [0, 1], [2])], 0, [])),
  (5, ([(5, .aload_n 0, 1, (0, 0, 0, 0, 0), [], []), (6, .bipush 27, 2, (0, 0, 0, 0, 0), [], []), (8, .invokevirtual 126, 3, (77, 2, 10, 11, 1401), [0, 1], [2])], 0, [])),
  (11, ([(11, .ifCond .ne 12, 3, (23, 0, 0, 0, 0), [0, 1], [0, 1])], 0, [])),
  (14, ([(14, .aload_n 0, 1, (0, 0, 0, 0, 0), [], []), (15, .bipush 28, 2, (0, 0, 0, 0, 0), [], []), (17, .invokevirtual 126, 3, (77, 2, 10, 11, 1401), [0, 1], [2])], 0, [])),
  (20, ([(20, .ifCond .eq 39, 3, (59, 0, 0, 0, 0), [], [0, 1])], 0, [])),
  (23, ([(23, .aload_n 0, 1, (0, 0, 0, 0, 0), [], []), (24, .getfield 102, 3, (11, 9, 0, 1264, 0), [], []), (27, .bipush 27, 2, (0, 0, 0, 0, 0), [], []), (29, .if_icmp .ne 9, 3, (38, 0, 0, 0, 0), [0, 1], [0, 1])], 0, [])),
  (32, ([(32, .sipush 3000, 3, (0, 0, 0, 0, 0), [], []), (35, .goto 6, 3, (41, 0, 0, 0, 0), [0, 1], [])], 0, [])),
  (38, ([(38, .sipush 3001, 3, (0, 0, 0, 0, 0), [], [])], 41, [0, 1])),
  (41, ([(41, .istore_n 2, 1, (0, 0, 0, 0, 0), [], []), (42, .aload_n 0, 1, (0, 0, 0, 0, 0), [], []), (43, .invokevirtual 129, 3, (76, 1, 11, 11, 1375), [0, 1, 2], [2])], 0, [])),
  (46, ([(46, .aload_n 0, 1, (0, 0, 0, 0, 0), [], []), (47, .iload_n 1, 1, (0, 0, 0, 0, 0), [], []), (48, .invokevirtual 165, 3, (85, 2, 11, 11, 1450), [0, 1, 2], [2])], 0, [])),
  (51, ([(51, .aload_n 0, 1, (0, 0, 0, 0, 0), [], []), (52, .iload_n 2, 1, (0, 0, 0, 0, 0), [], []), (53, .invokevirtual 146, 3, (83, 2, 11, 11, 1442), [0, 1], [2])], 0, [])),
  (56, ([(56, .goto (-51), 3, (5, 0, 0, 0, 0), [0, 1], [])], 0, [])),
  (59, ([(59, .return_, 1, (0, 0, 0, 0, 0), [], [])], 0, []))]
def cd_Mod_readUnit : List (Nat × AB) := [
  (0, ([(0, .aload_n 0, 1, (0, 0, 0, 0, 0), [], []), (1, .bipush 13, 2, (0, 0, 0, 0, 0), [], []), (3, .invokevirtual 126, 3, (77, 2, 10, 11, 1401), [0, 1], [2])], 0, [])),
  (6, ([(6, .ifCond .eq 27, 3, (33, 0, 0, 0, 0), [0, 1], [0, 1])], 0, [])),
  (9, ([(9, .aload_n 0, 1, (0, 0, 0, 0, 0), [], []), (10, .iload_n 1, 1, (0, 0, 0, 0, 0), [], []), (11, .invokevirtual 156, 3, (82, 2, 10, 11, 1438), [0, 1], [2])], 0, [])),
  (14, ([(14, .ifCond .ne 4, 3, (18, 0, 0, 0, 0), [0, 1], [])], 0, [])),
  (17, ([(17, .return_, 1, (0, 0, 0, 0, 0), [], [])], 0, [])),
  (18, ([(18, .aload_n 0, 1, (0, 0, 0, 0, 0), [], []), (19, .iload_n 1, 1, (0, 0, 0, 0, 0), [], []), (20, .iconst 1, 1, (0, 0, 0, 0, 0), [], []), (21, .iadd, 1, (0, 0, 0, 0, 0), [], []), (22, .invokevirtual 168, 3, (87, 2, 11, 11, 1434), [0], [3])], 0, [])),
  (25, ([(25, .aload_n 0, 1, (0, 0, 0, 0, 0), [], []), (26, .sipush 3008, 3, (0, 0, 0, 0, 0), [], []), (29, .invokevirtual 146, 3, (83, 2, 11, 11, 1442), [], [2])], 0, [])),
  (32, ([(32, .return_, 1, (0, 0, 0, 0, 0), [], [])], 0, [])),
  (33, ([(33, .aload_n 0, 1, (0, 0, 0, 0, 0), [], []), (34, .bipush 32, 2, (0, 0, 0, 0, 0), [], []), (36, .invokevirtual 126, 3, (77, 2, 10, 11, 1401), [0, 1], [2])], 0, [])),
  (39, ([(39, .ifCond .eq 34, 3, (73, 0, 0, 0, 0), [0, 1], [0, 1])], 0, [])),
  (42, ([(42, .aload_n 0, 1, (0, 0, 0, 0, 0), [], []), (43, .iload_n 1, 1, (0, 0, 0, 0, 0), [], []), (44, .invokevirtual 156, 3, (82, 2, 10, 11, 1438), [0, 1], [2])], 0, [])),
  (47, ([(47, .ifCond .ne 4, 3, (51, 0, 0, 0, 0), [0, 1], [])], 0, [])),
  (50, ([(50, .return_, 1, (0, 0, 0, 0, 0), [], [])], 0, [])),
  (51, ([(51, .aload_n 0, 1, (0, 0, 0, 0, 0), [], []), (52, .iload_n 1, 1, (0, 0, 0, 0, 0), [], []), (53, .iconst 1, 1, (0, 0, 0, 0, 0), [], []), (54, .iadd, 1, (0, 0, 0, 0, 0), [], []), (55, .invokevirtual 171, 3, (89, 2, 11, 11, 1426), [0], [2])], 0, [])),
  (58, ([(58, .aload_n 0, 1, (0, 0, 0, 0, 0), [], []), (59, .bipush 33, 2, (0, 0, 0, 0, 0), [], []), (61, .invokevirtual 149, 3, (81, 2, 10, 11, 1422), [0], [2])], 0, [])),
  (64, ([(64, .ifCond .ne 8, 3, (72, 0, 0, 0, 0), [], [0])], 0, [])),
  (67, ([(67, .aload_n 0, 1, (0, 0, 0, 0, 0), [], []), (68, .iconst 2, 1, (0, 0, 0, 0, 0), [], []), (69, .invokevirtual 132, 3, (78, 2, 11, 11, 1410), [], [2])], 0, [])),
  (72, ([(72, .return_, 1, (0, 0, 0, 0, 0), [], [])], 0, [])),
  (73, ([(73, .aload_n 0, 1, (0, 0, 0, 0, 0), [], []), (74, .iload_n 1, 1, (0, 0, 0, 0, 0), [], []), (75, .invokevirtual 159, 3, (86, 2, 11, 11, 1446), [0, 1], [3])], 0, [])),
  (78, ([(78, .aload_n 0, 1, (0, 0, 0, 0, 0), [], []), (79, .bipush 34, 2, (0, 0, 0, 0, 0), [], []), (81, .invokevirtual 126, 3, (77, 2, 10, 11, 1401), [0, 1], [2])], 0, [])),
  (84, ([(84, .ifCond .eq 9, 3, (93, 0, 0, 0, 0), [0, 1], [0, 1])], 0, [])),
  (87, ([(87, .sipush 3003, 3, (0, 0, 0, 0, 0), [], []), (90, .goto 21, 3, (111, 0, 0, 0, 0), [0, 1], [])], 0, [])),
  (93, ([(93, .aload_n 0, 1, (0, 0, 0, 0, 0), [], []), (94, .bipush 35, 2, (0, 0, 0, 0, 0), [], []), (96, .invokevirtual 126, 3, (77, 2, 10, 11, 1401), [0, 1], [2])], 0, [])),
  (99, ([(99, .ifCond .eq 9, 3, (108, 0, 0, 0, 0), [0, 1], [0, 1])], 0, [])),
  (102, ([(102, .sipush 3004, 3, (0, 0, 0, 0, 0), [], []), (105, .goto 6, 3, (111, 0, 0, 0, 0), [0, 1], [])], 0, [])),
  (108, ([(108, .sipush 3005, 3, (0, 0, 0, 0, 0), [], [])], 111, [0, 1])),
  (111, ([(111, .istore_n 2, 1, (0, 0, 0, 0, 0), [], []), (112, .aload_n 0, 1, (0, 0, 0, 0, 0), [], []), (113, .bipush 34, 2, (0, 0, 0, 0, 0), [], []), (115, .invokevirtual 126, 3, (77, 2, 10, 11, 1401), [0, 1, 2], [2])], 0, [])),
  (118, ([(118, .ifCond .ne 21, 3, (139, 0, 0, 0, 0), [0, 1, 2], [0, 1, 2])], 0, [])),
  (121, ([(121, .aload_n 0, 1, (0, 0, 0, 0, 0), [], []), (122, .bipush 35, 2, (0, 0, 0, 0, 0), [], []), (124, .invokevirtual 126, 3, (77, 2, 10, 11, 1401), [0, 1, 2], [2])], 0, [])),
  (127, ([(127, .ifCond .ne 12, 3, (139, 0, 0, 0, 0), [0, 1, 2], [0, 1, 2])], 0, [])),
  (130, ([(130, .aload_n 0, 1, (0, 0, 0, 0, 0), [], []), (131, .bipush 36, 2, (0, 0, 0, 0, 0), [], []), (133, .invokevirtual 126, 3, (77, 2, 10, 11, 1401), [0, 1, 2], [2])], 0, [])),
  (136, ([(136, .ifCond .eq 10, 3, (146, 0, 0, 0, 0), [0, 1, 2], [0, 1, 2])], 0, [])),
  (139, ([(139, .aload_n 0, 1, (0, 0, 0, 0, 0), [], []), (140, .invokevirtual 129, 3, (76, 1, 11, 11, 1375), [0, 1, 2], [2])], 0, [])),
  (143, ([(143, .goto 8, 3, (151, 0, 0, 0, 0), [0, 1, 2], [])], 0, [])),
  (146, ([(146, .aload_n 0, 1, (0, 0, 0, 0, 0), [], []), (147, .iconst 2, 1, (0, 0, 0, 0, 0), [], []), (148, .invokevirtual 132, 3, (78, 2, 11, 11, 1410), [0, 1, 2], [2])], 0, [])),
  (151, ([(151, .aload_n 0, 1, (0, 0, 0, 0, 0), [], []), (152, .iload_n 1, 1, (0, 0, 0, 0, 0), [], []), (153, .invokevirtual 159, 3, (86, 2, 11, 11, 1446), [0, 2], [3])], 0, [])),
  (156, ([(156, .aload_n 0, 1, (0, 0, 0, 0, 0), [], []), (157, .iload_n 2, 1, (0, 0, 0, 0, 0), [], []), (158, .invokevirtual 146, 3, (83, 2, 11, 11, 1442), [], [2])], 0, [])),
  (161, ([(161, .return_, 1, (0, 0, 0, 0, 0), [], [])], 0, []))]
def cd_Mod_readBoth : List (Nat × AB) := [
  (0, ([(0, .aload_n 0, 1, (0, 0, 0, 0, 0), [], []), (1, .iload_n 1, 1, (0, 0, 0, 0, 0), [], []), (2, .invokevirtual 168, 3, (87, 2, 11, 11, 1434), [0, 1], [3])], 0, [])),
  (5, ([(5, .aload_n 0, 1, (0, 0, 0, 0, 0), [], []), (6, .bipush 12, 2, (0, 0, 0, 0, 0), [], []), (8, .invokevirtual 149, 3, (81, 2, 10, 11, 1422), [0, 1], [2])], 0, [])),
  (11, ([(11, .ifCond .eq 18, 3, (29, 0, 0, 0, 0), [], [0, 1])], 0, [])),
  (14, ([(14, .aload_n 0, 1, (0, 0, 0, 0, 0), [], []), (15, .iload_n 1, 1, (0, 0, 0, 0, 0), [], []), (16, .invokevirtual 168, 3, (87, 2, 11, 11, 1434), [0, 1], [3])], 0, [])),
  (19, ([(19, .aload_n 0, 1, (0, 0, 0, 0, 0), [], []), (20, .sipush 3006, 3, (0, 0, 0, 0, 0), [], []), (23, .invokevirtual 146, 3, (83, 2, 11, 11, 1442), [0, 1], [2])], 0, [])),
  (26, ([(26, .goto (-21), 3, (5, 0, 0, 0, 0), [0, 1], [])], 0, [])),
  (29, ([(29, .return_, 1, (0, 0, 0, 0, 0), [], [])], 0, []))]
def cd_Mod_readTruth : List (Nat × AB) := [
  (0, ([(0, .aload_n 0, 1, (0, 0, 0, 0, 0), [], []), (1, .iload_n 1, 1, (0, 0, 0, 0, 0), [], []), (2, .invokevirtual 174, 3, (88, 2, 11, 11, 1430), [0, 1], [2])], 0, [])),
  (5, ([(5, .aload_n 0, 1, (0, 0, 0, 0, 0), [], []), (6, .bipush 11, 2, (0, 0, 0, 0, 0), [], []), (8, .invokevirtual 149, 3, (81, 2, 10, 11, 1422), [0, 1], [2])], 0, [])),
  (11, ([(11, .ifCond .eq 18, 3, (29, 0, 0, 0, 0), [], [0, 1])], 0, [])),
  (14, ([(14, .aload_n 0, 1, (0, 0, 0, 0, 0), [], []), (15, .iload_n 1, 1, (0, 0, 0, 0, 0), [], []), (16, .invokevirtual 174, 3, (88, 2, 11, 11, 1430), [0, 1], [2])], 0, [])),
  (19, ([(19, .aload_n 0, 1, (0, 0, 0, 0, 0), [], []), (20, .sipush 3007, 3, (0, 0, 0, 0, 0), [], []), (23, .invokevirtual 146, 3, (83, 2, 11, 11, 1442), [0, 1], [2])], 0, [])),
  (26, ([(26, .goto (-21), 3, (5, 0, 0, 0, 0), [0, 1], [])], 0, [])),
  (29, ([(29, .return_, 1, (0, 0, 0, 0, 0), [], [])], 0, []))]
def cd_Mod_readLaw : List (Nat × AB) := [
  (0, ([(0, .aload_n 0, 1, (0, 0, 0, 0, 0), [], []), (1, .invokevirtual 129, 3, (76, 1, 11, 11, 1375), [0], [2])], 0, [])),
  (4, ([(4, .aload_n 0, 1, (0, 0, 0, 0, 0), [], []), (5, .bipush 26, 2, (0, 0, 0, 0, 0), [], []), (7, .invokevirtual 149, 3, (81, 2, 10, 11, 1422), [0], [2])], 0, [])),
  (10, ([(10, .ifCond .ne 8, 3, (18, 0, 0, 0, 0), [0], [0])], 0, [])),
  (13, ([(13, .aload_n 0, 1, (0, 0, 0, 0, 0), [], []), (14, .iconst 2, 1, (0, 0, 0, 0, 0), [], []), (15, .invokevirtual 132, 3, (78, 2, 11, 11, 1410), [0], [2])], 0, [])),
  (18, ([(18, .aload_n 0, 1, (0, 0, 0, 0, 0), [], []), (19, .getfield 24, 3, (11, 4, 2, 1259, 0), [], []), (22, .sipush 214, 3, (0, 0, 0, 0, 0), [], []), (25, .iconst 0, 1, (0, 0, 0, 0, 0), [], []), (26, .iastore, 1, (0, 0, 0, 0, 0), [], [])], 27, [0])),
  (27, ([(27, .aload_n 0, 1, (0, 0, 0, 0, 0), [], []), (28, .iconst 0, 1, (0, 0, 0, 0, 0), [], []), (29, .invokevirtual 171, 3, (89, 2, 11, 11, 1426), [0], [2])], 0, [])),
  (32, ([(32, .aload_n 0, 1, (0, 0, 0, 0, 0), [], []), (33, .getfield 120, 3, (11, 11, 0, 1266, 0), [], []), (36, .ifCond .ne 11, 3, (47, 0, 0, 0, 0), [], [0])], 0, [])),
  (39, ([(39, .aload_n 0, 1, (0, 0, 0, 0, 0), [], []), (40, .getfield 24, 3, (11, 4, 2, 1259, 0), [], []), (43, .bipush 9, 2, (0, 0, 0, 0, 0), [], []), (45, .iconst 1, 1, (0, 0, 0, 0, 0), [], []), (46, .iastore, 1, (0, 0, 0, 0, 0), [], [])], 47, [])),
  (47, ([(47, .return_, 1, (0, 0, 0, 0, 0), [], [])], 0, []))]
def cd_Mod_readChair : List (Nat × AB) := [
  (0, ([(0, .aload_n 0, 1, (0, 0, 0, 0, 0), [], []), (1, .iconst 0, 1, (0, 0, 0, 0, 0), [], []), (2, .bipush 9, 2, (0, 0, 0, 0, 0), [], []), (4, .invokevirtual 142, 3, (79, 3, 10, 11, 1414), [0], [4])], 0, [])),
  (7, ([(7, .istore_n 1, 1, (0, 0, 0, 0, 0), [], []), (8, .aload_n 0, 1, (0, 0, 0, 0, 0), [], []), (9, .iconst 0, 1, (0, 0, 0, 0, 0), [], []), (10, .bipush 99, 2, (0, 0, 0, 0, 0), [], []), (12, .invokevirtual 142, 3, (79, 3, 10, 11, 1414), [0, 1], [4])], 0, [])),
  (15, ([(15, .istore_n 2, 1, (0, 0, 0, 0, 0), [], []), (16, .aload_n 0, 1, (0, 0, 0, 0, 0), [], []), (17, .iconst 1, 1, (0, 0, 0, 0, 0), [], []), (18, .bipush 99, 2, (0, 0, 0, 0, 0), [], []), (20, .invokevirtual 142, 3, (79, 3, 10, 11, 1414), [0, 1, 2], [4])], 0, [])),
  (23, ([(23, .istore_n 3, 1, (0, 0, 0, 0, 0), [], []), (24, .aload_n 0, 1, (0, 0, 0, 0, 0), [], []), (25, .getfield 120, 3, (11, 11, 0, 1266, 0), [], []), (28, .ifCond .eq 4, 3, (32, 0, 0, 0, 0), [0, 1, 2, 3], [])], 0, [])),
  (31, ([(31, .return_, 1, (0, 0, 0, 0, 0), [], [])], 0, [])),
  (32, ([(32, .aload_n 0, 1, (0, 0, 0, 0, 0), [], []), (33, .getfield 24, 3, (11, 4, 2, 1259, 0), [], []), (36, .iconst 3, 1, (0, 0, 0, 0, 0), [], []), (37, .iload_n 1, 1, (0, 0, 0, 0, 0), [], []), (38, .iastore, 1, (0, 0, 0, 0, 0), [], [])], 39, [0, 2, 3])),
  (39, ([(39, .aload_n 0, 1, (0, 0, 0, 0, 0), [], []), (40, .getfield 24, 3, (11, 4, 2, 1259, 0), [], []), (43, .iconst 4, 1, (0, 0, 0, 0, 0), [], []), (44, .iload_n 2, 1, (0, 0, 0, 0, 0), [], []), (45, .iastore, 1, (0, 0, 0, 0, 0), [], [])], 46, [0, 3])),
  (46, ([(46, .aload_n 0, 1, (0, 0, 0, 0, 0), [], []), (47, .getfield 24, 3, (11, 4, 2, 1259, 0), [], []), (50, .iconst 5, 1, (0, 0, 0, 0, 0), [], []), (51, .iload_n 3, 1, (0, 0, 0, 0, 0), [], []), (52, .iastore, 1, (0, 0, 0, 0, 0), [], [])], 53, [])),
  (53, ([(53, .return_, 1, (0, 0, 0, 0, 0), [], [])], 0, []))]
def cd_Mod_readSlip : List (Nat × AB) := [
  (0, ([(0, .aload_n 0, 1, (0, 0, 0, 0, 0), [], []), (1, .iconst 0, 1, (0, 0, 0, 0, 0), [], []), (2, .bipush 9, 2, (0, 0, 0, 0, 0), [], []), (4, .invokevirtual 142, 3, (79, 3, 10, 11, 1414), [0], [4])], 0, [])),
  (7, ([(7, .istore_n 1, 1, (0, 0, 0, 0, 0), [], []), (8, .aload_n 0, 1, (0, 0, 0, 0, 0), [], []), (9, .iconst 0, 1, (0, 0, 0, 0, 0), [], []), (10, .sipush 999, 3, (0, 0, 0, 0, 0), [], []), (13, .invokevirtual 142, 3, (79, 3, 10, 11, 1414), [0, 1], [4])], 0, [])),
  (16, ([(16, .istore_n 2, 1, (0, 0, 0, 0, 0), [], []), (17, .aload_n 0, 1, (0, 0, 0, 0, 0), [], []), (18, .getfield 120, 3, (11, 11, 0, 1266, 0), [], []), (21, .ifCond .eq 4, 3, (25, 0, 0, 0, 0), [0, 1, 2], [])], 0, [])),
  (24, ([(24, .return_, 1, (0, 0, 0, 0, 0), [], [])], 0, [])),
  (25, ([(25, .aload_n 0, 1, (0, 0, 0, 0, 0), [], []), (26, .getfield 24, 3, (11, 4, 2, 1259, 0), [], []), (29, .bipush 7, 2, (0, 0, 0, 0, 0), [], []), (31, .iload_n 1, 1, (0, 0, 0, 0, 0), [], []), (32, .iastore, 1, (0, 0, 0, 0, 0), [], [])], 33, [0, 2])),
  (33, ([(33, .aload_n 0, 1, (0, 0, 0, 0, 0), [], []), (34, .getfield 24, 3, (11, 4, 2, 1259, 0), [], []), (37, .bipush 8, 2, (0, 0, 0, 0, 0), [], []), (39, .iload_n 2, 1, (0, 0, 0, 0, 0), [], []), (40, .iastore, 1, (0, 0, 0, 0, 0), [], [])], 41, [])),
  (41, ([(41, .return_, 1, (0, 0, 0, 0, 0), [], [])], 0, []))]
def cd_Mod_isHung : List (Nat × AB) := [
  (0, ([(0, .aload_n 0, 1, (0, 0, 0, 0, 0), [], []), (1, .getfield 24, 3, (11, 4, 2, 1259, 0), [], []), (4, .iconst 1, 1, (0, 0, 0, 0, 0), [], []), (5, .iaload, 1, (20, 0, 0, 0, 0), [], []), (6, .ifCond .le 16, 3, (22, 0, 0, 0, 0), [], [0])], 0, [])),
  (9, ([(9, .aload_n 0, 1, (0, 0, 0, 0, 0), [], []), (10, .getfield 24, 3, (11, 4, 2, 1259, 0), [], []), (13, .iconst 2, 1, (0, 0, 0, 0, 0), [], []), (14, .iaload, 1, (20, 0, 0, 0, 0), [], []), (15, .ifCond .le 7, 3, (22, 0, 0, 0, 0), [], [])], 0, [])),
  (18, ([(18, .iconst 1, 1, (0, 0, 0, 0, 0), [], []), (19, .goto 4, 3, (23, 0, 0, 0, 0), [], [])], 0, [])),
  (22, ([(22, .iconst 0, 1, (0, 0, 0, 0, 0), [], [])], 23, [])),
  (23, ([(23, .ireturn, 1, (1, 0, 0, 0, 0), [], [])], 0, []))]
def cd_Mod_readMark : List (Nat × AB) := [
  (0, ([(0, .aload_n 0, 1, (0, 0, 0, 0, 0), [], []), (1, .iconst 0, 1, (0, 0, 0, 0, 0), [], []), (2, .iload_n 1, 1, (0, 0, 0, 0, 0), [], []), (3, .iconst 1, 1, (0, 0, 0, 0, 0), [], []), (4, .isub, 1, (0, 0, 0, 0, 0), [], []), (5, .invokevirtual 142, 3, (79, 3, 10, 11, 1414), [0, 2], [4])], 0, [])),
  (8, ([(8, .istore_n 3, 1, (0, 0, 0, 0, 0), [], []), (9, .aload_n 0, 1, (0, 0, 0, 0, 0), [], []), (10, .iconst 3, 1, (0, 0, 0, 0, 0), [], []), (11, .invokevirtual 149, 3, (81, 2, 10, 11, 1422), [0, 2, 3], [2])], 0, [])),
  (14, ([(14, .ifCond .ne 8, 3, (22, 0, 0, 0, 0), [0, 2, 3], [0, 2, 3])], 0, [])),
  (17, ([(17, .aload_n 0, 1, (0, 0, 0, 0, 0), [], []), (18, .iconst 2, 1, (0, 0, 0, 0, 0), [], []), (19, .invokevirtual 132, 3, (78, 2, 11, 11, 1410), [0, 2, 3], [2])], 0, [])),
  (22, ([(22, .aload_n 0, 1, (0, 0, 0, 0, 0), [], []), (23, .iconst 0, 1, (0, 0, 0, 0, 0), [], []), (24, .bipush 99, 2, (0, 0, 0, 0, 0), [], []), (26, .invokevirtual 142, 3, (79, 3, 10, 11, 1414), [0, 2, 3], [4])], 0, [])),
  (29, ([(29, .istore 4, 2, (0, 0, 0, 0, 0), [], []), (31, .aload_n 0, 1, (0, 0, 0, 0, 0), [], []), (32, .getfield 120, 3, (11, 11, 0, 1266, 0), [], []), (35, .ifCond .ne 13, 3, (48, 0, 0, 0, 0), [], [0, 2, 3, 4])], 0, [])),
  (38, ([(38, .aload_n 0, 1, (0, 0, 0, 0, 0), [], []), (39, .getfield 24, 3, (11, 4, 2, 1259, 0), [], []), (42, .iload_n 2, 1, (0, 0, 0, 0, 0), [], []), (43, .iload_n 3, 1, (0, 0, 0, 0, 0), [], []), (44, .iadd, 1, (0, 0, 0, 0, 0), [], []), (45, .iload 4, 2, (0, 0, 0, 0, 0), [], []), (47, .iastore, 1, (0, 0, 0, 0, 0), [], [])], 48, [])),
  (48, ([(48, .return_, 1, (0, 0, 0, 0, 0), [], [])], 0, []))]
def cd_Mod_hookAt : List (Nat × AB) := [
  (0, ([(0, .iconst 0, 1, (0, 0, 0, 0, 0), [], []), (1, .istore_n 2, 1, (0, 0, 0, 0, 0), [], [])], 2, [0, 1, 2])),
  (2, ([(2, .iload_n 2, 1, (0, 0, 0, 0, 0), [], []), (3, .aload_n 0, 1, (0, 0, 0, 0, 0), [], []), (4, .iconst 1, 1, (0, 0, 0, 0, 0), [], []), (5, .iaload, 1, (20, 0, 0, 0, 0), [], []), (6, .if_icmp .ge 21, 3, (27, 0, 0, 0, 0), [], [0, 1, 2])], 0, [])),
  (9, ([(9, .aload_n 0, 1, (0, 0, 0, 0, 0), [], []), (10, .bipush 61, 2, (0, 0, 0, 0, 0), [], []), (12, .iload_n 2, 1, (0, 0, 0, 0, 0), [], []), (13, .iadd, 1, (0, 0, 0, 0, 0), [], []), (14, .iaload, 1, (20, 0, 0, 0, 0), [], []), (15, .iload_n 1, 1, (0, 0, 0, 0, 0), [], []), (16, .if_icmp .ne 5, 3, (21, 0, 0, 0, 0), [0, 1, 2], [2])], 0, [])),
  (19, ([(19, .iload_n 2, 1, (0, 0, 0, 0, 0), [], []), (20, .ireturn, 1, (0, 0, 0, 0, 0), [], [])], 0, [])),
  (21, ([(21, .iinc 2 1, 3, (0, 0, 0, 0, 0), [], []), (24, .goto (-22), 3, (2, 0, 0, 0, 0), [0, 1, 2], [])], 0, [])),
  (27, ([(27, .iconst (-1), 1, (0, 0, 0, 0, 0), [], []), (28, .ireturn, 1, (0, 0, 0, 0, 0), [], [])], 0, []))]
def cd_Mod_isIn : List (Nat × AB) := [
  (0, ([(0, .lload_n 0, 1, (0, 0, 0, 0, 0), [], []), (1, .iload_n 2, 1, (0, 0, 0, 0, 0), [], []), (2, .lshr, 1, (0, 0, 0, 0, 0), [], []), (3, .lconst 1, 1, (0, 0, 0, 0, 0), [], []), (4, .land, 1, (0, 0, 0, 0, 0), [], []), (5, .lconst 1, 1, (0, 0, 0, 0, 0), [], []), (6, .lcmp, 1, (0, 0, 0, 0, 0), [], []), (7, .ifCond .ne 7, 3, (14, 0, 0, 0, 0), [], [])], 0, [])),
  (10, ([(10, .iconst 1, 1, (0, 0, 0, 0, 0), [], []), (11, .goto 4, 3, (15, 0, 0, 0, 0), [], [])], 0, [])),
  (14, ([(14, .iconst 0, 1, (0, 0, 0, 0, 0), [], [])], 15, [])),
  (15, ([(15, .ireturn, 1, (1, 0, 0, 0, 0), [], [])], 0, []))]
def cd_Mod_sag : List (Nat × AB) := [
  (0, ([(0, .iconst 0, 1, (0, 0, 0, 0, 0), [], []), (1, .istore 5, 2, (0, 0, 0, 0, 0), [], []), (3, .iload_n 1, 1, (0, 0, 0, 0, 0), [], []), (4, .istore 6, 2, (0, 0, 0, 0, 0), [], [])], 6, [0, 2, 3, 4, 5, 6])),
  (6, ([(6, .iload 6, 2, (0, 0, 0, 0, 0), [], []), (8, .iload_n 3, 1, (0, 0, 0, 0, 0), [], []), (9, .if_icmp .ge 21, 3, (30, 0, 0, 0, 0), [0, 2, 4, 5], [0, 2, 3, 4, 5, 6])], 0, [])),
  (12, ([(12, .iload 5, 2, (0, 0, 0, 0, 0), [], []), (14, .aload_n 0, 1, (0, 0, 0, 0, 0), [], []), (15, .bipush 11, 2, (0, 0, 0, 0, 0), [], []), (17, .iload 6, 2, (0, 0, 0, 0, 0), [], []), (19, .iadd, 1, (0, 0, 0, 0, 0), [], []), (20, .iaload, 1, (20, 0, 0, 0, 0), [], []), (21, .iadd, 1, (0, 0, 0, 0, 0), [], []), (22, .istore 5, 2, (0, 0, 0, 0, 0), [], []), (24, .iinc 6 1, 3, (0, 0, 0, 0, 0), [], []), (27, .goto (-21), 3, (6, 0, 0, 0, 0), [0, 2, 3, 4, 5, 6], [])], 0, [])),
  (30, ([(30, .iload_n 2, 1, (0, 0, 0, 0, 0), [], []), (31, .istore 6, 2, (0, 0, 0, 0, 0), [], [])], 33, [0, 4, 5, 6])),
  (33, ([(33, .iload 6, 2, (0, 0, 0, 0, 0), [], []), (35, .iload 4, 2, (0, 0, 0, 0, 0), [], []), (37, .if_icmp .ge 21, 3, (58, 0, 0, 0, 0), [5], [0, 4, 5, 6])], 0, [])),
  (40, ([(40, .iload 5, 2, (0, 0, 0, 0, 0), [], []), (42, .aload_n 0, 1, (0, 0, 0, 0, 0), [], []), (43, .bipush 23, 2, (0, 0, 0, 0, 0), [], []), (45, .iload 6, 2, (0, 0, 0, 0, 0), [], []), (47, .iadd, 1, (0, 0, 0, 0, 0), [], []), (48, .iaload, 1, (20, 0, 0, 0, 0), [], []), (49, .isub, 1, (0, 0, 0, 0, 0), [], []), (50, .istore 5, 2, (0, 0, 0, 0, 0), [], []), (52, .iinc 6 1, 3, (0, 0, 0, 0, 0), [], []), (55, .goto (-22), 3, (33, 0, 0, 0, 0), [0, 4, 5, 6], [])], 0, [])),
  (58, ([(58, .iload 5, 2, (0, 0, 0, 0, 0), [], []), (60, .ireturn, 1, (0, 0, 0, 0, 0), [], [])], 0, []))]
def cd_Mod_whyNot : List (Nat × AB) := [
  (0, ([(0, .iload_n 1, 1, (0, 0, 0, 0, 0), [], []), (1, .i2l, 1, (0, 0, 0, 0, 0), [], []), (2, .lconst 0, 1, (0, 0, 0, 0, 0), [], []), (3, .aload_n 0, 1, (0, 0, 0, 0, 0), [], []), (4, .iconst 1, 1, (0, 0, 0, 0, 0), [], []), (5, .iaload, 1, (20, 0, 0, 0, 0), [], []), (6, .iconst 1, 1, (0, 0, 0, 0, 0), [], []), (7, .isub, 1, (0, 0, 0, 0, 0), [], []), (8, .i2l, 1, (0, 0, 0, 0, 0), [], []), (9, .invokestatic 136, 3, (71, 3, 0, 0, 1372), [0, 1, 2], [6])], 0, [])),
  (12, ([(12, .ifCond .eq 18, 3, (30, 0, 0, 0, 0), [], [0, 1, 2])], 0, [])),
  (15, ([(15, .iload_n 2, 1, (0, 0, 0, 0, 0), [], []), (16, .i2l, 1, (0, 0, 0, 0, 0), [], []), (17, .lconst 0, 1, (0, 0, 0, 0, 0), [], []), (18, .aload_n 0, 1, (0, 0, 0, 0, 0), [], []), (19, .iconst 2, 1, (0, 0, 0, 0, 0), [], []), (20, .iaload, 1, (20, 0, 0, 0, 0), [], []), (21, .iconst 1, 1, (0, 0, 0, 0, 0), [], []), (22, .isub, 1, (0, 0, 0, 0, 0), [], []), (23, .i2l, 1, (0, 0, 0, 0, 0), [], []), (24, .invokestatic 136, 3, (71, 3, 0, 0, 1372), [0, 1, 2], [6])], 0, [])),
  (27, ([(27, .ifCond .ne 5, 3, (32, 0, 0, 0, 0), [0, 1, 2], [])], 0, [])),
  (30, ([(30, .iconst 1, 1, (0, 0, 0, 0, 0), [], []), (31, .ireturn, 1, (0, 0, 0, 0, 0), [], [])], 0, [])),
  (32, ([(32, .aload_n 0, 1, (0, 0, 0, 0, 0), [], []), (33, .bipush 61, 2, (0, 0, 0, 0, 0), [], []), (35, .iload_n 1, 1, (0, 0, 0, 0, 0), [], []), (36, .iadd, 1, (0, 0, 0, 0, 0), [], []), (37, .iaload, 1, (20, 0, 0, 0, 0), [], []), (38, .iconst (-1), 1, (0, 0, 0, 0, 0), [], []), (39, .if_icmp .ne 24, 3, (63, 0, 0, 0, 0), [], [0, 1, 2])], 0, [])),
  (42, ([(42, .aload_n 0, 1, (0, 0, 0, 0, 0), [], []), (43, .iload_n 2, 1, (0, 0, 0, 0, 0), [], []), (44, .invokestatic 210, 3, (95, 2, 0, 0, 1483), [0, 1, 2], [3])], 0, [])),
  (47, ([(47, .iconst (-1), 1, (0, 0, 0, 0, 0), [], []), (48, .if_icmp .ne 15, 3, (63, 0, 0, 0, 0), [], [0, 1, 2])], 0, [])),
  (51, ([(51, .aload_n 0, 1, (0, 0, 0, 0, 0), [], []), (52, .bipush 10, 2, (0, 0, 0, 0, 0), [], []), (54, .iaload, 1, (20, 0, 0, 0, 0), [], []), (55, .i2l, 1, (0, 0, 0, 0, 0), [], []), (56, .iload_n 2, 1, (0, 0, 0, 0, 0), [], []), (57, .invokestatic 214, 3, (96, 2, 0, 0, 1486), [0, 1, 2], [3])], 0, [])),
  (60, ([(60, .ifCond .eq 5, 3, (65, 0, 0, 0, 0), [0, 1, 2], [])], 0, [])),
  (63, ([(63, .iconst 2, 1, (0, 0, 0, 0, 0), [], []), (64, .ireturn, 1, (0, 0, 0, 0, 0), [], [])], 0, [])),
  (65, ([(65, .iconst (-1), 1, (0, 0, 0, 0, 0), [], []), (66, .istore_n 3, 1, (0, 0, 0, 0, 0), [], []), (67, .iconst (-1), 1, (0, 0, 0, 0, 0), [], []), (68, .istore 4, 2, (0, 0, 0, 0, 0), [], []), (70, .iconst 0, 1, (0, 0, 0, 0, 0), [], []), (71, .istore 5, 2, (0, 0, 0, 0, 0), [], [])], 73, [0, 1, 2, 3, 4, 5])),
  (73, ([(73, .iload 5, 2, (0, 0, 0, 0, 0), [], []), (75, .aload_n 0, 1, (0, 0, 0, 0, 0), [], []), (76, .iconst 1, 1, (0, 0, 0, 0, 0), [], []), (77, .iaload, 1, (20, 0, 0, 0, 0), [], []), (78, .if_icmp .ge 78, 3, (156, 0, 0, 0, 0), [0, 1, 2, 3, 4], [0, 1, 2, 3, 4, 5])], 0, [])),
  (81, ([(81, .aload_n 0, 1, (0, 0, 0, 0, 0), [], []), (82, .bipush 61, 2, (0, 0, 0, 0, 0), [], []), (84, .iload 5, 2, (0, 0, 0, 0, 0), [], []), (86, .iadd, 1, (0, 0, 0, 0, 0), [], []), (87, .iaload, 1, (20, 0, 0, 0, 0), [], []), (88, .iconst (-1), 1, (0, 0, 0, 0, 0), [], []), (89, .if_icmp .ne 6, 3, (95, 0, 0, 0, 0), [0, 1, 2, 3, 4, 5], [0, 1, 2, 3, 4, 5])], 0, [])),
  (92, ([(92, .goto 58, 3, (150, 0, 0, 0, 0), [0, 1, 2, 3, 4, 5], [])], 0, [])),
  (95, ([(95, .iload 5, 2, (0, 0, 0, 0, 0), [], []), (97, .iload_n 1, 1, (0, 0, 0, 0, 0), [], []), (98, .if_icmp .ge 17, 3, (115, 0, 0, 0, 0), [0, 1, 2, 3, 4, 5], [0, 1, 2, 3, 4, 5])], 0, [])),
  (101, ([(101, .aload_n 0, 1, (0, 0, 0, 0, 0), [], []), (102, .bipush 61, 2, (0, 0, 0, 0, 0), [], []), (104, .iload 5, 2, (0, 0, 0, 0, 0), [], []), (106, .iadd, 1, (0, 0, 0, 0, 0), [], []), (107, .iaload, 1, (20, 0, 0, 0, 0), [], []), (108, .iload_n 2, 1, (0, 0, 0, 0, 0), [], []), (109, .if_icmp .le 19, 3, (128, 0, 0, 0, 0), [0, 1, 2, 3, 4, 5], [])], 0, [])),
  (112, ([(112, .goto 14, 3, (126, 0, 0, 0, 0), [], [])], 0, [])),
  (115, ([(115, .aload_n 0, 1, (0, 0, 0, 0, 0), [], []), (116, .bipush 61, 2, (0, 0, 0, 0, 0), [], []), (118, .iload 5, 2, (0, 0, 0, 0, 0), [], []), (120, .iadd, 1, (0, 0, 0, 0, 0), [], []), (121, .iaload, 1, (20, 0, 0, 0, 0), [], []), (122, .iload_n 2, 1, (0, 0, 0, 0, 0), [], []), (123, .if_icmp .ge 5, 3, (128, 0, 0, 0, 0), [0, 1, 2, 3, 4, 5], [])], 0, [])),
  (126, ([(126, .iconst 3, 1, (0, 0, 0, 0, 0), [], []), (127, .ireturn, 1, (0, 0, 0, 0, 0), [], [])], 0, [])),
  (128, ([(128, .iload 5, 2, (0, 0, 0, 0, 0), [], []), (130, .iload_n 1, 1, (0, 0, 0, 0, 0), [], []), (131, .if_icmp .ge 9, 3, (140, 0, 0, 0, 0), [0, 1, 2, 3, 4, 5], [0, 1, 2, 4, 5])], 0, [])),
  (134, ([(134, .iload 5, 2, (0, 0, 0, 0, 0), [], []), (136, .istore_n 3, 1, (0, 0, 0, 0, 0), [], []), (137, .goto 13, 3, (150, 0, 0, 0, 0), [0, 1, 2, 3, 4, 5], [])], 0, [])),
  (140, ([(140, .iload 4, 2, (0, 0, 0, 0, 0), [], []), (142, .iconst (-1), 1, (0, 0, 0, 0, 0), [], []), (143, .if_icmp .ne 7, 3, (150, 0, 0, 0, 0), [0, 1, 2, 3, 4, 5], [0, 1, 2, 3, 5])], 0, [])),
  (146, ([(146, .iload 5, 2, (0, 0, 0, 0, 0), [], []), (148, .istore 4, 2, (0, 0, 0, 0, 0), [], [])], 150, [0, 1, 2, 3, 4, 5])),
  (150, ([(150, .iinc 5 1, 3, (0, 0, 0, 0, 0), [], []), (153, .goto (-80), 3, (73, 0, 0, 0, 0), [0, 1, 2, 3, 4, 5], [])], 0, [])),
  (156, ([(156, .iload_n 3, 1, (0, 0, 0, 0, 0), [], []), (157, .iconst (-1), 1, (0, 0, 0, 0, 0), [], []), (158, .if_icmp .eq 21, 3, (179, 0, 0, 0, 0), [0, 1, 2, 4], [0, 1, 2, 3, 4])], 0, [])),
  (161, ([(161, .aload_n 0, 1, (0, 0, 0, 0, 0), [], []), (162, .iload_n 3, 1, (0, 0, 0, 0, 0), [], []), (163, .aload_n 0, 1, (0, 0, 0, 0, 0), [], []), (164, .bipush 61, 2, (0, 0, 0, 0, 0), [], []), (166, .iload_n 3, 1, (0, 0, 0, 0, 0), [], []), (167, .iadd, 1, (0, 0, 0, 0, 0), [], []), (168, .iaload, 1, (20, 0, 0, 0, 0), [], []), (169, .iload_n 1, 1, (0, 0, 0, 0, 0), [], []), (170, .iload_n 2, 1, (0, 0, 0, 0, 0), [], []), (171, .invokestatic 218, 3, (97, 5, 0, 0, 1489), [0, 1, 2, 4], [7])], 0, [])),
  (174, ([(174, .ifCond .ge 5, 3, (179, 0, 0, 0, 0), [0, 1, 2, 4], [])], 0, [])),
  (177, ([(177, .iconst 4, 1, (0, 0, 0, 0, 0), [], []), (178, .ireturn, 1, (0, 0, 0, 0, 0), [], [])], 0, [])),
  (179, ([(179, .iload 4, 2, (0, 0, 0, 0, 0), [], []), (181, .iconst (-1), 1, (0, 0, 0, 0, 0), [], []), (182, .if_icmp .eq 25, 3, (207, 0, 0, 0, 0), [], [0, 1, 2, 4])], 0, [])),
  (185, ([(185, .aload_n 0, 1, (0, 0, 0, 0, 0), [], []), (186, .iload_n 1, 1, (0, 0, 0, 0, 0), [], []), (187, .iload_n 2, 1, (0, 0, 0, 0, 0), [], []), (188, .iload 4, 2, (0, 0, 0, 0, 0), [], []), (190, .aload_n 0, 1, (0, 0, 0, 0, 0), [], []), (191, .bipush 61, 2, (0, 0, 0, 0, 0), [], []), (193, .iload 4, 2, (0, 0, 0, 0, 0), [], []), (195, .iadd, 1, (0, 0, 0, 0, 0), [], []), (196, .iaload, 1, (20, 0, 0, 0, 0), [], []), (197, .invokestatic 218, 3, (97, 5, 0, 0, 1489), [], [7])], 0, [])),
  (200, ([(200, .ifCond .ge 7, 3, (207, 0, 0, 0, 0), [], [])], 0, [])),
  (203, ([(203, .iconst 4, 1, (0, 0, 0, 0, 0), [], []), (204, .goto 4, 3, (208, 0, 0, 0, 0), [], [])], 0, [])),
  (207, ([(207, .iconst 0, 1, (0, 0, 0, 0, 0), [], [])], 208, [])),
  (208, ([(208, .ireturn, 1, (0, 0, 0, 0, 0), [], [])], 0, []))]
def cd_Mod_readJoin : List (Nat × AB) := [
  (0, ([(0, .aload_n 0, 1, (0, 0, 0, 0, 0), [], []), (1, .iconst 0, 1, (0, 0, 0, 0, 0), [], []), (2, .aload_n 0, 1, (0, 0, 0, 0, 0), [], []), (3, .getfield 24, 3, (11, 4, 2, 1259, 0), [], []), (6, .iconst 1, 1, (0, 0, 0, 0, 0), [], []), (7, .iaload, 1, (20, 0, 0, 0, 0), [], []), (8, .iconst 1, 1, (0, 0, 0, 0, 0), [], []), (9, .isub, 1, (0, 0, 0, 0, 0), [], []), (10, .invokevirtual 142, 3, (79, 3, 10, 11, 1414), [0], [4])], 0, [])),
  (13, ([(13, .istore_n 1, 1, (0, 0, 0, 0, 0), [], []), (14, .aload_n 0, 1, (0, 0, 0, 0, 0), [], []), (15, .getfield 120, 3, (11, 11, 0, 1266, 0), [], []), (18, .ifCond .ne 53, 3, (71, 0, 0, 0, 0), [0, 1], [0, 1])], 0, [])),
  (21, ([(21, .aload_n 0, 1, (0, 0, 0, 0, 0), [], []), (22, .bipush 21, 2, (0, 0, 0, 0, 0), [], []), (24, .invokevirtual 126, 3, (77, 2, 10, 11, 1401), [0, 1], [2])], 0, [])),
  (27, ([(27, .ifCond .eq 44, 3, (71, 0, 0, 0, 0), [0, 1], [0, 1])], 0, [])),
  (30, ([(30, .aload_n 0, 1, (0, 0, 0, 0, 0), [], []), (31, .getfield 115, 3, (11, 10, 0, 1265, 0), [], []), (34, .i2l, 1, (0, 0, 0, 0, 0), [], []), (35, .lconst 0, 1, (0, 0, 0, 0, 0), [], []), (36, .aload_n 0, 1, (0, 0, 0, 0, 0), [], []), (37, .getfield 24, 3, (11, 4, 2, 1259, 0), [], []), (40, .iconst 2, 1, (0, 0, 0, 0, 0), [], []), (41, .iaload, 1, (20, 0, 0, 0, 0), [], []), (42, .iconst 1, 1, (0, 0, 0, 0, 0), [], []), (43, .isub, 1, (0, 0, 0, 0, 0), [], []), (44, .i2l, 1, (0, 0, 0, 0, 0), [], []), (45, .invokestatic 136, 3, (71, 3, 0, 0, 1372), [0, 1], [6])], 0, [])),
  (48, ([(48, .ifCond .eq 18, 3, (66, 0, 0, 0, 0), [0, 1], [0, 1])], 0, [])),
  (51, ([(51, .aload_n 0, 1, (0, 0, 0, 0, 0), [], []), (52, .getfield 24, 3, (11, 4, 2, 1259, 0), [], []), (55, .iload_n 1, 1, (0, 0, 0, 0, 0), [], []), (56, .aload_n 0, 1, (0, 0, 0, 0, 0), [], []), (57, .getfield 115, 3, (11, 10, 0, 1265, 0), [], []), (60, .invokestatic 177, 3, (98, 3, 0, 0, 1480), [0, 1], [6])], 0, [])),
  (63, ([(63, .ifCond .eq 8, 3, (71, 0, 0, 0, 0), [0, 1], [0, 1])], 0, [])),
  (66, ([(66, .aload_n 0, 1, (0, 0, 0, 0, 0), [], []), (67, .iconst 3, 1, (0, 0, 0, 0, 0), [], []), (68, .invokevirtual 132, 3, (78, 2, 11, 11, 1410), [0, 1], [2])], 0, [])),
  (71, ([(71, .aload_n 0, 1, (0, 0, 0, 0, 0), [], []), (72, .iconst 0, 1, (0, 0, 0, 0, 0), [], []), (73, .aload_n 0, 1, (0, 0, 0, 0, 0), [], []), (74, .getfield 24, 3, (11, 4, 2, 1259, 0), [], []), (77, .iconst 2, 1, (0, 0, 0, 0, 0), [], []), (78, .iaload, 1, (20, 0, 0, 0, 0), [], []), (79, .iconst 1, 1, (0, 0, 0, 0, 0), [], []), (80, .isub, 1, (0, 0, 0, 0, 0), [], []), (81, .invokevirtual 142, 3, (79, 3, 10, 11, 1414), [0, 1], [4])], 0, [])),
  (84, ([(84, .istore_n 2, 1, (0, 0, 0, 0, 0), [], []), (85, .aload_n 0, 1, (0, 0, 0, 0, 0), [], []), (86, .getfield 120, 3, (11, 11, 0, 1266, 0), [], []), (89, .ifCond .ne 13, 3, (102, 0, 0, 0, 0), [], [0, 1, 2])], 0, [])),
  (92, ([(92, .aload_n 0, 1, (0, 0, 0, 0, 0), [], []), (93, .getfield 24, 3, (11, 4, 2, 1259, 0), [], []), (96, .bipush 61, 2, (0, 0, 0, 0, 0), [], []), (98, .iload_n 1, 1, (0, 0, 0, 0, 0), [], []), (99, .iadd, 1, (0, 0, 0, 0, 0), [], []), (100, .iload_n 2, 1, (0, 0, 0, 0, 0), [], []), (101, .iastore, 1, (0, 0, 0, 0, 0), [], [])], 102, [])),
  (102, ([(102, .return_, 1, (0, 0, 0, 0, 0), [], [])], 0, []))]
def cd_Mod_readLine : List (Nat × AB) := [
  (0, ([(0, .aload_n 0, 1, (0, 0, 0, 0, 0), [], []), (1, .iconst 0, 1, (0, 0, 0, 0, 0), [], []), (2, .invokevirtual 126, 3, (77, 2, 10, 11, 1401), [0], [2])], 0, [])),
  (5, ([(5, .ifCond .eq 33, 3, (38, 0, 0, 0, 0), [0], [0])], 0, [])),
  (8, ([(8, .aload_n 0, 1, (0, 0, 0, 0, 0), [], []), (9, .getfield 24, 3, (11, 4, 2, 1259, 0), [], []), (12, .iconst 2, 1, (0, 0, 0, 0, 0), [], []), (13, .iaload, 1, (20, 0, 0, 0, 0), [], []), (14, .ifCond .ne 24, 3, (38, 0, 0, 0, 0), [0], [0])], 0, [])),
  (17, ([(17, .aload_n 0, 1, (0, 0, 0, 0, 0), [], []), (18, .invokevirtual 129, 3, (76, 1, 11, 11, 1375), [0], [2])], 0, [])),
  (21, ([(21, .aload_n 0, 1, (0, 0, 0, 0, 0), [], []), (22, .getfield 24, 3, (11, 4, 2, 1259, 0), [], []), (25, .iconst 2, 1, (0, 0, 0, 0, 0), [], []), (26, .iconst 1, 1, (0, 0, 0, 0, 0), [], []), (27, .aload_n 0, 1, (0, 0, 0, 0, 0), [], []), (28, .bipush 23, 2, (0, 0, 0, 0, 0), [], []), (30, .invokevirtual 181, 3, (80, 2, 10, 11, 1405), [], [4])], 0, [])),
  (33, ([(33, .iadd, 1, (0, 0, 0, 0, 0), [], []), (34, .iastore, 1, (0, 0, 0, 0, 0), [], [])], 35, [])),
  (35, ([(35, .goto 242, 3, (277, 0, 0, 0, 0), [], [])], 0, [])),
  (38, ([(38, .aload_n 0, 1, (0, 0, 0, 0, 0), [], []), (39, .iconst 1, 1, (0, 0, 0, 0, 0), [], []), (40, .invokevirtual 126, 3, (77, 2, 10, 11, 1401), [0], [2])], 0, [])),
  (43, ([(43, .ifCond .eq 33, 3, (76, 0, 0, 0, 0), [0], [0])], 0, [])),
  (46, ([(46, .aload_n 0, 1, (0, 0, 0, 0, 0), [], []), (47, .getfield 24, 3, (11, 4, 2, 1259, 0), [], []), (50, .iconst 1, 1, (0, 0, 0, 0, 0), [], []), (51, .iaload, 1, (20, 0, 0, 0, 0), [], []), (52, .ifCond .ne 24, 3, (76, 0, 0, 0, 0), [0], [0])], 0, [])),
  (55, ([(55, .aload_n 0, 1, (0, 0, 0, 0, 0), [], []), (56, .invokevirtual 129, 3, (76, 1, 11, 11, 1375), [0], [2])], 0, [])),
  (59, ([(59, .aload_n 0, 1, (0, 0, 0, 0, 0), [], []), (60, .getfield 24, 3, (11, 4, 2, 1259, 0), [], []), (63, .iconst 1, 1, (0, 0, 0, 0, 0), [], []), (64, .iconst 1, 1, (0, 0, 0, 0, 0), [], []), (65, .aload_n 0, 1, (0, 0, 0, 0, 0), [], []), (66, .bipush 11, 2, (0, 0, 0, 0, 0), [], []), (68, .invokevirtual 181, 3, (80, 2, 10, 11, 1405), [], [4])], 0, [])),
  (71, ([(71, .iadd, 1, (0, 0, 0, 0, 0), [], []), (72, .iastore, 1, (0, 0, 0, 0, 0), [], [])], 73, [])),
  (73, ([(73, .goto 204, 3, (277, 0, 0, 0, 0), [], [])], 0, [])),
  (76, ([(76, .aload_n 0, 1, (0, 0, 0, 0, 0), [], []), (77, .bipush 6, 2, (0, 0, 0, 0, 0), [], []), (79, .invokevirtual 126, 3, (77, 2, 10, 11, 1401), [0], [2])], 0, [])),
  (82, ([(82, .ifCond .eq 10, 3, (92, 0, 0, 0, 0), [0], [0])], 0, [])),
  (85, ([(85, .aload_n 0, 1, (0, 0, 0, 0, 0), [], []), (86, .invokevirtual 184, 3, (90, 1, 11, 11, 1418), [], [1])], 0, [])),
  (89, ([(89, .goto 188, 3, (277, 0, 0, 0, 0), [], [])], 0, [])),
  (92, ([(92, .aload_n 0, 1, (0, 0, 0, 0, 0), [], []), (93, .bipush 7, 2, (0, 0, 0, 0, 0), [], []), (95, .invokevirtual 149, 3, (81, 2, 10, 11, 1422), [0], [2])], 0, [])),
  (98, ([(98, .ifCond .eq 10, 3, (108, 0, 0, 0, 0), [0], [0])], 0, [])),
  (101, ([(101, .aload_n 0, 1, (0, 0, 0, 0, 0), [], []), (102, .invokevirtual 187, 3, (91, 1, 11, 11, 1460), [], [4])], 0, [])),
  (105, ([(105, .goto 172, 3, (277, 0, 0, 0, 0), [], [])], 0, [])),
  (108, ([(108, .aload_n 0, 1, (0, 0, 0, 0, 0), [], []), (109, .bipush 8, 2, (0, 0, 0, 0, 0), [], []), (111, .invokevirtual 149, 3, (81, 2, 10, 11, 1422), [0], [2])], 0, [])),
  (114, ([(114, .ifCond .eq 20, 3, (134, 0, 0, 0, 0), [0], [0])], 0, [])),
  (117, ([(117, .aload_n 0, 1, (0, 0, 0, 0, 0), [], []), (118, .getfield 24, 3, (11, 4, 2, 1259, 0), [], []), (121, .bipush 6, 2, (0, 0, 0, 0, 0), [], []), (123, .aload_n 0, 1, (0, 0, 0, 0, 0), [], []), (124, .iconst 2, 1, (0, 0, 0, 0, 0), [], []), (125, .bipush 6, 2, (0, 0, 0, 0, 0), [], []), (127, .invokevirtual 142, 3, (79, 3, 10, 11, 1414), [], [4])], 0, [])),
  (130, ([(130, .iastore, 1, (0, 0, 0, 0, 0), [], [])], 131, [])),
  (131, ([(131, .goto 146, 3, (277, 0, 0, 0, 0), [], [])], 0, [])),
  (134, ([(134, .aload_n 0, 1, (0, 0, 0, 0, 0), [], []), (135, .bipush 9, 2, (0, 0, 0, 0, 0), [], []), (137, .invokevirtual 149, 3, (81, 2, 10, 11, 1422), [0], [2])], 0, [])),
  (140, ([(140, .ifCond .eq 10, 3, (150, 0, 0, 0, 0), [0], [0])], 0, [])),
  (143, ([(143, .aload_n 0, 1, (0, 0, 0, 0, 0), [], []), (144, .invokevirtual 190, 3, (92, 1, 11, 11, 1464), [], [3])], 0, [])),
  (147, ([(147, .goto 130, 3, (277, 0, 0, 0, 0), [], [])], 0, [])),
  (150, ([(150, .aload_n 0, 1, (0, 0, 0, 0, 0), [], []), (151, .invokevirtual 193, 3, (93, 1, 10, 11, 1468), [0], [1])], 0, [])),
  (154, ([(154, .ifCond .ne 11, 3, (165, 0, 0, 0, 0), [0], [0])], 0, [])),
  (157, ([(157, .aload_n 0, 1, (0, 0, 0, 0, 0), [], []), (158, .iconst 2, 1, (0, 0, 0, 0, 0), [], []), (159, .invokevirtual 132, 3, (78, 2, 11, 11, 1410), [], [2])], 0, [])),
  (162, ([(162, .goto 115, 3, (277, 0, 0, 0, 0), [], [])], 0, [])),
  (165, ([(165, .aload_n 0, 1, (0, 0, 0, 0, 0), [], []), (166, .iconst 2, 1, (0, 0, 0, 0, 0), [], []), (167, .invokevirtual 149, 3, (81, 2, 10, 11, 1422), [0], [2])], 0, [])),
  (170, ([(170, .ifCond .eq 18, 3, (188, 0, 0, 0, 0), [0], [0])], 0, [])),
  (173, ([(173, .aload_n 0, 1, (0, 0, 0, 0, 0), [], []), (174, .aload_n 0, 1, (0, 0, 0, 0, 0), [], []), (175, .getfield 24, 3, (11, 4, 2, 1259, 0), [], []), (178, .iconst 1, 1, (0, 0, 0, 0, 0), [], []), (179, .iaload, 1, (20, 0, 0, 0, 0), [], []), (180, .bipush 35, 2, (0, 0, 0, 0, 0), [], []), (182, .invokevirtual 197, 3, (94, 3, 11, 11, 1472), [], [5])], 0, [])),
  (185, ([(185, .goto 92, 3, (277, 0, 0, 0, 0), [], [])], 0, [])),
  (188, ([(188, .aload_n 0, 1, (0, 0, 0, 0, 0), [], []), (189, .iconst 4, 1, (0, 0, 0, 0, 0), [], []), (190, .invokevirtual 149, 3, (81, 2, 10, 11, 1422), [0], [2])], 0, [])),
  (193, ([(193, .ifCond .eq 18, 3, (211, 0, 0, 0, 0), [0], [0])], 0, [])),
  (196, ([(196, .aload_n 0, 1, (0, 0, 0, 0, 0), [], []), (197, .aload_n 0, 1, (0, 0, 0, 0, 0), [], []), (198, .getfield 24, 3, (11, 4, 2, 1259, 0), [], []), (201, .iconst 2, 1, (0, 0, 0, 0, 0), [], []), (202, .iaload, 1, (20, 0, 0, 0, 0), [], []), (203, .bipush 47, 2, (0, 0, 0, 0, 0), [], []), (205, .invokevirtual 197, 3, (94, 3, 11, 11, 1472), [], [5])], 0, [])),
  (208, ([(208, .goto 69, 3, (277, 0, 0, 0, 0), [], [])], 0, [])),
  (211, ([(211, .aload_n 0, 1, (0, 0, 0, 0, 0), [], []), (212, .iconst 5, 1, (0, 0, 0, 0, 0), [], []), (213, .invokevirtual 149, 3, (81, 2, 10, 11, 1422), [0], [2])], 0, [])),
  (216, ([(216, .ifCond .eq 40, 3, (256, 0, 0, 0, 0), [0], [0])], 0, [])),
  (219, ([(219, .aload_n 0, 1, (0, 0, 0, 0, 0), [], []), (220, .iconst 0, 1, (0, 0, 0, 0, 0), [], []), (221, .aload_n 0, 1, (0, 0, 0, 0, 0), [], []), (222, .getfield 24, 3, (11, 4, 2, 1259, 0), [], []), (225, .iconst 2, 1, (0, 0, 0, 0, 0), [], []), (226, .iaload, 1, (20, 0, 0, 0, 0), [], []), (227, .iconst 1, 1, (0, 0, 0, 0, 0), [], []), (228, .isub, 1, (0, 0, 0, 0, 0), [], []), (229, .invokevirtual 142, 3, (79, 3, 10, 11, 1414), [0], [4])], 0, [])),
  (232, ([(232, .istore_n 1, 1, (0, 0, 0, 0, 0), [], []), (233, .aload_n 0, 1, (0, 0, 0, 0, 0), [], []), (234, .getfield 120, 3, (11, 11, 0, 1266, 0), [], []), (237, .ifCond .ne 16, 3, (253, 0, 0, 0, 0), [], [0, 1])], 0, [])),
  (240, ([(240, .aload_n 0, 1, (0, 0, 0, 0, 0), [], []), (241, .getfield 24, 3, (11, 4, 2, 1259, 0), [], []), (244, .bipush 10, 2, (0, 0, 0, 0, 0), [], []), (246, .dup2, 1, (0, 0, 0, 0, 0), [], []), (247, .iaload, 1, (20, 0, 0, 0, 0), [], []), (248, .iconst 1, 1, (0, 0, 0, 0, 0), [], []), (249, .iload_n 1, 1, (0, 0, 0, 0, 0), [], []), (250, .ishl, 1, (0, 0, 0, 0, 0), [], []), (251, .ior, 1, (0, 0, 0, 0, 0), [], []), (252, .iastore, 1, (0, 0, 0, 0, 0), [], [])], 253, [])),
  (253, ([(253, .goto 24, 3, (277, 0, 0, 0, 0), [], [])], 0, [])),
  (256, ([(256, .aload_n 0, 1, (0, 0, 0, 0, 0), [], []), (257, .bipush 10, 2, (0, 0, 0, 0, 0), [], []), (259, .invokevirtual 149, 3, (81, 2, 10, 11, 1422), [0], [2])], 0, [])),
  (262, ([(262, .ifCond .eq 10, 3, (272, 0, 0, 0, 0), [0], [0])], 0, [])),
  (265, ([(265, .aload_n 0, 1, (0, 0, 0, 0, 0), [], []), (266, .invokevirtual 201, 3, (99, 1, 11, 11, 1476), [], [3])], 0, [])),
  (269, ([(269, .goto 8, 3, (277, 0, 0, 0, 0), [], [])], 0, [])),
  (272, ([(272, .aload_n 0, 1, (0, 0, 0, 0, 0), [], []), (273, .iconst 2, 1, (0, 0, 0, 0, 0), [], []), (274, .invokevirtual 132, 3, (78, 2, 11, 11, 1410), [], [2])], 0, [])),
  (277, ([(277, .return_, 1, (0, 0, 0, 0, 0), [], [])], 0, []))]
def cd_Mod_window : List (Nat × AB) := [
  (0, ([(0, .aload_n 0, 1, (0, 0, 0, 0, 0), [], []), (1, .iconst 0, 1, (0, 0, 0, 0, 0), [], []), (2, .putfield 1, 3, (11, 0, 0, 1255, 0), [], [])], 5, [0, 1])),
  (5, ([(5, .iload_n 1, 1, (0, 0, 0, 0, 0), [], []), (6, .i2l, 1, (0, 0, 0, 0, 0), [], []), (7, .lconst 0, 1, (0, 0, 0, 0, 0), [], []), (8, .aload_n 0, 1, (0, 0, 0, 0, 0), [], []), (9, .getfield 74, 3, (11, 5, 0, 1260, 0), [], []), (12, .i2l, 1, (0, 0, 0, 0, 0), [], []), (13, .invokestatic 136, 3, (71, 3, 0, 0, 1372), [0, 1], [6])], 0, [])),
  (16, ([(16, .ifCond .ne 6, 3, (22, 0, 0, 0, 0), [0, 1], [])], 0, [])),
  (19, ([(19, .bipush (-3), 2, (0, 0, 0, 0, 0), [], []), (21, .ireturn, 1, (0, 0, 0, 0, 0), [], [])], 0, [])),
  (22, ([(22, .aload_n 0, 1, (0, 0, 0, 0, 0), [], []), (23, .iload_n 1, 1, (0, 0, 0, 0, 0), [], []), (24, .putfield 77, 3, (11, 8, 0, 1263, 0), [], [])], 27, [0])),
  (27, ([(27, .aload_n 0, 1, (0, 0, 0, 0, 0), [], []), (28, .iconst 0, 1, (0, 0, 0, 0, 0), [], []), (29, .putfield 74, 3, (11, 5, 0, 1260, 0), [], [])], 32, [0])),
  (32, ([(32, .aload_n 0, 1, (0, 0, 0, 0, 0), [], []), (33, .iconst 0, 1, (0, 0, 0, 0, 0), [], []), (34, .putfield 95, 3, (11, 7, 0, 1262, 0), [], [])], 37, [0])),
  (37, ([(37, .aload_n 0, 1, (0, 0, 0, 0, 0), [], []), (38, .iconst 0, 1, (0, 0, 0, 0, 0), [], []), (39, .putfield 120, 3, (11, 11, 0, 1266, 0), [], [])], 42, [0])),
  (42, ([(42, .aload_n 0, 1, (0, 0, 0, 0, 0), [], []), (43, .getfield 24, 3, (11, 4, 2, 1259, 0), [], []), (46, .invokestatic 70, 3, (14, 1, 1, 0, 1252), [0], [2])], 0, [])),
  (49, ([(49, .aload_n 0, 1, (0, 0, 0, 0, 0), [], []), (50, .invokevirtual 129, 3, (76, 1, 11, 11, 1375), [0], [2])], 0, [])),
  (53, ([(53, .aload_n 0, 1, (0, 0, 0, 0, 0), [], []), (54, .getfield 120, 3, (11, 11, 0, 1266, 0), [], []), (57, .ifCond .ne 43, 3, (100, 0, 0, 0, 0), [0], [0])], 0, [])),
  (60, ([(60, .aload_n 0, 1, (0, 0, 0, 0, 0), [], []), (61, .getfield 102, 3, (11, 9, 0, 1264, 0), [], []), (64, .bipush 22, 2, (0, 0, 0, 0, 0), [], []), (66, .if_icmp .eq 34, 3, (100, 0, 0, 0, 0), [0], [0])], 0, [])),
  (69, ([(69, .aload_n 0, 1, (0, 0, 0, 0, 0), [], []), (70, .invokevirtual 204, 3, (100, 1, 11, 11, 1397), [0], [2])], 0, [])),
  (73, ([(73, .aload_n 0, 1, (0, 0, 0, 0, 0), [], []), (74, .bipush 25, 2, (0, 0, 0, 0, 0), [], []), (76, .invokevirtual 149, 3, (81, 2, 10, 11, 1422), [0], [2])], 0, [])),
  (79, ([(79, .ifCond .ne 8, 3, (87, 0, 0, 0, 0), [0], [0])], 0, [])),
  (82, ([(82, .aload_n 0, 1, (0, 0, 0, 0, 0), [], []), (83, .iconst 2, 1, (0, 0, 0, 0, 0), [], []), (84, .invokevirtual 132, 3, (78, 2, 11, 11, 1410), [0], [2])], 0, [])),
  (87, ([(87, .aload_n 0, 1, (0, 0, 0, 0, 0), [], []), (88, .getfield 24, 3, (11, 4, 2, 1259, 0), [], []), (91, .iconst 0, 1, (0, 0, 0, 0, 0), [], []), (92, .dup2, 1, (0, 0, 0, 0, 0), [], []), (93, .iaload, 1, (20, 0, 0, 0, 0), [], []), (94, .iconst 1, 1, (0, 0, 0, 0, 0), [], []), (95, .iadd, 1, (0, 0, 0, 0, 0), [], []), (96, .iastore, 1, (0, 0, 0, 0, 0), [], [])], 97, [0])),
  (97, ([(97, .goto (-44), 3, (53, 0, 0, 0, 0), [0], [])], 0, [])),
  (100, ([(100, .aload_n 0, 1, (0, 0, 0, 0, 0), [], []), (101, .aload_n 0, 1, (0, 0, 0, 0, 0), [], []), (102, .getfield 120, 3, (11, 11, 0, 1266, 0), [], []), (105, .putfield 207, 3, (11, 13, 0, 1268, 0), [], [])], 108, [0])),
  (108, ([(108, .aload_n 0, 1, (0, 0, 0, 0, 0), [], []), (109, .aload_n 0, 1, (0, 0, 0, 0, 0), [], []), (110, .getfield 120, 3, (11, 11, 0, 1266, 0), [], []), (113, .ifCond .ne 7, 3, (120, 0, 0, 0, 0), [0], [0])], 0, [])),
  (116, ([(116, .iconst (-1), 1, (0, 0, 0, 0, 0), [], []), (117, .goto 7, 3, (124, 0, 0, 0, 0), [0], [])], 0, [])),
  (120, ([(120, .aload_n 0, 1, (0, 0, 0, 0, 0), [], []), (121, .getfield 123, 3, (11, 12, 0, 1267, 0), [], [])], 124, [0])),
  (124, ([(124, .putfield 27, 3, (11, 14, 0, 1269, 0), [], [])], 127, [0])),
  (127, ([(127, .aload_n 0, 1, (0, 0, 0, 0, 0), [], []), (128, .getfield 120, 3, (11, 11, 0, 1266, 0), [], []), (131, .ifCond .eq 11, 3, (142, 0, 0, 0, 0), [0], [0])], 0, [])),
  (134, ([(134, .bipush (-30), 2, (0, 0, 0, 0, 0), [], []), (136, .aload_n 0, 1, (0, 0, 0, 0, 0), [], []), (137, .getfield 120, 3, (11, 11, 0, 1266, 0), [], []), (140, .isub, 1, (0, 0, 0, 0, 0), [], []), (141, .ireturn, 1, (0, 0, 0, 0, 0), [], [])], 0, [])),
  (142, ([(142, .iconst 0, 1, (0, 0, 0, 0, 0), [], []), (143, .istore_n 2, 1, (0, 0, 0, 0, 0), [], [])], 144, [0, 2])),
  (144, ([(144, .iload_n 2, 1, (0, 0, 0, 0, 0), [], []), (145, .sipush 1115, 3, (0, 0, 0, 0, 0), [], []), (148, .if_icmp .ge 21, 3, (169, 0, 0, 0, 0), [0], [0, 2])], 0, [])),
  (151, ([(151, .aload_n 0, 1, (0, 0, 0, 0, 0), [], []), (152, .getfield 13, 3, (11, 1, 2, 1256, 0), [], []), (155, .iload_n 2, 1, (0, 0, 0, 0, 0), [], []), (156, .aload_n 0, 1, (0, 0, 0, 0, 0), [], []), (157, .getfield 24, 3, (11, 4, 2, 1259, 0), [], []), (160, .iload_n 2, 1, (0, 0, 0, 0, 0), [], []), (161, .iaload, 1, (20, 0, 0, 0, 0), [], []), (162, .iastore, 1, (0, 0, 0, 0, 0), [], [])], 163, [0, 2])),
  (163, ([(163, .iinc 2 1, 3, (0, 0, 0, 0, 0), [], []), (166, .goto (-22), 3, (144, 0, 0, 0, 0), [0, 2], [])], 0, [])),
  (169, ([(169, .aload_n 0, 1, (0, 0, 0, 0, 0), [], []), (170, .getfield 13, 3, (11, 1, 2, 1256, 0), [], []), (173, .iconst 0, 1, (0, 0, 0, 0, 0), [], []), (174, .iaload, 1, (20, 0, 0, 0, 0), [], []), (175, .ireturn, 1, (0, 0, 0, 0, 0), [], [])], 0, []))]
def cd_Hook_fault : List (Nat × AB) := [
  (0, ([(0, .iload_n 1, 1, (0, 0, 0, 0, 0), [], []), (1, .ifCond .ne 8, 3, (9, 0, 0, 0, 0), [0, 1], [0])], 0, [])),
  (4, ([(4, .aload_n 0, 1, (0, 0, 0, 0, 0), [], []), (5, .getfield 24, 3, (10, 3, 0, 357, 0), [], []), (8, .ireturn, 1, (0, 0, 0, 0, 0), [], [])], 0, [])),
  (9, ([(9, .iload_n 1, 1, (0, 0, 0, 0, 0), [], []), (10, .iconst 1, 1, (0, 0, 0, 0, 0), [], []), (11, .if_icmp .ne 10, 3, (21, 0, 0, 0, 0), [], [0])], 0, [])),
  (14, ([(14, .aload_n 0, 1, (0, 0, 0, 0, 0), [], []), (15, .getfield 27, 3, (10, 4, 0, 358, 0), [], []), (18, .goto 4, 3, (22, 0, 0, 0, 0), [], [])], 0, [])),
  (21, ([(21, .iconst (-1), 1, (0, 0, 0, 0, 0), [], [])], 22, [])),
  (22, ([(22, .ireturn, 1, (0, 0, 0, 0, 0), [], [])], 0, []))]
def cd_Mod_fault : List (Nat × AB) := [
  (0, ([(0, .aload_n 0, 1, (0, 0, 0, 0, 0), [], []), (1, .iconst 0, 1, (0, 0, 0, 0, 0), [], []), (2, .putfield 1, 3, (11, 0, 0, 1255, 0), [], [])], 5, [0, 1])),
  (5, ([(5, .iload_n 1, 1, (0, 0, 0, 0, 0), [], []), (6, .ifCond .ne 10, 3, (16, 0, 0, 0, 0), [0, 1], [0])], 0, [])),
  (9, ([(9, .aload_n 0, 1, (0, 0, 0, 0, 0), [], []), (10, .getfield 207, 3, (11, 13, 0, 1268, 0), [], []), (13, .goto 16, 3, (29, 0, 0, 0, 0), [], [])], 0, [])),
  (16, ([(16, .iload_n 1, 1, (0, 0, 0, 0, 0), [], []), (17, .iconst 1, 1, (0, 0, 0, 0, 0), [], []), (18, .if_icmp .ne 10, 3, (28, 0, 0, 0, 0), [], [0])], 0, [])),
  (21, ([(21, .aload_n 0, 1, (0, 0, 0, 0, 0), [], []), (22, .getfield 27, 3, (11, 14, 0, 1269, 0), [], []), (25, .goto 4, 3, (29, 0, 0, 0, 0), [], [])], 0, [])),
  (28, ([(28, .iconst (-1), 1, (0, 0, 0, 0, 0), [], [])], 29, [])),
  (29, ([(29, .ireturn, 1, (0, 0, 0, 0, 0), [], [])], 0, []))]
def cd_Hanging_sagOf : List (Nat × AB) := [
  (0, ([(0, .aload_n 0, 1, (0, 0, 0, 0, 0), [], []), (1, .aload_n 1, 1, (0, 0, 0, 0, 0), [], []), (2, .iload_n 2, 1, (0, 0, 0, 0, 0), [], []), (3, .invokevirtual 54, 3, (41, 3, 10, 0, 634), [0, 1, 2], [4])], 0, [])),
  (6, ([(6, .istore_n 3, 1, (0, 0, 0, 0, 0), [], []), (7, .aload_n 0, 1, (0, 0, 0, 0, 0), [], []), (8, .iload_n 2, 1, (0, 0, 0, 0, 0), [], []), (9, .invokevirtual 37, 3, (37, 2, 10, 0, 618), [0, 1, 2, 3], [2])], 0, [])),
  (12, ([(12, .ifCond .eq 8, 3, (20, 0, 0, 0, 0), [], [0, 1, 2, 3])], 0, [])),
  (15, ([(15, .iload_n 3, 1, (0, 0, 0, 0, 0), [], []), (16, .iconst (-1), 1, (0, 0, 0, 0, 0), [], []), (17, .if_icmp .ne 5, 3, (22, 0, 0, 0, 0), [0, 1, 2, 3], [])], 0, [])),
  (20, ([(20, .iconst (-1), 1, (0, 0, 0, 0, 0), [], []), (21, .ireturn, 1, (0, 0, 0, 0, 0), [], [])], 0, [])),
  (22, ([(22, .aload_n 1, 1, (0, 0, 0, 0, 0), [], []), (23, .iload_n 2, 1, (0, 0, 0, 0, 0), [], []), (24, .aload_n 0, 1, (0, 0, 0, 0, 0), [], []), (25, .getfield 9, 3, (0, 0, 2, 218, 0), [], []), (28, .iload_n 2, 1, (0, 0, 0, 0, 0), [], []), (29, .iaload, 1, (20, 0, 0, 0, 0), [], []), (30, .iload_n 3, 1, (0, 0, 0, 0, 0), [], []), (31, .aload_n 0, 1, (0, 0, 0, 0, 0), [], []), (32, .getfield 9, 3, (0, 0, 2, 218, 0), [], []), (35, .iload_n 3, 1, (0, 0, 0, 0, 0), [], []), (36, .iaload, 1, (20, 0, 0, 0, 0), [], []), (37, .invokevirtual 58, 3, (42, 5, 10, 9, 638), [], [5])], 0, [])),
  (40, ([(40, .ireturn, 1, (0, 0, 0, 0, 0), [], [])], 0, []))]
def cd_Window_isRight : List (Nat × AB) := [
  (0, ([(0, .aload_n 0, 1, (0, 0, 0, 0, 0), [], []), (1, .iload_n 1, 1, (0, 0, 0, 0, 0), [], []), (2, .invokevirtual 73, 3, (35, 2, 10, 9, 757), [0, 1, 2], [2])], 0, [])),
  (5, ([(5, .ifCond .eq 28, 3, (33, 0, 0, 0, 0), [], [0, 1, 2])], 0, [])),
  (8, ([(8, .aload_n 0, 1, (0, 0, 0, 0, 0), [], []), (9, .iload_n 2, 1, (0, 0, 0, 0, 0), [], []), (10, .invokevirtual 77, 3, (36, 2, 10, 9, 758), [0, 1, 2], [2])], 0, [])),
  (13, ([(13, .ifCond .eq 20, 3, (33, 0, 0, 0, 0), [], [0, 1, 2])], 0, [])),
  (16, ([(16, .aload_n 0, 1, (0, 0, 0, 0, 0), [], []), (17, .getfield 24, 3, (9, 4, 2, 130, 0), [], []), (20, .iload_n 1, 1, (0, 0, 0, 0, 0), [], []), (21, .iaload, 1, (20, 0, 0, 0, 0), [], []), (22, .iload_n 2, 1, (0, 0, 0, 0, 0), [], []), (23, .iushr, 1, (0, 0, 0, 0, 0), [], []), (24, .iconst 1, 1, (0, 0, 0, 0, 0), [], []), (25, .iand, 1, (0, 0, 0, 0, 0), [], []), (26, .ifCond .eq 7, 3, (33, 0, 0, 0, 0), [], [])], 0, [])),
  (29, ([(29, .iconst 1, 1, (0, 0, 0, 0, 0), [], []), (30, .goto 4, 3, (34, 0, 0, 0, 0), [], [])], 0, [])),
  (33, ([(33, .iconst 0, 1, (0, 0, 0, 0, 0), [], [])], 34, [])),
  (34, ([(34, .ireturn, 1, (1, 0, 0, 0, 0), [], [])], 0, []))]
def cd_Hanging_isRightlyJoined : List (Nat × AB) := [
  (0, ([(0, .aload_n 0, 1, (0, 0, 0, 0, 0), [], []), (1, .iload_n 2, 1, (0, 0, 0, 0, 0), [], []), (2, .invokevirtual 37, 3, (37, 2, 10, 0, 618), [0, 1, 2], [2])], 0, [])),
  (5, ([(5, .ifCond .eq 21, 3, (26, 0, 0, 0, 0), [], [0, 1, 2])], 0, [])),
  (8, ([(8, .aload_n 1, 1, (0, 0, 0, 0, 0), [], []), (9, .iload_n 2, 1, (0, 0, 0, 0, 0), [], []), (10, .aload_n 0, 1, (0, 0, 0, 0, 0), [], []), (11, .getfield 9, 3, (0, 0, 2, 218, 0), [], []), (14, .iload_n 2, 1, (0, 0, 0, 0, 0), [], []), (15, .iaload, 1, (20, 0, 0, 0, 0), [], []), (16, .invokevirtual 41, 3, (105, 3, 10, 9, 753), [], [3])], 0, [])),
  (19, ([(19, .ifCond .eq 7, 3, (26, 0, 0, 0, 0), [], [])], 0, [])),
  (22, ([(22, .iconst 1, 1, (0, 0, 0, 0, 0), [], []), (23, .goto 4, 3, (27, 0, 0, 0, 0), [], [])], 0, [])),
  (26, ([(26, .iconst 0, 1, (0, 0, 0, 0, 0), [], [])], 27, [])),
  (27, ([(27, .ireturn, 1, (1, 0, 0, 0, 0), [], [])], 0, []))]
def cd_Hook_hook : List (Nat × AB) := [
  (0, ([(0, .aload_n 0, 1, (0, 0, 0, 0, 0), [], []), (1, .getfield 33, 3, (10, 5, 2, 359, 0), [], []), (4, .iload_n 1, 1, (0, 0, 0, 0, 0), [], []), (5, .invokevirtual 130, 3, (35, 2, 10, 9, 744), [0, 1, 2], [2])], 0, [])),
  (8, ([(8, .ifCond .ne 6, 3, (14, 0, 0, 0, 0), [0, 1, 2], [])], 0, [])),
  (11, ([(11, .bipush (-2), 2, (0, 0, 0, 0, 0), [], []), (13, .ireturn, 1, (0, 0, 0, 0, 0), [], [])], 0, [])),
  (14, ([(14, .iload_n 2, 1, (0, 0, 0, 0, 0), [], []), (15, .tableswitch 126 0 4 #[33, 43, 53, 92, 105], 33, (141, 0, 0, 0, 0), [0, 48, 1, 58, 2, 68, 3, 107, 4, 120], [0, 1])], 0, [])),
  (48, ([(48, .aload_n 0, 1, (0, 0, 0, 0, 0), [], []), (49, .getfield 43, 3, (10, 7, 2, 361, 0), [], []), (52, .getfield 134, 3, (0, 0, 2, 221, 0), [], []), (55, .iload_n 1, 1, (0, 0, 0, 0, 0), [], []), (56, .iaload, 1, (20, 0, 0, 0, 0), [], []), (57, .ireturn, 1, (0, 0, 0, 0, 0), [], [])], 0, [])),
  (58, ([(58, .aload_n 0, 1, (0, 0, 0, 0, 0), [], []), (59, .getfield 33, 3, (10, 5, 2, 359, 0), [], []), (62, .getfield 137, 3, (9, 2, 2, 124, 0), [], []), (65, .iload_n 1, 1, (0, 0, 0, 0, 0), [], []), (66, .iaload, 1, (20, 0, 0, 0, 0), [], []), (67, .ireturn, 1, (0, 0, 0, 0, 0), [], [])], 0, [])),
  (68, ([(68, .iload_n 1, 1, (0, 0, 0, 0, 0), [], []), (69, .iconst 1, 1, (0, 0, 0, 0, 0), [], []), (70, .iadd, 1, (0, 0, 0, 0, 0), [], []), (71, .aload_n 0, 1, (0, 0, 0, 0, 0), [], []), (72, .getfield 33, 3, (10, 5, 2, 359, 0), [], []), (75, .getfield 140, 3, (9, 5, 0, 137, 0), [], []), (78, .if_icmp .ge 27, 3, (105, 0, 0, 0, 0), [], [0, 1])], 0, [])),
  (81, ([(81, .aload_n 0, 1, (0, 0, 0, 0, 0), [], []), (82, .getfield 33, 3, (10, 5, 2, 359, 0), [], []), (85, .getfield 143, 3, (9, 0, 2, 118, 0), [], []), (88, .iload_n 1, 1, (0, 0, 0, 0, 0), [], []), (89, .iconst 1, 1, (0, 0, 0, 0, 0), [], []), (90, .iadd, 1, (0, 0, 0, 0, 0), [], []), (91, .iaload, 1, (20, 0, 0, 0, 0), [], []), (92, .aload_n 0, 1, (0, 0, 0, 0, 0), [], []), (93, .getfield 33, 3, (10, 5, 2, 359, 0), [], []), (96, .getfield 143, 3, (9, 0, 2, 118, 0), [], []), (99, .iload_n 1, 1, (0, 0, 0, 0, 0), [], []), (100, .iaload, 1, (20, 0, 0, 0, 0), [], []), (101, .isub, 1, (0, 0, 0, 0, 0), [], []), (102, .goto 4, 3, (106, 0, 0, 0, 0), [], [])], 0, [])),
  (105, ([(105, .iconst (-1), 1, (0, 0, 0, 0, 0), [], [])], 106, [])),
  (106, ([(106, .ireturn, 1, (0, 0, 0, 0, 0), [], [])], 0, [])),
  (107, ([(107, .aload_n 0, 1, (0, 0, 0, 0, 0), [], []), (108, .getfield 43, 3, (10, 7, 2, 361, 0), [], []), (111, .aload_n 0, 1, (0, 0, 0, 0, 0), [], []), (112, .getfield 33, 3, (10, 5, 2, 359, 0), [], []), (115, .iload_n 1, 1, (0, 0, 0, 0, 0), [], []), (116, .invokevirtual 146, 3, (104, 3, 10, 0, 745), [], [4])], 0, [])),
  (119, ([(119, .ireturn, 1, (0, 0, 0, 0, 0), [], [])], 0, [])),
  (120, ([(120, .aload_n 0, 1, (0, 0, 0, 0, 0), [], []), (121, .getfield 43, 3, (10, 7, 2, 361, 0), [], []), (124, .aload_n 0, 1, (0, 0, 0, 0, 0), [], []), (125, .getfield 33, 3, (10, 5, 2, 359, 0), [], []), (128, .iload_n 1, 1, (0, 0, 0, 0, 0), [], []), (129, .invokevirtual 150, 3, (106, 3, 10, 0, 749), [], [3])], 0, [])),
  (132, ([(132, .ifCond .eq 7, 3, (139, 0, 0, 0, 0), [], [])], 0, [])),
  (135, ([(135, .iconst 1, 1, (0, 0, 0, 0, 0), [], []), (136, .goto 4, 3, (140, 0, 0, 0, 0), [], [])], 0, [])),
  (139, ([(139, .iconst 0, 1, (0, 0, 0, 0, 0), [], [])], 140, [])),
  (140, ([(140, .ireturn, 1, (0, 0, 0, 0, 0), [], [])], 0, [])),
  (141, ([(141, .bipush (-2), 2, (0, 0, 0, 0, 0), [], []), (143, .ireturn, 1, (0, 0, 0, 0, 0), [], [])], 0, []))]
def cd_Mod_isHook : List (Nat × AB) := [
  (0, ([(0, .iload_n 1, 1, (0, 0, 0, 0, 0), [], []), (1, .i2l, 1, (0, 0, 0, 0, 0), [], []), (2, .lconst 0, 1, (0, 0, 0, 0, 0), [], []), (3, .aload_n 0, 1, (0, 0, 0, 0, 0), [], []), (4, .getfield 13, 3, (11, 1, 2, 1256, 0), [], []), (7, .iconst 1, 1, (0, 0, 0, 0, 0), [], []), (8, .iaload, 1, (20, 0, 0, 0, 0), [], []), (9, .iconst 1, 1, (0, 0, 0, 0, 0), [], []), (10, .isub, 1, (0, 0, 0, 0, 0), [], []), (11, .i2l, 1, (0, 0, 0, 0, 0), [], []), (12, .invokestatic 136, 3, (71, 3, 0, 0, 1372), [], [6])], 0, [])),
  (15, ([(15, .ireturn, 1, (1, 0, 0, 0, 0), [], [])], 0, []))]
def cd_Mod_nextJoined : List (Nat × AB) := [
  (0, ([(0, .iload_n 1, 1, (0, 0, 0, 0, 0), [], []), (1, .iconst 1, 1, (0, 0, 0, 0, 0), [], []), (2, .iadd, 1, (0, 0, 0, 0, 0), [], []), (3, .istore_n 2, 1, (0, 0, 0, 0, 0), [], [])], 4, [0, 2])),
  (4, ([(4, .iload_n 2, 1, (0, 0, 0, 0, 0), [], []), (5, .aload_n 0, 1, (0, 0, 0, 0, 0), [], []), (6, .getfield 13, 3, (11, 1, 2, 1256, 0), [], []), (9, .iconst 1, 1, (0, 0, 0, 0, 0), [], []), (10, .iaload, 1, (20, 0, 0, 0, 0), [], []), (11, .if_icmp .ge 24, 3, (35, 0, 0, 0, 0), [], [0, 2])], 0, [])),
  (14, ([(14, .aload_n 0, 1, (0, 0, 0, 0, 0), [], []), (15, .getfield 13, 3, (11, 1, 2, 1256, 0), [], []), (18, .bipush 61, 2, (0, 0, 0, 0, 0), [], []), (20, .iload_n 2, 1, (0, 0, 0, 0, 0), [], []), (21, .iadd, 1, (0, 0, 0, 0, 0), [], []), (22, .iaload, 1, (20, 0, 0, 0, 0), [], []), (23, .iconst (-1), 1, (0, 0, 0, 0, 0), [], []), (24, .if_icmp .eq 5, 3, (29, 0, 0, 0, 0), [0, 2], [2])], 0, [])),
  (27, ([(27, .iload_n 2, 1, (0, 0, 0, 0, 0), [], []), (28, .ireturn, 1, (0, 0, 0, 0, 0), [], [])], 0, [])),
  (29, ([(29, .iinc 2 1, 3, (0, 0, 0, 0, 0), [], []), (32, .goto (-28), 3, (4, 0, 0, 0, 0), [0, 2], [])], 0, [])),
  (35, ([(35, .iconst (-1), 1, (0, 0, 0, 0, 0), [], []), (36, .ireturn, 1, (0, 0, 0, 0, 0), [], [])], 0, []))]
def cd_Mod_sagOf : List (Nat × AB) := [
  (0, ([(0, .aload_n 0, 1, (0, 0, 0, 0, 0), [], []), (1, .iload_n 1, 1, (0, 0, 0, 0, 0), [], []), (2, .invokevirtual 222, 3, (109, 2, 10, 11, 1508), [0, 1], [3])], 0, [])),
  (5, ([(5, .istore_n 2, 1, (0, 0, 0, 0, 0), [], []), (6, .aload_n 0, 1, (0, 0, 0, 0, 0), [], []), (7, .getfield 13, 3, (11, 1, 2, 1256, 0), [], []), (10, .bipush 61, 2, (0, 0, 0, 0, 0), [], []), (12, .iload_n 1, 1, (0, 0, 0, 0, 0), [], []), (13, .iadd, 1, (0, 0, 0, 0, 0), [], []), (14, .iaload, 1, (20, 0, 0, 0, 0), [], []), (15, .iconst (-1), 1, (0, 0, 0, 0, 0), [], []), (16, .if_icmp .eq 8, 3, (24, 0, 0, 0, 0), [], [0, 1, 2])], 0, [])),
  (19, ([(19, .iload_n 2, 1, (0, 0, 0, 0, 0), [], []), (20, .iconst (-1), 1, (0, 0, 0, 0, 0), [], []), (21, .if_icmp .ne 7, 3, (28, 0, 0, 0, 0), [0, 1, 2], [])], 0, [])),
  (24, ([(24, .iconst (-1), 1, (0, 0, 0, 0, 0), [], []), (25, .goto 30, 3, (55, 0, 0, 0, 0), [], [])], 0, [])),
  (28, ([(28, .aload_n 0, 1, (0, 0, 0, 0, 0), [], []), (29, .getfield 13, 3, (11, 1, 2, 1256, 0), [], []), (32, .iload_n 1, 1, (0, 0, 0, 0, 0), [], []), (33, .aload_n 0, 1, (0, 0, 0, 0, 0), [], []), (34, .getfield 13, 3, (11, 1, 2, 1256, 0), [], []), (37, .bipush 61, 2, (0, 0, 0, 0, 0), [], []), (39, .iload_n 1, 1, (0, 0, 0, 0, 0), [], []), (40, .iadd, 1, (0, 0, 0, 0, 0), [], []), (41, .iaload, 1, (20, 0, 0, 0, 0), [], []), (42, .iload_n 2, 1, (0, 0, 0, 0, 0), [], []), (43, .aload_n 0, 1, (0, 0, 0, 0, 0), [], []), (44, .getfield 13, 3, (11, 1, 2, 1256, 0), [], []), (47, .bipush 61, 2, (0, 0, 0, 0, 0), [], []), (49, .iload_n 2, 1, (0, 0, 0, 0, 0), [], []), (50, .iadd, 1, (0, 0, 0, 0, 0), [], []), (51, .iaload, 1, (20, 0, 0, 0, 0), [], []), (52, .invokestatic 218, 3, (97, 5, 0, 0, 1489), [], [7])], 0, [])),
  (55, ([(55, .ireturn, 1, (0, 0, 0, 0, 0), [], [])], 0, []))]
def cd_Mod_wordOf : List (Nat × AB) := [
  (0, ([(0, .iload_n 1, 1, (0, 0, 0, 0, 0), [], []), (1, .tableswitch 77 1000 1005 #[39, 41, 43, 53, 63, 70], 39, (78, 0, 0, 0, 0), [1000, 40, 1001, 42, 1002, 44, 1003, 54, 1004, 64, 1005, 71], [0, 1, 2, 3])], 0, [])),
  (40, ([(40, .iload_n 2, 1, (0, 0, 0, 0, 0), [], []), (41, .ireturn, 1, (0, 0, 0, 0, 0), [], [])], 0, [])),
  (42, ([(42, .iload_n 3, 1, (0, 0, 0, 0, 0), [], []), (43, .ireturn, 1, (0, 0, 0, 0, 0), [], [])], 0, [])),
  (44, ([(44, .aload_n 0, 1, (0, 0, 0, 0, 0), [], []), (45, .getfield 13, 3, (11, 1, 2, 1256, 0), [], []), (48, .bipush 35, 2, (0, 0, 0, 0, 0), [], []), (50, .iload_n 2, 1, (0, 0, 0, 0, 0), [], []), (51, .iadd, 1, (0, 0, 0, 0, 0), [], []), (52, .iaload, 1, (20, 0, 0, 0, 0), [], []), (53, .ireturn, 1, (0, 0, 0, 0, 0), [], [])], 0, [])),
  (54, ([(54, .aload_n 0, 1, (0, 0, 0, 0, 0), [], []), (55, .getfield 13, 3, (11, 1, 2, 1256, 0), [], []), (58, .bipush 47, 2, (0, 0, 0, 0, 0), [], []), (60, .iload_n 3, 1, (0, 0, 0, 0, 0), [], []), (61, .iadd, 1, (0, 0, 0, 0, 0), [], []), (62, .iaload, 1, (20, 0, 0, 0, 0), [], []), (63, .ireturn, 1, (0, 0, 0, 0, 0), [], [])], 0, [])),
  (64, ([(64, .aload_n 0, 1, (0, 0, 0, 0, 0), [], []), (65, .getfield 13, 3, (11, 1, 2, 1256, 0), [], []), (68, .iconst 1, 1, (0, 0, 0, 0, 0), [], []), (69, .iaload, 1, (20, 0, 0, 0, 0), [], []), (70, .ireturn, 1, (0, 0, 0, 0, 0), [], [])], 0, [])),
  (71, ([(71, .aload_n 0, 1, (0, 0, 0, 0, 0), [], []), (72, .getfield 13, 3, (11, 1, 2, 1256, 0), [], []), (75, .iconst 2, 1, (0, 0, 0, 0, 0), [], []), (76, .iaload, 1, (20, 0, 0, 0, 0), [], []), (77, .ireturn, 1, (0, 0, 0, 0, 0), [], [])], 0, [])),
  (78, ([(78, .iload_n 1, 1, (0, 0, 0, 0, 0), [], []), (79, .ireturn, 1, (0, 0, 0, 0, 0), [], [])], 0, []))]
def cd_Mod_between : List (Nat × AB) := [
  (0, ([(0, .iload_n 0, 1, (0, 0, 0, 0, 0), [], []), (1, .sipush 3002, 3, (0, 0, 0, 0, 0), [], []), (4, .if_icmp .gt 70, 3, (74, 0, 0, 0, 0), [0, 1, 2], [0, 1, 2])], 0, [])),
  (7, ([(7, .iload_n 0, 1, (0, 0, 0, 0, 0), [], []), (8, .sipush 3000, 3, (0, 0, 0, 0, 0), [], []), (11, .if_icmp .ne 11, 3, (22, 0, 0, 0, 0), [0, 1, 2], [1, 2])], 0, [])),
  (14, ([(14, .iload_n 1, 1, (0, 0, 0, 0, 0), [], []), (15, .i2l, 1, (0, 0, 0, 0, 0), [], []), (16, .iload_n 2, 1, (0, 0, 0, 0, 0), [], []), (17, .i2l, 1, (0, 0, 0, 0, 0), [], []), (18, .ladd, 1, (0, 0, 0, 0, 0), [], []), (19, .goto 23, 3, (42, 0, 0, 0, 0), [], [])], 0, [])),
  (22, ([(22, .iload_n 0, 1, (0, 0, 0, 0, 0), [], []), (23, .sipush 3001, 3, (0, 0, 0, 0, 0), [], []), (26, .if_icmp .ne 11, 3, (37, 0, 0, 0, 0), [1, 2], [1, 2])], 0, [])),
  (29, ([(29, .iload_n 1, 1, (0, 0, 0, 0, 0), [], []), (30, .i2l, 1, (0, 0, 0, 0, 0), [], []), (31, .iload_n 2, 1, (0, 0, 0, 0, 0), [], []), (32, .i2l, 1, (0, 0, 0, 0, 0), [], []), (33, .lsub, 1, (0, 0, 0, 0, 0), [], []), (34, .goto 8, 3, (42, 0, 0, 0, 0), [], [])], 0, [])),
  (37, ([(37, .iload_n 1, 1, (0, 0, 0, 0, 0), [], []), (38, .i2l, 1, (0, 0, 0, 0, 0), [], []), (39, .iload_n 2, 1, (0, 0, 0, 0, 0), [], []), (40, .i2l, 1, (0, 0, 0, 0, 0), [], []), (41, .lmul, 1, (0, 0, 0, 0, 0), [], [])], 42, [])),
  (42, ([(42, .lstore_n 3, 1, (0, 0, 0, 0, 0), [], []), (43, .lload_n 3, 1, (0, 0, 0, 0, 0), [], []), (44, .ldc2_w 225, 3, (0, 0, 0, 1527, 1000000), [], []), (47, .lcmp, 1, (0, 0, 0, 0, 0), [], []), (48, .ifCond .le 9, 3, (57, 0, 0, 0, 0), [3], [])], 0, [])),
  (51, ([(51, .ldc2_w 225, 3, (0, 0, 0, 1527, 1000000), [], []), (54, .goto 18, 3, (72, 0, 0, 0, 0), [], [])], 0, [])),
  (57, ([(57, .lload_n 3, 1, (0, 0, 0, 0, 0), [], []), (58, .ldc2_w 227, 3, (0, 0, 0, 1528, (-1000000)), [], []), (61, .lcmp, 1, (0, 0, 0, 0, 0), [], []), (62, .ifCond .ge 9, 3, (71, 0, 0, 0, 0), [3], [])], 0, [])),
  (65, ([(65, .ldc2_w 227, 3, (0, 0, 0, 1528, (-1000000)), [], []), (68, .goto 4, 3, (72, 0, 0, 0, 0), [], [])], 0, [])),
  (71, ([(71, .lload_n 3, 1, (0, 0, 0, 0, 0), [], [])], 72, [])),
  (72, ([(72, .l2i, 1, (0, 0, 0, 0, 0), [], []), (73, .ireturn, 1, (0, 0, 0, 0, 0), [], [])], 0, [])),
  (74, ([(74, .iload_n 0, 1, (0, 0, 0, 0, 0), [], []), (75, .sipush 3003, 3, (0, 0, 0, 0, 0), [], []), (78, .if_icmp .ne 16, 3, (94, 0, 0, 0, 0), [0, 1, 2], [1, 2])], 0, [])),
  (81, ([(81, .iload_n 1, 1, (0, 0, 0, 0, 0), [], []), (82, .iload_n 2, 1, (0, 0, 0, 0, 0), [], []), (83, .if_icmp .ne 7, 3, (90, 0, 0, 0, 0), [], [])], 0, [])),
  (86, ([(86, .iconst 1, 1, (0, 0, 0, 0, 0), [], []), (87, .goto 80, 3, (167, 0, 0, 0, 0), [], [])], 0, [])),
  (90, ([(90, .iconst 0, 1, (0, 0, 0, 0, 0), [], []), (91, .goto 76, 3, (167, 0, 0, 0, 0), [], [])], 0, [])),
  (94, ([(94, .iload_n 0, 1, (0, 0, 0, 0, 0), [], []), (95, .sipush 3004, 3, (0, 0, 0, 0, 0), [], []), (98, .if_icmp .ne 16, 3, (114, 0, 0, 0, 0), [0, 1, 2], [1, 2])], 0, [])),
  (101, ([(101, .iload_n 1, 1, (0, 0, 0, 0, 0), [], []), (102, .iload_n 2, 1, (0, 0, 0, 0, 0), [], []), (103, .if_icmp .ge 7, 3, (110, 0, 0, 0, 0), [], [])], 0, [])),
  (106, ([(106, .iconst 1, 1, (0, 0, 0, 0, 0), [], []), (107, .goto 60, 3, (167, 0, 0, 0, 0), [], [])], 0, [])),
  (110, ([(110, .iconst 0, 1, (0, 0, 0, 0, 0), [], []), (111, .goto 56, 3, (167, 0, 0, 0, 0), [], [])], 0, [])),
  (114, ([(114, .iload_n 0, 1, (0, 0, 0, 0, 0), [], []), (115, .sipush 3005, 3, (0, 0, 0, 0, 0), [], []), (118, .if_icmp .ne 16, 3, (134, 0, 0, 0, 0), [0, 1, 2], [1, 2])], 0, [])),
  (121, ([(121, .iload_n 1, 1, (0, 0, 0, 0, 0), [], []), (122, .iload_n 2, 1, (0, 0, 0, 0, 0), [], []), (123, .if_icmp .le 7, 3, (130, 0, 0, 0, 0), [], [])], 0, [])),
  (126, ([(126, .iconst 1, 1, (0, 0, 0, 0, 0), [], []), (127, .goto 40, 3, (167, 0, 0, 0, 0), [], [])], 0, [])),
  (130, ([(130, .iconst 0, 1, (0, 0, 0, 0, 0), [], []), (131, .goto 36, 3, (167, 0, 0, 0, 0), [], [])], 0, [])),
  (134, ([(134, .iload_n 0, 1, (0, 0, 0, 0, 0), [], []), (135, .sipush 3006, 3, (0, 0, 0, 0, 0), [], []), (138, .if_icmp .ne 18, 3, (156, 0, 0, 0, 0), [1, 2], [1, 2])], 0, [])),
  (141, ([(141, .iload_n 1, 1, (0, 0, 0, 0, 0), [], []), (142, .iload_n 2, 1, (0, 0, 0, 0, 0), [], []), (143, .iadd, 1, (0, 0, 0, 0, 0), [], []), (144, .iconst 2, 1, (0, 0, 0, 0, 0), [], []), (145, .if_icmp .ne 7, 3, (152, 0, 0, 0, 0), [], [])], 0, [])),
  (148, ([(148, .iconst 1, 1, (0, 0, 0, 0, 0), [], []), (149, .goto 18, 3, (167, 0, 0, 0, 0), [], [])], 0, [])),
  (152, ([(152, .iconst 0, 1, (0, 0, 0, 0, 0), [], []), (153, .goto 14, 3, (167, 0, 0, 0, 0), [], [])], 0, [])),
  (156, ([(156, .iload_n 1, 1, (0, 0, 0, 0, 0), [], []), (157, .iload_n 2, 1, (0, 0, 0, 0, 0), [], []), (158, .iadd, 1, (0, 0, 0, 0, 0), [], []), (159, .ifCond .le 7, 3, (166, 0, 0, 0, 0), [], [])], 0, [])),
  (162, ([(162, .iconst 1, 1, (0, 0, 0, 0, 0), [], []), (163, .goto 4, 3, (167, 0, 0, 0, 0), [], [])], 0, [])),
  (166, ([(166, .iconst 0, 1, (0, 0, 0, 0, 0), [], [])], 167, [])),
  (167, ([(167, .istore_n 3, 1, (0, 0, 0, 0, 0), [], []), (168, .iload_n 3, 1, (0, 0, 0, 0, 0), [], []), (169, .ifCond .eq 7, 3, (176, 0, 0, 0, 0), [], [])], 0, [])),
  (172, ([(172, .iconst 1, 1, (0, 0, 0, 0, 0), [], []), (173, .goto 4, 3, (177, 0, 0, 0, 0), [], [])], 0, [])),
  (176, ([(176, .iconst 0, 1, (0, 0, 0, 0, 0), [], [])], 177, [])),
  (177, ([(177, .ireturn, 1, (0, 0, 0, 0, 0), [], [])], 0, []))]
def cd_Mod_isRight : List (Nat × AB) := [
  (0, ([(0, .aload_n 0, 1, (0, 0, 0, 0, 0), [], []), (1, .getfield 13, 3, (11, 1, 2, 1256, 0), [], []), (4, .bipush 9, 2, (0, 0, 0, 0, 0), [], []), (6, .iaload, 1, (20, 0, 0, 0, 0), [], []), (7, .ifCond .ne 14, 3, (21, 0, 0, 0, 0), [0, 1, 2], [1, 2])], 0, [])),
  (10, ([(10, .iload_n 1, 1, (0, 0, 0, 0, 0), [], []), (11, .iload_n 2, 1, (0, 0, 0, 0, 0), [], []), (12, .if_icmp .ne 7, 3, (19, 0, 0, 0, 0), [], [])], 0, [])),
  (15, ([(15, .iconst 1, 1, (0, 0, 0, 0, 0), [], []), (16, .goto 4, 3, (20, 0, 0, 0, 0), [], [])], 0, [])),
  (19, ([(19, .iconst 0, 1, (0, 0, 0, 0, 0), [], [])], 20, [])),
  (20, ([(20, .ireturn, 1, (1, 0, 0, 0, 0), [], [])], 0, [])),
  (21, ([(21, .iconst 0, 1, (0, 0, 0, 0, 0), [], []), (22, .istore_n 3, 1, (0, 0, 0, 0, 0), [], []), (23, .iconst 0, 1, (0, 0, 0, 0, 0), [], []), (24, .istore 4, 2, (0, 0, 0, 0, 0), [], [])], 26, [0, 1, 2, 3, 4])),
  (26, ([(26, .iload 4, 2, (0, 0, 0, 0, 0), [], []), (28, .aload_n 0, 1, (0, 0, 0, 0, 0), [], []), (29, .getfield 13, 3, (11, 1, 2, 1256, 0), [], []), (32, .sipush 214, 3, (0, 0, 0, 0, 0), [], []), (35, .iaload, 1, (20, 0, 0, 0, 0), [], []), (36, .if_icmp .ge 109, 3, (145, 0, 0, 0, 0), [0], [0, 1, 2, 3, 4])], 0, [])),
  (39, ([(39, .aload_n 0, 1, (0, 0, 0, 0, 0), [], []), (40, .getfield 13, 3, (11, 1, 2, 1256, 0), [], []), (43, .sipush 215, 3, (0, 0, 0, 0, 0), [], []), (46, .iload 4, 2, (0, 0, 0, 0, 0), [], []), (48, .iadd, 1, (0, 0, 0, 0, 0), [], []), (49, .iaload, 1, (20, 0, 0, 0, 0), [], []), (50, .istore 5, 2, (0, 0, 0, 0, 0), [], []), (52, .iload 5, 2, (0, 0, 0, 0, 0), [], []), (54, .sipush 3000, 3, (0, 0, 0, 0, 0), [], []), (57, .if_icmp .ge 23, 3, (80, 0, 0, 0, 0), [0, 1, 2, 3, 4, 5], [0, 1, 2, 3, 4, 5])], 0, [])),
  (60, ([(60, .aload_n 0, 1, (0, 0, 0, 0, 0), [], []), (61, .getfield 30, 3, (11, 15, 2, 1270, 0), [], []), (64, .iload_n 3, 1, (0, 0, 0, 0, 0), [], []), (65, .aload_n 0, 1, (0, 0, 0, 0, 0), [], []), (66, .iload 5, 2, (0, 0, 0, 0, 0), [], []), (68, .iload_n 1, 1, (0, 0, 0, 0, 0), [], []), (69, .iload_n 2, 1, (0, 0, 0, 0, 0), [], []), (70, .invokevirtual 229, 3, (111, 4, 10, 11, 1520), [0, 1, 2, 3, 4], [4])], 0, [])),
  (73, ([(73, .iastore, 1, (0, 0, 0, 0, 0), [], [])], 74, [0, 1, 2, 3, 4])),
  (74, ([(74, .iinc 3 1, 3, (0, 0, 0, 0, 0), [], []), (77, .goto 62, 3, (139, 0, 0, 0, 0), [0, 1, 2, 3, 4], [])], 0, [])),
  (80, ([(80, .iload 5, 2, (0, 0, 0, 0, 0), [], []), (82, .sipush 3008, 3, (0, 0, 0, 0, 0), [], []), (85, .if_icmp .ne 24, 3, (109, 0, 0, 0, 0), [0, 1, 2, 3, 4, 5], [0, 1, 2, 3, 4])], 0, [])),
  (88, ([(88, .aload_n 0, 1, (0, 0, 0, 0, 0), [], []), (89, .getfield 30, 3, (11, 15, 2, 1270, 0), [], []), (92, .iload_n 3, 1, (0, 0, 0, 0, 0), [], []), (93, .iconst 1, 1, (0, 0, 0, 0, 0), [], []), (94, .isub, 1, (0, 0, 0, 0, 0), [], []), (95, .iconst 1, 1, (0, 0, 0, 0, 0), [], []), (96, .aload_n 0, 1, (0, 0, 0, 0, 0), [], []), (97, .getfield 30, 3, (11, 15, 2, 1270, 0), [], []), (100, .iload_n 3, 1, (0, 0, 0, 0, 0), [], []), (101, .iconst 1, 1, (0, 0, 0, 0, 0), [], []), (102, .isub, 1, (0, 0, 0, 0, 0), [], []), (103, .iaload, 1, (20, 0, 0, 0, 0), [], []), (104, .isub, 1, (0, 0, 0, 0, 0), [], []), (105, .iastore, 1, (0, 0, 0, 0, 0), [], [])], 106, [0, 1, 2, 3, 4])),
  (106, ([(106, .goto 33, 3, (139, 0, 0, 0, 0), [0, 1, 2, 3, 4], [])], 0, [])),
  (109, ([(109, .iinc 3 (-1), 3, (0, 0, 0, 0, 0), [], []), (112, .aload_n 0, 1, (0, 0, 0, 0, 0), [], []), (113, .getfield 30, 3, (11, 15, 2, 1270, 0), [], []), (116, .iload_n 3, 1, (0, 0, 0, 0, 0), [], []), (117, .iconst 1, 1, (0, 0, 0, 0, 0), [], []), (118, .isub, 1, (0, 0, 0, 0, 0), [], []), (119, .iload 5, 2, (0, 0, 0, 0, 0), [], []), (121, .aload_n 0, 1, (0, 0, 0, 0, 0), [], []), (122, .getfield 30, 3, (11, 15, 2, 1270, 0), [], []), (125, .iload_n 3, 1, (0, 0, 0, 0, 0), [], []), (126, .iconst 1, 1, (0, 0, 0, 0, 0), [], []), (127, .isub, 1, (0, 0, 0, 0, 0), [], []), (128, .iaload, 1, (20, 0, 0, 0, 0), [], []), (129, .aload_n 0, 1, (0, 0, 0, 0, 0), [], []), (130, .getfield 30, 3, (11, 15, 2, 1270, 0), [], []), (133, .iload_n 3, 1, (0, 0, 0, 0, 0), [], []), (134, .iaload, 1, (20, 0, 0, 0, 0), [], []), (135, .invokestatic 233, 3, (112, 3, 0, 0, 1524), [0, 1, 2, 3, 4], [5])], 0, [])),
  (138, ([(138, .iastore, 1, (0, 0, 0, 0, 0), [], [])], 139, [0, 1, 2, 3, 4])),
  (139, ([(139, .iinc 4 1, 3, (0, 0, 0, 0, 0), [], []), (142, .goto (-116), 3, (26, 0, 0, 0, 0), [0, 1, 2, 3, 4], [])], 0, [])),
  (145, ([(145, .aload_n 0, 1, (0, 0, 0, 0, 0), [], []), (146, .getfield 30, 3, (11, 15, 2, 1270, 0), [], []), (149, .iconst 0, 1, (0, 0, 0, 0, 0), [], []), (150, .iaload, 1, (20, 0, 0, 0, 0), [], []), (151, .iconst 1, 1, (0, 0, 0, 0, 0), [], []), (152, .if_icmp .ne 7, 3, (159, 0, 0, 0, 0), [], [])], 0, [])),
  (155, ([(155, .iconst 1, 1, (0, 0, 0, 0, 0), [], []), (156, .goto 4, 3, (160, 0, 0, 0, 0), [], [])], 0, [])),
  (159, ([(159, .iconst 0, 1, (0, 0, 0, 0, 0), [], [])], 160, [])),
  (160, ([(160, .ireturn, 1, (1, 0, 0, 0, 0), [], [])], 0, []))]
def cd_Mod_isRightNow : List (Nat × AB) := [
  (0, ([(0, .aload_n 0, 1, (0, 0, 0, 0, 0), [], []), (1, .getfield 13, 3, (11, 1, 2, 1256, 0), [], []), (4, .bipush 61, 2, (0, 0, 0, 0, 0), [], []), (6, .iload_n 1, 1, (0, 0, 0, 0, 0), [], []), (7, .iadd, 1, (0, 0, 0, 0, 0), [], []), (8, .iaload, 1, (20, 0, 0, 0, 0), [], []), (9, .iconst (-1), 1, (0, 0, 0, 0, 0), [], []), (10, .if_icmp .eq 24, 3, (34, 0, 0, 0, 0), [], [0, 1])], 0, [])),
  (13, ([(13, .aload_n 0, 1, (0, 0, 0, 0, 0), [], []), (14, .iload_n 1, 1, (0, 0, 0, 0, 0), [], []), (15, .aload_n 0, 1, (0, 0, 0, 0, 0), [], []), (16, .getfield 13, 3, (11, 1, 2, 1256, 0), [], []), (19, .bipush 61, 2, (0, 0, 0, 0, 0), [], []), (21, .iload_n 1, 1, (0, 0, 0, 0, 0), [], []), (22, .iadd, 1, (0, 0, 0, 0, 0), [], []), (23, .iaload, 1, (20, 0, 0, 0, 0), [], []), (24, .invokevirtual 236, 3, (113, 3, 10, 11, 1516), [], [6])], 0, [])),
  (27, ([(27, .ifCond .eq 7, 3, (34, 0, 0, 0, 0), [], [])], 0, [])),
  (30, ([(30, .iconst 1, 1, (0, 0, 0, 0, 0), [], []), (31, .goto 4, 3, (35, 0, 0, 0, 0), [], [])], 0, [])),
  (34, ([(34, .iconst 0, 1, (0, 0, 0, 0, 0), [], [])], 35, [])),
  (35, ([(35, .ireturn, 1, (1, 0, 0, 0, 0), [], [])], 0, []))]
def cd_Mod_hook : List (Nat × AB) := [
  (0, ([(0, .aload_n 0, 1, (0, 0, 0, 0, 0), [], []), (1, .iconst 0, 1, (0, 0, 0, 0, 0), [], []), (2, .putfield 1, 3, (11, 0, 0, 1255, 0), [], [])], 5, [0, 1, 2])),
  (5, ([(5, .aload_n 0, 1, (0, 0, 0, 0, 0), [], []), (6, .iload_n 1, 1, (0, 0, 0, 0, 0), [], []), (7, .invokevirtual 240, 3, (108, 2, 10, 11, 1500), [0, 1, 2], [2])], 0, [])),
  (10, ([(10, .ifCond .ne 6, 3, (16, 0, 0, 0, 0), [0, 1, 2], [])], 0, [])),
  (13, ([(13, .bipush (-2), 2, (0, 0, 0, 0, 0), [], []), (15, .ireturn, 1, (0, 0, 0, 0, 0), [], [])], 0, [])),
  (16, ([(16, .iload_n 2, 1, (0, 0, 0, 0, 0), [], []), (17, .tableswitch 101 0 4 #[35, 45, 55, 81, 87], 35, (118, 0, 0, 0, 0), [0, 52, 1, 62, 2, 72, 3, 98, 4, 104], [0, 1])], 0, [])),
  (52, ([(52, .aload_n 0, 1, (0, 0, 0, 0, 0), [], []), (53, .getfield 13, 3, (11, 1, 2, 1256, 0), [], []), (56, .bipush 61, 2, (0, 0, 0, 0, 0), [], []), (58, .iload_n 1, 1, (0, 0, 0, 0, 0), [], []), (59, .iadd, 1, (0, 0, 0, 0, 0), [], []), (60, .iaload, 1, (20, 0, 0, 0, 0), [], []), (61, .ireturn, 1, (0, 0, 0, 0, 0), [], [])], 0, [])),
  (62, ([(62, .aload_n 0, 1, (0, 0, 0, 0, 0), [], []), (63, .getfield 13, 3, (11, 1, 2, 1256, 0), [], []), (66, .bipush 35, 2, (0, 0, 0, 0, 0), [], []), (68, .iload_n 1, 1, (0, 0, 0, 0, 0), [], []), (69, .iadd, 1, (0, 0, 0, 0, 0), [], []), (70, .iaload, 1, (20, 0, 0, 0, 0), [], []), (71, .ireturn, 1, (0, 0, 0, 0, 0), [], [])], 0, [])),
  (72, ([(72, .iload_n 1, 1, (0, 0, 0, 0, 0), [], []), (73, .aload_n 0, 1, (0, 0, 0, 0, 0), [], []), (74, .getfield 13, 3, (11, 1, 2, 1256, 0), [], []), (77, .iconst 1, 1, (0, 0, 0, 0, 0), [], []), (78, .iaload, 1, (20, 0, 0, 0, 0), [], []), (79, .iconst 1, 1, (0, 0, 0, 0, 0), [], []), (80, .isub, 1, (0, 0, 0, 0, 0), [], []), (81, .if_icmp .ne 7, 3, (88, 0, 0, 0, 0), [0, 1], [])], 0, [])),
  (84, ([(84, .iconst (-1), 1, (0, 0, 0, 0, 0), [], []), (85, .goto 12, 3, (97, 0, 0, 0, 0), [], [])], 0, [])),
  (88, ([(88, .aload_n 0, 1, (0, 0, 0, 0, 0), [], []), (89, .getfield 13, 3, (11, 1, 2, 1256, 0), [], []), (92, .bipush 11, 2, (0, 0, 0, 0, 0), [], []), (94, .iload_n 1, 1, (0, 0, 0, 0, 0), [], []), (95, .iadd, 1, (0, 0, 0, 0, 0), [], []), (96, .iaload, 1, (20, 0, 0, 0, 0), [], [])], 97, [])),
  (97, ([(97, .ireturn, 1, (0, 0, 0, 0, 0), [], [])], 0, [])),
  (98, ([(98, .aload_n 0, 1, (0, 0, 0, 0, 0), [], []), (99, .iload_n 1, 1, (0, 0, 0, 0, 0), [], []), (100, .invokevirtual 243, 3, (110, 2, 10, 11, 1504), [], [3])], 0, [])),
  (103, ([(103, .ireturn, 1, (0, 0, 0, 0, 0), [], [])], 0, [])),
  (104, ([(104, .aload_n 0, 1, (0, 0, 0, 0, 0), [], []), (105, .iload_n 1, 1, (0, 0, 0, 0, 0), [], []), (106, .invokevirtual 246, 3, (114, 2, 10, 11, 1512), [], [2])], 0, [])),
  (109, ([(109, .ifCond .eq 7, 3, (116, 0, 0, 0, 0), [], [])], 0, [])),
  (112, ([(112, .iconst 1, 1, (0, 0, 0, 0, 0), [], []), (113, .goto 4, 3, (117, 0, 0, 0, 0), [], [])], 0, [])),
  (116, ([(116, .iconst 0, 1, (0, 0, 0, 0, 0), [], [])], 117, [])),
  (117, ([(117, .ireturn, 1, (0, 0, 0, 0, 0), [], [])], 0, [])),
  (118, ([(118, .bipush (-2), 2, (0, 0, 0, 0, 0), [], []), (120, .ireturn, 1, (0, 0, 0, 0, 0), [], [])], 0, []))]
def cd_Hook_ring : List (Nat × AB) := [
  (0, ([(0, .aload_n 0, 1, (0, 0, 0, 0, 0), [], []), (1, .getfield 33, 3, (10, 5, 2, 359, 0), [], []), (4, .iload_n 1, 1, (0, 0, 0, 0, 0), [], []), (5, .invokevirtual 154, 3, (36, 2, 10, 9, 763), [0, 1, 2], [2])], 0, [])),
  (8, ([(8, .ifCond .ne 6, 3, (14, 0, 0, 0, 0), [0, 1, 2], [])], 0, [])),
  (11, ([(11, .bipush (-2), 2, (0, 0, 0, 0, 0), [], []), (13, .ireturn, 1, (0, 0, 0, 0, 0), [], [])], 0, [])),
  (14, ([(14, .iload_n 2, 1, (0, 0, 0, 0, 0), [], []), (15, .tableswitch 108 0 3 #[29, 42, 52, 91], 29, (123, 0, 0, 0, 0), [0, 44, 1, 57, 2, 67, 3, 106], [0, 1])], 0, [])),
  (44, ([(44, .aload_n 0, 1, (0, 0, 0, 0, 0), [], []), (45, .getfield 43, 3, (10, 7, 2, 361, 0), [], []), (48, .aload_n 0, 1, (0, 0, 0, 0, 0), [], []), (49, .getfield 33, 3, (10, 5, 2, 359, 0), [], []), (52, .iload_n 1, 1, (0, 0, 0, 0, 0), [], []), (53, .invokevirtual 157, 3, (39, 3, 10, 0, 764), [], [4])], 0, [])),
  (56, ([(56, .ireturn, 1, (0, 0, 0, 0, 0), [], [])], 0, [])),
  (57, ([(57, .aload_n 0, 1, (0, 0, 0, 0, 0), [], []), (58, .getfield 33, 3, (10, 5, 2, 359, 0), [], []), (61, .getfield 160, 3, (9, 3, 2, 128, 0), [], []), (64, .iload_n 1, 1, (0, 0, 0, 0, 0), [], []), (65, .iaload, 1, (20, 0, 0, 0, 0), [], []), (66, .ireturn, 1, (0, 0, 0, 0, 0), [], [])], 0, [])),
  (67, ([(67, .iload_n 1, 1, (0, 0, 0, 0, 0), [], []), (68, .iconst 1, 1, (0, 0, 0, 0, 0), [], []), (69, .iadd, 1, (0, 0, 0, 0, 0), [], []), (70, .aload_n 0, 1, (0, 0, 0, 0, 0), [], []), (71, .getfield 33, 3, (10, 5, 2, 359, 0), [], []), (74, .getfield 163, 3, (9, 6, 0, 147, 0), [], []), (77, .if_icmp .ge 27, 3, (104, 0, 0, 0, 0), [], [0, 1])], 0, [])),
  (80, ([(80, .aload_n 0, 1, (0, 0, 0, 0, 0), [], []), (81, .getfield 33, 3, (10, 5, 2, 359, 0), [], []), (84, .getfield 166, 3, (9, 1, 2, 121, 0), [], []), (87, .iload_n 1, 1, (0, 0, 0, 0, 0), [], []), (88, .iconst 1, 1, (0, 0, 0, 0, 0), [], []), (89, .iadd, 1, (0, 0, 0, 0, 0), [], []), (90, .iaload, 1, (20, 0, 0, 0, 0), [], []), (91, .aload_n 0, 1, (0, 0, 0, 0, 0), [], []), (92, .getfield 33, 3, (10, 5, 2, 359, 0), [], []), (95, .getfield 166, 3, (9, 1, 2, 121, 0), [], []), (98, .iload_n 1, 1, (0, 0, 0, 0, 0), [], []), (99, .iaload, 1, (20, 0, 0, 0, 0), [], []), (100, .isub, 1, (0, 0, 0, 0, 0), [], []), (101, .goto 4, 3, (105, 0, 0, 0, 0), [], [])], 0, [])),
  (104, ([(104, .iconst (-1), 1, (0, 0, 0, 0, 0), [], [])], 105, [])),
  (105, ([(105, .ireturn, 1, (0, 0, 0, 0, 0), [], [])], 0, [])),
  (106, ([(106, .aload_n 0, 1, (0, 0, 0, 0, 0), [], []), (107, .getfield 33, 3, (10, 5, 2, 359, 0), [], []), (110, .iload_n 1, 1, (0, 0, 0, 0, 0), [], []), (111, .invokevirtual 169, 3, (38, 2, 10, 9, 765), [], [2])], 0, [])),
  (114, ([(114, .ifCond .eq 7, 3, (121, 0, 0, 0, 0), [], [])], 0, [])),
  (117, ([(117, .iconst 1, 1, (0, 0, 0, 0, 0), [], []), (118, .goto 4, 3, (122, 0, 0, 0, 0), [], [])], 0, [])),
  (121, ([(121, .iconst 0, 1, (0, 0, 0, 0, 0), [], [])], 122, [])),
  (122, ([(122, .ireturn, 1, (0, 0, 0, 0, 0), [], [])], 0, [])),
  (123, ([(123, .bipush (-2), 2, (0, 0, 0, 0, 0), [], []), (125, .ireturn, 1, (0, 0, 0, 0, 0), [], [])], 0, []))]
def cd_Mod_isRing : List (Nat × AB) := [
  (0, ([(0, .lload_n 1, 1, (0, 0, 0, 0, 0), [], []), (1, .lconst 0, 1, (0, 0, 0, 0, 0), [], []), (2, .aload_n 0, 1, (0, 0, 0, 0, 0), [], []), (3, .getfield 13, 3, (11, 1, 2, 1256, 0), [], []), (6, .iconst 2, 1, (0, 0, 0, 0, 0), [], []), (7, .iaload, 1, (20, 0, 0, 0, 0), [], []), (8, .iconst 1, 1, (0, 0, 0, 0, 0), [], []), (9, .isub, 1, (0, 0, 0, 0, 0), [], []), (10, .i2l, 1, (0, 0, 0, 0, 0), [], []), (11, .invokestatic 136, 3, (71, 3, 0, 0, 1372), [], [6])], 0, [])),
  (14, ([(14, .ireturn, 1, (1, 0, 0, 0, 0), [], [])], 0, []))]
def cd_Mod_ring : List (Nat × AB) := [
  (0, ([(0, .aload_n 0, 1, (0, 0, 0, 0, 0), [], []), (1, .iconst 0, 1, (0, 0, 0, 0, 0), [], []), (2, .putfield 1, 3, (11, 0, 0, 1255, 0), [], [])], 5, [0, 1, 2])),
  (5, ([(5, .aload_n 0, 1, (0, 0, 0, 0, 0), [], []), (6, .iload_n 1, 1, (0, 0, 0, 0, 0), [], []), (7, .i2l, 1, (0, 0, 0, 0, 0), [], []), (8, .invokevirtual 249, 3, (117, 2, 10, 11, 1533), [0, 1, 2], [3])], 0, [])),
  (11, ([(11, .ifCond .ne 6, 3, (17, 0, 0, 0, 0), [0, 1, 2], [])], 0, [])),
  (14, ([(14, .bipush (-2), 2, (0, 0, 0, 0, 0), [], []), (16, .ireturn, 1, (0, 0, 0, 0, 0), [], [])], 0, [])),
  (17, ([(17, .iload_n 2, 1, (0, 0, 0, 0, 0), [], []), (18, .tableswitch 96 0 3 #[30, 39, 49, 75], 30, (114, 0, 0, 0, 0), [0, 48, 1, 57, 2, 67, 3, 93], [0, 1])], 0, [])),
  (48, ([(48, .aload_n 0, 1, (0, 0, 0, 0, 0), [], []), (49, .getfield 13, 3, (11, 1, 2, 1256, 0), [], []), (52, .iload_n 1, 1, (0, 0, 0, 0, 0), [], []), (53, .invokestatic 210, 3, (95, 2, 0, 0, 1483), [], [3])], 0, [])),
  (56, ([(56, .ireturn, 1, (0, 0, 0, 0, 0), [], [])], 0, [])),
  (57, ([(57, .aload_n 0, 1, (0, 0, 0, 0, 0), [], []), (58, .getfield 13, 3, (11, 1, 2, 1256, 0), [], []), (61, .bipush 47, 2, (0, 0, 0, 0, 0), [], []), (63, .iload_n 1, 1, (0, 0, 0, 0, 0), [], []), (64, .iadd, 1, (0, 0, 0, 0, 0), [], []), (65, .iaload, 1, (20, 0, 0, 0, 0), [], []), (66, .ireturn, 1, (0, 0, 0, 0, 0), [], [])], 0, [])),
  (67, ([(67, .iload_n 1, 1, (0, 0, 0, 0, 0), [], []), (68, .aload_n 0, 1, (0, 0, 0, 0, 0), [], []), (69, .getfield 13, 3, (11, 1, 2, 1256, 0), [], []), (72, .iconst 2, 1, (0, 0, 0, 0, 0), [], []), (73, .iaload, 1, (20, 0, 0, 0, 0), [], []), (74, .iconst 1, 1, (0, 0, 0, 0, 0), [], []), (75, .isub, 1, (0, 0, 0, 0, 0), [], []), (76, .if_icmp .ne 7, 3, (83, 0, 0, 0, 0), [0, 1], [])], 0, [])),
  (79, ([(79, .iconst (-1), 1, (0, 0, 0, 0, 0), [], []), (80, .goto 12, 3, (92, 0, 0, 0, 0), [], [])], 0, [])),
  (83, ([(83, .aload_n 0, 1, (0, 0, 0, 0, 0), [], []), (84, .getfield 13, 3, (11, 1, 2, 1256, 0), [], []), (87, .bipush 23, 2, (0, 0, 0, 0, 0), [], []), (89, .iload_n 1, 1, (0, 0, 0, 0, 0), [], []), (90, .iadd, 1, (0, 0, 0, 0, 0), [], []), (91, .iaload, 1, (20, 0, 0, 0, 0), [], [])], 92, [])),
  (92, ([(92, .ireturn, 1, (0, 0, 0, 0, 0), [], [])], 0, [])),
  (93, ([(93, .aload_n 0, 1, (0, 0, 0, 0, 0), [], []), (94, .getfield 13, 3, (11, 1, 2, 1256, 0), [], []), (97, .bipush 10, 2, (0, 0, 0, 0, 0), [], []), (99, .iaload, 1, (20, 0, 0, 0, 0), [], []), (100, .i2l, 1, (0, 0, 0, 0, 0), [], []), (101, .iload_n 1, 1, (0, 0, 0, 0, 0), [], []), (102, .invokestatic 214, 3, (96, 2, 0, 0, 1486), [], [3])], 0, [])),
  (105, ([(105, .ifCond .eq 7, 3, (112, 0, 0, 0, 0), [], [])], 0, [])),
  (108, ([(108, .iconst 1, 1, (0, 0, 0, 0, 0), [], []), (109, .goto 4, 3, (113, 0, 0, 0, 0), [], [])], 0, [])),
  (112, ([(112, .iconst 0, 1, (0, 0, 0, 0, 0), [], [])], 113, [])),
  (113, ([(113, .ireturn, 1, (0, 0, 0, 0, 0), [], [])], 0, [])),
  (114, ([(114, .bipush (-2), 2, (0, 0, 0, 0, 0), [], []), (116, .ireturn, 1, (0, 0, 0, 0, 0), [], [])], 0, []))]
def cd_Hook_belongs : List (Nat × AB) := [
  (0, ([(0, .aload_n 0, 1, (0, 0, 0, 0, 0), [], []), (1, .getfield 33, 3, (10, 5, 2, 359, 0), [], []), (4, .iload_n 1, 1, (0, 0, 0, 0, 0), [], []), (5, .invokevirtual 130, 3, (35, 2, 10, 9, 744), [0, 1, 2], [2])], 0, [])),
  (8, ([(8, .ifCond .eq 14, 3, (22, 0, 0, 0, 0), [], [0, 1, 2])], 0, [])),
  (11, ([(11, .aload_n 0, 1, (0, 0, 0, 0, 0), [], []), (12, .getfield 33, 3, (10, 5, 2, 359, 0), [], []), (15, .iload_n 2, 1, (0, 0, 0, 0, 0), [], []), (16, .invokevirtual 154, 3, (36, 2, 10, 9, 763), [0, 1, 2], [2])], 0, [])),
  (19, ([(19, .ifCond .ne 6, 3, (25, 0, 0, 0, 0), [0, 1, 2], [])], 0, [])),
  (22, ([(22, .bipush (-2), 2, (0, 0, 0, 0, 0), [], []), (24, .ireturn, 1, (0, 0, 0, 0, 0), [], [])], 0, [])),
  (25, ([(25, .aload_n 0, 1, (0, 0, 0, 0, 0), [], []), (26, .getfield 33, 3, (10, 5, 2, 359, 0), [], []), (29, .iload_n 1, 1, (0, 0, 0, 0, 0), [], []), (30, .iload_n 2, 1, (0, 0, 0, 0, 0), [], []), (31, .invokevirtual 172, 3, (105, 3, 10, 9, 770), [], [3])], 0, [])),
  (34, ([(34, .ifCond .eq 7, 3, (41, 0, 0, 0, 0), [], [])], 0, [])),
  (37, ([(37, .iconst 1, 1, (0, 0, 0, 0, 0), [], []), (38, .goto 4, 3, (42, 0, 0, 0, 0), [], [])], 0, [])),
  (41, ([(41, .iconst 0, 1, (0, 0, 0, 0, 0), [], [])], 42, [])),
  (42, ([(42, .ireturn, 1, (0, 0, 0, 0, 0), [], [])], 0, []))]
def cd_Mod_belongs : List (Nat × AB) := [
  (0, ([(0, .aload_n 0, 1, (0, 0, 0, 0, 0), [], []), (1, .iconst 0, 1, (0, 0, 0, 0, 0), [], []), (2, .putfield 1, 3, (11, 0, 0, 1255, 0), [], [])], 5, [0, 1, 2])),
  (5, ([(5, .aload_n 0, 1, (0, 0, 0, 0, 0), [], []), (6, .iload_n 1, 1, (0, 0, 0, 0, 0), [], []), (7, .invokevirtual 240, 3, (108, 2, 10, 11, 1500), [0, 1, 2], [2])], 0, [])),
  (10, ([(10, .ifCond .eq 12, 3, (22, 0, 0, 0, 0), [], [0, 1, 2])], 0, [])),
  (13, ([(13, .aload_n 0, 1, (0, 0, 0, 0, 0), [], []), (14, .iload_n 2, 1, (0, 0, 0, 0, 0), [], []), (15, .i2l, 1, (0, 0, 0, 0, 0), [], []), (16, .invokevirtual 249, 3, (117, 2, 10, 11, 1533), [0, 1, 2], [3])], 0, [])),
  (19, ([(19, .ifCond .ne 6, 3, (25, 0, 0, 0, 0), [0, 1, 2], [])], 0, [])),
  (22, ([(22, .bipush (-2), 2, (0, 0, 0, 0, 0), [], []), (24, .ireturn, 1, (0, 0, 0, 0, 0), [], [])], 0, [])),
  (25, ([(25, .aload_n 0, 1, (0, 0, 0, 0, 0), [], []), (26, .iload_n 1, 1, (0, 0, 0, 0, 0), [], []), (27, .iload_n 2, 1, (0, 0, 0, 0, 0), [], []), (28, .invokevirtual 236, 3, (113, 3, 10, 11, 1516), [], [6])], 0, [])),
  (31, ([(31, .ifCond .eq 7, 3, (38, 0, 0, 0, 0), [], [])], 0, [])),
  (34, ([(34, .iconst 1, 1, (0, 0, 0, 0, 0), [], []), (35, .goto 4, 3, (39, 0, 0, 0, 0), [], [])], 0, [])),
  (38, ([(38, .iconst 0, 1, (0, 0, 0, 0, 0), [], [])], 39, [])),
  (39, ([(39, .ireturn, 1, (0, 0, 0, 0, 0), [], [])], 0, []))]
def cd_Hanging_joinedIn : List (Nat × AB) := [
  (0, ([(0, .iconst 0, 1, (0, 0, 0, 0, 0), [], []), (1, .istore_n 2, 1, (0, 0, 0, 0, 0), [], []), (2, .iconst 0, 1, (0, 0, 0, 0, 0), [], []), (3, .istore_n 3, 1, (0, 0, 0, 0, 0), [], [])], 4, [0, 1, 2, 3])),
  (4, ([(4, .iload_n 3, 1, (0, 0, 0, 0, 0), [], []), (5, .aload_n 1, 1, (0, 0, 0, 0, 0), [], []), (6, .getfield 47, 3, (9, 5, 0, 136, 0), [], []), (9, .if_icmp .ge 20, 3, (29, 0, 0, 0, 0), [2], [0, 1, 2, 3])], 0, [])),
  (12, ([(12, .aload_n 0, 1, (0, 0, 0, 0, 0), [], []), (13, .iload_n 3, 1, (0, 0, 0, 0, 0), [], []), (14, .invokevirtual 37, 3, (37, 2, 10, 0, 618), [0, 1, 2, 3], [2])], 0, [])),
  (17, ([(17, .ifCond .eq 6, 3, (23, 0, 0, 0, 0), [0, 1, 2, 3], [0, 1, 2, 3])], 0, [])),
  (20, ([(20, .iinc 2 1, 3, (0, 0, 0, 0, 0), [], [])], 23, [0, 1, 2, 3])),
  (23, ([(23, .iinc 3 1, 3, (0, 0, 0, 0, 0), [], []), (26, .goto (-22), 3, (4, 0, 0, 0, 0), [0, 1, 2, 3], [])], 0, [])),
  (29, ([(29, .iload_n 2, 1, (0, 0, 0, 0, 0), [], []), (30, .ireturn, 1, (0, 0, 0, 0, 0), [], [])], 0, []))]
def cd_Hanging_rightIn : List (Nat × AB) := [
  (0, ([(0, .iconst 0, 1, (0, 0, 0, 0, 0), [], []), (1, .istore_n 2, 1, (0, 0, 0, 0, 0), [], []), (2, .iconst 0, 1, (0, 0, 0, 0, 0), [], []), (3, .istore_n 3, 1, (0, 0, 0, 0, 0), [], [])], 4, [0, 1, 2, 3])),
  (4, ([(4, .iload_n 3, 1, (0, 0, 0, 0, 0), [], []), (5, .aload_n 1, 1, (0, 0, 0, 0, 0), [], []), (6, .getfield 47, 3, (9, 5, 0, 136, 0), [], []), (9, .if_icmp .ge 21, 3, (30, 0, 0, 0, 0), [2], [0, 1, 2, 3])], 0, [])),
  (12, ([(12, .aload_n 0, 1, (0, 0, 0, 0, 0), [], []), (13, .aload_n 1, 1, (0, 0, 0, 0, 0), [], []), (14, .iload_n 3, 1, (0, 0, 0, 0, 0), [], []), (15, .invokevirtual 50, 3, (106, 3, 10, 0, 783), [0, 1, 2, 3], [3])], 0, [])),
  (18, ([(18, .ifCond .eq 6, 3, (24, 0, 0, 0, 0), [0, 1, 2, 3], [0, 1, 2, 3])], 0, [])),
  (21, ([(21, .iinc 2 1, 3, (0, 0, 0, 0, 0), [], [])], 24, [0, 1, 2, 3])),
  (24, ([(24, .iinc 3 1, 3, (0, 0, 0, 0, 0), [], []), (27, .goto (-23), 3, (4, 0, 0, 0, 0), [0, 1, 2, 3], [])], 0, [])),
  (30, ([(30, .iload_n 2, 1, (0, 0, 0, 0, 0), [], []), (31, .ireturn, 1, (0, 0, 0, 0, 0), [], [])], 0, []))]
def cd_Hanging_greatestSag : List (Nat × AB) := [
  (0, ([(0, .iconst 0, 1, (0, 0, 0, 0, 0), [], []), (1, .istore_n 2, 1, (0, 0, 0, 0, 0), [], []), (2, .iconst 0, 1, (0, 0, 0, 0, 0), [], []), (3, .istore_n 3, 1, (0, 0, 0, 0, 0), [], [])], 4, [0, 1, 2, 3])),
  (4, ([(4, .iload_n 3, 1, (0, 0, 0, 0, 0), [], []), (5, .aload_n 1, 1, (0, 0, 0, 0, 0), [], []), (6, .getfield 47, 3, (9, 5, 0, 136, 0), [], []), (9, .if_icmp .ge 20, 3, (29, 0, 0, 0, 0), [2], [0, 1, 2, 3])], 0, [])),
  (12, ([(12, .iload_n 2, 1, (0, 0, 0, 0, 0), [], []), (13, .aload_n 0, 1, (0, 0, 0, 0, 0), [], []), (14, .aload_n 1, 1, (0, 0, 0, 0, 0), [], []), (15, .iload_n 3, 1, (0, 0, 0, 0, 0), [], []), (16, .invokevirtual 62, 3, (104, 3, 10, 0, 788), [0, 1, 3], [4])], 0, [])),
  (19, ([(19, .invokestatic 65, 3, (21, 2, 0, 0, 789), [0, 1, 3], [2])], 0, [])),
  (22, ([(22, .istore_n 2, 1, (0, 0, 0, 0, 0), [], []), (23, .iinc 3 1, 3, (0, 0, 0, 0, 0), [], []), (26, .goto (-22), 3, (4, 0, 0, 0, 0), [0, 1, 2, 3], [])], 0, [])),
  (29, ([(29, .iload_n 2, 1, (0, 0, 0, 0, 0), [], []), (30, .ireturn, 1, (0, 0, 0, 0, 0), [], [])], 0, []))]
def cd_Hanging_sagSum : List (Nat × AB) := [
  (0, ([(0, .iconst 0, 1, (0, 0, 0, 0, 0), [], []), (1, .istore_n 3, 1, (0, 0, 0, 0, 0), [], []), (2, .iconst 0, 1, (0, 0, 0, 0, 0), [], []), (3, .istore 4, 2, (0, 0, 0, 0, 0), [], [])], 5, [0, 1, 2, 3, 4])),
  (5, ([(5, .iload 4, 2, (0, 0, 0, 0, 0), [], []), (7, .aload_n 1, 1, (0, 0, 0, 0, 0), [], []), (8, .getfield 47, 3, (9, 5, 0, 136, 0), [], []), (11, .if_icmp .ge 41, 3, (52, 0, 0, 0, 0), [3], [0, 1, 2, 3, 4])], 0, [])),
  (14, ([(14, .aload_n 0, 1, (0, 0, 0, 0, 0), [], []), (15, .aload_n 1, 1, (0, 0, 0, 0, 0), [], []), (16, .iload 4, 2, (0, 0, 0, 0, 0), [], []), (18, .invokevirtual 62, 3, (104, 3, 10, 0, 788), [0, 1, 2, 3, 4], [4])], 0, [])),
  (21, ([(21, .istore 5, 2, (0, 0, 0, 0, 0), [], []), (23, .iload 5, 2, (0, 0, 0, 0, 0), [], []), (25, .iconst (-1), 1, (0, 0, 0, 0, 0), [], []), (26, .if_icmp .eq 20, 3, (46, 0, 0, 0, 0), [0, 1, 2, 3, 4], [0, 1, 2, 3, 4, 5])], 0, [])),
  (29, ([(29, .iload_n 3, 1, (0, 0, 0, 0, 0), [], []), (30, .iload_n 2, 1, (0, 0, 0, 0, 0), [], []), (31, .ifCond .eq 11, 3, (42, 0, 0, 0, 0), [0, 1, 2, 4, 5], [0, 1, 2, 4, 5])], 0, [])),
  (34, ([(34, .iload 5, 2, (0, 0, 0, 0, 0), [], []), (36, .iload 5, 2, (0, 0, 0, 0, 0), [], []), (38, .imul, 1, (0, 0, 0, 0, 0), [], []), (39, .goto 5, 3, (44, 0, 0, 0, 0), [0, 1, 2, 4], [])], 0, [])),
  (42, ([(42, .iload 5, 2, (0, 0, 0, 0, 0), [], [])], 44, [0, 1, 2, 4])),
  (44, ([(44, .iadd, 1, (0, 0, 0, 0, 0), [], []), (45, .istore_n 3, 1, (0, 0, 0, 0, 0), [], [])], 46, [0, 1, 2, 3, 4])),
  (46, ([(46, .iinc 4 1, 3, (0, 0, 0, 0, 0), [], []), (49, .goto (-44), 3, (5, 0, 0, 0, 0), [0, 1, 2, 3, 4], [])], 0, [])),
  (52, ([(52, .iload_n 3, 1, (0, 0, 0, 0, 0), [], []), (53, .ireturn, 1, (0, 0, 0, 0, 0), [], [])], 0, []))]
def cd_Hook_sags : List (Nat × AB) := [
  (0, ([(0, .iload_n 1, 1, (0, 0, 0, 0, 0), [], []), (1, .tableswitch 97 0 4 #[35, 47, 59, 71, 84], 35, (98, 0, 0, 0, 0), [0, 36, 1, 48, 2, 60, 3, 72, 4, 85], [0])], 0, [])),
  (36, ([(36, .aload_n 0, 1, (0, 0, 0, 0, 0), [], []), (37, .getfield 43, 3, (10, 7, 2, 361, 0), [], []), (40, .aload_n 0, 1, (0, 0, 0, 0, 0), [], []), (41, .getfield 33, 3, (10, 5, 2, 359, 0), [], []), (44, .invokevirtual 176, 3, (121, 2, 10, 0, 775), [], [4])], 0, [])),
  (47, ([(47, .ireturn, 1, (0, 0, 0, 0, 0), [], [])], 0, [])),
  (48, ([(48, .aload_n 0, 1, (0, 0, 0, 0, 0), [], []), (49, .getfield 43, 3, (10, 7, 2, 361, 0), [], []), (52, .aload_n 0, 1, (0, 0, 0, 0, 0), [], []), (53, .getfield 33, 3, (10, 5, 2, 359, 0), [], []), (56, .invokevirtual 180, 3, (122, 2, 10, 0, 779), [], [4])], 0, [])),
  (59, ([(59, .ireturn, 1, (0, 0, 0, 0, 0), [], [])], 0, [])),
  (60, ([(60, .aload_n 0, 1, (0, 0, 0, 0, 0), [], []), (61, .getfield 43, 3, (10, 7, 2, 361, 0), [], []), (64, .aload_n 0, 1, (0, 0, 0, 0, 0), [], []), (65, .getfield 33, 3, (10, 5, 2, 359, 0), [], []), (68, .invokevirtual 183, 3, (123, 2, 10, 0, 784), [], [4])], 0, [])),
  (71, ([(71, .ireturn, 1, (0, 0, 0, 0, 0), [], [])], 0, [])),
  (72, ([(72, .aload_n 0, 1, (0, 0, 0, 0, 0), [], []), (73, .getfield 43, 3, (10, 7, 2, 361, 0), [], []), (76, .aload_n 0, 1, (0, 0, 0, 0, 0), [], []), (77, .getfield 33, 3, (10, 5, 2, 359, 0), [], []), (80, .iconst 0, 1, (0, 0, 0, 0, 0), [], []), (81, .invokevirtual 186, 3, (124, 3, 10, 0, 790), [], [6])], 0, [])),
  (84, ([(84, .ireturn, 1, (0, 0, 0, 0, 0), [], [])], 0, [])),
  (85, ([(85, .aload_n 0, 1, (0, 0, 0, 0, 0), [], []), (86, .getfield 43, 3, (10, 7, 2, 361, 0), [], []), (89, .aload_n 0, 1, (0, 0, 0, 0, 0), [], []), (90, .getfield 33, 3, (10, 5, 2, 359, 0), [], []), (93, .iconst 1, 1, (0, 0, 0, 0, 0), [], []), (94, .invokevirtual 186, 3, (124, 3, 10, 0, 790), [], [6])], 0, [])),
  (97, ([(97, .ireturn, 1, (0, 0, 0, 0, 0), [], [])], 0, [])),
  (98, ([(98, .bipush (-2), 2, (0, 0, 0, 0, 0), [], []), (100, .ireturn, 1, (0, 0, 0, 0, 0), [], [])], 0, []))]
def cd_Mod_joinedMany : List (Nat × AB) := [
  (0, ([(0, .iconst 0, 1, (0, 0, 0, 0, 0), [], []), (1, .istore_n 1, 1, (0, 0, 0, 0, 0), [], []), (2, .iconst 0, 1, (0, 0, 0, 0, 0), [], []), (3, .istore_n 2, 1, (0, 0, 0, 0, 0), [], [])], 4, [0, 1, 2])),
  (4, ([(4, .iload_n 2, 1, (0, 0, 0, 0, 0), [], []), (5, .aload_n 0, 1, (0, 0, 0, 0, 0), [], []), (6, .getfield 13, 3, (11, 1, 2, 1256, 0), [], []), (9, .iconst 1, 1, (0, 0, 0, 0, 0), [], []), (10, .iaload, 1, (20, 0, 0, 0, 0), [], []), (11, .if_icmp .ge 30, 3, (41, 0, 0, 0, 0), [1], [0, 1, 2])], 0, [])),
  (14, ([(14, .iload_n 1, 1, (0, 0, 0, 0, 0), [], []), (15, .aload_n 0, 1, (0, 0, 0, 0, 0), [], []), (16, .getfield 13, 3, (11, 1, 2, 1256, 0), [], []), (19, .bipush 61, 2, (0, 0, 0, 0, 0), [], []), (21, .iload_n 2, 1, (0, 0, 0, 0, 0), [], []), (22, .iadd, 1, (0, 0, 0, 0, 0), [], []), (23, .iaload, 1, (20, 0, 0, 0, 0), [], []), (24, .iconst (-1), 1, (0, 0, 0, 0, 0), [], []), (25, .if_icmp .ne 7, 3, (32, 0, 0, 0, 0), [0, 2], [0, 2])], 0, [])),
  (28, ([(28, .iconst 0, 1, (0, 0, 0, 0, 0), [], []), (29, .goto 4, 3, (33, 0, 0, 0, 0), [0, 2], [])], 0, [])),
  (32, ([(32, .iconst 1, 1, (0, 0, 0, 0, 0), [], [])], 33, [0, 2])),
  (33, ([(33, .iadd, 1, (0, 0, 0, 0, 0), [], []), (34, .istore_n 1, 1, (0, 0, 0, 0, 0), [], []), (35, .iinc 2 1, 3, (0, 0, 0, 0, 0), [], []), (38, .goto (-34), 3, (4, 0, 0, 0, 0), [0, 1, 2], [])], 0, [])),
  (41, ([(41, .iload_n 1, 1, (0, 0, 0, 0, 0), [], []), (42, .ireturn, 1, (0, 0, 0, 0, 0), [], [])], 0, []))]
def cd_Mod_sags : List (Nat × AB) := [
  (0, ([(0, .aload_n 0, 1, (0, 0, 0, 0, 0), [], []), (1, .iconst 0, 1, (0, 0, 0, 0, 0), [], []), (2, .putfield 1, 3, (11, 0, 0, 1255, 0), [], [])], 5, [0, 1])),
  (5, ([(5, .iload_n 1, 1, (0, 0, 0, 0, 0), [], []), (6, .i2l, 1, (0, 0, 0, 0, 0), [], []), (7, .lconst 0, 1, (0, 0, 0, 0, 0), [], []), (8, .ldc2_w 253, 3, (0, 0, 0, 1545, 4), [], []), (11, .invokestatic 136, 3, (71, 3, 0, 0, 1372), [0, 1], [6])], 0, [])),
  (14, ([(14, .ifCond .ne 6, 3, (20, 0, 0, 0, 0), [0, 1], [])], 0, [])),
  (17, ([(17, .bipush (-2), 2, (0, 0, 0, 0, 0), [], []), (19, .ireturn, 1, (0, 0, 0, 0, 0), [], [])], 0, [])),
  (20, ([(20, .iload_n 1, 1, (0, 0, 0, 0, 0), [], []), (21, .ifCond .ne 8, 3, (29, 0, 0, 0, 0), [0, 1], [0])], 0, [])),
  (24, ([(24, .aload_n 0, 1, (0, 0, 0, 0, 0), [], []), (25, .invokevirtual 255, 3, (126, 1, 10, 11, 1546), [], [3])], 0, [])),
  (28, ([(28, .ireturn, 1, (0, 0, 0, 0, 0), [], [])], 0, [])),
  (29, ([(29, .iconst 0, 1, (0, 0, 0, 0, 0), [], []), (30, .istore_n 2, 1, (0, 0, 0, 0, 0), [], []), (31, .iconst 0, 1, (0, 0, 0, 0, 0), [], []), (32, .istore_n 3, 1, (0, 0, 0, 0, 0), [], [])], 33, [0, 1, 2, 3])),
  (33, ([(33, .iload_n 3, 1, (0, 0, 0, 0, 0), [], []), (34, .aload_n 0, 1, (0, 0, 0, 0, 0), [], []), (35, .getfield 13, 3, (11, 1, 2, 1256, 0), [], []), (38, .iconst 1, 1, (0, 0, 0, 0, 0), [], []), (39, .iaload, 1, (20, 0, 0, 0, 0), [], []), (40, .if_icmp .ge 84, 3, (124, 0, 0, 0, 0), [2], [0, 1, 2, 3])], 0, [])),
  (43, ([(43, .aload_n 0, 1, (0, 0, 0, 0, 0), [], []), (44, .iload_n 3, 1, (0, 0, 0, 0, 0), [], []), (45, .invokevirtual 243, 3, (110, 2, 10, 11, 1504), [0, 1, 2, 3], [3])], 0, [])),
  (48, ([(48, .istore 4, 2, (0, 0, 0, 0, 0), [], []), (50, .iload_n 1, 1, (0, 0, 0, 0, 0), [], []), (51, .iconst 1, 1, (0, 0, 0, 0, 0), [], []), (52, .if_icmp .ne 22, 3, (74, 0, 0, 0, 0), [0, 1, 2, 3, 4], [0, 1, 2, 3])], 0, [])),
  (55, ([(55, .iload_n 2, 1, (0, 0, 0, 0, 0), [], []), (56, .aload_n 0, 1, (0, 0, 0, 0, 0), [], []), (57, .iload_n 3, 1, (0, 0, 0, 0, 0), [], []), (58, .invokevirtual 246, 3, (114, 2, 10, 11, 1512), [0, 1, 3], [2])], 0, [])),
  (61, ([(61, .ifCond .eq 7, 3, (68, 0, 0, 0, 0), [0, 1, 3], [0, 1, 3])], 0, [])),
  (64, ([(64, .iconst 1, 1, (0, 0, 0, 0, 0), [], []), (65, .goto 4, 3, (69, 0, 0, 0, 0), [0, 1, 3], [])], 0, [])),
  (68, ([(68, .iconst 0, 1, (0, 0, 0, 0, 0), [], [])], 69, [0, 1, 3])),
  (69, ([(69, .iadd, 1, (0, 0, 0, 0, 0), [], []), (70, .istore_n 2, 1, (0, 0, 0, 0, 0), [], []), (71, .goto 47, 3, (118, 0, 0, 0, 0), [0, 1, 2, 3], [])], 0, [])),
  (74, ([(74, .iload 4, 2, (0, 0, 0, 0, 0), [], []), (76, .iconst (-1), 1, (0, 0, 0, 0, 0), [], []), (77, .if_icmp .eq 41, 3, (118, 0, 0, 0, 0), [0, 1, 2, 3], [0, 1, 2, 3, 4])], 0, [])),
  (80, ([(80, .iload_n 1, 1, (0, 0, 0, 0, 0), [], []), (81, .iconst 2, 1, (0, 0, 0, 0, 0), [], []), (82, .if_icmp .ne 18, 3, (100, 0, 0, 0, 0), [0, 1, 2, 3, 4], [0, 1, 2, 3, 4])], 0, [])),
  (85, ([(85, .iload 4, 2, (0, 0, 0, 0, 0), [], []), (87, .iload_n 2, 1, (0, 0, 0, 0, 0), [], []), (88, .if_icmp .le 8, 3, (96, 0, 0, 0, 0), [0, 1, 2, 3], [0, 1, 3, 4])], 0, [])),
  (91, ([(91, .iload 4, 2, (0, 0, 0, 0, 0), [], []), (93, .goto 24, 3, (117, 0, 0, 0, 0), [0, 1, 3], [])], 0, [])),
  (96, ([(96, .iload_n 2, 1, (0, 0, 0, 0, 0), [], []), (97, .goto 20, 3, (117, 0, 0, 0, 0), [0, 1, 3], [])], 0, [])),
  (100, ([(100, .iload_n 2, 1, (0, 0, 0, 0, 0), [], []), (101, .iload_n 1, 1, (0, 0, 0, 0, 0), [], []), (102, .iconst 3, 1, (0, 0, 0, 0, 0), [], []), (103, .if_icmp .ne 8, 3, (111, 0, 0, 0, 0), [0, 1, 3, 4], [0, 1, 3, 4])], 0, [])),
  (106, ([(106, .iload 4, 2, (0, 0, 0, 0, 0), [], []), (108, .goto 8, 3, (116, 0, 0, 0, 0), [0, 1, 3], [])], 0, [])),
  (111, ([(111, .iload 4, 2, (0, 0, 0, 0, 0), [], []), (113, .iload 4, 2, (0, 0, 0, 0, 0), [], []), (115, .imul, 1, (0, 0, 0, 0, 0), [], [])], 116, [0, 1, 3])),
  (116, ([(116, .iadd, 1, (0, 0, 0, 0, 0), [], [])], 117, [0, 1, 3])),
  (117, ([(117, .istore_n 2, 1, (0, 0, 0, 0, 0), [], [])], 118, [0, 1, 2, 3])),
  (118, ([(118, .iinc 3 1, 3, (0, 0, 0, 0, 0), [], []), (121, .goto (-88), 3, (33, 0, 0, 0, 0), [0, 1, 2, 3], [])], 0, [])),
  (124, ([(124, .iload_n 2, 1, (0, 0, 0, 0, 0), [], []), (125, .ireturn, 1, (0, 0, 0, 0, 0), [], [])], 0, []))]
def cd_Hook_why : List (Nat × AB) := [
  (0, ([(0, .aload_n 0, 1, (0, 0, 0, 0, 0), [], []), (1, .getfield 43, 3, (10, 7, 2, 361, 0), [], []), (4, .aload_n 0, 1, (0, 0, 0, 0, 0), [], []), (5, .getfield 33, 3, (10, 5, 2, 359, 0), [], []), (8, .iload_n 1, 1, (0, 0, 0, 0, 0), [], []), (9, .iload_n 2, 1, (0, 0, 0, 0, 0), [], []), (10, .invokevirtual 190, 3, (43, 4, 10, 0, 798), [], [6])], 0, [])),
  (13, ([(13, .ireturn, 1, (0, 0, 0, 0, 0), [], [])], 0, []))]
def cd_Mod_why : List (Nat × AB) := [
  (0, ([(0, .aload_n 0, 1, (0, 0, 0, 0, 0), [], []), (1, .iconst 0, 1, (0, 0, 0, 0, 0), [], []), (2, .putfield 1, 3, (11, 0, 0, 1255, 0), [], [])], 5, [0, 1, 2])),
  (5, ([(5, .aload_n 0, 1, (0, 0, 0, 0, 0), [], []), (6, .getfield 13, 3, (11, 1, 2, 1256, 0), [], []), (9, .iload_n 1, 1, (0, 0, 0, 0, 0), [], []), (10, .iload_n 2, 1, (0, 0, 0, 0, 0), [], []), (11, .invokestatic 177, 3, (98, 3, 0, 0, 1480), [], [6])], 0, [])),
  (14, ([(14, .ireturn, 1, (0, 0, 0, 0, 0), [], [])], 0, []))]
def cd_History_push : List (Nat × AB) := [
  (0, ([(0, .aload_n 0, 1, (0, 0, 0, 0, 0), [], []), (1, .getfield 15, 3, (1, 1, 0, 243, 0), [], []), (4, .bipush 14, 2, (0, 0, 0, 0, 0), [], []), (6, .imul, 1, (0, 0, 0, 0, 0), [], []), (7, .istore_n 2, 1, (0, 0, 0, 0, 0), [], []), (8, .aload_n 1, 1, (0, 0, 0, 0, 0), [], []), (9, .getfield 22, 3, (0, 0, 2, 219, 0), [], []), (12, .iconst 0, 1, (0, 0, 0, 0, 0), [], []), (13, .aload_n 0, 1, (0, 0, 0, 0, 0), [], []), (14, .getfield 11, 3, (1, 0, 2, 242, 0), [], []), (17, .iload_n 2, 1, (0, 0, 0, 0, 0), [], []), (18, .bipush 12, 2, (0, 0, 0, 0, 0), [], []), (20, .invokestatic 27, 3, (0, 5, 3, 0, 807), [], [])], 23, [0, 1, 2])),
  (23, ([(23, .aload_n 0, 1, (0, 0, 0, 0, 0), [], []), (24, .getfield 11, 3, (1, 0, 2, 242, 0), [], []), (27, .iload_n 2, 1, (0, 0, 0, 0, 0), [], []), (28, .bipush 12, 2, (0, 0, 0, 0, 0), [], []), (30, .iadd, 1, (0, 0, 0, 0, 0), [], []), (31, .aload_n 1, 1, (0, 0, 0, 0, 0), [], []), (32, .getfield 33, 3, (0, 1, 0, 224, 0), [], []), (35, .iastore, 1, (0, 0, 0, 0, 0), [], [])], 36, [0, 1, 2])),
  (36, ([(36, .aload_n 0, 1, (0, 0, 0, 0, 0), [], []), (37, .getfield 11, 3, (1, 0, 2, 242, 0), [], []), (40, .iload_n 2, 1, (0, 0, 0, 0, 0), [], []), (41, .bipush 13, 2, (0, 0, 0, 0, 0), [], []), (43, .iadd, 1, (0, 0, 0, 0, 0), [], []), (44, .aload_n 1, 1, (0, 0, 0, 0, 0), [], []), (45, .getfield 36, 3, (0, 2, 0, 227, 0), [], []), (48, .iastore, 1, (0, 0, 0, 0, 0), [], [])], 49, [0])),
  (49, ([(49, .aload_n 0, 1, (0, 0, 0, 0, 0), [], []), (50, .aload_n 0, 1, (0, 0, 0, 0, 0), [], []), (51, .getfield 15, 3, (1, 1, 0, 243, 0), [], []), (54, .iconst 1, 1, (0, 0, 0, 0, 0), [], []), (55, .iadd, 1, (0, 0, 0, 0, 0), [], []), (56, .bipush 10, 2, (0, 0, 0, 0, 0), [], []), (58, .irem, 1, (0, 0, 0, 0, 0), [], []), (59, .putfield 15, 3, (1, 1, 0, 243, 0), [], [])], 62, [0])),
  (62, ([(62, .aload_n 0, 1, (0, 0, 0, 0, 0), [], []), (63, .aload_n 0, 1, (0, 0, 0, 0, 0), [], []), (64, .getfield 19, 3, (1, 2, 0, 244, 0), [], []), (67, .iconst 1, 1, (0, 0, 0, 0, 0), [], []), (68, .iadd, 1, (0, 0, 0, 0, 0), [], []), (69, .bipush 10, 2, (0, 0, 0, 0, 0), [], []), (71, .invokestatic 39, 3, (20, 2, 0, 0, 808), [], [2])], 0, [])),
  (74, ([(74, .putfield 19, 3, (1, 2, 0, 244, 0), [], [])], 77, [])),
  (77, ([(77, .return_, 1, (0, 0, 0, 0, 0), [], [])], 0, []))]
def cd_Window_chairFor : List (Nat × AB) := [
  (0, ([(0, .iload_n 2, 1, (0, 0, 0, 0, 0), [], []), (1, .iload_n 1, 1, (0, 0, 0, 0, 0), [], []), (2, .aload_n 0, 1, (0, 0, 0, 0, 0), [], []), (3, .getfield 46, 3, (9, 8, 0, 153, 0), [], []), (6, .iadd, 1, (0, 0, 0, 0, 0), [], []), (7, .if_icmp .le 10, 3, (17, 0, 0, 0, 0), [0, 1, 2], [0, 2])], 0, [])),
  (10, ([(10, .iload_n 2, 1, (0, 0, 0, 0, 0), [], []), (11, .aload_n 0, 1, (0, 0, 0, 0, 0), [], []), (12, .getfield 46, 3, (9, 8, 0, 153, 0), [], []), (15, .isub, 1, (0, 0, 0, 0, 0), [], []), (16, .ireturn, 1, (0, 0, 0, 0, 0), [], [])], 0, [])),
  (17, ([(17, .iload_n 2, 1, (0, 0, 0, 0, 0), [], []), (18, .iload_n 1, 1, (0, 0, 0, 0, 0), [], []), (19, .aload_n 0, 1, (0, 0, 0, 0, 0), [], []), (20, .getfield 46, 3, (9, 8, 0, 153, 0), [], []), (23, .isub, 1, (0, 0, 0, 0, 0), [], []), (24, .if_icmp .ge 10, 3, (34, 0, 0, 0, 0), [1], [0, 2])], 0, [])),
  (27, ([(27, .iload_n 2, 1, (0, 0, 0, 0, 0), [], []), (28, .aload_n 0, 1, (0, 0, 0, 0, 0), [], []), (29, .getfield 46, 3, (9, 8, 0, 153, 0), [], []), (32, .iadd, 1, (0, 0, 0, 0, 0), [], []), (33, .ireturn, 1, (0, 0, 0, 0, 0), [], [])], 0, [])),
  (34, ([(34, .iload_n 1, 1, (0, 0, 0, 0, 0), [], []), (35, .ireturn, 1, (0, 0, 0, 0, 0), [], [])], 0, []))]
def cd_Math_abs : List (Nat × AB) := [
  (0, ([(0, .iload_n 0, 1, (0, 0, 0, 0, 0), [], []), (1, .ifCond .ge 8, 3, (9, 0, 0, 0, 0), [0], [0])], 0, [])),
  (4, ([(4, .iload_n 0, 1, (0, 0, 0, 0, 0), [], []), (5, .ineg, 1, (0, 0, 0, 0, 0), [], []), (6, .goto 4, 3, (10, 0, 0, 0, 0), [], [])], 0, [])),
  (9, ([(9, .iload_n 0, 1, (0, 0, 0, 0, 0), [], [])], 10, [])),
  (10, ([(10, .ireturn, 1, (0, 0, 0, 0, 0), [], [])], 0, []))]
def cd_Window_secondsAt : List (Nat × AB) := [
  (0, ([(0, .aload_n 0, 1, (0, 0, 0, 0, 0), [], []), (1, .iload_n 1, 1, (0, 0, 0, 0, 0), [], []), (2, .iload_n 2, 1, (0, 0, 0, 0, 0), [], []), (3, .invokevirtual 88, 3, (131, 3, 10, 9, 821), [0, 1], [3])], 0, [])),
  (6, ([(6, .iload_n 1, 1, (0, 0, 0, 0, 0), [], []), (7, .isub, 1, (0, 0, 0, 0, 0), [], []), (8, .invokestatic 92, 3, (132, 1, 0, 0, 825), [0], [1])], 0, [])),
  (11, ([(11, .istore_n 3, 1, (0, 0, 0, 0, 0), [], []), (12, .iload_n 3, 1, (0, 0, 0, 0, 0), [], []), (13, .ifCond .ne 10, 3, (23, 0, 0, 0, 0), [0, 3], [0])], 0, [])),
  (16, ([(16, .aload_n 0, 1, (0, 0, 0, 0, 0), [], []), (17, .getfield 52, 3, (9, 10, 0, 159, 0), [], []), (20, .goto 14, 3, (34, 0, 0, 0, 0), [], [])], 0, [])),
  (23, ([(23, .aload_n 0, 1, (0, 0, 0, 0, 0), [], []), (24, .getfield 49, 3, (9, 9, 0, 156, 0), [], []), (27, .iload_n 3, 1, (0, 0, 0, 0, 0), [], []), (28, .iadd, 1, (0, 0, 0, 0, 0), [], []), (29, .aload_n 0, 1, (0, 0, 0, 0, 0), [], []), (30, .getfield 52, 3, (9, 10, 0, 159, 0), [], []), (33, .iadd, 1, (0, 0, 0, 0, 0), [], [])], 34, [])),
  (34, ([(34, .ireturn, 1, (0, 0, 0, 0, 0), [], [])], 0, []))]
def cd_Hanging_workAt : List (Nat × AB) := [
  (0, ([(0, .aload_n 1, 1, (0, 0, 0, 0, 0), [], []), (1, .aload_n 0, 1, (0, 0, 0, 0, 0), [], []), (2, .getfield 24, 3, (0, 1, 0, 223, 0), [], []), (5, .iload_n 2, 1, (0, 0, 0, 0, 0), [], []), (6, .invokevirtual 93, 3, (133, 3, 10, 9, 817), [0, 1, 2], [4])], 0, [])),
  (9, ([(9, .istore_n 3, 1, (0, 0, 0, 0, 0), [], []), (10, .aload_n 0, 1, (0, 0, 0, 0, 0), [], []), (11, .aload_n 1, 1, (0, 0, 0, 0, 0), [], []), (12, .aload_n 0, 1, (0, 0, 0, 0, 0), [], []), (13, .getfield 24, 3, (0, 1, 0, 223, 0), [], []), (16, .iload_n 2, 1, (0, 0, 0, 0, 0), [], []), (17, .invokevirtual 96, 3, (131, 3, 10, 9, 828), [0, 3], [3])], 0, [])),
  (20, ([(20, .putfield 24, 3, (0, 1, 0, 223, 0), [], [])], 23, [0, 3])),
  (23, ([(23, .aload_n 0, 1, (0, 0, 0, 0, 0), [], []), (24, .dup, 1, (0, 0, 0, 0, 0), [], []), (25, .getfield 28, 3, (0, 2, 0, 226, 0), [], []), (28, .iload_n 3, 1, (0, 0, 0, 0, 0), [], []), (29, .iadd, 1, (0, 0, 0, 0, 0), [], []), (30, .putfield 28, 3, (0, 2, 0, 226, 0), [], [])], 33, [3])),
  (33, ([(33, .iload_n 3, 1, (0, 0, 0, 0, 0), [], []), (34, .ireturn, 1, (0, 0, 0, 0, 0), [], [])], 0, []))]
def cd_Hanging_attach : List (Nat × AB) := [
  (0, ([(0, .aload_n 0, 1, (0, 0, 0, 0, 0), [], []), (1, .getfield 9, 3, (0, 0, 2, 218, 0), [], []), (4, .iload_n 2, 1, (0, 0, 0, 0, 0), [], []), (5, .iload_n 3, 1, (0, 0, 0, 0, 0), [], []), (6, .iastore, 1, (0, 0, 0, 0, 0), [], [])], 7, [0, 1, 3])),
  (7, ([(7, .aload_n 0, 1, (0, 0, 0, 0, 0), [], []), (8, .aload_n 1, 1, (0, 0, 0, 0, 0), [], []), (9, .iload_n 3, 1, (0, 0, 0, 0, 0), [], []), (10, .invokevirtual 99, 3, (134, 3, 10, 0, 813), [], [4])], 0, [])),
  (13, ([(13, .ireturn, 1, (0, 0, 0, 0, 0), [], [])], 0, []))]
def cd_Hook_join : List (Nat × AB) := [
  (0, ([(0, .aload_n 0, 1, (0, 0, 0, 0, 0), [], []), (1, .getfield 43, 3, (10, 7, 2, 361, 0), [], []), (4, .aload_n 0, 1, (0, 0, 0, 0, 0), [], []), (5, .getfield 33, 3, (10, 5, 2, 359, 0), [], []), (8, .iload_n 1, 1, (0, 0, 0, 0, 0), [], []), (9, .iload_n 2, 1, (0, 0, 0, 0, 0), [], []), (10, .invokevirtual 190, 3, (43, 4, 10, 0, 798), [0, 1, 2], [6])], 0, [])),
  (13, ([(13, .istore_n 3, 1, (0, 0, 0, 0, 0), [], []), (14, .iload_n 3, 1, (0, 0, 0, 0, 0), [], []), (15, .ifCond .eq 8, 3, (23, 0, 0, 0, 0), [0, 1, 2], [3])], 0, [])),
  (18, ([(18, .bipush (-10), 2, (0, 0, 0, 0, 0), [], []), (20, .iload_n 3, 1, (0, 0, 0, 0, 0), [], []), (21, .isub, 1, (0, 0, 0, 0, 0), [], []), (22, .ireturn, 1, (0, 0, 0, 0, 0), [], [])], 0, [])),
  (23, ([(23, .aload_n 0, 1, (0, 0, 0, 0, 0), [], []), (24, .getfield 53, 3, (10, 9, 2, 363, 0), [], []), (27, .aload_n 0, 1, (0, 0, 0, 0, 0), [], []), (28, .getfield 43, 3, (10, 7, 2, 361, 0), [], []), (31, .invokevirtual 194, 3, (130, 2, 11, 1, 803), [0, 1, 2], [3])], 0, [])),
  (34, ([(34, .aload_n 0, 1, (0, 0, 0, 0, 0), [], []), (35, .getfield 43, 3, (10, 7, 2, 361, 0), [], []), (38, .aload_n 0, 1, (0, 0, 0, 0, 0), [], []), (39, .getfield 33, 3, (10, 5, 2, 359, 0), [], []), (42, .iload_n 1, 1, (0, 0, 0, 0, 0), [], []), (43, .iload_n 2, 1, (0, 0, 0, 0, 0), [], []), (44, .invokevirtual 197, 3, (135, 4, 10, 0, 809), [], [4])], 0, [])),
  (47, ([(47, .ireturn, 1, (0, 0, 0, 0, 0), [], [])], 0, []))]
def cd_Mod_keeps : List (Nat × AB) := [
  (0, ([(0, .iconst 0, 1, (0, 0, 0, 0, 0), [], []), (1, .istore_n 1, 1, (0, 0, 0, 0, 0), [], [])], 2, [0, 1])),
  (2, ([(2, .iload_n 1, 1, (0, 0, 0, 0, 0), [], []), (3, .bipush 14, 2, (0, 0, 0, 0, 0), [], []), (5, .if_icmp .ge 24, 3, (29, 0, 0, 0, 0), [], [0, 1])], 0, [])),
  (8, ([(8, .aload_n 0, 1, (0, 0, 0, 0, 0), [], []), (9, .getfield 33, 3, (11, 16, 2, 1271, 0), [], []), (12, .iload_n 1, 1, (0, 0, 0, 0, 0), [], []), (13, .aload_n 0, 1, (0, 0, 0, 0, 0), [], []), (14, .getfield 13, 3, (11, 1, 2, 1256, 0), [], []), (17, .bipush 59, 2, (0, 0, 0, 0, 0), [], []), (19, .iload_n 1, 1, (0, 0, 0, 0, 0), [], []), (20, .iadd, 1, (0, 0, 0, 0, 0), [], []), (21, .iaload, 1, (20, 0, 0, 0, 0), [], []), (22, .iastore, 1, (0, 0, 0, 0, 0), [], [])], 23, [0, 1])),
  (23, ([(23, .iinc 1 1, 3, (0, 0, 0, 0, 0), [], []), (26, .goto (-24), 3, (2, 0, 0, 0, 0), [0, 1], [])], 0, [])),
  (29, ([(29, .return_, 1, (0, 0, 0, 0, 0), [], [])], 0, []))]
def cd_Mod_standsFor : List (Nat × AB) := [
  (0, ([(0, .iload_n 2, 1, (0, 0, 0, 0, 0), [], []), (1, .iload_n 1, 1, (0, 0, 0, 0, 0), [], []), (2, .aload_n 0, 1, (0, 0, 0, 0, 0), [], []), (3, .getfield 13, 3, (11, 1, 2, 1256, 0), [], []), (6, .iconst 3, 1, (0, 0, 0, 0, 0), [], []), (7, .iaload, 1, (20, 0, 0, 0, 0), [], []), (8, .iadd, 1, (0, 0, 0, 0, 0), [], []), (9, .if_icmp .le 12, 3, (21, 0, 0, 0, 0), [0, 1, 2], [0, 2])], 0, [])),
  (12, ([(12, .iload_n 2, 1, (0, 0, 0, 0, 0), [], []), (13, .aload_n 0, 1, (0, 0, 0, 0, 0), [], []), (14, .getfield 13, 3, (11, 1, 2, 1256, 0), [], []), (17, .iconst 3, 1, (0, 0, 0, 0, 0), [], []), (18, .iaload, 1, (20, 0, 0, 0, 0), [], []), (19, .isub, 1, (0, 0, 0, 0, 0), [], []), (20, .ireturn, 1, (0, 0, 0, 0, 0), [], [])], 0, [])),
  (21, ([(21, .iload_n 2, 1, (0, 0, 0, 0, 0), [], []), (22, .iload_n 1, 1, (0, 0, 0, 0, 0), [], []), (23, .aload_n 0, 1, (0, 0, 0, 0, 0), [], []), (24, .getfield 13, 3, (11, 1, 2, 1256, 0), [], []), (27, .iconst 3, 1, (0, 0, 0, 0, 0), [], []), (28, .iaload, 1, (20, 0, 0, 0, 0), [], []), (29, .isub, 1, (0, 0, 0, 0, 0), [], []), (30, .if_icmp .ge 14, 3, (44, 0, 0, 0, 0), [1], [0, 2])], 0, [])),
  (33, ([(33, .iload_n 2, 1, (0, 0, 0, 0, 0), [], []), (34, .aload_n 0, 1, (0, 0, 0, 0, 0), [], []), (35, .getfield 13, 3, (11, 1, 2, 1256, 0), [], []), (38, .iconst 3, 1, (0, 0, 0, 0, 0), [], []), (39, .iaload, 1, (20, 0, 0, 0, 0), [], []), (40, .iadd, 1, (0, 0, 0, 0, 0), [], []), (41, .goto 4, 3, (45, 0, 0, 0, 0), [], [])], 0, [])),
  (44, ([(44, .iload_n 1, 1, (0, 0, 0, 0, 0), [], [])], 45, [])),
  (45, ([(45, .ireturn, 1, (0, 0, 0, 0, 0), [], [])], 0, []))]
def cd_Mod_works : List (Nat × AB) := [
  (0, ([(0, .aload_n 0, 1, (0, 0, 0, 0, 0), [], []), (1, .iload_n 1, 1, (0, 0, 0, 0, 0), [], []), (2, .iload_n 2, 1, (0, 0, 0, 0, 0), [], []), (3, .invokevirtual 258, 3, (138, 3, 10, 11, 1574), [0, 1], [3])], 0, [])),
  (6, ([(6, .istore_n 3, 1, (0, 0, 0, 0, 0), [], []), (7, .iload_n 3, 1, (0, 0, 0, 0, 0), [], []), (8, .iload_n 1, 1, (0, 0, 0, 0, 0), [], []), (9, .if_icmp .le 9, 3, (18, 0, 0, 0, 0), [0, 1, 3], [0, 1, 3])], 0, [])),
  (12, ([(12, .iload_n 3, 1, (0, 0, 0, 0, 0), [], []), (13, .iload_n 1, 1, (0, 0, 0, 0, 0), [], []), (14, .isub, 1, (0, 0, 0, 0, 0), [], []), (15, .goto 6, 3, (21, 0, 0, 0, 0), [0], [])], 0, [])),
  (18, ([(18, .iload_n 1, 1, (0, 0, 0, 0, 0), [], []), (19, .iload_n 3, 1, (0, 0, 0, 0, 0), [], []), (20, .isub, 1, (0, 0, 0, 0, 0), [], [])], 21, [0])),
  (21, ([(21, .istore 4, 2, (0, 0, 0, 0, 0), [], []), (23, .iload 4, 2, (0, 0, 0, 0, 0), [], []), (25, .ifCond .le 15, 3, (40, 0, 0, 0, 0), [0], [0, 4])], 0, [])),
  (28, ([(28, .aload_n 0, 1, (0, 0, 0, 0, 0), [], []), (29, .getfield 13, 3, (11, 1, 2, 1256, 0), [], []), (32, .iconst 4, 1, (0, 0, 0, 0, 0), [], []), (33, .iaload, 1, (20, 0, 0, 0, 0), [], []), (34, .iload 4, 2, (0, 0, 0, 0, 0), [], []), (36, .iadd, 1, (0, 0, 0, 0, 0), [], []), (37, .goto 4, 3, (41, 0, 0, 0, 0), [0], [])], 0, [])),
  (40, ([(40, .iconst 0, 1, (0, 0, 0, 0, 0), [], [])], 41, [0])),
  (41, ([(41, .aload_n 0, 1, (0, 0, 0, 0, 0), [], []), (42, .getfield 13, 3, (11, 1, 2, 1256, 0), [], []), (45, .iconst 5, 1, (0, 0, 0, 0, 0), [], []), (46, .iaload, 1, (20, 0, 0, 0, 0), [], []), (47, .iadd, 1, (0, 0, 0, 0, 0), [], []), (48, .ireturn, 1, (0, 0, 0, 0, 0), [], [])], 0, []))]
def cd_Mod_goesTo : List (Nat × AB) := [
  (0, ([(0, .aload_n 0, 1, (0, 0, 0, 0, 0), [], []), (1, .getfield 13, 3, (11, 1, 2, 1256, 0), [], []), (4, .bipush 60, 2, (0, 0, 0, 0, 0), [], []), (6, .dup2, 1, (0, 0, 0, 0, 0), [], []), (7, .iaload, 1, (20, 0, 0, 0, 0), [], []), (8, .aload_n 0, 1, (0, 0, 0, 0, 0), [], []), (9, .aload_n 0, 1, (0, 0, 0, 0, 0), [], []), (10, .getfield 13, 3, (11, 1, 2, 1256, 0), [], []), (13, .bipush 59, 2, (0, 0, 0, 0, 0), [], []), (15, .iaload, 1, (20, 0, 0, 0, 0), [], []), (16, .iload_n 1, 1, (0, 0, 0, 0, 0), [], []), (17, .invokevirtual 261, 3, (139, 3, 10, 11, 1570), [0, 1], [5])], 0, [])),
  (20, ([(20, .iadd, 1, (0, 0, 0, 0, 0), [], []), (21, .iastore, 1, (0, 0, 0, 0, 0), [], [])], 22, [0, 1])),
  (22, ([(22, .aload_n 0, 1, (0, 0, 0, 0, 0), [], []), (23, .getfield 13, 3, (11, 1, 2, 1256, 0), [], []), (26, .bipush 59, 2, (0, 0, 0, 0, 0), [], []), (28, .aload_n 0, 1, (0, 0, 0, 0, 0), [], []), (29, .aload_n 0, 1, (0, 0, 0, 0, 0), [], []), (30, .getfield 13, 3, (11, 1, 2, 1256, 0), [], []), (33, .bipush 59, 2, (0, 0, 0, 0, 0), [], []), (35, .iaload, 1, (20, 0, 0, 0, 0), [], []), (36, .iload_n 1, 1, (0, 0, 0, 0, 0), [], []), (37, .invokevirtual 258, 3, (138, 3, 10, 11, 1574), [], [3])], 0, [])),
  (40, ([(40, .iastore, 1, (0, 0, 0, 0, 0), [], [])], 41, [])),
  (41, ([(41, .return_, 1, (0, 0, 0, 0, 0), [], [])], 0, []))]
def cd_Mod_joins : List (Nat × AB) := [
  (0, ([(0, .aload_n 0, 1, (0, 0, 0, 0, 0), [], []), (1, .iload_n 2, 1, (0, 0, 0, 0, 0), [], []), (2, .invokevirtual 264, 3, (140, 2, 11, 11, 1566), [0, 1, 2], [2])], 0, [])),
  (5, ([(5, .aload_n 0, 1, (0, 0, 0, 0, 0), [], []), (6, .getfield 13, 3, (11, 1, 2, 1256, 0), [], []), (9, .bipush 61, 2, (0, 0, 0, 0, 0), [], []), (11, .iload_n 1, 1, (0, 0, 0, 0, 0), [], []), (12, .iadd, 1, (0, 0, 0, 0, 0), [], []), (13, .iload_n 2, 1, (0, 0, 0, 0, 0), [], []), (14, .iastore, 1, (0, 0, 0, 0, 0), [], [])], 15, [])),
  (15, ([(15, .return_, 1, (0, 0, 0, 0, 0), [], [])], 0, []))]
def cd_Mod_notes : List (Nat × AB) := [
  (0, ([(0, .aload_n 0, 1, (0, 0, 0, 0, 0), [], []), (1, .getfield 13, 3, (11, 1, 2, 1256, 0), [], []), (4, .bipush 73, 2, (0, 0, 0, 0, 0), [], []), (6, .iaload, 1, (20, 0, 0, 0, 0), [], []), (7, .bipush 10, 2, (0, 0, 0, 0, 0), [], []), (9, .if_icmp .ne 46, 3, (55, 0, 0, 0, 0), [0], [0])], 0, [])),
  (12, ([(12, .iconst 0, 1, (0, 0, 0, 0, 0), [], []), (13, .istore_n 1, 1, (0, 0, 0, 0, 0), [], [])], 14, [0, 1])),
  (14, ([(14, .iload_n 1, 1, (0, 0, 0, 0, 0), [], []), (15, .bipush 126, 2, (0, 0, 0, 0, 0), [], []), (17, .if_icmp .ge 27, 3, (44, 0, 0, 0, 0), [0], [0, 1])], 0, [])),
  (20, ([(20, .aload_n 0, 1, (0, 0, 0, 0, 0), [], []), (21, .getfield 13, 3, (11, 1, 2, 1256, 0), [], []), (24, .bipush 74, 2, (0, 0, 0, 0, 0), [], []), (26, .iload_n 1, 1, (0, 0, 0, 0, 0), [], []), (27, .iadd, 1, (0, 0, 0, 0, 0), [], []), (28, .aload_n 0, 1, (0, 0, 0, 0, 0), [], []), (29, .getfield 13, 3, (11, 1, 2, 1256, 0), [], []), (32, .bipush 88, 2, (0, 0, 0, 0, 0), [], []), (34, .iload_n 1, 1, (0, 0, 0, 0, 0), [], []), (35, .iadd, 1, (0, 0, 0, 0, 0), [], []), (36, .iaload, 1, (20, 0, 0, 0, 0), [], []), (37, .iastore, 1, (0, 0, 0, 0, 0), [], [])], 38, [0, 1])),
  (38, ([(38, .iinc 1 1, 3, (0, 0, 0, 0, 0), [], []), (41, .goto (-27), 3, (14, 0, 0, 0, 0), [0, 1], [])], 0, [])),
  (44, ([(44, .aload_n 0, 1, (0, 0, 0, 0, 0), [], []), (45, .getfield 13, 3, (11, 1, 2, 1256, 0), [], []), (48, .bipush 73, 2, (0, 0, 0, 0, 0), [], []), (50, .dup2, 1, (0, 0, 0, 0, 0), [], []), (51, .iaload, 1, (20, 0, 0, 0, 0), [], []), (52, .iconst 1, 1, (0, 0, 0, 0, 0), [], []), (53, .isub, 1, (0, 0, 0, 0, 0), [], []), (54, .iastore, 1, (0, 0, 0, 0, 0), [], [])], 55, [0])),
  (55, ([(55, .iconst 0, 1, (0, 0, 0, 0, 0), [], []), (56, .istore_n 1, 1, (0, 0, 0, 0, 0), [], [])], 57, [0, 1])),
  (57, ([(57, .iload_n 1, 1, (0, 0, 0, 0, 0), [], []), (58, .bipush 14, 2, (0, 0, 0, 0, 0), [], []), (60, .if_icmp .ge 35, 3, (95, 0, 0, 0, 0), [0], [0, 1])], 0, [])),
  (63, ([(63, .aload_n 0, 1, (0, 0, 0, 0, 0), [], []), (64, .getfield 13, 3, (11, 1, 2, 1256, 0), [], []), (67, .bipush 74, 2, (0, 0, 0, 0, 0), [], []), (69, .bipush 14, 2, (0, 0, 0, 0, 0), [], []), (71, .aload_n 0, 1, (0, 0, 0, 0, 0), [], []), (72, .getfield 13, 3, (11, 1, 2, 1256, 0), [], []), (75, .bipush 73, 2, (0, 0, 0, 0, 0), [], []), (77, .iaload, 1, (20, 0, 0, 0, 0), [], []), (78, .imul, 1, (0, 0, 0, 0, 0), [], []), (79, .iadd, 1, (0, 0, 0, 0, 0), [], []), (80, .iload_n 1, 1, (0, 0, 0, 0, 0), [], []), (81, .iadd, 1, (0, 0, 0, 0, 0), [], []), (82, .aload_n 0, 1, (0, 0, 0, 0, 0), [], []), (83, .getfield 33, 3, (11, 16, 2, 1271, 0), [], []), (86, .iload_n 1, 1, (0, 0, 0, 0, 0), [], []), (87, .iaload, 1, (20, 0, 0, 0, 0), [], []), (88, .iastore, 1, (0, 0, 0, 0, 0), [], [])], 89, [0, 1])),
  (89, ([(89, .iinc 1 1, 3, (0, 0, 0, 0, 0), [], []), (92, .goto (-35), 3, (57, 0, 0, 0, 0), [0, 1], [])], 0, [])),
  (95, ([(95, .aload_n 0, 1, (0, 0, 0, 0, 0), [], []), (96, .getfield 13, 3, (11, 1, 2, 1256, 0), [], []), (99, .bipush 73, 2, (0, 0, 0, 0, 0), [], []), (101, .dup2, 1, (0, 0, 0, 0, 0), [], []), (102, .iaload, 1, (20, 0, 0, 0, 0), [], []), (103, .iconst 1, 1, (0, 0, 0, 0, 0), [], []), (104, .iadd, 1, (0, 0, 0, 0, 0), [], []), (105, .iastore, 1, (0, 0, 0, 0, 0), [], [])], 106, [])),
  (106, ([(106, .return_, 1, (0, 0, 0, 0, 0), [], [])], 0, []))]
def cd_Mod_join : List (Nat × AB) := [
  (0, ([(0, .aload_n 0, 1, (0, 0, 0, 0, 0), [], []), (1, .iconst 0, 1, (0, 0, 0, 0, 0), [], []), (2, .putfield 1, 3, (11, 0, 0, 1255, 0), [], [])], 5, [0, 1, 2])),
  (5, ([(5, .aload_n 0, 1, (0, 0, 0, 0, 0), [], []), (6, .getfield 13, 3, (11, 1, 2, 1256, 0), [], []), (9, .iload_n 1, 1, (0, 0, 0, 0, 0), [], []), (10, .iload_n 2, 1, (0, 0, 0, 0, 0), [], []), (11, .invokestatic 177, 3, (98, 3, 0, 0, 1480), [0, 1, 2], [6])], 0, [])),
  (14, ([(14, .istore_n 3, 1, (0, 0, 0, 0, 0), [], []), (15, .iload_n 3, 1, (0, 0, 0, 0, 0), [], []), (16, .ifCond .eq 8, 3, (24, 0, 0, 0, 0), [0, 1, 2], [3])], 0, [])),
  (19, ([(19, .bipush (-10), 2, (0, 0, 0, 0, 0), [], []), (21, .iload_n 3, 1, (0, 0, 0, 0, 0), [], []), (22, .isub, 1, (0, 0, 0, 0, 0), [], []), (23, .ireturn, 1, (0, 0, 0, 0, 0), [], [])], 0, [])),
  (24, ([(24, .aload_n 0, 1, (0, 0, 0, 0, 0), [], []), (25, .invokevirtual 267, 3, (137, 1, 11, 11, 1558), [0, 1, 2], [2])], 0, [])),
  (28, ([(28, .aload_n 0, 1, (0, 0, 0, 0, 0), [], []), (29, .iload_n 1, 1, (0, 0, 0, 0, 0), [], []), (30, .iload_n 2, 1, (0, 0, 0, 0, 0), [], []), (31, .invokevirtual 270, 3, (141, 3, 11, 11, 1562), [0], [3])], 0, [])),
  (34, ([(34, .aload_n 0, 1, (0, 0, 0, 0, 0), [], []), (35, .invokevirtual 273, 3, (142, 1, 11, 11, 1578), [0], [2])], 0, [])),
  (38, ([(38, .aload_n 0, 1, (0, 0, 0, 0, 0), [], []), (39, .getfield 13, 3, (11, 1, 2, 1256, 0), [], []), (42, .bipush 60, 2, (0, 0, 0, 0, 0), [], []), (44, .iaload, 1, (20, 0, 0, 0, 0), [], []), (45, .aload_n 0, 1, (0, 0, 0, 0, 0), [], []), (46, .getfield 33, 3, (11, 16, 2, 1271, 0), [], []), (49, .iconst 1, 1, (0, 0, 0, 0, 0), [], []), (50, .iaload, 1, (20, 0, 0, 0, 0), [], []), (51, .isub, 1, (0, 0, 0, 0, 0), [], []), (52, .ireturn, 1, (0, 0, 0, 0, 0), [], [])], 0, []))]
def cd_Hanging_whyNotUnhook : List (Nat × AB) := [
  (0, ([(0, .aload_n 1, 1, (0, 0, 0, 0, 0), [], []), (1, .iload_n 2, 1, (0, 0, 0, 0, 0), [], []), (2, .invokevirtual 77, 3, (35, 2, 10, 9, 610), [0, 2], [2])], 0, [])),
  (5, ([(5, .ifCond .ne 5, 3, (10, 0, 0, 0, 0), [0, 2], [])], 0, [])),
  (8, ([(8, .iconst 1, 1, (0, 0, 0, 0, 0), [], []), (9, .ireturn, 1, (0, 0, 0, 0, 0), [], [])], 0, [])),
  (10, ([(10, .aload_n 0, 1, (0, 0, 0, 0, 0), [], []), (11, .iload_n 2, 1, (0, 0, 0, 0, 0), [], []), (12, .invokevirtual 37, 3, (37, 2, 10, 0, 618), [], [2])], 0, [])),
  (15, ([(15, .ifCond .eq 7, 3, (22, 0, 0, 0, 0), [], [])], 0, [])),
  (18, ([(18, .iconst 0, 1, (0, 0, 0, 0, 0), [], []), (19, .goto 4, 3, (23, 0, 0, 0, 0), [], [])], 0, [])),
  (22, ([(22, .iconst 2, 1, (0, 0, 0, 0, 0), [], [])], 23, [])),
  (23, ([(23, .ireturn, 1, (0, 0, 0, 0, 0), [], [])], 0, []))]
def cd_Hanging_detach : List (Nat × AB) := [
  (0, ([(0, .aload_n 0, 1, (0, 0, 0, 0, 0), [], []), (1, .getfield 9, 3, (0, 0, 2, 218, 0), [], []), (4, .iload_n 2, 1, (0, 0, 0, 0, 0), [], []), (5, .iaload, 1, (20, 0, 0, 0, 0), [], []), (6, .istore_n 3, 1, (0, 0, 0, 0, 0), [], []), (7, .aload_n 0, 1, (0, 0, 0, 0, 0), [], []), (8, .getfield 9, 3, (0, 0, 2, 218, 0), [], []), (11, .iload_n 2, 1, (0, 0, 0, 0, 0), [], []), (12, .iconst (-1), 1, (0, 0, 0, 0, 0), [], []), (13, .iastore, 1, (0, 0, 0, 0, 0), [], [])], 14, [0, 1, 3])),
  (14, ([(14, .aload_n 0, 1, (0, 0, 0, 0, 0), [], []), (15, .aload_n 1, 1, (0, 0, 0, 0, 0), [], []), (16, .iload_n 3, 1, (0, 0, 0, 0, 0), [], []), (17, .invokevirtual 99, 3, (134, 3, 10, 0, 813), [], [4])], 0, [])),
  (20, ([(20, .ireturn, 1, (0, 0, 0, 0, 0), [], [])], 0, []))]
def cd_Hook_unhook : List (Nat × AB) := [
  (0, ([(0, .aload_n 0, 1, (0, 0, 0, 0, 0), [], []), (1, .getfield 43, 3, (10, 7, 2, 361, 0), [], []), (4, .aload_n 0, 1, (0, 0, 0, 0, 0), [], []), (5, .getfield 33, 3, (10, 5, 2, 359, 0), [], []), (8, .iload_n 1, 1, (0, 0, 0, 0, 0), [], []), (9, .invokevirtual 200, 3, (144, 3, 10, 0, 833), [0, 1], [3])], 0, [])),
  (12, ([(12, .istore_n 2, 1, (0, 0, 0, 0, 0), [], []), (13, .iload_n 2, 1, (0, 0, 0, 0, 0), [], []), (14, .ifCond .eq 8, 3, (22, 0, 0, 0, 0), [0, 1], [2])], 0, [])),
  (17, ([(17, .bipush (-10), 2, (0, 0, 0, 0, 0), [], []), (19, .iload_n 2, 1, (0, 0, 0, 0, 0), [], []), (20, .isub, 1, (0, 0, 0, 0, 0), [], []), (21, .ireturn, 1, (0, 0, 0, 0, 0), [], [])], 0, [])),
  (22, ([(22, .aload_n 0, 1, (0, 0, 0, 0, 0), [], []), (23, .getfield 53, 3, (10, 9, 2, 363, 0), [], []), (26, .aload_n 0, 1, (0, 0, 0, 0, 0), [], []), (27, .getfield 43, 3, (10, 7, 2, 361, 0), [], []), (30, .invokevirtual 194, 3, (130, 2, 11, 1, 803), [0, 1], [3])], 0, [])),
  (33, ([(33, .aload_n 0, 1, (0, 0, 0, 0, 0), [], []), (34, .getfield 43, 3, (10, 7, 2, 361, 0), [], []), (37, .aload_n 0, 1, (0, 0, 0, 0, 0), [], []), (38, .getfield 33, 3, (10, 5, 2, 359, 0), [], []), (41, .iload_n 1, 1, (0, 0, 0, 0, 0), [], []), (42, .invokevirtual 203, 3, (145, 3, 10, 0, 837), [], [4])], 0, [])),
  (45, ([(45, .ireturn, 1, (0, 0, 0, 0, 0), [], [])], 0, []))]
def cd_Mod_whyNotOff : List (Nat × AB) := [
  (0, ([(0, .aload_n 0, 1, (0, 0, 0, 0, 0), [], []), (1, .iload_n 1, 1, (0, 0, 0, 0, 0), [], []), (2, .invokevirtual 240, 3, (108, 2, 10, 11, 1500), [0, 1], [2])], 0, [])),
  (5, ([(5, .ifCond .ne 7, 3, (12, 0, 0, 0, 0), [0, 1], [])], 0, [])),
  (8, ([(8, .iconst 1, 1, (0, 0, 0, 0, 0), [], []), (9, .goto 21, 3, (30, 0, 0, 0, 0), [], [])], 0, [])),
  (12, ([(12, .aload_n 0, 1, (0, 0, 0, 0, 0), [], []), (13, .getfield 13, 3, (11, 1, 2, 1256, 0), [], []), (16, .bipush 61, 2, (0, 0, 0, 0, 0), [], []), (18, .iload_n 1, 1, (0, 0, 0, 0, 0), [], []), (19, .iadd, 1, (0, 0, 0, 0, 0), [], []), (20, .iaload, 1, (20, 0, 0, 0, 0), [], []), (21, .iconst (-1), 1, (0, 0, 0, 0, 0), [], []), (22, .if_icmp .ne 7, 3, (29, 0, 0, 0, 0), [], [])], 0, [])),
  (25, ([(25, .iconst 2, 1, (0, 0, 0, 0, 0), [], []), (26, .goto 4, 3, (30, 0, 0, 0, 0), [], [])], 0, [])),
  (29, ([(29, .iconst 0, 1, (0, 0, 0, 0, 0), [], [])], 30, [])),
  (30, ([(30, .ireturn, 1, (0, 0, 0, 0, 0), [], [])], 0, []))]
def cd_Mod_unhooks : List (Nat × AB) := [
  (0, ([(0, .aload_n 0, 1, (0, 0, 0, 0, 0), [], []), (1, .aload_n 0, 1, (0, 0, 0, 0, 0), [], []), (2, .getfield 13, 3, (11, 1, 2, 1256, 0), [], []), (5, .bipush 61, 2, (0, 0, 0, 0, 0), [], []), (7, .iload_n 1, 1, (0, 0, 0, 0, 0), [], []), (8, .iadd, 1, (0, 0, 0, 0, 0), [], []), (9, .iaload, 1, (20, 0, 0, 0, 0), [], []), (10, .invokevirtual 264, 3, (140, 2, 11, 11, 1566), [0, 1], [2])], 0, [])),
  (13, ([(13, .aload_n 0, 1, (0, 0, 0, 0, 0), [], []), (14, .getfield 13, 3, (11, 1, 2, 1256, 0), [], []), (17, .bipush 61, 2, (0, 0, 0, 0, 0), [], []), (19, .iload_n 1, 1, (0, 0, 0, 0, 0), [], []), (20, .iadd, 1, (0, 0, 0, 0, 0), [], []), (21, .iconst (-1), 1, (0, 0, 0, 0, 0), [], []), (22, .iastore, 1, (0, 0, 0, 0, 0), [], [])], 23, [])),
  (23, ([(23, .return_, 1, (0, 0, 0, 0, 0), [], [])], 0, []))]
def cd_Mod_unhook : List (Nat × AB) := [
  (0, ([(0, .aload_n 0, 1, (0, 0, 0, 0, 0), [], []), (1, .iconst 0, 1, (0, 0, 0, 0, 0), [], []), (2, .putfield 1, 3, (11, 0, 0, 1255, 0), [], [])], 5, [0, 1])),
  (5, ([(5, .aload_n 0, 1, (0, 0, 0, 0, 0), [], []), (6, .iload_n 1, 1, (0, 0, 0, 0, 0), [], []), (7, .invokevirtual 276, 3, (147, 2, 10, 11, 1586), [0, 1], [2])], 0, [])),
  (10, ([(10, .istore_n 2, 1, (0, 0, 0, 0, 0), [], []), (11, .iload_n 2, 1, (0, 0, 0, 0, 0), [], []), (12, .ifCond .eq 8, 3, (20, 0, 0, 0, 0), [0, 1], [2])], 0, [])),
  (15, ([(15, .bipush (-10), 2, (0, 0, 0, 0, 0), [], []), (17, .iload_n 2, 1, (0, 0, 0, 0, 0), [], []), (18, .isub, 1, (0, 0, 0, 0, 0), [], []), (19, .ireturn, 1, (0, 0, 0, 0, 0), [], [])], 0, [])),
  (20, ([(20, .aload_n 0, 1, (0, 0, 0, 0, 0), [], []), (21, .invokevirtual 267, 3, (137, 1, 11, 11, 1558), [0, 1], [2])], 0, [])),
  (24, ([(24, .aload_n 0, 1, (0, 0, 0, 0, 0), [], []), (25, .iload_n 1, 1, (0, 0, 0, 0, 0), [], []), (26, .invokevirtual 279, 3, (148, 2, 11, 11, 1590), [0], [2])], 0, [])),
  (29, ([(29, .aload_n 0, 1, (0, 0, 0, 0, 0), [], []), (30, .invokevirtual 273, 3, (142, 1, 11, 11, 1578), [0], [2])], 0, [])),
  (33, ([(33, .aload_n 0, 1, (0, 0, 0, 0, 0), [], []), (34, .getfield 13, 3, (11, 1, 2, 1256, 0), [], []), (37, .bipush 60, 2, (0, 0, 0, 0, 0), [], []), (39, .iaload, 1, (20, 0, 0, 0, 0), [], []), (40, .aload_n 0, 1, (0, 0, 0, 0, 0), [], []), (41, .getfield 33, 3, (11, 16, 2, 1271, 0), [], []), (44, .iconst 1, 1, (0, 0, 0, 0, 0), [], []), (45, .iaload, 1, (20, 0, 0, 0, 0), [], []), (46, .isub, 1, (0, 0, 0, 0, 0), [], []), (47, .ireturn, 1, (0, 0, 0, 0, 0), [], [])], 0, []))]
def cd_Math_floorMod : List (Nat × AB) := [
  (0, ([(0, .iload_n 0, 1, (0, 0, 0, 0, 0), [], []), (1, .iload_n 1, 1, (0, 0, 0, 0, 0), [], []), (2, .irem, 1, (0, 0, 0, 0, 0), [], []), (3, .istore_n 2, 1, (0, 0, 0, 0, 0), [], []), (4, .iload_n 0, 1, (0, 0, 0, 0, 0), [], []), (5, .iload_n 1, 1, (0, 0, 0, 0, 0), [], []), (6, .ixor, 1, (0, 0, 0, 0, 0), [], []), (7, .ifCond .ge 11, 3, (18, 0, 0, 0, 0), [2], [1, 2])], 0, [])),
  (10, ([(10, .iload_n 2, 1, (0, 0, 0, 0, 0), [], []), (11, .ifCond .eq 7, 3, (18, 0, 0, 0, 0), [2], [1, 2])], 0, [])),
  (14, ([(14, .iload_n 2, 1, (0, 0, 0, 0, 0), [], []), (15, .iload_n 1, 1, (0, 0, 0, 0, 0), [], []), (16, .iadd, 1, (0, 0, 0, 0, 0), [], []), (17, .ireturn, 1, (0, 0, 0, 0, 0), [], [])], 0, [])),
  (18, ([(18, .iload_n 2, 1, (0, 0, 0, 0, 0), [], []), (19, .ireturn, 1, (0, 0, 0, 0, 0), [], [])], 0, []))]
def cd_History_pop : List (Nat × AB) := [
  (0, ([(0, .aload_n 0, 1, (0, 0, 0, 0, 0), [], []), (1, .dup, 1, (0, 0, 0, 0, 0), [], []), (2, .getfield 19, 3, (1, 2, 0, 244, 0), [], []), (5, .iload_n 1, 1, (0, 0, 0, 0, 0), [], []), (6, .isub, 1, (0, 0, 0, 0, 0), [], []), (7, .putfield 19, 3, (1, 2, 0, 244, 0), [], [])], 10, [0, 1, 2])),
  (10, ([(10, .aload_n 0, 1, (0, 0, 0, 0, 0), [], []), (11, .aload_n 0, 1, (0, 0, 0, 0, 0), [], []), (12, .getfield 15, 3, (1, 1, 0, 243, 0), [], []), (15, .iload_n 1, 1, (0, 0, 0, 0, 0), [], []), (16, .isub, 1, (0, 0, 0, 0, 0), [], []), (17, .bipush 10, 2, (0, 0, 0, 0, 0), [], []), (19, .invokestatic 45, 3, (150, 2, 0, 0, 849), [0, 2], [3])], 0, [])),
  (22, ([(22, .putfield 15, 3, (1, 1, 0, 243, 0), [], [])], 25, [0, 2])),
  (25, ([(25, .aload_n 0, 1, (0, 0, 0, 0, 0), [], []), (26, .getfield 15, 3, (1, 1, 0, 243, 0), [], []), (29, .bipush 14, 2, (0, 0, 0, 0, 0), [], []), (31, .imul, 1, (0, 0, 0, 0, 0), [], []), (32, .istore_n 3, 1, (0, 0, 0, 0, 0), [], []), (33, .aload_n 0, 1, (0, 0, 0, 0, 0), [], []), (34, .getfield 11, 3, (1, 0, 2, 242, 0), [], []), (37, .iload_n 3, 1, (0, 0, 0, 0, 0), [], []), (38, .aload_n 2, 1, (0, 0, 0, 0, 0), [], []), (39, .getfield 22, 3, (0, 0, 2, 219, 0), [], []), (42, .iconst 0, 1, (0, 0, 0, 0, 0), [], []), (43, .bipush 12, 2, (0, 0, 0, 0, 0), [], []), (45, .invokestatic 27, 3, (0, 5, 3, 0, 807), [], [])], 48, [0, 2, 3])),
  (48, ([(48, .aload_n 2, 1, (0, 0, 0, 0, 0), [], []), (49, .aload_n 0, 1, (0, 0, 0, 0, 0), [], []), (50, .getfield 11, 3, (1, 0, 2, 242, 0), [], []), (53, .iload_n 3, 1, (0, 0, 0, 0, 0), [], []), (54, .bipush 12, 2, (0, 0, 0, 0, 0), [], []), (56, .iadd, 1, (0, 0, 0, 0, 0), [], []), (57, .iaload, 1, (20, 0, 0, 0, 0), [], []), (58, .putfield 33, 3, (0, 1, 0, 224, 0), [], [])], 61, [0, 2, 3])),
  (61, ([(61, .aload_n 2, 1, (0, 0, 0, 0, 0), [], []), (62, .aload_n 0, 1, (0, 0, 0, 0, 0), [], []), (63, .getfield 11, 3, (1, 0, 2, 242, 0), [], []), (66, .iload_n 3, 1, (0, 0, 0, 0, 0), [], []), (67, .bipush 13, 2, (0, 0, 0, 0, 0), [], []), (69, .iadd, 1, (0, 0, 0, 0, 0), [], []), (70, .iaload, 1, (20, 0, 0, 0, 0), [], []), (71, .putfield 36, 3, (0, 2, 0, 227, 0), [], [])], 74, [])),
  (74, ([(74, .return_, 1, (0, 0, 0, 0, 0), [], [])], 0, []))]
def cd_Hook_undo : List (Nat × AB) := [
  (0, ([(0, .iload_n 1, 1, (0, 0, 0, 0, 0), [], []), (1, .iconst 1, 1, (0, 0, 0, 0, 0), [], []), (2, .if_icmp .lt 20, 3, (22, 0, 0, 0, 0), [], [0, 1])], 0, [])),
  (5, ([(5, .iload_n 1, 1, (0, 0, 0, 0, 0), [], []), (6, .bipush 10, 2, (0, 0, 0, 0, 0), [], []), (8, .if_icmp .gt 14, 3, (22, 0, 0, 0, 0), [], [0, 1])], 0, [])),
  (11, ([(11, .iload_n 1, 1, (0, 0, 0, 0, 0), [], []), (12, .aload_n 0, 1, (0, 0, 0, 0, 0), [], []), (13, .getfield 53, 3, (10, 9, 2, 363, 0), [], []), (16, .getfield 206, 3, (1, 2, 0, 245, 0), [], []), (19, .if_icmp .le 6, 3, (25, 0, 0, 0, 0), [0, 1], [])], 0, [])),
  (22, ([(22, .bipush (-3), 2, (0, 0, 0, 0, 0), [], []), (24, .ireturn, 1, (0, 0, 0, 0, 0), [], [])], 0, [])),
  (25, ([(25, .aload_n 0, 1, (0, 0, 0, 0, 0), [], []), (26, .getfield 53, 3, (10, 9, 2, 363, 0), [], []), (29, .iload_n 1, 1, (0, 0, 0, 0, 0), [], []), (30, .aload_n 0, 1, (0, 0, 0, 0, 0), [], []), (31, .getfield 43, 3, (10, 7, 2, 361, 0), [], []), (34, .invokevirtual 209, 3, (151, 3, 11, 1, 845), [0], [4])], 0, [])),
  (37, ([(37, .aload_n 0, 1, (0, 0, 0, 0, 0), [], []), (38, .getfield 53, 3, (10, 9, 2, 363, 0), [], []), (41, .getfield 206, 3, (1, 2, 0, 245, 0), [], []), (44, .ireturn, 1, (0, 0, 0, 0, 0), [], [])], 0, []))]
def cd_Mod_undo : List (Nat × AB) := [
  (0, ([(0, .aload_n 0, 1, (0, 0, 0, 0, 0), [], []), (1, .iconst 0, 1, (0, 0, 0, 0, 0), [], []), (2, .putfield 1, 3, (11, 0, 0, 1255, 0), [], [])], 5, [0, 1])),
  (5, ([(5, .iload_n 1, 1, (0, 0, 0, 0, 0), [], []), (6, .i2l, 1, (0, 0, 0, 0, 0), [], []), (7, .lconst 1, 1, (0, 0, 0, 0, 0), [], []), (8, .ldc2_w 282, 3, (0, 0, 0, 1598, 10), [], []), (11, .invokestatic 136, 3, (71, 3, 0, 0, 1372), [0, 1], [6])], 0, [])),
  (14, ([(14, .ifCond .eq 14, 3, (28, 0, 0, 0, 0), [], [0, 1])], 0, [])),
  (17, ([(17, .iload_n 1, 1, (0, 0, 0, 0, 0), [], []), (18, .aload_n 0, 1, (0, 0, 0, 0, 0), [], []), (19, .getfield 13, 3, (11, 1, 2, 1256, 0), [], []), (22, .bipush 73, 2, (0, 0, 0, 0, 0), [], []), (24, .iaload, 1, (20, 0, 0, 0, 0), [], []), (25, .if_icmp .le 6, 3, (31, 0, 0, 0, 0), [0, 1], [])], 0, [])),
  (28, ([(28, .bipush (-3), 2, (0, 0, 0, 0, 0), [], []), (30, .ireturn, 1, (0, 0, 0, 0, 0), [], [])], 0, [])),
  (31, ([(31, .aload_n 0, 1, (0, 0, 0, 0, 0), [], []), (32, .getfield 13, 3, (11, 1, 2, 1256, 0), [], []), (35, .bipush 73, 2, (0, 0, 0, 0, 0), [], []), (37, .dup2, 1, (0, 0, 0, 0, 0), [], []), (38, .iaload, 1, (20, 0, 0, 0, 0), [], []), (39, .iload_n 1, 1, (0, 0, 0, 0, 0), [], []), (40, .isub, 1, (0, 0, 0, 0, 0), [], []), (41, .iastore, 1, (0, 0, 0, 0, 0), [], [])], 42, [0])),
  (42, ([(42, .iconst 0, 1, (0, 0, 0, 0, 0), [], []), (43, .istore_n 2, 1, (0, 0, 0, 0, 0), [], [])], 44, [0, 2])),
  (44, ([(44, .iload_n 2, 1, (0, 0, 0, 0, 0), [], []), (45, .bipush 14, 2, (0, 0, 0, 0, 0), [], []), (47, .if_icmp .ge 38, 3, (85, 0, 0, 0, 0), [0], [0, 2])], 0, [])),
  (50, ([(50, .aload_n 0, 1, (0, 0, 0, 0, 0), [], []), (51, .getfield 13, 3, (11, 1, 2, 1256, 0), [], []), (54, .bipush 59, 2, (0, 0, 0, 0, 0), [], []), (56, .iload_n 2, 1, (0, 0, 0, 0, 0), [], []), (57, .iadd, 1, (0, 0, 0, 0, 0), [], []), (58, .aload_n 0, 1, (0, 0, 0, 0, 0), [], []), (59, .getfield 13, 3, (11, 1, 2, 1256, 0), [], []), (62, .bipush 74, 2, (0, 0, 0, 0, 0), [], []), (64, .bipush 14, 2, (0, 0, 0, 0, 0), [], []), (66, .aload_n 0, 1, (0, 0, 0, 0, 0), [], []), (67, .getfield 13, 3, (11, 1, 2, 1256, 0), [], []), (70, .bipush 73, 2, (0, 0, 0, 0, 0), [], []), (72, .iaload, 1, (20, 0, 0, 0, 0), [], []), (73, .imul, 1, (0, 0, 0, 0, 0), [], []), (74, .iadd, 1, (0, 0, 0, 0, 0), [], []), (75, .iload_n 2, 1, (0, 0, 0, 0, 0), [], []), (76, .iadd, 1, (0, 0, 0, 0, 0), [], []), (77, .iaload, 1, (20, 0, 0, 0, 0), [], []), (78, .iastore, 1, (0, 0, 0, 0, 0), [], [])], 79, [0, 2])),
  (79, ([(79, .iinc 2 1, 3, (0, 0, 0, 0, 0), [], []), (82, .goto (-38), 3, (44, 0, 0, 0, 0), [0, 2], [])], 0, [])),
  (85, ([(85, .aload_n 0, 1, (0, 0, 0, 0, 0), [], []), (86, .getfield 13, 3, (11, 1, 2, 1256, 0), [], []), (89, .bipush 73, 2, (0, 0, 0, 0, 0), [], []), (91, .iaload, 1, (20, 0, 0, 0, 0), [], []), (92, .ireturn, 1, (0, 0, 0, 0, 0), [], [])], 0, []))]
def cd_Hook_isTray : List (Nat × AB) := [
  (0, ([(0, .iload_n 0, 1, (0, 0, 0, 0, 0), [], []), (1, .ifCond .lt 12, 3, (13, 0, 0, 0, 0), [], [0])], 0, [])),
  (4, ([(4, .iload_n 0, 1, (0, 0, 0, 0, 0), [], []), (5, .iconst 4, 1, (0, 0, 0, 0, 0), [], []), (6, .if_icmp .ge 7, 3, (13, 0, 0, 0, 0), [], [])], 0, [])),
  (9, ([(9, .iconst 1, 1, (0, 0, 0, 0, 0), [], []), (10, .goto 4, 3, (14, 0, 0, 0, 0), [], [])], 0, [])),
  (13, ([(13, .iconst 0, 1, (0, 0, 0, 0, 0), [], [])], 14, [])),
  (14, ([(14, .ireturn, 1, (1, 0, 0, 0, 0), [], [])], 0, []))]
def cd_Tray_isMissing : List (Nat × AB) := [
  (0, ([(0, .aload_n 0, 1, (0, 0, 0, 0, 0), [], []), (1, .getfield 19, 3, (7, 2, 0, 262, 0), [], []), (4, .iconst (-1), 1, (0, 0, 0, 0, 0), [], []), (5, .if_icmp .ne 7, 3, (12, 0, 0, 0, 0), [], [])], 0, [])),
  (8, ([(8, .iconst 1, 1, (0, 0, 0, 0, 0), [], []), (9, .goto 4, 3, (13, 0, 0, 0, 0), [], [])], 0, [])),
  (12, ([(12, .iconst 0, 1, (0, 0, 0, 0, 0), [], [])], 13, [])),
  (13, ([(13, .ireturn, 1, (1, 0, 0, 0, 0), [], [])], 0, []))]
def cd_Tray_at : List (Nat × AB) := [
  (0, ([(0, .iload_n 1, 1, (0, 0, 0, 0, 0), [], []), (1, .ifCond .lt 20, 3, (21, 0, 0, 0, 0), [], [0, 1])], 0, [])),
  (4, ([(4, .iload_n 1, 1, (0, 0, 0, 0, 0), [], []), (5, .aload_n 0, 1, (0, 0, 0, 0, 0), [], []), (6, .getfield 19, 3, (7, 2, 0, 262, 0), [], []), (9, .if_icmp .ge 12, 3, (21, 0, 0, 0, 0), [], [0, 1])], 0, [])),
  (12, ([(12, .aload_n 0, 1, (0, 0, 0, 0, 0), [], []), (13, .getfield 9, 3, (7, 0, 2, 260, 0), [], []), (16, .iload_n 1, 1, (0, 0, 0, 0, 0), [], []), (17, .laload, 1, (0, 0, 0, 0, 0), [], []), (18, .goto 4, 3, (22, 0, 0, 0, 0), [], [])], 0, [])),
  (21, ([(21, .lconst 0, 1, (0, 0, 0, 0, 0), [], [])], 22, [])),
  (22, ([(22, .lreturn, 1, (0, 0, 0, 0, 0), [], [])], 0, []))]
def cd_Hanging_isJoinDeed : List (Nat × AB) := [
  (0, ([(0, .lload_n 0, 1, (0, 0, 0, 0, 0), [], []), (1, .lconst 0, 1, (0, 0, 0, 0, 0), [], []), (2, .lcmp, 1, (0, 0, 0, 0, 0), [], []), (3, .ifCond .lt 15, 3, (18, 0, 0, 0, 0), [], [0])], 0, [])),
  (6, ([(6, .lload_n 0, 1, (0, 0, 0, 0, 0), [], []), (7, .ldc2_w 102, 3, (0, 0, 0, 878, 144), [], []), (10, .lcmp, 1, (0, 0, 0, 0, 0), [], []), (11, .ifCond .ge 7, 3, (18, 0, 0, 0, 0), [], [])], 0, [])),
  (14, ([(14, .iconst 1, 1, (0, 0, 0, 0, 0), [], []), (15, .goto 4, 3, (19, 0, 0, 0, 0), [], [])], 0, [])),
  (18, ([(18, .iconst 0, 1, (0, 0, 0, 0, 0), [], [])], 19, [])),
  (19, ([(19, .ireturn, 1, (1, 0, 0, 0, 0), [], [])], 0, []))]
def cd_Hanging_isUnhookDeed : List (Nat × AB) := [
  (0, ([(0, .lload_n 0, 1, (0, 0, 0, 0, 0), [], []), (1, .ldc2_w 104, 3, (0, 0, 0, 883, 200), [], []), (4, .lcmp, 1, (0, 0, 0, 0, 0), [], []), (5, .ifCond .lt 15, 3, (20, 0, 0, 0, 0), [], [0])], 0, [])),
  (8, ([(8, .lload_n 0, 1, (0, 0, 0, 0, 0), [], []), (9, .ldc2_w 106, 3, (0, 0, 0, 884, 212), [], []), (12, .lcmp, 1, (0, 0, 0, 0, 0), [], []), (13, .ifCond .ge 7, 3, (20, 0, 0, 0, 0), [], [])], 0, [])),
  (16, ([(16, .iconst 1, 1, (0, 0, 0, 0, 0), [], []), (17, .goto 4, 3, (21, 0, 0, 0, 0), [], [])], 0, [])),
  (20, ([(20, .iconst 0, 1, (0, 0, 0, 0, 0), [], [])], 21, [])),
  (21, ([(21, .ireturn, 1, (1, 0, 0, 0, 0), [], [])], 0, []))]
def cd_Hanging_whyNotDeed : List (Nat × AB) := [
  (0, ([(0, .lload_n 2, 1, (0, 0, 0, 0, 0), [], []), (1, .invokestatic 108, 3, (157, 1, 0, 0, 875), [0, 1, 2], [2])], 0, [])),
  (4, ([(4, .ifCond .eq 19, 3, (23, 0, 0, 0, 0), [0, 1, 2], [0, 1, 2])], 0, [])),
  (7, ([(7, .aload_n 0, 1, (0, 0, 0, 0, 0), [], []), (8, .aload_n 1, 1, (0, 0, 0, 0, 0), [], []), (9, .lload_n 2, 1, (0, 0, 0, 0, 0), [], []), (10, .l2i, 1, (0, 0, 0, 0, 0), [], []), (11, .bipush 12, 2, (0, 0, 0, 0, 0), [], []), (13, .idiv, 1, (0, 0, 0, 0, 0), [], []), (14, .lload_n 2, 1, (0, 0, 0, 0, 0), [], []), (15, .l2i, 1, (0, 0, 0, 0, 0), [], []), (16, .bipush 12, 2, (0, 0, 0, 0, 0), [], []), (18, .irem, 1, (0, 0, 0, 0, 0), [], []), (19, .invokevirtual 112, 3, (43, 4, 10, 0, 879), [], [6])], 0, [])),
  (22, ([(22, .ireturn, 1, (0, 0, 0, 0, 0), [], [])], 0, [])),
  (23, ([(23, .lload_n 2, 1, (0, 0, 0, 0, 0), [], []), (24, .invokestatic 116, 3, (158, 1, 0, 0, 880), [0, 1, 2], [2])], 0, [])),
  (27, ([(27, .ifCond .eq 17, 3, (44, 0, 0, 0, 0), [], [0, 1, 2])], 0, [])),
  (30, ([(30, .aload_n 0, 1, (0, 0, 0, 0, 0), [], []), (31, .aload_n 1, 1, (0, 0, 0, 0, 0), [], []), (32, .lload_n 2, 1, (0, 0, 0, 0, 0), [], []), (33, .l2i, 1, (0, 0, 0, 0, 0), [], []), (34, .sipush 200, 3, (0, 0, 0, 0, 0), [], []), (37, .isub, 1, (0, 0, 0, 0, 0), [], []), (38, .invokevirtual 119, 3, (144, 3, 10, 0, 885), [], [3])], 0, [])),
  (41, ([(41, .goto 4, 3, (45, 0, 0, 0, 0), [], [])], 0, [])),
  (44, ([(44, .iconst 1, 1, (0, 0, 0, 0, 0), [], [])], 45, [])),
  (45, ([(45, .ireturn, 1, (0, 0, 0, 0, 0), [], [])], 0, []))]
def cd_Hanging_doDeeds : List (Nat × AB) := [
  (0, ([(0, .iconst 0, 1, (0, 0, 0, 0, 0), [], []), (1, .istore_n 3, 1, (0, 0, 0, 0, 0), [], [])], 2, [0, 1, 2, 3])),
  (2, ([(2, .iload_n 3, 1, (0, 0, 0, 0, 0), [], []), (3, .aload_n 2, 1, (0, 0, 0, 0, 0), [], []), (4, .getfield 122, 3, (7, 2, 0, 265, 0), [], []), (7, .if_icmp .ge 70, 3, (77, 0, 0, 0, 0), [2], [0, 1, 2, 3])], 0, [])),
  (10, ([(10, .aload_n 2, 1, (0, 0, 0, 0, 0), [], []), (11, .iload_n 3, 1, (0, 0, 0, 0, 0), [], []), (12, .invokevirtual 127, 3, (156, 2, 10, 7, 867), [0, 1, 2, 3], [2])], 0, [])),
  (15, ([(15, .lstore 4, 2, (0, 0, 0, 0, 0), [], []), (17, .aload_n 0, 1, (0, 0, 0, 0, 0), [], []), (18, .aload_n 1, 1, (0, 0, 0, 0, 0), [], []), (19, .lload 4, 2, (0, 0, 0, 0, 0), [], []), (21, .invokevirtual 131, 3, (159, 3, 10, 0, 871), [0, 1, 2, 3, 4], [4])], 0, [])),
  (24, ([(24, .ifCond .eq 5, 3, (29, 0, 0, 0, 0), [0, 1, 2, 3, 4], [3])], 0, [])),
  (27, ([(27, .iload_n 3, 1, (0, 0, 0, 0, 0), [], []), (28, .ireturn, 1, (0, 0, 0, 0, 0), [], [])], 0, [])),
  (29, ([(29, .lload 4, 2, (0, 0, 0, 0, 0), [], []), (31, .invokestatic 108, 3, (157, 1, 0, 0, 875), [0, 1, 2, 3, 4], [2])], 0, [])),
  (34, ([(34, .ifCond .eq 24, 3, (58, 0, 0, 0, 0), [0, 1, 2, 3, 4], [0, 1, 2, 3, 4])], 0, [])),
  (37, ([(37, .aload_n 0, 1, (0, 0, 0, 0, 0), [], []), (38, .aload_n 1, 1, (0, 0, 0, 0, 0), [], []), (39, .lload 4, 2, (0, 0, 0, 0, 0), [], []), (41, .l2i, 1, (0, 0, 0, 0, 0), [], []), (42, .bipush 12, 2, (0, 0, 0, 0, 0), [], []), (44, .idiv, 1, (0, 0, 0, 0, 0), [], []), (45, .lload 4, 2, (0, 0, 0, 0, 0), [], []), (47, .l2i, 1, (0, 0, 0, 0, 0), [], []), (48, .bipush 12, 2, (0, 0, 0, 0, 0), [], []), (50, .irem, 1, (0, 0, 0, 0, 0), [], []), (51, .invokevirtual 135, 3, (135, 4, 10, 0, 886), [0, 1, 2, 3], [4])], 0, [])),
  (54, ([(54, .pop, 1, (0, 0, 0, 0, 0), [], []), (55, .goto 16, 3, (71, 0, 0, 0, 0), [0, 1, 2, 3], [])], 0, [])),
  (58, ([(58, .aload_n 0, 1, (0, 0, 0, 0, 0), [], []), (59, .aload_n 1, 1, (0, 0, 0, 0, 0), [], []), (60, .lload 4, 2, (0, 0, 0, 0, 0), [], []), (62, .l2i, 1, (0, 0, 0, 0, 0), [], []), (63, .sipush 200, 3, (0, 0, 0, 0, 0), [], []), (66, .isub, 1, (0, 0, 0, 0, 0), [], []), (67, .invokevirtual 138, 3, (145, 3, 10, 0, 887), [0, 1, 2, 3], [4])], 0, [])),
  (70, ([(70, .pop, 1, (0, 0, 0, 0, 0), [], [])], 71, [0, 1, 2, 3])),
  (71, ([(71, .iinc 3 1, 3, (0, 0, 0, 0, 0), [], []), (74, .goto (-72), 3, (2, 0, 0, 0, 0), [0, 1, 2, 3], [])], 0, [])),
  (77, ([(77, .aload_n 2, 1, (0, 0, 0, 0, 0), [], []), (78, .getfield 122, 3, (7, 2, 0, 265, 0), [], []), (81, .ireturn, 1, (0, 0, 0, 0, 0), [], [])], 0, []))]
def cd_Hook_judge : List (Nat × AB) := [
  (0, ([(0, .iload_n 1, 1, (0, 0, 0, 0, 0), [], []), (1, .invokestatic 213, 3, (154, 1, 0, 0, 856), [0, 1, 2], [1])], 0, [])),
  (4, ([(4, .ifCond .eq 12, 3, (16, 0, 0, 0, 0), [], [0, 1, 2])], 0, [])),
  (7, ([(7, .iload_n 2, 1, (0, 0, 0, 0, 0), [], []), (8, .ifCond .lt 8, 3, (16, 0, 0, 0, 0), [], [0, 1, 2])], 0, [])),
  (11, ([(11, .iload_n 2, 1, (0, 0, 0, 0, 0), [], []), (12, .iconst 3, 1, (0, 0, 0, 0, 0), [], []), (13, .if_icmp .le 6, 3, (19, 0, 0, 0, 0), [0, 1, 2], [])], 0, [])),
  (16, ([(16, .bipush (-2), 2, (0, 0, 0, 0, 0), [], []), (18, .ireturn, 1, (0, 0, 0, 0, 0), [], [])], 0, [])),
  (19, ([(19, .aload_n 0, 1, (0, 0, 0, 0, 0), [], []), (20, .getfield 59, 3, (10, 10, 2, 364, 0), [], []), (23, .iload_n 1, 1, (0, 0, 0, 0, 0), [], []), (24, .aaload, 1, (24, 7, 0, 0, 0), [], []), (25, .astore_n 3, 1, (0, 0, 0, 0, 0), [], []), (26, .aload_n 3, 1, (0, 0, 0, 0, 0), [], []), (27, .invokevirtual 216, 3, (155, 1, 10, 7, 859), [0, 2, 3], [1])], 0, [])),
  (30, ([(30, .ifCond .eq 6, 3, (36, 0, 0, 0, 0), [0, 2, 3], [])], 0, [])),
  (33, ([(33, .bipush (-6), 2, (0, 0, 0, 0, 0), [], []), (35, .ireturn, 1, (0, 0, 0, 0, 0), [], [])], 0, [])),
  (36, ([(36, .aload_n 0, 1, (0, 0, 0, 0, 0), [], []), (37, .getfield 47, 3, (10, 8, 2, 362, 0), [], []), (40, .aload_n 0, 1, (0, 0, 0, 0, 0), [], []), (41, .getfield 43, 3, (10, 7, 2, 361, 0), [], []), (44, .invokevirtual 119, 3, (67, 2, 11, 0, 721), [0, 2, 3], [2])], 0, [])),
  (47, ([(47, .aload_n 0, 1, (0, 0, 0, 0, 0), [], []), (48, .getfield 47, 3, (10, 8, 2, 362, 0), [], []), (51, .aload_n 0, 1, (0, 0, 0, 0, 0), [], []), (52, .getfield 33, 3, (10, 5, 2, 359, 0), [], []), (55, .aload_n 3, 1, (0, 0, 0, 0, 0), [], []), (56, .invokevirtual 220, 3, (160, 3, 10, 0, 863), [0, 2, 3], [6])], 0, [])),
  (59, ([(59, .istore 4, 2, (0, 0, 0, 0, 0), [], []), (61, .iload 4, 2, (0, 0, 0, 0, 0), [], []), (63, .aload_n 3, 1, (0, 0, 0, 0, 0), [], []), (64, .getfield 224, 3, (7, 2, 0, 264, 0), [], []), (67, .if_icmp .ge 7, 3, (74, 0, 0, 0, 0), [0, 2, 3, 4], [0, 2, 3, 4])], 0, [])),
  (70, ([(70, .iconst 1, 1, (0, 0, 0, 0, 0), [], []), (71, .goto 4, 3, (75, 0, 0, 0, 0), [0, 2, 3, 4], [])], 0, [])),
  (74, ([(74, .iconst 0, 1, (0, 0, 0, 0, 0), [], [])], 75, [0, 2, 3, 4])),
  (75, ([(75, .istore 5, 2, (0, 0, 0, 0, 0), [], []), (77, .iload_n 2, 1, (0, 0, 0, 0, 0), [], []), (78, .tableswitch 81 0 2 #[26, 38, 65], 26, (159, 0, 0, 0, 0), [0, 104, 1, 116, 2, 143], [0, 3, 4, 5])], 0, [])),
  (104, ([(104, .iload 5, 2, (0, 0, 0, 0, 0), [], []), (106, .ifCond .eq 8, 3, (114, 0, 0, 0, 0), [], [4])], 0, [])),
  (109, ([(109, .iload 4, 2, (0, 0, 0, 0, 0), [], []), (111, .goto 4, 3, (115, 0, 0, 0, 0), [], [])], 0, [])),
  (114, ([(114, .iconst (-1), 1, (0, 0, 0, 0, 0), [], [])], 115, [])),
  (115, ([(115, .ireturn, 1, (0, 0, 0, 0, 0), [], [])], 0, [])),
  (116, ([(116, .iload 5, 2, (0, 0, 0, 0, 0), [], []), (118, .ifCond .eq 23, 3, (141, 0, 0, 0, 0), [], [0, 3, 4])], 0, [])),
  (121, ([(121, .aload_n 0, 1, (0, 0, 0, 0, 0), [], []), (122, .getfield 47, 3, (10, 8, 2, 362, 0), [], []), (125, .aload_n 0, 1, (0, 0, 0, 0, 0), [], []), (126, .getfield 33, 3, (10, 5, 2, 359, 0), [], []), (129, .aload_n 3, 1, (0, 0, 0, 0, 0), [], []), (130, .iload 4, 2, (0, 0, 0, 0, 0), [], []), (132, .invokevirtual 227, 3, (156, 2, 10, 7, 888), [], [2])], 0, [])),
  (135, ([(135, .invokevirtual 231, 3, (159, 3, 10, 0, 889), [], [4])], 0, [])),
  (138, ([(138, .goto 4, 3, (142, 0, 0, 0, 0), [], [])], 0, [])),
  (141, ([(141, .iconst 0, 1, (0, 0, 0, 0, 0), [], [])], 142, [])),
  (142, ([(142, .ireturn, 1, (0, 0, 0, 0, 0), [], [])], 0, [])),
  (143, ([(143, .aload_n 0, 1, (0, 0, 0, 0, 0), [], []), (144, .getfield 47, 3, (10, 8, 2, 362, 0), [], []), (147, .getfield 235, 3, (0, 2, 0, 228, 0), [], []), (150, .aload_n 0, 1, (0, 0, 0, 0, 0), [], []), (151, .getfield 43, 3, (10, 7, 2, 361, 0), [], []), (154, .getfield 235, 3, (0, 2, 0, 228, 0), [], []), (157, .isub, 1, (0, 0, 0, 0, 0), [], []), (158, .ireturn, 1, (0, 0, 0, 0, 0), [], [])], 0, [])),
  (159, ([(159, .aload_n 0, 1, (0, 0, 0, 0, 0), [], []), (160, .getfield 47, 3, (10, 8, 2, 362, 0), [], []), (163, .aload_n 0, 1, (0, 0, 0, 0, 0), [], []), (164, .getfield 33, 3, (10, 5, 2, 359, 0), [], []), (167, .invokevirtual 176, 3, (121, 2, 10, 0, 775), [], [4])], 0, [])),
  (170, ([(170, .ireturn, 1, (0, 0, 0, 0, 0), [], [])], 0, []))]
def cd_Mod_noTray : List (Nat × AB) := [
  (0, ([(0, .iload_n 1, 1, (0, 0, 0, 0, 0), [], []), (1, .i2l, 1, (0, 0, 0, 0, 0), [], []), (2, .lconst 0, 1, (0, 0, 0, 0, 0), [], []), (3, .ldc2_w 297, 3, (0, 0, 0, 1603, 3), [], []), (6, .invokestatic 136, 3, (71, 3, 0, 0, 1372), [0, 1], [6])], 0, [])),
  (9, ([(9, .ifCond .ne 8, 3, (17, 0, 0, 0, 0), [0, 1], [])], 0, [])),
  (12, ([(12, .bipush (-2), 2, (0, 0, 0, 0, 0), [], []), (14, .goto 19, 3, (33, 0, 0, 0, 0), [], [])], 0, [])),
  (17, ([(17, .aload_n 0, 1, (0, 0, 0, 0, 0), [], []), (18, .getfield 61, 3, (11, 33, 2, 1288, 0), [], []), (21, .iload_n 1, 1, (0, 0, 0, 0, 0), [], []), (22, .iaload, 1, (20, 0, 0, 0, 0), [], []), (23, .iconst (-1), 1, (0, 0, 0, 0, 0), [], []), (24, .if_icmp .ne 8, 3, (32, 0, 0, 0, 0), [], [])], 0, [])),
  (27, ([(27, .bipush (-6), 2, (0, 0, 0, 0, 0), [], []), (29, .goto 4, 3, (33, 0, 0, 0, 0), [], [])], 0, [])),
  (32, ([(32, .iconst 0, 1, (0, 0, 0, 0, 0), [], [])], 33, [])),
  (33, ([(33, .ireturn, 1, (0, 0, 0, 0, 0), [], [])], 0, []))]
def cd_Mod_whyNotTold : List (Nat × AB) := [
  (0, ([(0, .lload_n 1, 1, (0, 0, 0, 0, 0), [], []), (1, .lconst 0, 1, (0, 0, 0, 0, 0), [], []), (2, .ldc2_w 284, 3, (0, 0, 0, 1616, 143), [], []), (5, .invokestatic 136, 3, (71, 3, 0, 0, 1372), [0, 1], [6])], 0, [])),
  (8, ([(8, .ifCond .eq 21, 3, (29, 0, 0, 0, 0), [0, 1], [0, 1])], 0, [])),
  (11, ([(11, .aload_n 0, 1, (0, 0, 0, 0, 0), [], []), (12, .getfield 13, 3, (11, 1, 2, 1256, 0), [], []), (15, .lload_n 1, 1, (0, 0, 0, 0, 0), [], []), (16, .l2i, 1, (0, 0, 0, 0, 0), [], []), (17, .bipush 12, 2, (0, 0, 0, 0, 0), [], []), (19, .idiv, 1, (0, 0, 0, 0, 0), [], []), (20, .lload_n 1, 1, (0, 0, 0, 0, 0), [], []), (21, .l2i, 1, (0, 0, 0, 0, 0), [], []), (22, .bipush 12, 2, (0, 0, 0, 0, 0), [], []), (24, .irem, 1, (0, 0, 0, 0, 0), [], []), (25, .invokestatic 177, 3, (98, 3, 0, 0, 1480), [], [6])], 0, [])),
  (28, ([(28, .ireturn, 1, (0, 0, 0, 0, 0), [], [])], 0, [])),
  (29, ([(29, .lload_n 1, 1, (0, 0, 0, 0, 0), [], []), (30, .ldc2_w 286, 3, (0, 0, 0, 1617, 200), [], []), (33, .ldc2_w 288, 3, (0, 0, 0, 1618, 211), [], []), (36, .invokestatic 136, 3, (71, 3, 0, 0, 1372), [0, 1], [6])], 0, [])),
  (39, ([(39, .ifCond .eq 16, 3, (55, 0, 0, 0, 0), [], [0, 1])], 0, [])),
  (42, ([(42, .aload_n 0, 1, (0, 0, 0, 0, 0), [], []), (43, .lload_n 1, 1, (0, 0, 0, 0, 0), [], []), (44, .l2i, 1, (0, 0, 0, 0, 0), [], []), (45, .sipush 200, 3, (0, 0, 0, 0, 0), [], []), (48, .isub, 1, (0, 0, 0, 0, 0), [], []), (49, .invokevirtual 276, 3, (147, 2, 10, 11, 1586), [], [2])], 0, [])),
  (52, ([(52, .goto 4, 3, (56, 0, 0, 0, 0), [], [])], 0, [])),
  (55, ([(55, .iconst 1, 1, (0, 0, 0, 0, 0), [], [])], 56, [])),
  (56, ([(56, .ireturn, 1, (0, 0, 0, 0, 0), [], [])], 0, []))]
def cd_Mod_tells : List (Nat × AB) := [
  (0, ([(0, .aload_n 0, 1, (0, 0, 0, 0, 0), [], []), (1, .iconst 0, 1, (0, 0, 0, 0, 0), [], []), (2, .putfield 290, 3, (11, 17, 0, 1272, 0), [], [])], 5, [0, 1])),
  (5, ([(5, .iconst 0, 1, (0, 0, 0, 0, 0), [], []), (6, .istore_n 2, 1, (0, 0, 0, 0, 0), [], [])], 7, [0, 1, 2])),
  (7, ([(7, .iload_n 2, 1, (0, 0, 0, 0, 0), [], []), (8, .aload_n 0, 1, (0, 0, 0, 0, 0), [], []), (9, .getfield 64, 3, (11, 34, 2, 1289, 0), [], []), (12, .iload_n 1, 1, (0, 0, 0, 0, 0), [], []), (13, .iaload, 1, (20, 0, 0, 0, 0), [], []), (14, .if_icmp .ge 74, 3, (88, 0, 0, 0, 0), [0, 1], [0, 1, 2])], 0, [])),
  (17, ([(17, .aload_n 0, 1, (0, 0, 0, 0, 0), [], []), (18, .getfield 67, 3, (11, 35, 2, 1290, 0), [], []), (21, .bipush 40, 2, (0, 0, 0, 0, 0), [], []), (23, .iload_n 1, 1, (0, 0, 0, 0, 0), [], []), (24, .imul, 1, (0, 0, 0, 0, 0), [], []), (25, .iload_n 2, 1, (0, 0, 0, 0, 0), [], []), (26, .iadd, 1, (0, 0, 0, 0, 0), [], []), (27, .laload, 1, (0, 0, 0, 0, 0), [], []), (28, .lstore_n 3, 1, (0, 0, 0, 0, 0), [], []), (29, .aload_n 0, 1, (0, 0, 0, 0, 0), [], []), (30, .aload_n 0, 1, (0, 0, 0, 0, 0), [], []), (31, .lload_n 3, 1, (0, 0, 0, 0, 0), [], []), (32, .invokevirtual 293, 3, (163, 2, 10, 11, 1612), [0, 1, 2, 3], [3])], 0, [])),
  (35, ([(35, .putfield 290, 3, (11, 17, 0, 1272, 0), [], [])], 38, [0, 1, 2, 3])),
  (38, ([(38, .aload_n 0, 1, (0, 0, 0, 0, 0), [], []), (39, .getfield 290, 3, (11, 17, 0, 1272, 0), [], []), (42, .ifCond .eq 5, 3, (47, 0, 0, 0, 0), [0, 1, 2, 3], [2])], 0, [])),
  (45, ([(45, .iload_n 2, 1, (0, 0, 0, 0, 0), [], []), (46, .ireturn, 1, (0, 0, 0, 0, 0), [], [])], 0, [])),
  (47, ([(47, .lload_n 3, 1, (0, 0, 0, 0, 0), [], []), (48, .ldc2_w 286, 3, (0, 0, 0, 1617, 200), [], []), (51, .lcmp, 1, (0, 0, 0, 0, 0), [], []), (52, .ifCond .ge 20, 3, (72, 0, 0, 0, 0), [0, 1, 2, 3], [0, 1, 2, 3])], 0, [])),
  (55, ([(55, .aload_n 0, 1, (0, 0, 0, 0, 0), [], []), (56, .lload_n 3, 1, (0, 0, 0, 0, 0), [], []), (57, .l2i, 1, (0, 0, 0, 0, 0), [], []), (58, .bipush 12, 2, (0, 0, 0, 0, 0), [], []), (60, .idiv, 1, (0, 0, 0, 0, 0), [], []), (61, .lload_n 3, 1, (0, 0, 0, 0, 0), [], []), (62, .l2i, 1, (0, 0, 0, 0, 0), [], []), (63, .bipush 12, 2, (0, 0, 0, 0, 0), [], []), (65, .irem, 1, (0, 0, 0, 0, 0), [], []), (66, .invokevirtual 270, 3, (141, 3, 11, 11, 1562), [0, 1, 2], [3])], 0, [])),
  (69, ([(69, .goto 13, 3, (82, 0, 0, 0, 0), [0, 1, 2], [])], 0, [])),
  (72, ([(72, .aload_n 0, 1, (0, 0, 0, 0, 0), [], []), (73, .lload_n 3, 1, (0, 0, 0, 0, 0), [], []), (74, .l2i, 1, (0, 0, 0, 0, 0), [], []), (75, .sipush 200, 3, (0, 0, 0, 0, 0), [], []), (78, .isub, 1, (0, 0, 0, 0, 0), [], []), (79, .invokevirtual 279, 3, (148, 2, 11, 11, 1590), [0, 1, 2], [2])], 0, [])),
  (82, ([(82, .iinc 2 1, 3, (0, 0, 0, 0, 0), [], []), (85, .goto (-78), 3, (7, 0, 0, 0, 0), [0, 1, 2], [])], 0, [])),
  (88, ([(88, .aload_n 0, 1, (0, 0, 0, 0, 0), [], []), (89, .getfield 64, 3, (11, 34, 2, 1289, 0), [], []), (92, .iload_n 1, 1, (0, 0, 0, 0, 0), [], []), (93, .iaload, 1, (20, 0, 0, 0, 0), [], []), (94, .ireturn, 1, (0, 0, 0, 0, 0), [], [])], 0, []))]
def cd_Mod_isAgain : List (Nat × AB) := [
  (0, ([(0, .iconst 0, 1, (0, 0, 0, 0, 0), [], []), (1, .istore_n 1, 1, (0, 0, 0, 0, 0), [], [])], 2, [0, 1])),
  (2, ([(2, .iload_n 1, 1, (0, 0, 0, 0, 0), [], []), (3, .bipush 14, 2, (0, 0, 0, 0, 0), [], []), (5, .if_icmp .ge 24, 3, (29, 0, 0, 0, 0), [], [0, 1])], 0, [])),
  (8, ([(8, .aload_n 0, 1, (0, 0, 0, 0, 0), [], []), (9, .getfield 13, 3, (11, 1, 2, 1256, 0), [], []), (12, .bipush 59, 2, (0, 0, 0, 0, 0), [], []), (14, .iload_n 1, 1, (0, 0, 0, 0, 0), [], []), (15, .iadd, 1, (0, 0, 0, 0, 0), [], []), (16, .aload_n 0, 1, (0, 0, 0, 0, 0), [], []), (17, .getfield 33, 3, (11, 16, 2, 1271, 0), [], []), (20, .iload_n 1, 1, (0, 0, 0, 0, 0), [], []), (21, .iaload, 1, (20, 0, 0, 0, 0), [], []), (22, .iastore, 1, (0, 0, 0, 0, 0), [], [])], 23, [0, 1])),
  (23, ([(23, .iinc 1 1, 3, (0, 0, 0, 0, 0), [], []), (26, .goto (-24), 3, (2, 0, 0, 0, 0), [0, 1], [])], 0, [])),
  (29, ([(29, .return_, 1, (0, 0, 0, 0, 0), [], [])], 0, []))]
def cd_Mod_judge : List (Nat × AB) := [
  (0, ([(0, .aload_n 0, 1, (0, 0, 0, 0, 0), [], []), (1, .iconst 0, 1, (0, 0, 0, 0, 0), [], []), (2, .putfield 1, 3, (11, 0, 0, 1255, 0), [], [])], 5, [0, 1, 2])),
  (5, ([(5, .iload_n 2, 1, (0, 0, 0, 0, 0), [], []), (6, .i2l, 1, (0, 0, 0, 0, 0), [], []), (7, .lconst 0, 1, (0, 0, 0, 0, 0), [], []), (8, .ldc2_w 297, 3, (0, 0, 0, 1603, 3), [], []), (11, .invokestatic 136, 3, (71, 3, 0, 0, 1372), [0, 1, 2], [6])], 0, [])),
  (14, ([(14, .ifCond .ne 6, 3, (20, 0, 0, 0, 0), [0, 1, 2], [])], 0, [])),
  (17, ([(17, .bipush (-2), 2, (0, 0, 0, 0, 0), [], []), (19, .ireturn, 1, (0, 0, 0, 0, 0), [], [])], 0, [])),
  (20, ([(20, .aload_n 0, 1, (0, 0, 0, 0, 0), [], []), (21, .iload_n 1, 1, (0, 0, 0, 0, 0), [], []), (22, .invokevirtual 299, 3, (162, 2, 10, 11, 1604), [0, 1, 2], [2])], 0, [])),
  (25, ([(25, .istore_n 3, 1, (0, 0, 0, 0, 0), [], []), (26, .iload_n 3, 1, (0, 0, 0, 0, 0), [], []), (27, .ifCond .eq 5, 3, (32, 0, 0, 0, 0), [0, 1, 2], [3])], 0, [])),
  (30, ([(30, .iload_n 3, 1, (0, 0, 0, 0, 0), [], []), (31, .ireturn, 1, (0, 0, 0, 0, 0), [], [])], 0, [])),
  (32, ([(32, .aload_n 0, 1, (0, 0, 0, 0, 0), [], []), (33, .invokevirtual 267, 3, (137, 1, 11, 11, 1558), [0, 1, 2], [2])], 0, [])),
  (36, ([(36, .aload_n 0, 1, (0, 0, 0, 0, 0), [], []), (37, .iload_n 1, 1, (0, 0, 0, 0, 0), [], []), (38, .invokevirtual 302, 3, (164, 2, 10, 11, 1608), [0, 2], [5])], 0, [])),
  (41, ([(41, .istore 4, 2, (0, 0, 0, 0, 0), [], []), (43, .aload_n 0, 1, (0, 0, 0, 0, 0), [], []), (44, .getfield 13, 3, (11, 1, 2, 1256, 0), [], []), (47, .bipush 60, 2, (0, 0, 0, 0, 0), [], []), (49, .iaload, 1, (20, 0, 0, 0, 0), [], []), (50, .aload_n 0, 1, (0, 0, 0, 0, 0), [], []), (51, .getfield 33, 3, (11, 16, 2, 1271, 0), [], []), (54, .iconst 1, 1, (0, 0, 0, 0, 0), [], []), (55, .iaload, 1, (20, 0, 0, 0, 0), [], []), (56, .isub, 1, (0, 0, 0, 0, 0), [], []), (57, .istore 5, 2, (0, 0, 0, 0, 0), [], []), (59, .aload_n 0, 1, (0, 0, 0, 0, 0), [], []), (60, .invokevirtual 255, 3, (126, 1, 10, 11, 1546), [0, 2, 4, 5], [3])], 0, [])),
  (63, ([(63, .istore 6, 2, (0, 0, 0, 0, 0), [], []), (65, .aload_n 0, 1, (0, 0, 0, 0, 0), [], []), (66, .invokevirtual 305, 3, (165, 1, 11, 11, 1619), [0, 2, 4, 5, 6], [2])], 0, [])),
  (69, ([(69, .iload_n 2, 1, (0, 0, 0, 0, 0), [], []), (70, .ifCond .ne 19, 3, (89, 0, 0, 0, 0), [0, 2, 5, 6], [0, 4])], 0, [])),
  (73, ([(73, .aload_n 0, 1, (0, 0, 0, 0, 0), [], []), (74, .getfield 290, 3, (11, 17, 0, 1272, 0), [], []), (77, .ifCond .ne 7, 3, (84, 0, 0, 0, 0), [4], [])], 0, [])),
  (80, ([(80, .iconst (-1), 1, (0, 0, 0, 0, 0), [], []), (81, .goto 32, 3, (113, 0, 0, 0, 0), [], [])], 0, [])),
  (84, ([(84, .iload 4, 2, (0, 0, 0, 0, 0), [], []), (86, .goto 27, 3, (113, 0, 0, 0, 0), [], [])], 0, [])),
  (89, ([(89, .iload_n 2, 1, (0, 0, 0, 0, 0), [], []), (90, .iconst 1, 1, (0, 0, 0, 0, 0), [], []), (91, .if_icmp .ne 10, 3, (101, 0, 0, 0, 0), [2, 5, 6], [0])], 0, [])),
  (94, ([(94, .aload_n 0, 1, (0, 0, 0, 0, 0), [], []), (95, .getfield 290, 3, (11, 17, 0, 1272, 0), [], []), (98, .goto 15, 3, (113, 0, 0, 0, 0), [], [])], 0, [])),
  (101, ([(101, .iload_n 2, 1, (0, 0, 0, 0, 0), [], []), (102, .iconst 2, 1, (0, 0, 0, 0, 0), [], []), (103, .if_icmp .ne 8, 3, (111, 0, 0, 0, 0), [6], [5])], 0, [])),
  (106, ([(106, .iload 5, 2, (0, 0, 0, 0, 0), [], []), (108, .goto 5, 3, (113, 0, 0, 0, 0), [], [])], 0, [])),
  (111, ([(111, .iload 6, 2, (0, 0, 0, 0, 0), [], [])], 113, [])),
  (113, ([(113, .ireturn, 1, (0, 0, 0, 0, 0), [], [])], 0, []))]
def cd_Hook_trayCode : List (Nat × AB) := [
  (0, ([(0, .iload_n 1, 1, (0, 0, 0, 0, 0), [], []), (1, .invokestatic 213, 3, (154, 1, 0, 0, 856), [0, 1], [1])], 0, [])),
  (4, ([(4, .ifCond .ne 6, 3, (10, 0, 0, 0, 0), [0, 1], [])], 0, [])),
  (7, ([(7, .bipush (-2), 2, (0, 0, 0, 0, 0), [], []), (9, .ireturn, 1, (0, 0, 0, 0, 0), [], [])], 0, [])),
  (10, ([(10, .aload_n 0, 1, (0, 0, 0, 0, 0), [], []), (11, .getfield 59, 3, (10, 10, 2, 364, 0), [], []), (14, .iload_n 1, 1, (0, 0, 0, 0, 0), [], []), (15, .aaload, 1, (24, 7, 0, 0, 0), [], []), (16, .invokevirtual 216, 3, (155, 1, 10, 7, 859), [], [1])], 0, [])),
  (19, ([(19, .ifCond .eq 8, 3, (27, 0, 0, 0, 0), [], [])], 0, [])),
  (22, ([(22, .bipush (-6), 2, (0, 0, 0, 0, 0), [], []), (24, .goto 4, 3, (28, 0, 0, 0, 0), [], [])], 0, [])),
  (27, ([(27, .iconst 0, 1, (0, 0, 0, 0, 0), [], [])], 28, [])),
  (28, ([(28, .ireturn, 1, (0, 0, 0, 0, 0), [], [])], 0, []))]
def cd_Hook_perform : List (Nat × AB) := [
  (0, ([(0, .aload_n 0, 1, (0, 0, 0, 0, 0), [], []), (1, .iload_n 1, 1, (0, 0, 0, 0, 0), [], []), (2, .invokevirtual 238, 3, (167, 2, 10, 10, 894), [0, 1], [2])], 0, [])),
  (5, ([(5, .istore_n 2, 1, (0, 0, 0, 0, 0), [], []), (6, .iload_n 2, 1, (0, 0, 0, 0, 0), [], []), (7, .ifCond .eq 5, 3, (12, 0, 0, 0, 0), [0, 1], [2])], 0, [])),
  (10, ([(10, .iload_n 2, 1, (0, 0, 0, 0, 0), [], []), (11, .ireturn, 1, (0, 0, 0, 0, 0), [], [])], 0, [])),
  (12, ([(12, .aload_n 0, 1, (0, 0, 0, 0, 0), [], []), (13, .getfield 47, 3, (10, 8, 2, 362, 0), [], []), (16, .aload_n 0, 1, (0, 0, 0, 0, 0), [], []), (17, .getfield 43, 3, (10, 7, 2, 361, 0), [], []), (20, .invokevirtual 119, 3, (67, 2, 11, 0, 721), [0, 1], [2])], 0, [])),
  (23, ([(23, .aload_n 0, 1, (0, 0, 0, 0, 0), [], []), (24, .getfield 43, 3, (10, 7, 2, 361, 0), [], []), (27, .aload_n 0, 1, (0, 0, 0, 0, 0), [], []), (28, .getfield 33, 3, (10, 5, 2, 359, 0), [], []), (31, .aload_n 0, 1, (0, 0, 0, 0, 0), [], []), (32, .getfield 59, 3, (10, 10, 2, 364, 0), [], []), (35, .iload_n 1, 1, (0, 0, 0, 0, 0), [], []), (36, .aaload, 1, (24, 7, 0, 0, 0), [], []), (37, .invokevirtual 220, 3, (160, 3, 10, 0, 863), [0], [6])], 0, [])),
  (40, ([(40, .istore_n 3, 1, (0, 0, 0, 0, 0), [], []), (41, .iload_n 3, 1, (0, 0, 0, 0, 0), [], []), (42, .ifCond .le 14, 3, (56, 0, 0, 0, 0), [3], [0, 3])], 0, [])),
  (45, ([(45, .aload_n 0, 1, (0, 0, 0, 0, 0), [], []), (46, .getfield 53, 3, (10, 9, 2, 363, 0), [], []), (49, .aload_n 0, 1, (0, 0, 0, 0, 0), [], []), (50, .getfield 47, 3, (10, 8, 2, 362, 0), [], []), (53, .invokevirtual 194, 3, (130, 2, 11, 1, 803), [3], [3])], 0, [])),
  (56, ([(56, .iload_n 3, 1, (0, 0, 0, 0, 0), [], []), (57, .ireturn, 1, (0, 0, 0, 0, 0), [], [])], 0, []))]
def cd_Mod_perform : List (Nat × AB) := [
  (0, ([(0, .aload_n 0, 1, (0, 0, 0, 0, 0), [], []), (1, .iconst 0, 1, (0, 0, 0, 0, 0), [], []), (2, .putfield 1, 3, (11, 0, 0, 1255, 0), [], [])], 5, [0, 1])),
  (5, ([(5, .aload_n 0, 1, (0, 0, 0, 0, 0), [], []), (6, .iload_n 1, 1, (0, 0, 0, 0, 0), [], []), (7, .invokevirtual 299, 3, (162, 2, 10, 11, 1604), [0, 1], [2])], 0, [])),
  (10, ([(10, .istore_n 2, 1, (0, 0, 0, 0, 0), [], []), (11, .iload_n 2, 1, (0, 0, 0, 0, 0), [], []), (12, .ifCond .eq 5, 3, (17, 0, 0, 0, 0), [0, 1], [2])], 0, [])),
  (15, ([(15, .iload_n 2, 1, (0, 0, 0, 0, 0), [], []), (16, .ireturn, 1, (0, 0, 0, 0, 0), [], [])], 0, [])),
  (17, ([(17, .aload_n 0, 1, (0, 0, 0, 0, 0), [], []), (18, .invokevirtual 267, 3, (137, 1, 11, 11, 1558), [0, 1], [2])], 0, [])),
  (21, ([(21, .aload_n 0, 1, (0, 0, 0, 0, 0), [], []), (22, .iload_n 1, 1, (0, 0, 0, 0, 0), [], []), (23, .invokevirtual 302, 3, (164, 2, 10, 11, 1608), [0], [5])], 0, [])),
  (26, ([(26, .istore_n 3, 1, (0, 0, 0, 0, 0), [], []), (27, .iload_n 3, 1, (0, 0, 0, 0, 0), [], []), (28, .ifCond .le 7, 3, (35, 0, 0, 0, 0), [3], [0, 3])], 0, [])),
  (31, ([(31, .aload_n 0, 1, (0, 0, 0, 0, 0), [], []), (32, .invokevirtual 273, 3, (142, 1, 11, 11, 1578), [3], [2])], 0, [])),
  (35, ([(35, .iload_n 3, 1, (0, 0, 0, 0, 0), [], []), (36, .ireturn, 1, (0, 0, 0, 0, 0), [], [])], 0, []))]
def cd_Hanging_nextDraw : List (Nat × AB) := [
  (0, ([(0, .ldc 141, 2, (0, 0, 0, 909, 1103515245), [], []), (2, .iload_n 0, 1, (0, 0, 0, 0, 0), [], []), (3, .imul, 1, (0, 0, 0, 0, 0), [], []), (4, .sipush 12345, 3, (0, 0, 0, 0, 0), [], []), (7, .iadd, 1, (0, 0, 0, 0, 0), [], []), (8, .ireturn, 1, (0, 0, 0, 0, 0), [], [])], 0, []))]
def cd_Hanging_spendDay : List (Nat × AB) := [
  (0, ([(0, .aload_n 1, 1, (0, 0, 0, 0, 0), [], []), (1, .getfield 47, 3, (9, 5, 0, 136, 0), [], []), (4, .ifCond .le 10, 3, (14, 0, 0, 0, 0), [], [0, 1, 2, 3])], 0, [])),
  (7, ([(7, .aload_n 1, 1, (0, 0, 0, 0, 0), [], []), (8, .getfield 142, 3, (9, 6, 0, 149, 0), [], []), (11, .ifCond .gt 5, 3, (16, 0, 0, 0, 0), [0, 1, 2, 3], [])], 0, [])),
  (14, ([(14, .iconst 0, 1, (0, 0, 0, 0, 0), [], []), (15, .ireturn, 1, (0, 0, 0, 0, 0), [], [])], 0, [])),
  (16, ([(16, .iload_n 2, 1, (0, 0, 0, 0, 0), [], []), (17, .istore 4, 2, (0, 0, 0, 0, 0), [], []), (19, .iconst 0, 1, (0, 0, 0, 0, 0), [], []), (20, .istore 5, 2, (0, 0, 0, 0, 0), [], []), (22, .iconst 0, 1, (0, 0, 0, 0, 0), [], []), (23, .istore 6, 2, (0, 0, 0, 0, 0), [], [])], 25, [0, 1, 3, 4, 5, 6])),
  (25, ([(25, .iload 6, 2, (0, 0, 0, 0, 0), [], []), (27, .iload_n 3, 1, (0, 0, 0, 0, 0), [], []), (28, .if_icmp .ge 95, 3, (123, 0, 0, 0, 0), [5], [0, 1, 3, 4, 5, 6])], 0, [])),
  (31, ([(31, .iload 4, 2, (0, 0, 0, 0, 0), [], []), (33, .invokestatic 145, 3, (170, 1, 0, 0, 906), [0, 1, 3, 5, 6], [1])], 0, [])),
  (36, ([(36, .istore 4, 2, (0, 0, 0, 0, 0), [], []), (38, .iload 4, 2, (0, 0, 0, 0, 0), [], []), (40, .bipush 16, 2, (0, 0, 0, 0, 0), [], []), (42, .iushr, 1, (0, 0, 0, 0, 0), [], []), (43, .aload_n 1, 1, (0, 0, 0, 0, 0), [], []), (44, .getfield 47, 3, (9, 5, 0, 136, 0), [], []), (47, .irem, 1, (0, 0, 0, 0, 0), [], []), (48, .istore 7, 2, (0, 0, 0, 0, 0), [], []), (50, .aload_n 0, 1, (0, 0, 0, 0, 0), [], []), (51, .iload 7, 2, (0, 0, 0, 0, 0), [], []), (53, .invokevirtual 37, 3, (37, 2, 10, 0, 618), [0, 1, 3, 4, 5, 6, 7], [2])], 0, [])),
  (56, ([(56, .ifCond .eq 17, 3, (73, 0, 0, 0, 0), [0, 1, 3, 4, 5, 6, 7], [0, 1, 3, 4, 5, 6, 7])], 0, [])),
  (59, ([(59, .aload_n 0, 1, (0, 0, 0, 0, 0), [], []), (60, .aload_n 1, 1, (0, 0, 0, 0, 0), [], []), (61, .iload 7, 2, (0, 0, 0, 0, 0), [], []), (63, .invokevirtual 138, 3, (145, 3, 10, 0, 887), [0, 1, 3, 4, 5, 6], [4])], 0, [])),
  (66, ([(66, .pop, 1, (0, 0, 0, 0, 0), [], []), (67, .iinc 5 1, 3, (0, 0, 0, 0, 0), [], []), (70, .goto 47, 3, (117, 0, 0, 0, 0), [0, 1, 3, 4, 5, 6], [])], 0, [])),
  (73, ([(73, .iload 4, 2, (0, 0, 0, 0, 0), [], []), (75, .invokestatic 145, 3, (170, 1, 0, 0, 906), [0, 1, 3, 5, 6, 7], [1])], 0, [])),
  (78, ([(78, .istore 4, 2, (0, 0, 0, 0, 0), [], []), (80, .iload 4, 2, (0, 0, 0, 0, 0), [], []), (82, .bipush 16, 2, (0, 0, 0, 0, 0), [], []), (84, .iushr, 1, (0, 0, 0, 0, 0), [], []), (85, .aload_n 1, 1, (0, 0, 0, 0, 0), [], []), (86, .getfield 142, 3, (9, 6, 0, 149, 0), [], []), (89, .irem, 1, (0, 0, 0, 0, 0), [], []), (90, .istore 8, 2, (0, 0, 0, 0, 0), [], []), (92, .aload_n 0, 1, (0, 0, 0, 0, 0), [], []), (93, .aload_n 1, 1, (0, 0, 0, 0, 0), [], []), (94, .iload 7, 2, (0, 0, 0, 0, 0), [], []), (96, .iload 8, 2, (0, 0, 0, 0, 0), [], []), (98, .invokevirtual 112, 3, (43, 4, 10, 0, 879), [0, 1, 3, 4, 5, 6, 7, 8], [6])], 0, [])),
  (101, ([(101, .ifCond .ne 16, 3, (117, 0, 0, 0, 0), [0, 1, 3, 4, 5, 6], [0, 1, 3, 4, 5, 6, 7, 8])], 0, [])),
  (104, ([(104, .aload_n 0, 1, (0, 0, 0, 0, 0), [], []), (105, .aload_n 1, 1, (0, 0, 0, 0, 0), [], []), (106, .iload 7, 2, (0, 0, 0, 0, 0), [], []), (108, .iload 8, 2, (0, 0, 0, 0, 0), [], []), (110, .invokevirtual 135, 3, (135, 4, 10, 0, 886), [0, 1, 3, 4, 5, 6], [4])], 0, [])),
  (113, ([(113, .pop, 1, (0, 0, 0, 0, 0), [], []), (114, .iinc 5 1, 3, (0, 0, 0, 0, 0), [], [])], 117, [0, 1, 3, 4, 5, 6])),
  (117, ([(117, .iinc 6 1, 3, (0, 0, 0, 0, 0), [], []), (120, .goto (-95), 3, (25, 0, 0, 0, 0), [0, 1, 3, 4, 5, 6], [])], 0, [])),
  (123, ([(123, .iload 5, 2, (0, 0, 0, 0, 0), [], []), (125, .ireturn, 1, (0, 0, 0, 0, 0), [], [])], 0, []))]
def cd_Hook_day : List (Nat × AB) := [
  (0, ([(0, .iload_n 2, 1, (0, 0, 0, 0, 0), [], []), (1, .iconst 1, 1, (0, 0, 0, 0, 0), [], []), (2, .if_icmp .lt 9, 3, (11, 0, 0, 0, 0), [], [0, 1, 2])], 0, [])),
  (5, ([(5, .iload_n 2, 1, (0, 0, 0, 0, 0), [], []), (6, .bipush 60, 2, (0, 0, 0, 0, 0), [], []), (8, .if_icmp .le 6, 3, (14, 0, 0, 0, 0), [0, 1, 2], [])], 0, [])),
  (11, ([(11, .bipush (-3), 2, (0, 0, 0, 0, 0), [], []), (13, .ireturn, 1, (0, 0, 0, 0, 0), [], [])], 0, [])),
  (14, ([(14, .aload_n 0, 1, (0, 0, 0, 0, 0), [], []), (15, .getfield 33, 3, (10, 5, 2, 359, 0), [], []), (18, .getfield 140, 3, (9, 5, 0, 137, 0), [], []), (21, .ifCond .eq 13, 3, (34, 0, 0, 0, 0), [], [0, 1, 2])], 0, [])),
  (24, ([(24, .aload_n 0, 1, (0, 0, 0, 0, 0), [], []), (25, .getfield 33, 3, (10, 5, 2, 359, 0), [], []), (28, .getfield 163, 3, (9, 6, 0, 147, 0), [], []), (31, .ifCond .ne 6, 3, (37, 0, 0, 0, 0), [0, 1, 2], [])], 0, [])),
  (34, ([(34, .bipush (-5), 2, (0, 0, 0, 0, 0), [], []), (36, .ireturn, 1, (0, 0, 0, 0, 0), [], [])], 0, [])),
  (37, ([(37, .aload_n 0, 1, (0, 0, 0, 0, 0), [], []), (38, .getfield 47, 3, (10, 8, 2, 362, 0), [], []), (41, .aload_n 0, 1, (0, 0, 0, 0, 0), [], []), (42, .getfield 43, 3, (10, 7, 2, 361, 0), [], []), (45, .invokevirtual 119, 3, (67, 2, 11, 0, 721), [0, 1, 2], [2])], 0, [])),
  (48, ([(48, .aload_n 0, 1, (0, 0, 0, 0, 0), [], []), (49, .getfield 43, 3, (10, 7, 2, 361, 0), [], []), (52, .aload_n 0, 1, (0, 0, 0, 0, 0), [], []), (53, .getfield 33, 3, (10, 5, 2, 359, 0), [], []), (56, .iload_n 1, 1, (0, 0, 0, 0, 0), [], []), (57, .iload_n 2, 1, (0, 0, 0, 0, 0), [], []), (58, .invokevirtual 242, 3, (171, 4, 10, 0, 902), [0], [9])], 0, [])),
  (61, ([(61, .istore_n 3, 1, (0, 0, 0, 0, 0), [], []), (62, .iload_n 3, 1, (0, 0, 0, 0, 0), [], []), (63, .ifCond .le 14, 3, (77, 0, 0, 0, 0), [3], [0, 3])], 0, [])),
  (66, ([(66, .aload_n 0, 1, (0, 0, 0, 0, 0), [], []), (67, .getfield 53, 3, (10, 9, 2, 363, 0), [], []), (70, .aload_n 0, 1, (0, 0, 0, 0, 0), [], []), (71, .getfield 47, 3, (10, 8, 2, 362, 0), [], []), (74, .invokevirtual 194, 3, (130, 2, 11, 1, 803), [3], [3])], 0, [])),
  (77, ([(77, .iload_n 3, 1, (0, 0, 0, 0, 0), [], []), (78, .ireturn, 1, (0, 0, 0, 0, 0), [], [])], 0, []))]
def cd_Mod_draw : List (Nat × AB) := [
  (0, ([(0, .aload_n 0, 1, (0, 0, 0, 0, 0), [], []), (1, .ldc_w 308, 3, (0, 0, 0, 1636, 1103515245), [], []), (4, .aload_n 0, 1, (0, 0, 0, 0, 0), [], []), (5, .getfield 309, 3, (11, 18, 0, 1273, 0), [], []), (8, .imul, 1, (0, 0, 0, 0, 0), [], []), (9, .sipush 12345, 3, (0, 0, 0, 0, 0), [], []), (12, .iadd, 1, (0, 0, 0, 0, 0), [], []), (13, .putfield 309, 3, (11, 18, 0, 1273, 0), [], [])], 16, [0, 1])),
  (16, ([(16, .aload_n 0, 1, (0, 0, 0, 0, 0), [], []), (17, .getfield 309, 3, (11, 18, 0, 1273, 0), [], []), (20, .bipush 16, 2, (0, 0, 0, 0, 0), [], []), (22, .iushr, 1, (0, 0, 0, 0, 0), [], []), (23, .iload_n 1, 1, (0, 0, 0, 0, 0), [], []), (24, .irem, 1, (0, 0, 0, 0, 0), [], []), (25, .ireturn, 1, (0, 0, 0, 0, 0), [], [])], 0, []))]
def cd_Mod_day : List (Nat × AB) := [
  (0, ([(0, .aload_n 0, 1, (0, 0, 0, 0, 0), [], []), (1, .iconst 0, 1, (0, 0, 0, 0, 0), [], []), (2, .putfield 1, 3, (11, 0, 0, 1255, 0), [], [])], 5, [0, 1, 2])),
  (5, ([(5, .iload_n 2, 1, (0, 0, 0, 0, 0), [], []), (6, .i2l, 1, (0, 0, 0, 0, 0), [], []), (7, .lconst 1, 1, (0, 0, 0, 0, 0), [], []), (8, .ldc2_w 312, 3, (0, 0, 0, 1631, 60), [], []), (11, .invokestatic 136, 3, (71, 3, 0, 0, 1372), [0, 1, 2], [6])], 0, [])),
  (14, ([(14, .ifCond .ne 6, 3, (20, 0, 0, 0, 0), [0, 1, 2], [])], 0, [])),
  (17, ([(17, .bipush (-3), 2, (0, 0, 0, 0, 0), [], []), (19, .ireturn, 1, (0, 0, 0, 0, 0), [], [])], 0, [])),
  (20, ([(20, .aload_n 0, 1, (0, 0, 0, 0, 0), [], []), (21, .getfield 13, 3, (11, 1, 2, 1256, 0), [], []), (24, .iconst 1, 1, (0, 0, 0, 0, 0), [], []), (25, .iaload, 1, (20, 0, 0, 0, 0), [], []), (26, .ifCond .eq 12, 3, (38, 0, 0, 0, 0), [], [0, 1, 2])], 0, [])),
  (29, ([(29, .aload_n 0, 1, (0, 0, 0, 0, 0), [], []), (30, .getfield 13, 3, (11, 1, 2, 1256, 0), [], []), (33, .iconst 2, 1, (0, 0, 0, 0, 0), [], []), (34, .iaload, 1, (20, 0, 0, 0, 0), [], []), (35, .ifCond .ne 6, 3, (41, 0, 0, 0, 0), [0, 1, 2], [])], 0, [])),
  (38, ([(38, .bipush (-5), 2, (0, 0, 0, 0, 0), [], []), (40, .ireturn, 1, (0, 0, 0, 0, 0), [], [])], 0, [])),
  (41, ([(41, .aload_n 0, 1, (0, 0, 0, 0, 0), [], []), (42, .invokevirtual 267, 3, (137, 1, 11, 11, 1558), [0, 1, 2], [2])], 0, [])),
  (45, ([(45, .aload_n 0, 1, (0, 0, 0, 0, 0), [], []), (46, .iload_n 1, 1, (0, 0, 0, 0, 0), [], []), (47, .putfield 309, 3, (11, 18, 0, 1273, 0), [], [])], 50, [0, 2])),
  (50, ([(50, .iconst 0, 1, (0, 0, 0, 0, 0), [], []), (51, .istore_n 3, 1, (0, 0, 0, 0, 0), [], []), (52, .iconst 0, 1, (0, 0, 0, 0, 0), [], []), (53, .istore 4, 2, (0, 0, 0, 0, 0), [], [])], 55, [0, 2, 3, 4])),
  (55, ([(55, .iload 4, 2, (0, 0, 0, 0, 0), [], []), (57, .iload_n 2, 1, (0, 0, 0, 0, 0), [], []), (58, .if_icmp .ge 97, 3, (155, 0, 0, 0, 0), [0, 3], [0, 2, 3, 4])], 0, [])),
  (61, ([(61, .aload_n 0, 1, (0, 0, 0, 0, 0), [], []), (62, .aload_n 0, 1, (0, 0, 0, 0, 0), [], []), (63, .getfield 13, 3, (11, 1, 2, 1256, 0), [], []), (66, .iconst 1, 1, (0, 0, 0, 0, 0), [], []), (67, .iaload, 1, (20, 0, 0, 0, 0), [], []), (68, .invokevirtual 314, 3, (173, 2, 10, 11, 1632), [0, 2, 3, 4], [2])], 0, [])),
  (71, ([(71, .istore 5, 2, (0, 0, 0, 0, 0), [], []), (73, .aload_n 0, 1, (0, 0, 0, 0, 0), [], []), (74, .getfield 13, 3, (11, 1, 2, 1256, 0), [], []), (77, .bipush 61, 2, (0, 0, 0, 0, 0), [], []), (79, .iload 5, 2, (0, 0, 0, 0, 0), [], []), (81, .iadd, 1, (0, 0, 0, 0, 0), [], []), (82, .iaload, 1, (20, 0, 0, 0, 0), [], []), (83, .iconst (-1), 1, (0, 0, 0, 0, 0), [], []), (84, .if_icmp .eq 7, 3, (91, 0, 0, 0, 0), [0, 2, 3, 4, 5], [0, 2, 3, 4, 5])], 0, [])),
  (87, ([(87, .iconst (-1), 1, (0, 0, 0, 0, 0), [], []), (88, .goto 13, 3, (101, 0, 0, 0, 0), [0, 2, 3, 4, 5], [])], 0, [])),
  (91, ([(91, .aload_n 0, 1, (0, 0, 0, 0, 0), [], []), (92, .aload_n 0, 1, (0, 0, 0, 0, 0), [], []), (93, .getfield 13, 3, (11, 1, 2, 1256, 0), [], []), (96, .iconst 2, 1, (0, 0, 0, 0, 0), [], []), (97, .iaload, 1, (20, 0, 0, 0, 0), [], []), (98, .invokevirtual 314, 3, (173, 2, 10, 11, 1632), [0, 2, 3, 4, 5], [2])], 0, [])),
  (101, ([(101, .istore 6, 2, (0, 0, 0, 0, 0), [], []), (103, .iload 6, 2, (0, 0, 0, 0, 0), [], []), (105, .iconst (-1), 1, (0, 0, 0, 0, 0), [], []), (106, .if_icmp .ne 12, 3, (118, 0, 0, 0, 0), [0, 2, 3, 4, 5, 6], [0, 2, 3, 4, 5])], 0, [])),
  (109, ([(109, .aload_n 0, 1, (0, 0, 0, 0, 0), [], []), (110, .iload 5, 2, (0, 0, 0, 0, 0), [], []), (112, .invokevirtual 279, 3, (148, 2, 11, 11, 1590), [0, 2, 3, 4], [2])], 0, [])),
  (115, ([(115, .goto 31, 3, (146, 0, 0, 0, 0), [0, 2, 3, 4], [])], 0, [])),
  (118, ([(118, .aload_n 0, 1, (0, 0, 0, 0, 0), [], []), (119, .getfield 13, 3, (11, 1, 2, 1256, 0), [], []), (122, .iload 5, 2, (0, 0, 0, 0, 0), [], []), (124, .iload 6, 2, (0, 0, 0, 0, 0), [], []), (126, .invokestatic 177, 3, (98, 3, 0, 0, 1480), [0, 2, 3, 4, 5, 6], [6])], 0, [])),
  (129, ([(129, .ifCond .ne 14, 3, (143, 0, 0, 0, 0), [0, 2, 3, 4], [0, 2, 3, 4, 5, 6])], 0, [])),
  (132, ([(132, .aload_n 0, 1, (0, 0, 0, 0, 0), [], []), (133, .iload 5, 2, (0, 0, 0, 0, 0), [], []), (135, .iload 6, 2, (0, 0, 0, 0, 0), [], []), (137, .invokevirtual 270, 3, (141, 3, 11, 11, 1562), [0, 2, 3, 4], [3])], 0, [])),
  (140, ([(140, .goto 6, 3, (146, 0, 0, 0, 0), [0, 2, 3, 4], [])], 0, [])),
  (143, ([(143, .iinc 3 (-1), 3, (0, 0, 0, 0, 0), [], [])], 146, [0, 2, 3, 4])),
  (146, ([(146, .iinc 3 1, 3, (0, 0, 0, 0, 0), [], []), (149, .iinc 4 1, 3, (0, 0, 0, 0, 0), [], []), (152, .goto (-97), 3, (55, 0, 0, 0, 0), [0, 2, 3, 4], [])], 0, [])),
  (155, ([(155, .iload_n 3, 1, (0, 0, 0, 0, 0), [], []), (156, .ifCond .le 7, 3, (163, 0, 0, 0, 0), [3], [0, 3])], 0, [])),
  (159, ([(159, .aload_n 0, 1, (0, 0, 0, 0, 0), [], []), (160, .invokevirtual 273, 3, (142, 1, 11, 11, 1578), [3], [2])], 0, [])),
  (163, ([(163, .iload_n 3, 1, (0, 0, 0, 0, 0), [], []), (164, .ireturn, 1, (0, 0, 0, 0, 0), [], [])], 0, []))]
def cd_Hanging_secondsToUnhook : List (Nat × AB) := [
  (0, ([(0, .aload_n 0, 1, (0, 0, 0, 0, 0), [], []), (1, .getfield 24, 3, (0, 1, 0, 223, 0), [], []), (4, .istore 4, 2, (0, 0, 0, 0, 0), [], []), (6, .iconst 0, 1, (0, 0, 0, 0, 0), [], []), (7, .istore 5, 2, (0, 0, 0, 0, 0), [], []), (9, .iconst 0, 1, (0, 0, 0, 0, 0), [], []), (10, .istore 6, 2, (0, 0, 0, 0, 0), [], [])], 12, [0, 1, 2, 3, 4, 5, 6])),
  (12, ([(12, .iload 6, 2, (0, 0, 0, 0, 0), [], []), (14, .aload_n 1, 1, (0, 0, 0, 0, 0), [], []), (15, .getfield 47, 3, (9, 5, 0, 136, 0), [], []), (18, .if_icmp .ge 80, 3, (98, 0, 0, 0, 0), [5], [0, 1, 2, 3, 4, 5, 6])], 0, [])),
  (21, ([(21, .iload_n 3, 1, (0, 0, 0, 0, 0), [], []), (22, .ifCond .eq 15, 3, (37, 0, 0, 0, 0), [0, 1, 2, 3, 4, 5, 6], [0, 1, 2, 3, 4, 5, 6])], 0, [])),
  (25, ([(25, .aload_n 1, 1, (0, 0, 0, 0, 0), [], []), (26, .getfield 47, 3, (9, 5, 0, 136, 0), [], []), (29, .iconst 1, 1, (0, 0, 0, 0, 0), [], []), (30, .isub, 1, (0, 0, 0, 0, 0), [], []), (31, .iload 6, 2, (0, 0, 0, 0, 0), [], []), (33, .isub, 1, (0, 0, 0, 0, 0), [], []), (34, .goto 5, 3, (39, 0, 0, 0, 0), [0, 1, 2, 3, 4, 5, 6], [])], 0, [])),
  (37, ([(37, .iload 6, 2, (0, 0, 0, 0, 0), [], [])], 39, [0, 1, 2, 3, 4, 5, 6])),
  (39, ([(39, .istore 7, 2, (0, 0, 0, 0, 0), [], []), (41, .iload_n 2, 1, (0, 0, 0, 0, 0), [], []), (42, .iload 7, 2, (0, 0, 0, 0, 0), [], []), (44, .iushr, 1, (0, 0, 0, 0, 0), [], []), (45, .iconst 1, 1, (0, 0, 0, 0, 0), [], []), (46, .iand, 1, (0, 0, 0, 0, 0), [], []), (47, .ifCond .eq 45, 3, (92, 0, 0, 0, 0), [0, 1, 2, 3, 4, 5, 6], [0, 1, 2, 3, 4, 5, 6, 7])], 0, [])),
  (50, ([(50, .aload_n 0, 1, (0, 0, 0, 0, 0), [], []), (51, .iload 7, 2, (0, 0, 0, 0, 0), [], []), (53, .invokevirtual 37, 3, (37, 2, 10, 0, 618), [0, 1, 2, 3, 4, 5, 6, 7], [2])], 0, [])),
  (56, ([(56, .ifCond .eq 36, 3, (92, 0, 0, 0, 0), [0, 1, 2, 3, 4, 5, 6], [0, 1, 2, 3, 4, 5, 6, 7])], 0, [])),
  (59, ([(59, .iload 5, 2, (0, 0, 0, 0, 0), [], []), (61, .aload_n 1, 1, (0, 0, 0, 0, 0), [], []), (62, .iload 4, 2, (0, 0, 0, 0, 0), [], []), (64, .aload_n 0, 1, (0, 0, 0, 0, 0), [], []), (65, .getfield 9, 3, (0, 0, 2, 218, 0), [], []), (68, .iload 7, 2, (0, 0, 0, 0, 0), [], []), (70, .iaload, 1, (20, 0, 0, 0, 0), [], []), (71, .invokevirtual 93, 3, (133, 3, 10, 9, 817), [0, 1, 2, 3, 4, 6, 7], [4])], 0, [])),
  (74, ([(74, .iadd, 1, (0, 0, 0, 0, 0), [], []), (75, .istore 5, 2, (0, 0, 0, 0, 0), [], []), (77, .aload_n 1, 1, (0, 0, 0, 0, 0), [], []), (78, .iload 4, 2, (0, 0, 0, 0, 0), [], []), (80, .aload_n 0, 1, (0, 0, 0, 0, 0), [], []), (81, .getfield 9, 3, (0, 0, 2, 218, 0), [], []), (84, .iload 7, 2, (0, 0, 0, 0, 0), [], []), (86, .iaload, 1, (20, 0, 0, 0, 0), [], []), (87, .invokevirtual 96, 3, (131, 3, 10, 9, 828), [0, 1, 2, 3, 5, 6], [3])], 0, [])),
  (90, ([(90, .istore 4, 2, (0, 0, 0, 0, 0), [], [])], 92, [0, 1, 2, 3, 4, 5, 6])),
  (92, ([(92, .iinc 6 1, 3, (0, 0, 0, 0, 0), [], []), (95, .goto (-83), 3, (12, 0, 0, 0, 0), [0, 1, 2, 3, 4, 5, 6], [])], 0, [])),
  (98, ([(98, .iload 5, 2, (0, 0, 0, 0, 0), [], []), (100, .ireturn, 1, (0, 0, 0, 0, 0), [], [])], 0, []))]
def cd_Hook_undoing : List (Nat × AB) := [
  (0, ([(0, .iconst 0, 1, (0, 0, 0, 0, 0), [], []), (1, .istore_n 2, 1, (0, 0, 0, 0, 0), [], [])], 2, [0, 1, 2])),
  (2, ([(2, .iload_n 2, 1, (0, 0, 0, 0, 0), [], []), (3, .bipush 32, 2, (0, 0, 0, 0, 0), [], []), (5, .if_icmp .ge 52, 3, (57, 0, 0, 0, 0), [0, 1], [0, 1, 2])], 0, [])),
  (8, ([(8, .iload_n 1, 1, (0, 0, 0, 0, 0), [], []), (9, .iload_n 2, 1, (0, 0, 0, 0, 0), [], []), (10, .iushr, 1, (0, 0, 0, 0, 0), [], []), (11, .iconst 1, 1, (0, 0, 0, 0, 0), [], []), (12, .iand, 1, (0, 0, 0, 0, 0), [], []), (13, .ifCond .eq 7, 3, (20, 0, 0, 0, 0), [0, 1, 2], [0, 1, 2])], 0, [])),
  (16, ([(16, .iconst 1, 1, (0, 0, 0, 0, 0), [], []), (17, .goto 4, 3, (21, 0, 0, 0, 0), [0, 1, 2], [])], 0, [])),
  (20, ([(20, .iconst 0, 1, (0, 0, 0, 0, 0), [], [])], 21, [0, 1, 2])),
  (21, ([(21, .istore_n 3, 1, (0, 0, 0, 0, 0), [], []), (22, .iload_n 3, 1, (0, 0, 0, 0, 0), [], []), (23, .ifCond .eq 28, 3, (51, 0, 0, 0, 0), [0, 1, 2], [0, 1, 2])], 0, [])),
  (26, ([(26, .aload_n 0, 1, (0, 0, 0, 0, 0), [], []), (27, .getfield 33, 3, (10, 5, 2, 359, 0), [], []), (30, .iload_n 2, 1, (0, 0, 0, 0, 0), [], []), (31, .invokevirtual 130, 3, (35, 2, 10, 9, 744), [0, 1, 2], [2])], 0, [])),
  (34, ([(34, .ifCond .eq 14, 3, (48, 0, 0, 0, 0), [], [0, 1, 2])], 0, [])),
  (37, ([(37, .aload_n 0, 1, (0, 0, 0, 0, 0), [], []), (38, .getfield 43, 3, (10, 7, 2, 361, 0), [], []), (41, .iload_n 2, 1, (0, 0, 0, 0, 0), [], []), (42, .invokevirtual 245, 3, (37, 2, 10, 0, 914), [0, 1, 2], [2])], 0, [])),
  (45, ([(45, .ifCond .ne 6, 3, (51, 0, 0, 0, 0), [0, 1, 2], [])], 0, [])),
  (48, ([(48, .bipush (-3), 2, (0, 0, 0, 0, 0), [], []), (50, .ireturn, 1, (0, 0, 0, 0, 0), [], [])], 0, [])),
  (51, ([(51, .iinc 2 1, 3, (0, 0, 0, 0, 0), [], []), (54, .goto (-52), 3, (2, 0, 0, 0, 0), [0, 1, 2], [])], 0, [])),
  (57, ([(57, .aload_n 0, 1, (0, 0, 0, 0, 0), [], []), (58, .getfield 43, 3, (10, 7, 2, 361, 0), [], []), (61, .aload_n 0, 1, (0, 0, 0, 0, 0), [], []), (62, .getfield 33, 3, (10, 5, 2, 359, 0), [], []), (65, .iload_n 1, 1, (0, 0, 0, 0, 0), [], []), (66, .iconst 0, 1, (0, 0, 0, 0, 0), [], []), (67, .invokevirtual 248, 3, (175, 4, 10, 0, 915), [0, 1], [8])], 0, [])),
  (70, ([(70, .aload_n 0, 1, (0, 0, 0, 0, 0), [], []), (71, .getfield 43, 3, (10, 7, 2, 361, 0), [], []), (74, .aload_n 0, 1, (0, 0, 0, 0, 0), [], []), (75, .getfield 33, 3, (10, 5, 2, 359, 0), [], []), (78, .iload_n 1, 1, (0, 0, 0, 0, 0), [], []), (79, .iconst 1, 1, (0, 0, 0, 0, 0), [], []), (80, .invokevirtual 248, 3, (175, 4, 10, 0, 915), [], [8])], 0, [])),
  (83, ([(83, .invokestatic 252, 3, (20, 2, 0, 0, 919), [], [2])], 0, [])),
  (86, ([(86, .ireturn, 1, (0, 0, 0, 0, 0), [], [])], 0, []))]
def cd_Mod_undoing : List (Nat × AB) := [
  (0, ([(0, .aload_n 0, 1, (0, 0, 0, 0, 0), [], []), (1, .iconst 0, 1, (0, 0, 0, 0, 0), [], []), (2, .putfield 1, 3, (11, 0, 0, 1255, 0), [], [])], 5, [0, 1])),
  (5, ([(5, .iconst 0, 1, (0, 0, 0, 0, 0), [], []), (6, .istore_n 2, 1, (0, 0, 0, 0, 0), [], [])], 7, [0, 1, 2])),
  (7, ([(7, .iload_n 2, 1, (0, 0, 0, 0, 0), [], []), (8, .bipush 32, 2, (0, 0, 0, 0, 0), [], []), (10, .if_icmp .ge 46, 3, (56, 0, 0, 0, 0), [0, 1], [0, 1, 2])], 0, [])),
  (13, ([(13, .iload_n 1, 1, (0, 0, 0, 0, 0), [], []), (14, .i2l, 1, (0, 0, 0, 0, 0), [], []), (15, .ldc2_w 317, 3, (0, 0, 0, 1641, 4294967295), [], []), (18, .land, 1, (0, 0, 0, 0, 0), [], []), (19, .iload_n 2, 1, (0, 0, 0, 0, 0), [], []), (20, .invokestatic 214, 3, (96, 2, 0, 0, 1486), [0, 1, 2], [3])], 0, [])),
  (23, ([(23, .ifCond .eq 27, 3, (50, 0, 0, 0, 0), [0, 1, 2], [0, 1, 2])], 0, [])),
  (26, ([(26, .aload_n 0, 1, (0, 0, 0, 0, 0), [], []), (27, .iload_n 2, 1, (0, 0, 0, 0, 0), [], []), (28, .invokevirtual 240, 3, (108, 2, 10, 11, 1500), [0, 1, 2], [2])], 0, [])),
  (31, ([(31, .ifCond .eq 16, 3, (47, 0, 0, 0, 0), [], [0, 1, 2])], 0, [])),
  (34, ([(34, .aload_n 0, 1, (0, 0, 0, 0, 0), [], []), (35, .getfield 13, 3, (11, 1, 2, 1256, 0), [], []), (38, .bipush 61, 2, (0, 0, 0, 0, 0), [], []), (40, .iload_n 2, 1, (0, 0, 0, 0, 0), [], []), (41, .iadd, 1, (0, 0, 0, 0, 0), [], []), (42, .iaload, 1, (20, 0, 0, 0, 0), [], []), (43, .iconst (-1), 1, (0, 0, 0, 0, 0), [], []), (44, .if_icmp .ne 6, 3, (50, 0, 0, 0, 0), [0, 1, 2], [])], 0, [])),
  (47, ([(47, .bipush (-3), 2, (0, 0, 0, 0, 0), [], []), (49, .ireturn, 1, (0, 0, 0, 0, 0), [], [])], 0, [])),
  (50, ([(50, .iinc 2 1, 3, (0, 0, 0, 0, 0), [], []), (53, .goto (-46), 3, (7, 0, 0, 0, 0), [0, 1, 2], [])], 0, [])),
  (56, ([(56, .aload_n 0, 1, (0, 0, 0, 0, 0), [], []), (57, .invokevirtual 267, 3, (137, 1, 11, 11, 1558), [0, 1], [2])], 0, [])),
  (60, ([(60, .iconst 0, 1, (0, 0, 0, 0, 0), [], []), (61, .istore_n 2, 1, (0, 0, 0, 0, 0), [], []), (62, .iconst 0, 1, (0, 0, 0, 0, 0), [], []), (63, .istore_n 3, 1, (0, 0, 0, 0, 0), [], [])], 64, [0, 1, 2, 3])),
  (64, ([(64, .iload_n 3, 1, (0, 0, 0, 0, 0), [], []), (65, .iconst 2, 1, (0, 0, 0, 0, 0), [], []), (66, .if_icmp .ge 104, 3, (170, 0, 0, 0, 0), [2], [0, 1, 2, 3])], 0, [])),
  (69, ([(69, .iconst 0, 1, (0, 0, 0, 0, 0), [], []), (70, .istore 4, 2, (0, 0, 0, 0, 0), [], [])], 72, [0, 1, 2, 3, 4])),
  (72, ([(72, .iload 4, 2, (0, 0, 0, 0, 0), [], []), (74, .aload_n 0, 1, (0, 0, 0, 0, 0), [], []), (75, .getfield 13, 3, (11, 1, 2, 1256, 0), [], []), (78, .iconst 1, 1, (0, 0, 0, 0, 0), [], []), (79, .iaload, 1, (20, 0, 0, 0, 0), [], []), (80, .if_icmp .ge 47, 3, (127, 0, 0, 0, 0), [0, 1, 2, 3], [0, 1, 2, 3, 4])], 0, [])),
  (83, ([(83, .iload_n 3, 1, (0, 0, 0, 0, 0), [], []), (84, .ifCond .ne 8, 3, (92, 0, 0, 0, 0), [0, 1, 2, 3, 4], [0, 1, 2, 3, 4])], 0, [])),
  (87, ([(87, .iload 4, 2, (0, 0, 0, 0, 0), [], []), (89, .goto 14, 3, (103, 0, 0, 0, 0), [0, 1, 2, 3, 4], [])], 0, [])),
  (92, ([(92, .aload_n 0, 1, (0, 0, 0, 0, 0), [], []), (93, .getfield 13, 3, (11, 1, 2, 1256, 0), [], []), (96, .iconst 1, 1, (0, 0, 0, 0, 0), [], []), (97, .iaload, 1, (20, 0, 0, 0, 0), [], []), (98, .iconst 1, 1, (0, 0, 0, 0, 0), [], []), (99, .isub, 1, (0, 0, 0, 0, 0), [], []), (100, .iload 4, 2, (0, 0, 0, 0, 0), [], []), (102, .isub, 1, (0, 0, 0, 0, 0), [], [])], 103, [0, 1, 2, 3, 4])),
  (103, ([(103, .istore 5, 2, (0, 0, 0, 0, 0), [], []), (105, .iload_n 1, 1, (0, 0, 0, 0, 0), [], []), (106, .i2l, 1, (0, 0, 0, 0, 0), [], []), (107, .iload 5, 2, (0, 0, 0, 0, 0), [], []), (109, .invokestatic 214, 3, (96, 2, 0, 0, 1486), [0, 1, 2, 3, 4, 5], [3])], 0, [])),
  (112, ([(112, .ifCond .eq 9, 3, (121, 0, 0, 0, 0), [0, 1, 2, 3, 4], [0, 1, 2, 3, 4, 5])], 0, [])),
  (115, ([(115, .aload_n 0, 1, (0, 0, 0, 0, 0), [], []), (116, .iload 5, 2, (0, 0, 0, 0, 0), [], []), (118, .invokevirtual 279, 3, (148, 2, 11, 11, 1590), [0, 1, 2, 3, 4], [2])], 0, [])),
  (121, ([(121, .iinc 4 1, 3, (0, 0, 0, 0, 0), [], []), (124, .goto (-52), 3, (72, 0, 0, 0, 0), [0, 1, 2, 3, 4], [])], 0, [])),
  (127, ([(127, .aload_n 0, 1, (0, 0, 0, 0, 0), [], []), (128, .getfield 13, 3, (11, 1, 2, 1256, 0), [], []), (131, .bipush 60, 2, (0, 0, 0, 0, 0), [], []), (133, .iaload, 1, (20, 0, 0, 0, 0), [], []), (134, .aload_n 0, 1, (0, 0, 0, 0, 0), [], []), (135, .getfield 33, 3, (11, 16, 2, 1271, 0), [], []), (138, .iconst 1, 1, (0, 0, 0, 0, 0), [], []), (139, .iaload, 1, (20, 0, 0, 0, 0), [], []), (140, .isub, 1, (0, 0, 0, 0, 0), [], []), (141, .istore 4, 2, (0, 0, 0, 0, 0), [], []), (143, .iload_n 3, 1, (0, 0, 0, 0, 0), [], []), (144, .ifCond .eq 9, 3, (153, 0, 0, 0, 0), [0, 1, 3, 4], [0, 1, 2, 3, 4])], 0, [])),
  (147, ([(147, .iload 4, 2, (0, 0, 0, 0, 0), [], []), (149, .iload_n 2, 1, (0, 0, 0, 0, 0), [], []), (150, .if_icmp .ge 8, 3, (158, 0, 0, 0, 0), [0, 1, 2, 3], [0, 1, 3, 4])], 0, [])),
  (153, ([(153, .iload 4, 2, (0, 0, 0, 0, 0), [], []), (155, .goto 4, 3, (159, 0, 0, 0, 0), [0, 1, 3], [])], 0, [])),
  (158, ([(158, .iload_n 2, 1, (0, 0, 0, 0, 0), [], [])], 159, [0, 1, 3])),
  (159, ([(159, .istore_n 2, 1, (0, 0, 0, 0, 0), [], []), (160, .aload_n 0, 1, (0, 0, 0, 0, 0), [], []), (161, .invokevirtual 305, 3, (165, 1, 11, 11, 1619), [0, 1, 2, 3], [2])], 0, [])),
  (164, ([(164, .iinc 3 1, 3, (0, 0, 0, 0, 0), [], []), (167, .goto (-103), 3, (64, 0, 0, 0, 0), [0, 1, 2, 3], [])], 0, [])),
  (170, ([(170, .iload_n 2, 1, (0, 0, 0, 0, 0), [], []), (171, .ireturn, 1, (0, 0, 0, 0, 0), [], [])], 0, []))]
def cd_Hook_rowOf : List (Nat × AB) := [
  (0, ([(0, .iload_n 0, 1, (0, 0, 0, 0, 0), [], []), (1, .bipush 12, 2, (0, 0, 0, 0, 0), [], []), (3, .imul, 1, (0, 0, 0, 0, 0), [], []), (4, .iload_n 1, 1, (0, 0, 0, 0, 0), [], []), (5, .iadd, 1, (0, 0, 0, 0, 0), [], []), (6, .bipush 12, 2, (0, 0, 0, 0, 0), [], []), (8, .imul, 1, (0, 0, 0, 0, 0), [], []), (9, .ireturn, 1, (0, 0, 0, 0, 0), [], [])], 0, []))]
def cd_Joinings_addMoved : List (Nat × AB) := [
  (0, ([(0, .iconst 1, 1, (0, 0, 0, 0, 0), [], []), (1, .istore_n 3, 1, (0, 0, 0, 0, 0), [], [])], 2, [0, 1, 2, 3])),
  (2, ([(2, .iload_n 3, 1, (0, 0, 0, 0, 0), [], []), (3, .bipush 12, 2, (0, 0, 0, 0, 0), [], []), (5, .if_icmp .ge 43, 3, (48, 0, 0, 0, 0), [], [0, 1, 2, 3])], 0, [])),
  (8, ([(8, .aload_n 0, 1, (0, 0, 0, 0, 0), [], []), (9, .getfield 9, 3, (2, 0, 2, 282, 0), [], []), (12, .iload_n 1, 1, (0, 0, 0, 0, 0), [], []), (13, .iload_n 3, 1, (0, 0, 0, 0, 0), [], []), (14, .iadd, 1, (0, 0, 0, 0, 0), [], []), (15, .iconst 1, 1, (0, 0, 0, 0, 0), [], []), (16, .isub, 1, (0, 0, 0, 0, 0), [], []), (17, .iaload, 1, (20, 0, 0, 0, 0), [], []), (18, .ifCond .eq 30, 3, (48, 0, 0, 0, 0), [], [0, 1, 2, 3])], 0, [])),
  (21, ([(21, .aload_n 0, 1, (0, 0, 0, 0, 0), [], []), (22, .getfield 9, 3, (2, 0, 2, 282, 0), [], []), (25, .iload_n 2, 1, (0, 0, 0, 0, 0), [], []), (26, .iload_n 3, 1, (0, 0, 0, 0, 0), [], []), (27, .iadd, 1, (0, 0, 0, 0, 0), [], []), (28, .dup2, 1, (0, 0, 0, 0, 0), [], []), (29, .iaload, 1, (20, 0, 0, 0, 0), [], []), (30, .aload_n 0, 1, (0, 0, 0, 0, 0), [], []), (31, .getfield 9, 3, (2, 0, 2, 282, 0), [], []), (34, .iload_n 1, 1, (0, 0, 0, 0, 0), [], []), (35, .iload_n 3, 1, (0, 0, 0, 0, 0), [], []), (36, .iadd, 1, (0, 0, 0, 0, 0), [], []), (37, .iconst 1, 1, (0, 0, 0, 0, 0), [], []), (38, .isub, 1, (0, 0, 0, 0, 0), [], []), (39, .iaload, 1, (20, 0, 0, 0, 0), [], []), (40, .iadd, 1, (0, 0, 0, 0, 0), [], []), (41, .iastore, 1, (0, 0, 0, 0, 0), [], [])], 42, [0, 1, 2, 3])),
  (42, ([(42, .iinc 3 1, 3, (0, 0, 0, 0, 0), [], []), (45, .goto (-43), 3, (2, 0, 0, 0, 0), [0, 1, 2, 3], [])], 0, [])),
  (48, ([(48, .return_, 1, (0, 0, 0, 0, 0), [], [])], 0, []))]
def cd_Joinings_countBehind : List (Nat × AB) := [
  (0, ([(0, .iload_n 2, 1, (0, 0, 0, 0, 0), [], []), (1, .iload_n 3, 1, (0, 0, 0, 0, 0), [], []), (2, .invokestatic 60, 3, (178, 2, 0, 0, 935), [0, 1, 2, 3], [2])], 0, [])),
  (5, ([(5, .istore 4, 2, (0, 0, 0, 0, 0), [], []), (7, .aload_n 0, 1, (0, 0, 0, 0, 0), [], []), (8, .getfield 9, 3, (2, 0, 2, 282, 0), [], []), (11, .iload 4, 2, (0, 0, 0, 0, 0), [], []), (13, .iconst 1, 1, (0, 0, 0, 0, 0), [], []), (14, .iastore, 1, (0, 0, 0, 0, 0), [], [])], 15, [0, 1, 2, 3, 4])),
  (15, ([(15, .iload_n 2, 1, (0, 0, 0, 0, 0), [], []), (16, .iconst 1, 1, (0, 0, 0, 0, 0), [], []), (17, .iadd, 1, (0, 0, 0, 0, 0), [], []), (18, .istore 5, 2, (0, 0, 0, 0, 0), [], [])], 20, [0, 1, 2, 3, 4, 5])),
  (20, ([(20, .iload 5, 2, (0, 0, 0, 0, 0), [], []), (22, .aload_n 1, 1, (0, 0, 0, 0, 0), [], []), (23, .getfield 44, 3, (9, 5, 0, 134, 0), [], []), (26, .if_icmp .ge 55, 3, (81, 0, 0, 0, 0), [0, 4], [0, 1, 2, 3, 4, 5])], 0, [])),
  (29, ([(29, .iload_n 3, 1, (0, 0, 0, 0, 0), [], []), (30, .iconst 1, 1, (0, 0, 0, 0, 0), [], []), (31, .iadd, 1, (0, 0, 0, 0, 0), [], []), (32, .istore 6, 2, (0, 0, 0, 0, 0), [], [])], 34, [0, 1, 2, 3, 4, 5, 6])),
  (34, ([(34, .iload 6, 2, (0, 0, 0, 0, 0), [], []), (36, .aload_n 1, 1, (0, 0, 0, 0, 0), [], []), (37, .getfield 49, 3, (9, 6, 0, 143, 0), [], []), (40, .if_icmp .ge 35, 3, (75, 0, 0, 0, 0), [0, 1, 2, 3, 4, 5], [0, 1, 2, 3, 4, 5, 6])], 0, [])),
  (43, ([(43, .aload_n 1, 1, (0, 0, 0, 0, 0), [], []), (44, .iload_n 2, 1, (0, 0, 0, 0, 0), [], []), (45, .iload_n 3, 1, (0, 0, 0, 0, 0), [], []), (46, .iload 5, 2, (0, 0, 0, 0, 0), [], []), (48, .iload 6, 2, (0, 0, 0, 0, 0), [], []), (50, .invokevirtual 64, 3, (42, 5, 10, 9, 938), [0, 1, 2, 3, 4, 5, 6], [5])], 0, [])),
  (53, ([(53, .ifCond .lt 16, 3, (69, 0, 0, 0, 0), [0, 1, 2, 3, 4, 5, 6], [0, 1, 2, 3, 4, 5, 6])], 0, [])),
  (56, ([(56, .aload_n 0, 1, (0, 0, 0, 0, 0), [], []), (57, .iload 5, 2, (0, 0, 0, 0, 0), [], []), (59, .iload 6, 2, (0, 0, 0, 0, 0), [], []), (61, .invokestatic 60, 3, (178, 2, 0, 0, 935), [0, 1, 2, 3, 4, 5, 6], [2])], 0, [])),
  (64, ([(64, .iload 4, 2, (0, 0, 0, 0, 0), [], []), (66, .invokevirtual 68, 3, (179, 3, 11, 2, 939), [0, 1, 2, 3, 4, 5, 6], [4])], 0, [])),
  (69, ([(69, .iinc 6 1, 3, (0, 0, 0, 0, 0), [], []), (72, .goto (-38), 3, (34, 0, 0, 0, 0), [0, 1, 2, 3, 4, 5, 6], [])], 0, [])),
  (75, ([(75, .iinc 5 1, 3, (0, 0, 0, 0, 0), [], []), (78, .goto (-58), 3, (20, 0, 0, 0, 0), [0, 1, 2, 3, 4, 5], [])], 0, [])),
  (81, ([(81, .iconst 0, 1, (0, 0, 0, 0, 0), [], []), (82, .istore 5, 2, (0, 0, 0, 0, 0), [], [])], 84, [0, 4, 5])),
  (84, ([(84, .iload 5, 2, (0, 0, 0, 0, 0), [], []), (86, .bipush 12, 2, (0, 0, 0, 0, 0), [], []), (88, .if_icmp .ge 31, 3, (119, 0, 0, 0, 0), [], [0, 4, 5])], 0, [])),
  (91, ([(91, .aload_n 0, 1, (0, 0, 0, 0, 0), [], []), (92, .getfield 15, 3, (2, 1, 2, 283, 0), [], []), (95, .iload 5, 2, (0, 0, 0, 0, 0), [], []), (97, .iconst 1, 1, (0, 0, 0, 0, 0), [], []), (98, .iadd, 1, (0, 0, 0, 0, 0), [], []), (99, .dup2, 1, (0, 0, 0, 0, 0), [], []), (100, .iaload, 1, (20, 0, 0, 0, 0), [], []), (101, .aload_n 0, 1, (0, 0, 0, 0, 0), [], []), (102, .getfield 9, 3, (2, 0, 2, 282, 0), [], []), (105, .iload 4, 2, (0, 0, 0, 0, 0), [], []), (107, .iload 5, 2, (0, 0, 0, 0, 0), [], []), (109, .iadd, 1, (0, 0, 0, 0, 0), [], []), (110, .iaload, 1, (20, 0, 0, 0, 0), [], []), (111, .iadd, 1, (0, 0, 0, 0, 0), [], []), (112, .iastore, 1, (0, 0, 0, 0, 0), [], [])], 113, [0, 4, 5])),
  (113, ([(113, .iinc 5 1, 3, (0, 0, 0, 0, 0), [], []), (116, .goto (-32), 3, (84, 0, 0, 0, 0), [0, 4, 5], [])], 0, [])),
  (119, ([(119, .return_, 1, (0, 0, 0, 0, 0), [], [])], 0, []))]
def cd_Joinings_countFor : List (Nat × AB) := [
  (0, ([(0, .aload_n 0, 1, (0, 0, 0, 0, 0), [], []), (1, .getfield 25, 3, (2, 3, 3, 287, 0), [], []), (4, .ifCond .eq 4, 3, (8, 0, 0, 0, 0), [0, 1], [])], 0, [])),
  (7, ([(7, .return_, 1, (0, 0, 0, 0, 0), [], [])], 0, [])),
  (8, ([(8, .aload_n 0, 1, (0, 0, 0, 0, 0), [], []), (9, .iconst 1, 1, (0, 0, 0, 0, 0), [], []), (10, .putfield 25, 3, (2, 3, 3, 287, 0), [], [])], 13, [0, 1])),
  (13, ([(13, .aload_n 0, 1, (0, 0, 0, 0, 0), [], []), (14, .getfield 9, 3, (2, 0, 2, 282, 0), [], []), (17, .iconst 0, 1, (0, 0, 0, 0, 0), [], []), (18, .invokestatic 38, 3, (3, 2, 1, 0, 929), [0, 1], [4])], 0, [])),
  (21, ([(21, .aload_n 0, 1, (0, 0, 0, 0, 0), [], []), (22, .getfield 15, 3, (2, 1, 2, 283, 0), [], []), (25, .iconst 0, 1, (0, 0, 0, 0, 0), [], []), (26, .invokestatic 38, 3, (3, 2, 1, 0, 929), [0, 1], [4])], 0, [])),
  (29, ([(29, .aload_n 0, 1, (0, 0, 0, 0, 0), [], []), (30, .getfield 15, 3, (2, 1, 2, 283, 0), [], []), (33, .iconst 0, 1, (0, 0, 0, 0, 0), [], []), (34, .iconst 1, 1, (0, 0, 0, 0, 0), [], []), (35, .iastore, 1, (0, 0, 0, 0, 0), [], [])], 36, [0, 1])),
  (36, ([(36, .aload_n 1, 1, (0, 0, 0, 0, 0), [], []), (37, .getfield 44, 3, (9, 5, 0, 134, 0), [], []), (40, .iconst 1, 1, (0, 0, 0, 0, 0), [], []), (41, .isub, 1, (0, 0, 0, 0, 0), [], []), (42, .istore_n 2, 1, (0, 0, 0, 0, 0), [], [])], 43, [0, 1, 2])),
  (43, ([(43, .iload_n 2, 1, (0, 0, 0, 0, 0), [], []), (44, .ifCond .lt 41, 3, (85, 0, 0, 0, 0), [0], [0, 1, 2])], 0, [])),
  (47, ([(47, .aload_n 1, 1, (0, 0, 0, 0, 0), [], []), (48, .getfield 49, 3, (9, 6, 0, 143, 0), [], []), (51, .iconst 1, 1, (0, 0, 0, 0, 0), [], []), (52, .isub, 1, (0, 0, 0, 0, 0), [], []), (53, .istore_n 3, 1, (0, 0, 0, 0, 0), [], [])], 54, [0, 1, 2, 3])),
  (54, ([(54, .iload_n 3, 1, (0, 0, 0, 0, 0), [], []), (55, .ifCond .lt 24, 3, (79, 0, 0, 0, 0), [0, 1, 2], [0, 1, 2, 3])], 0, [])),
  (58, ([(58, .aload_n 1, 1, (0, 0, 0, 0, 0), [], []), (59, .iload_n 3, 1, (0, 0, 0, 0, 0), [], []), (60, .invokevirtual 52, 3, (38, 2, 10, 9, 930), [0, 1, 2, 3], [2])], 0, [])),
  (63, ([(63, .ifCond .ne 10, 3, (73, 0, 0, 0, 0), [0, 1, 2, 3], [0, 1, 2, 3])], 0, [])),
  (66, ([(66, .aload_n 0, 1, (0, 0, 0, 0, 0), [], []), (67, .aload_n 1, 1, (0, 0, 0, 0, 0), [], []), (68, .iload_n 2, 1, (0, 0, 0, 0, 0), [], []), (69, .iload_n 3, 1, (0, 0, 0, 0, 0), [], []), (70, .invokevirtual 56, 3, (180, 4, 11, 2, 931), [0, 1, 2, 3], [7])], 0, [])),
  (73, ([(73, .iinc 3 (-1), 3, (0, 0, 0, 0, 0), [], []), (76, .goto (-22), 3, (54, 0, 0, 0, 0), [0, 1, 2, 3], [])], 0, [])),
  (79, ([(79, .iinc 2 (-1), 3, (0, 0, 0, 0, 0), [], []), (82, .goto (-39), 3, (43, 0, 0, 0, 0), [0, 1, 2], [])], 0, [])),
  (85, ([(85, .aload_n 0, 1, (0, 0, 0, 0, 0), [], []), (86, .iconst 0, 1, (0, 0, 0, 0, 0), [], []), (87, .putfield 21, 3, (2, 2, 0, 285, 0), [], [])], 90, [0])),
  (90, ([(90, .iconst 1, 1, (0, 0, 0, 0, 0), [], []), (91, .istore_n 2, 1, (0, 0, 0, 0, 0), [], [])], 92, [0, 2])),
  (92, ([(92, .iload_n 2, 1, (0, 0, 0, 0, 0), [], []), (93, .bipush 12, 2, (0, 0, 0, 0, 0), [], []), (95, .if_icmp .gt 23, 3, (118, 0, 0, 0, 0), [], [0, 2])], 0, [])),
  (98, ([(98, .aload_n 0, 1, (0, 0, 0, 0, 0), [], []), (99, .getfield 15, 3, (2, 1, 2, 283, 0), [], []), (102, .iload_n 2, 1, (0, 0, 0, 0, 0), [], []), (103, .iaload, 1, (20, 0, 0, 0, 0), [], []), (104, .ifCond .le 8, 3, (112, 0, 0, 0, 0), [0, 2], [0, 2])], 0, [])),
  (107, ([(107, .aload_n 0, 1, (0, 0, 0, 0, 0), [], []), (108, .iload_n 2, 1, (0, 0, 0, 0, 0), [], []), (109, .putfield 21, 3, (2, 2, 0, 285, 0), [], [])], 112, [0, 2])),
  (112, ([(112, .iinc 2 1, 3, (0, 0, 0, 0, 0), [], []), (115, .goto (-23), 3, (92, 0, 0, 0, 0), [0, 2], [])], 0, [])),
  (118, ([(118, .return_, 1, (0, 0, 0, 0, 0), [], [])], 0, []))]
def cd_Hook_joinings : List (Nat × AB) := [
  (0, ([(0, .iload_n 1, 1, (0, 0, 0, 0, 0), [], []), (1, .ifCond .lt 9, 3, (10, 0, 0, 0, 0), [], [0, 1])], 0, [])),
  (4, ([(4, .iload_n 1, 1, (0, 0, 0, 0, 0), [], []), (5, .bipush 12, 2, (0, 0, 0, 0, 0), [], []), (7, .if_icmp .le 7, 3, (14, 0, 0, 0, 0), [0, 1], [])], 0, [])),
  (10, ([(10, .ldc2_w 258, 3, (0, 0, 0, 924, (-3)), [], []), (13, .lreturn, 1, (0, 0, 0, 0, 0), [], [])], 0, [])),
  (14, ([(14, .aload_n 0, 1, (0, 0, 0, 0, 0), [], []), (15, .getfield 79, 3, (10, 14, 2, 368, 0), [], []), (18, .aload_n 0, 1, (0, 0, 0, 0, 0), [], []), (19, .getfield 33, 3, (10, 5, 2, 359, 0), [], []), (22, .invokevirtual 260, 3, (181, 2, 11, 2, 925), [0, 1], [4])], 0, [])),
  (25, ([(25, .aload_n 0, 1, (0, 0, 0, 0, 0), [], []), (26, .getfield 79, 3, (10, 14, 2, 368, 0), [], []), (29, .getfield 264, 3, (2, 1, 2, 284, 0), [], []), (32, .iload_n 1, 1, (0, 0, 0, 0, 0), [], []), (33, .iaload, 1, (20, 0, 0, 0, 0), [], []), (34, .i2l, 1, (0, 0, 0, 0, 0), [], []), (35, .lreturn, 1, (0, 0, 0, 0, 0), [], [])], 0, []))]
def cd_Mod_spot : List (Nat × AB) := [
  (0, ([(0, .sipush 169, 3, (0, 0, 0, 0, 0), [], []), (3, .iload_n 0, 1, (0, 0, 0, 0, 0), [], []), (4, .iconst 1, 1, (0, 0, 0, 0, 0), [], []), (5, .iadd, 1, (0, 0, 0, 0, 0), [], []), (6, .imul, 1, (0, 0, 0, 0, 0), [], []), (7, .bipush 13, 2, (0, 0, 0, 0, 0), [], []), (9, .iload_n 1, 1, (0, 0, 0, 0, 0), [], []), (10, .iconst 1, 1, (0, 0, 0, 0, 0), [], []), (11, .iadd, 1, (0, 0, 0, 0, 0), [], []), (12, .imul, 1, (0, 0, 0, 0, 0), [], []), (13, .iadd, 1, (0, 0, 0, 0, 0), [], []), (14, .iload_n 2, 1, (0, 0, 0, 0, 0), [], []), (15, .iadd, 1, (0, 0, 0, 0, 0), [], []), (16, .ireturn, 1, (0, 0, 0, 0, 0), [], [])], 0, []))]
def cd_Mod_shows : List (Nat × AB) := [
  (0, ([(0, .aload_n 0, 1, (0, 0, 0, 0, 0), [], []), (1, .getfield 319, 3, (11, 22, 0, 1277, 0), [], []), (4, .iconst (-1), 1, (0, 0, 0, 0, 0), [], []), (5, .if_icmp .ne 5, 3, (10, 0, 0, 0, 0), [0, 1, 2, 3], [])], 0, [])),
  (8, ([(8, .iconst 1, 1, (0, 0, 0, 0, 0), [], []), (9, .ireturn, 1, (1, 0, 0, 0, 0), [], [])], 0, [])),
  (10, ([(10, .iload_n 1, 1, (0, 0, 0, 0, 0), [], []), (11, .istore 4, 2, (0, 0, 0, 0, 0), [], [])], 13, [0, 2, 3, 4])),
  (13, ([(13, .iload 4, 2, (0, 0, 0, 0, 0), [], []), (15, .iload_n 2, 1, (0, 0, 0, 0, 0), [], []), (16, .if_icmp .ge 45, 3, (61, 0, 0, 0, 0), [], [0, 2, 3, 4])], 0, [])),
  (19, ([(19, .aload_n 0, 1, (0, 0, 0, 0, 0), [], []), (20, .getfield 67, 3, (11, 35, 2, 1290, 0), [], []), (23, .bipush 40, 2, (0, 0, 0, 0, 0), [], []), (25, .aload_n 0, 1, (0, 0, 0, 0, 0), [], []), (26, .getfield 319, 3, (11, 22, 0, 1277, 0), [], []), (29, .imul, 1, (0, 0, 0, 0, 0), [], []), (30, .iload 4, 2, (0, 0, 0, 0, 0), [], []), (32, .iadd, 1, (0, 0, 0, 0, 0), [], []), (33, .laload, 1, (0, 0, 0, 0, 0), [], []), (34, .lstore 5, 2, (0, 0, 0, 0, 0), [], []), (36, .lload 5, 2, (0, 0, 0, 0, 0), [], []), (38, .ldc2_w 322, 3, (0, 0, 0, 1663, (-1)), [], []), (41, .lcmp, 1, (0, 0, 0, 0, 0), [], []), (42, .ifCond .eq 13, 3, (55, 0, 0, 0, 0), [0, 2, 3, 4], [0, 2, 3, 4, 5])], 0, [])),
  (45, ([(45, .lload 5, 2, (0, 0, 0, 0, 0), [], []), (47, .iload_n 3, 1, (0, 0, 0, 0, 0), [], []), (48, .i2l, 1, (0, 0, 0, 0, 0), [], []), (49, .lcmp, 1, (0, 0, 0, 0, 0), [], []), (50, .ifCond .eq 5, 3, (55, 0, 0, 0, 0), [0, 2, 3, 4], [])], 0, [])),
  (53, ([(53, .iconst 0, 1, (0, 0, 0, 0, 0), [], []), (54, .ireturn, 1, (1, 0, 0, 0, 0), [], [])], 0, [])),
  (55, ([(55, .iinc 4 1, 3, (0, 0, 0, 0, 0), [], []), (58, .goto (-45), 3, (13, 0, 0, 0, 0), [0, 2, 3, 4], [])], 0, [])),
  (61, ([(61, .iconst 1, 1, (0, 0, 0, 0, 0), [], []), (62, .ireturn, 1, (1, 0, 0, 0, 0), [], [])], 0, []))]
def cd_Mod_follows : List (Nat × AB) := [
  (0, ([(0, .aload_n 0, 1, (0, 0, 0, 0, 0), [], []), (1, .getfield 13, 3, (11, 1, 2, 1256, 0), [], []), (4, .bipush 10, 2, (0, 0, 0, 0, 0), [], []), (6, .iaload, 1, (20, 0, 0, 0, 0), [], []), (7, .i2l, 1, (0, 0, 0, 0, 0), [], []), (8, .iload 4, 2, (0, 0, 0, 0, 0), [], []), (10, .invokestatic 214, 3, (96, 2, 0, 0, 1486), [0, 1, 2, 3, 4], [3])], 0, [])),
  (13, ([(13, .ifCond .ne 28, 3, (41, 0, 0, 0, 0), [], [0, 1, 2, 3, 4])], 0, [])),
  (16, ([(16, .iload_n 3, 1, (0, 0, 0, 0, 0), [], []), (17, .aload_n 0, 1, (0, 0, 0, 0, 0), [], []), (18, .getfield 324, 3, (11, 20, 0, 1275, 0), [], []), (21, .if_icmp .ne 22, 3, (43, 0, 0, 0, 0), [0, 1, 2, 3, 4], [0, 1, 2, 3, 4])], 0, [])),
  (24, ([(24, .aload_n 0, 1, (0, 0, 0, 0, 0), [], []), (25, .getfield 327, 3, (11, 21, 0, 1276, 0), [], []), (28, .iconst (-1), 1, (0, 0, 0, 0, 0), [], []), (29, .if_icmp .eq 12, 3, (41, 0, 0, 0, 0), [], [0, 1, 2, 3, 4])], 0, [])),
  (32, ([(32, .aload_n 0, 1, (0, 0, 0, 0, 0), [], []), (33, .getfield 327, 3, (11, 21, 0, 1276, 0), [], []), (36, .iload 4, 2, (0, 0, 0, 0, 0), [], []), (38, .if_icmp .ne 5, 3, (43, 0, 0, 0, 0), [0, 1, 2, 3, 4], [])], 0, [])),
  (41, ([(41, .iconst 0, 1, (0, 0, 0, 0, 0), [], []), (42, .ireturn, 1, (1, 0, 0, 0, 0), [], [])], 0, [])),
  (43, ([(43, .iload_n 1, 1, (0, 0, 0, 0, 0), [], []), (44, .iconst (-1), 1, (0, 0, 0, 0, 0), [], []), (45, .if_icmp .ne 13, 3, (58, 0, 0, 0, 0), [0, 1, 2, 3, 4], [0, 4])], 0, [])),
  (48, ([(48, .aload_n 0, 1, (0, 0, 0, 0, 0), [], []), (49, .iconst 0, 1, (0, 0, 0, 0, 0), [], []), (50, .iload 4, 2, (0, 0, 0, 0, 0), [], []), (52, .bipush (-2), 2, (0, 0, 0, 0, 0), [], []), (54, .invokevirtual 330, 3, (184, 4, 10, 11, 1659), [], [7])], 0, [])),
  (57, ([(57, .ireturn, 1, (1, 0, 0, 0, 0), [], [])], 0, [])),
  (58, ([(58, .aload_n 0, 1, (0, 0, 0, 0, 0), [], []), (59, .getfield 13, 3, (11, 1, 2, 1256, 0), [], []), (62, .iload_n 1, 1, (0, 0, 0, 0, 0), [], []), (63, .iload_n 2, 1, (0, 0, 0, 0, 0), [], []), (64, .iload_n 3, 1, (0, 0, 0, 0, 0), [], []), (65, .iload 4, 2, (0, 0, 0, 0, 0), [], []), (67, .invokestatic 218, 3, (97, 5, 0, 0, 1489), [0, 2, 4], [7])], 0, [])),
  (70, ([(70, .istore 5, 2, (0, 0, 0, 0, 0), [], []), (72, .iload 5, 2, (0, 0, 0, 0, 0), [], []), (74, .ifCond .lt 19, 3, (93, 0, 0, 0, 0), [], [0, 2, 4, 5])], 0, [])),
  (77, ([(77, .aload_n 0, 1, (0, 0, 0, 0, 0), [], []), (78, .iload_n 2, 1, (0, 0, 0, 0, 0), [], []), (79, .iload 4, 2, (0, 0, 0, 0, 0), [], []), (81, .iload 5, 2, (0, 0, 0, 0, 0), [], []), (83, .invokevirtual 330, 3, (184, 4, 10, 11, 1659), [], [7])], 0, [])),
  (86, ([(86, .ifCond .eq 7, 3, (93, 0, 0, 0, 0), [], [])], 0, [])),
  (89, ([(89, .iconst 1, 1, (0, 0, 0, 0, 0), [], []), (90, .goto 4, 3, (94, 0, 0, 0, 0), [], [])], 0, [])),
  (93, ([(93, .iconst 0, 1, (0, 0, 0, 0, 0), [], [])], 94, [])),
  (94, ([(94, .ireturn, 1, (1, 0, 0, 0, 0), [], [])], 0, []))]
def cd_Mod_laysWays : List (Nat × AB) := [
  (0, ([(0, .aload_n 0, 1, (0, 0, 0, 0, 0), [], []), (1, .iload_n 1, 1, (0, 0, 0, 0, 0), [], []), (2, .putfield 324, 3, (11, 20, 0, 1275, 0), [], [])], 5, [0, 2, 3])),
  (5, ([(5, .aload_n 0, 1, (0, 0, 0, 0, 0), [], []), (6, .iload_n 2, 1, (0, 0, 0, 0, 0), [], []), (7, .putfield 327, 3, (11, 21, 0, 1276, 0), [], [])], 10, [0, 3])),
  (10, ([(10, .aload_n 0, 1, (0, 0, 0, 0, 0), [], []), (11, .iload_n 3, 1, (0, 0, 0, 0, 0), [], []), (12, .putfield 319, 3, (11, 22, 0, 1277, 0), [], [])], 15, [0])),
  (15, ([(15, .aload_n 0, 1, (0, 0, 0, 0, 0), [], []), (16, .getfield 13, 3, (11, 1, 2, 1256, 0), [], []), (19, .iconst 1, 1, (0, 0, 0, 0, 0), [], []), (20, .iaload, 1, (20, 0, 0, 0, 0), [], []), (21, .iconst 1, 1, (0, 0, 0, 0, 0), [], []), (22, .isub, 1, (0, 0, 0, 0, 0), [], []), (23, .istore 4, 2, (0, 0, 0, 0, 0), [], [])], 25, [0, 4])),
  (25, ([(25, .iload 4, 2, (0, 0, 0, 0, 0), [], []), (27, .iconst (-1), 1, (0, 0, 0, 0, 0), [], []), (28, .if_icmp .lt 241, 3, (269, 0, 0, 0, 0), [], [0, 4])], 0, [])),
  (31, ([(31, .aload_n 0, 1, (0, 0, 0, 0, 0), [], []), (32, .getfield 13, 3, (11, 1, 2, 1256, 0), [], []), (35, .iconst 2, 1, (0, 0, 0, 0, 0), [], []), (36, .iaload, 1, (20, 0, 0, 0, 0), [], []), (37, .iconst 1, 1, (0, 0, 0, 0, 0), [], []), (38, .isub, 1, (0, 0, 0, 0, 0), [], []), (39, .istore 5, 2, (0, 0, 0, 0, 0), [], [])], 41, [0, 4, 5])),
  (41, ([(41, .iload 5, 2, (0, 0, 0, 0, 0), [], []), (43, .iconst (-1), 1, (0, 0, 0, 0, 0), [], []), (44, .if_icmp .lt 219, 3, (263, 0, 0, 0, 0), [0, 4], [0, 4, 5])], 0, [])),
  (47, ([(47, .iload 4, 2, (0, 0, 0, 0, 0), [], []), (49, .iconst (-1), 1, (0, 0, 0, 0, 0), [], []), (50, .if_icmp .ne 7, 3, (57, 0, 0, 0, 0), [0, 4, 5], [0, 4, 5])], 0, [])),
  (53, ([(53, .iconst 1, 1, (0, 0, 0, 0, 0), [], []), (54, .goto 4, 3, (58, 0, 0, 0, 0), [0, 4, 5], [])], 0, [])),
  (57, ([(57, .iconst 0, 1, (0, 0, 0, 0, 0), [], [])], 58, [0, 4, 5])),
  (58, ([(58, .iload 5, 2, (0, 0, 0, 0, 0), [], []), (60, .iconst (-1), 1, (0, 0, 0, 0, 0), [], []), (61, .if_icmp .ne 7, 3, (68, 0, 0, 0, 0), [0, 4, 5], [0, 4, 5])], 0, [])),
  (64, ([(64, .iconst 1, 1, (0, 0, 0, 0, 0), [], []), (65, .goto 4, 3, (69, 0, 0, 0, 0), [0, 4, 5], [])], 0, [])),
  (68, ([(68, .iconst 0, 1, (0, 0, 0, 0, 0), [], [])], 69, [0, 4, 5])),
  (69, ([(69, .if_icmp .eq 6, 3, (75, 0, 0, 0, 0), [0, 4, 5], [0, 4, 5])], 0, [])),
  (72, ([(72, .goto 185, 3, (257, 0, 0, 0, 0), [0, 4, 5], [])], 0, [])),
  (75, ([(75, .iconst 0, 1, (0, 0, 0, 0, 0), [], []), (76, .istore 6, 2, (0, 0, 0, 0, 0), [], [])], 78, [0, 4, 5, 6])),
  (78, ([(78, .iload 6, 2, (0, 0, 0, 0, 0), [], []), (80, .bipush 12, 2, (0, 0, 0, 0, 0), [], []), (82, .if_icmp .gt 62, 3, (144, 0, 0, 0, 0), [0, 4, 5], [0, 4, 5, 6])], 0, [])),
  (85, ([(85, .aload_n 0, 1, (0, 0, 0, 0, 0), [], []), (86, .getfield 36, 3, (11, 19, 2, 1274, 0), [], []), (89, .iload 4, 2, (0, 0, 0, 0, 0), [], []), (91, .iload 5, 2, (0, 0, 0, 0, 0), [], []), (93, .iload 6, 2, (0, 0, 0, 0, 0), [], []), (95, .invokestatic 334, 3, (183, 3, 0, 0, 1656), [0, 4, 5, 6], [3])], 0, [])),
  (98, ([(98, .iload 6, 2, (0, 0, 0, 0, 0), [], []), (100, .ifCond .ne 36, 3, (136, 0, 0, 0, 0), [0, 4, 5, 6], [0, 4, 5, 6])], 0, [])),
  (103, ([(103, .aload_n 0, 1, (0, 0, 0, 0, 0), [], []), (104, .iload 5, 2, (0, 0, 0, 0, 0), [], []), (106, .iconst (-1), 1, (0, 0, 0, 0, 0), [], []), (107, .if_icmp .ne 7, 3, (114, 0, 0, 0, 0), [0, 4, 5, 6], [0, 4, 5, 6])], 0, [])),
  (110, ([(110, .iconst 0, 1, (0, 0, 0, 0, 0), [], []), (111, .goto 5, 3, (116, 0, 0, 0, 0), [0, 4, 5, 6], [])], 0, [])),
  (114, ([(114, .iload 5, 2, (0, 0, 0, 0, 0), [], [])], 116, [0, 4, 5, 6])),
  (116, ([(116, .aload_n 0, 1, (0, 0, 0, 0, 0), [], []), (117, .getfield 13, 3, (11, 1, 2, 1256, 0), [], []), (120, .iconst 2, 1, (0, 0, 0, 0, 0), [], []), (121, .iaload, 1, (20, 0, 0, 0, 0), [], []), (122, .iconst 1, 1, (0, 0, 0, 0, 0), [], []), (123, .isub, 1, (0, 0, 0, 0, 0), [], []), (124, .bipush (-2), 2, (0, 0, 0, 0, 0), [], []), (126, .invokevirtual 330, 3, (184, 4, 10, 11, 1659), [0, 4, 5, 6], [7])], 0, [])),
  (129, ([(129, .ifCond .eq 7, 3, (136, 0, 0, 0, 0), [0, 4, 5, 6], [0, 4, 5, 6])], 0, [])),
  (132, ([(132, .lconst 1, 1, (0, 0, 0, 0, 0), [], []), (133, .goto 4, 3, (137, 0, 0, 0, 0), [0, 4, 5, 6], [])], 0, [])),
  (136, ([(136, .lconst 0, 1, (0, 0, 0, 0, 0), [], [])], 137, [0, 4, 5, 6])),
  (137, ([(137, .lastore, 1, (0, 0, 0, 0, 0), [], [])], 138, [0, 4, 5, 6])),
  (138, ([(138, .iinc 6 1, 3, (0, 0, 0, 0, 0), [], []), (141, .goto (-63), 3, (78, 0, 0, 0, 0), [0, 4, 5, 6], [])], 0, [])),
  (144, ([(144, .iload 4, 2, (0, 0, 0, 0, 0), [], []), (146, .iconst 1, 1, (0, 0, 0, 0, 0), [], []), (147, .iadd, 1, (0, 0, 0, 0, 0), [], []), (148, .istore 6, 2, (0, 0, 0, 0, 0), [], [])], 150, [0, 4, 5, 6])),
  (150, ([(150, .iload 6, 2, (0, 0, 0, 0, 0), [], []), (152, .aload_n 0, 1, (0, 0, 0, 0, 0), [], []), (153, .getfield 13, 3, (11, 1, 2, 1256, 0), [], []), (156, .iconst 1, 1, (0, 0, 0, 0, 0), [], []), (157, .iaload, 1, (20, 0, 0, 0, 0), [], []), (158, .if_icmp .ge 99, 3, (257, 0, 0, 0, 0), [0, 4, 5], [0, 4, 5, 6])], 0, [])),
  (161, ([(161, .iload 5, 2, (0, 0, 0, 0, 0), [], []), (163, .iconst 1, 1, (0, 0, 0, 0, 0), [], []), (164, .iadd, 1, (0, 0, 0, 0, 0), [], []), (165, .istore 7, 2, (0, 0, 0, 0, 0), [], [])], 167, [0, 4, 5, 6, 7])),
  (167, ([(167, .iload 7, 2, (0, 0, 0, 0, 0), [], []), (169, .aload_n 0, 1, (0, 0, 0, 0, 0), [], []), (170, .getfield 13, 3, (11, 1, 2, 1256, 0), [], []), (173, .iconst 2, 1, (0, 0, 0, 0, 0), [], []), (174, .iaload, 1, (20, 0, 0, 0, 0), [], []), (175, .if_icmp .ge 76, 3, (251, 0, 0, 0, 0), [0, 4, 5, 6], [0, 4, 5, 6, 7])], 0, [])),
  (178, ([(178, .aload_n 0, 1, (0, 0, 0, 0, 0), [], []), (179, .iload 4, 2, (0, 0, 0, 0, 0), [], []), (181, .iload 5, 2, (0, 0, 0, 0, 0), [], []), (183, .iload 6, 2, (0, 0, 0, 0, 0), [], []), (185, .iload 7, 2, (0, 0, 0, 0, 0), [], []), (187, .invokevirtual 337, 3, (185, 5, 10, 11, 1664), [0, 4, 5, 6, 7], [6])], 0, [])),
  (190, ([(190, .ifCond .ne 6, 3, (196, 0, 0, 0, 0), [0, 4, 5, 6, 7], [0, 4, 5, 6, 7])], 0, [])),
  (193, ([(193, .goto 52, 3, (245, 0, 0, 0, 0), [0, 4, 5, 6, 7], [])], 0, [])),
  (196, ([(196, .iconst 1, 1, (0, 0, 0, 0, 0), [], []), (197, .istore 8, 2, (0, 0, 0, 0, 0), [], [])], 199, [0, 4, 5, 6, 7, 8])),
  (199, ([(199, .iload 8, 2, (0, 0, 0, 0, 0), [], []), (201, .bipush 12, 2, (0, 0, 0, 0, 0), [], []), (203, .if_icmp .gt 42, 3, (245, 0, 0, 0, 0), [0, 4, 5, 6, 7], [0, 4, 5, 6, 7, 8])], 0, [])),
  (206, ([(206, .aload_n 0, 1, (0, 0, 0, 0, 0), [], []), (207, .getfield 36, 3, (11, 19, 2, 1274, 0), [], []), (210, .iload 4, 2, (0, 0, 0, 0, 0), [], []), (212, .iload 5, 2, (0, 0, 0, 0, 0), [], []), (214, .iload 8, 2, (0, 0, 0, 0, 0), [], []), (216, .invokestatic 334, 3, (183, 3, 0, 0, 1656), [0, 4, 5, 6, 7, 8], [3])], 0, [])),
  (219, ([(219, .dup2, 1, (0, 0, 0, 0, 0), [], []), (220, .laload, 1, (0, 0, 0, 0, 0), [], []), (221, .aload_n 0, 1, (0, 0, 0, 0, 0), [], []), (222, .getfield 36, 3, (11, 19, 2, 1274, 0), [], []), (225, .iload 6, 2, (0, 0, 0, 0, 0), [], []), (227, .iload 7, 2, (0, 0, 0, 0, 0), [], []), (229, .iload 8, 2, (0, 0, 0, 0, 0), [], []), (231, .iconst 1, 1, (0, 0, 0, 0, 0), [], []), (232, .isub, 1, (0, 0, 0, 0, 0), [], []), (233, .invokestatic 334, 3, (183, 3, 0, 0, 1656), [0, 4, 5, 6, 7, 8], [3])], 0, [])),
  (236, ([(236, .laload, 1, (0, 0, 0, 0, 0), [], []), (237, .ladd, 1, (0, 0, 0, 0, 0), [], []), (238, .lastore, 1, (0, 0, 0, 0, 0), [], [])], 239, [0, 4, 5, 6, 7, 8])),
  (239, ([(239, .iinc 8 1, 3, (0, 0, 0, 0, 0), [], []), (242, .goto (-43), 3, (199, 0, 0, 0, 0), [0, 4, 5, 6, 7, 8], [])], 0, [])),
  (245, ([(245, .iinc 7 1, 3, (0, 0, 0, 0, 0), [], []), (248, .goto (-81), 3, (167, 0, 0, 0, 0), [0, 4, 5, 6, 7], [])], 0, [])),
  (251, ([(251, .iinc 6 1, 3, (0, 0, 0, 0, 0), [], []), (254, .goto (-104), 3, (150, 0, 0, 0, 0), [0, 4, 5, 6], [])], 0, [])),
  (257, ([(257, .iinc 5 (-1), 3, (0, 0, 0, 0, 0), [], []), (260, .goto (-219), 3, (41, 0, 0, 0, 0), [0, 4, 5], [])], 0, [])),
  (263, ([(263, .iinc 4 (-1), 3, (0, 0, 0, 0, 0), [], []), (266, .goto (-241), 3, (25, 0, 0, 0, 0), [0, 4], [])], 0, [])),
  (269, ([(269, .return_, 1, (0, 0, 0, 0, 0), [], [])], 0, []))]
def cd_Mod_laysAll : List (Nat × AB) := [
  (0, ([(0, .aload_n 0, 1, (0, 0, 0, 0, 0), [], []), (1, .iconst (-1), 1, (0, 0, 0, 0, 0), [], []), (2, .iconst (-1), 1, (0, 0, 0, 0, 0), [], []), (3, .iconst (-1), 1, (0, 0, 0, 0, 0), [], []), (4, .invokevirtual 341, 3, (186, 4, 11, 11, 1652), [], [9])], 0, [])),
  (7, ([(7, .return_, 1, (0, 0, 0, 0, 0), [], [])], 0, []))]
def cd_Mod_waysOf : List (Nat × AB) := [
  (0, ([(0, .aload_n 0, 1, (0, 0, 0, 0, 0), [], []), (1, .getfield 36, 3, (11, 19, 2, 1274, 0), [], []), (4, .iconst (-1), 1, (0, 0, 0, 0, 0), [], []), (5, .iconst (-1), 1, (0, 0, 0, 0, 0), [], []), (6, .iload_n 1, 1, (0, 0, 0, 0, 0), [], []), (7, .invokestatic 334, 3, (183, 3, 0, 0, 1656), [], [3])], 0, [])),
  (10, ([(10, .laload, 1, (0, 0, 0, 0, 0), [], []), (11, .lreturn, 1, (0, 0, 0, 0, 0), [], [])], 0, []))]
def cd_Mod_joinings : List (Nat × AB) := [
  (0, ([(0, .aload_n 0, 1, (0, 0, 0, 0, 0), [], []), (1, .iconst 0, 1, (0, 0, 0, 0, 0), [], []), (2, .putfield 1, 3, (11, 0, 0, 1255, 0), [], [])], 5, [0, 1])),
  (5, ([(5, .iload_n 1, 1, (0, 0, 0, 0, 0), [], []), (6, .i2l, 1, (0, 0, 0, 0, 0), [], []), (7, .lconst 0, 1, (0, 0, 0, 0, 0), [], []), (8, .ldc2_w 352, 3, (0, 0, 0, 1646, 12), [], []), (11, .invokestatic 136, 3, (71, 3, 0, 0, 1372), [0, 1], [6])], 0, [])),
  (14, ([(14, .ifCond .ne 7, 3, (21, 0, 0, 0, 0), [0, 1], [])], 0, [])),
  (17, ([(17, .ldc2_w 354, 3, (0, 0, 0, 1647, (-3)), [], []), (20, .lreturn, 1, (0, 0, 0, 0, 0), [], [])], 0, [])),
  (21, ([(21, .aload_n 0, 1, (0, 0, 0, 0, 0), [], []), (22, .invokevirtual 345, 3, (187, 1, 11, 11, 1648), [0, 1], [1])], 0, [])),
  (25, ([(25, .aload_n 0, 1, (0, 0, 0, 0, 0), [], []), (26, .iload_n 1, 1, (0, 0, 0, 0, 0), [], []), (27, .invokevirtual 348, 3, (188, 2, 10, 11, 1668), [], [2])], 0, [])),
  (30, ([(30, .lreturn, 1, (0, 0, 0, 0, 0), [], [])], 0, []))]
def cd_Hook_full : List (Nat × AB) := [
  (0, ([(0, .aload_n 0, 1, (0, 0, 0, 0, 0), [], []), (1, .getfield 79, 3, (10, 14, 2, 368, 0), [], []), (4, .aload_n 0, 1, (0, 0, 0, 0, 0), [], []), (5, .getfield 33, 3, (10, 5, 2, 359, 0), [], []), (8, .invokevirtual 260, 3, (181, 2, 11, 2, 925), [0], [4])], 0, [])),
  (11, ([(11, .aload_n 0, 1, (0, 0, 0, 0, 0), [], []), (12, .getfield 79, 3, (10, 14, 2, 368, 0), [], []), (15, .getfield 267, 3, (2, 2, 0, 286, 0), [], []), (18, .ireturn, 1, (0, 0, 0, 0, 0), [], [])], 0, []))]
def cd_Mod_fullOf : List (Nat × AB) := [
  (0, ([(0, .aload_n 0, 1, (0, 0, 0, 0, 0), [], []), (1, .invokevirtual 345, 3, (187, 1, 11, 11, 1648), [0], [1])], 0, [])),
  (4, ([(4, .bipush 12, 2, (0, 0, 0, 0, 0), [], []), (6, .istore_n 1, 1, (0, 0, 0, 0, 0), [], [])], 7, [0, 1])),
  (7, ([(7, .aload_n 0, 1, (0, 0, 0, 0, 0), [], []), (8, .iload_n 1, 1, (0, 0, 0, 0, 0), [], []), (9, .invokevirtual 348, 3, (188, 2, 10, 11, 1668), [0, 1], [2])], 0, [])),
  (12, ([(12, .lconst 0, 1, (0, 0, 0, 0, 0), [], []), (13, .lcmp, 1, (0, 0, 0, 0, 0), [], []), (14, .ifCond .ne 9, 3, (23, 0, 0, 0, 0), [1], [0, 1])], 0, [])),
  (17, ([(17, .iinc 1 (-1), 3, (0, 0, 0, 0, 0), [], []), (20, .goto (-13), 3, (7, 0, 0, 0, 0), [0, 1], [])], 0, [])),
  (23, ([(23, .iload_n 1, 1, (0, 0, 0, 0, 0), [], []), (24, .ireturn, 1, (0, 0, 0, 0, 0), [], [])], 0, []))]
def cd_Mod_full : List (Nat × AB) := [
  (0, ([(0, .aload_n 0, 1, (0, 0, 0, 0, 0), [], []), (1, .iconst 0, 1, (0, 0, 0, 0, 0), [], []), (2, .putfield 1, 3, (11, 0, 0, 1255, 0), [], [])], 5, [0])),
  (5, ([(5, .aload_n 0, 1, (0, 0, 0, 0, 0), [], []), (6, .invokevirtual 356, 3, (191, 1, 10, 11, 1676), [], [2])], 0, [])),
  (9, ([(9, .ireturn, 1, (0, 0, 0, 0, 0), [], [])], 0, []))]
def cd_Mender_canStand : List (Nat × AB) := [
  (0, ([(0, .aload_n 0, 1, (0, 0, 0, 0, 0), [], []), (1, .iload_n 2, 1, (0, 0, 0, 0, 0), [], []), (2, .invokevirtual 63, 3, (38, 2, 10, 9, 960), [0, 1, 2], [2])], 0, [])),
  (5, ([(5, .ifCond .ne 16, 3, (21, 0, 0, 0, 0), [], [0, 1, 2])], 0, [])),
  (8, ([(8, .aload_n 0, 1, (0, 0, 0, 0, 0), [], []), (9, .iload_n 1, 1, (0, 0, 0, 0, 0), [], []), (10, .iload_n 2, 1, (0, 0, 0, 0, 0), [], []), (11, .invokevirtual 66, 3, (105, 3, 10, 9, 961), [], [3])], 0, [])),
  (14, ([(14, .ifCond .eq 7, 3, (21, 0, 0, 0, 0), [], [])], 0, [])),
  (17, ([(17, .iconst 1, 1, (0, 0, 0, 0, 0), [], []), (18, .goto 4, 3, (22, 0, 0, 0, 0), [], [])], 0, [])),
  (21, ([(21, .iconst 0, 1, (0, 0, 0, 0, 0), [], [])], 22, [])),
  (22, ([(22, .ireturn, 1, (1, 0, 0, 0, 0), [], [])], 0, []))]
def cd_Window_canFollow : List (Nat × AB) := [
  (0, ([(0, .iload_n 1, 1, (0, 0, 0, 0, 0), [], []), (1, .iconst (-1), 1, (0, 0, 0, 0, 0), [], []), (2, .if_icmp .eq 21, 3, (23, 0, 0, 0, 0), [], [0, 1, 2, 3, 4])], 0, [])),
  (5, ([(5, .iload 4, 2, (0, 0, 0, 0, 0), [], []), (7, .iload_n 2, 1, (0, 0, 0, 0, 0), [], []), (8, .if_icmp .le 19, 3, (27, 0, 0, 0, 0), [], [0, 1, 2, 3, 4])], 0, [])),
  (11, ([(11, .aload_n 0, 1, (0, 0, 0, 0, 0), [], []), (12, .iload_n 1, 1, (0, 0, 0, 0, 0), [], []), (13, .iload_n 2, 1, (0, 0, 0, 0, 0), [], []), (14, .iload_n 3, 1, (0, 0, 0, 0, 0), [], []), (15, .iload 4, 2, (0, 0, 0, 0, 0), [], []), (17, .invokevirtual 80, 3, (42, 5, 10, 9, 973), [], [5])], 0, [])),
  (20, ([(20, .ifCond .lt 7, 3, (27, 0, 0, 0, 0), [], [])], 0, [])),
  (23, ([(23, .iconst 1, 1, (0, 0, 0, 0, 0), [], []), (24, .goto 4, 3, (28, 0, 0, 0, 0), [], [])], 0, [])),
  (27, ([(27, .iconst 0, 1, (0, 0, 0, 0, 0), [], [])], 28, [])),
  (28, ([(28, .ireturn, 1, (1, 0, 0, 0, 0), [], [])], 0, []))]
def cd_Mender_canCome : List (Nat × AB) := [
  (0, ([(0, .aload_n 0, 1, (0, 0, 0, 0, 0), [], []), (1, .iload_n 3, 1, (0, 0, 0, 0, 0), [], []), (2, .iload 4, 2, (0, 0, 0, 0, 0), [], []), (4, .invokestatic 47, 3, (193, 3, 0, 0, 957), [0, 1, 2, 3, 4], [3])], 0, [])),
  (7, ([(7, .ifCond .eq 19, 3, (26, 0, 0, 0, 0), [], [0, 1, 2, 3, 4])], 0, [])),
  (10, ([(10, .aload_n 0, 1, (0, 0, 0, 0, 0), [], []), (11, .iload_n 1, 1, (0, 0, 0, 0, 0), [], []), (12, .iload_n 2, 1, (0, 0, 0, 0, 0), [], []), (13, .iload_n 3, 1, (0, 0, 0, 0, 0), [], []), (14, .iload 4, 2, (0, 0, 0, 0, 0), [], []), (16, .invokevirtual 70, 3, (194, 5, 10, 9, 969), [], [5])], 0, [])),
  (19, ([(19, .ifCond .eq 7, 3, (26, 0, 0, 0, 0), [], [])], 0, [])),
  (22, ([(22, .iconst 1, 1, (0, 0, 0, 0, 0), [], []), (23, .goto 4, 3, (27, 0, 0, 0, 0), [], [])], 0, [])),
  (26, ([(26, .iconst 0, 1, (0, 0, 0, 0, 0), [], [])], 27, [])),
  (27, ([(27, .ireturn, 1, (1, 0, 0, 0, 0), [], [])], 0, []))]
def cd_Mender_worthOf : List (Nat × AB) := [
  (0, ([(0, .aload_n 1, 1, (0, 0, 0, 0, 0), [], []), (1, .iload_n 2, 1, (0, 0, 0, 0, 0), [], []), (2, .invokevirtual 39, 3, (37, 2, 10, 0, 956), [0, 1, 2, 3], [2])], 0, [])),
  (5, ([(5, .ifCond .eq 17, 3, (22, 0, 0, 0, 0), [0, 2, 3], [0, 1, 2, 3])], 0, [])),
  (8, ([(8, .aload_n 1, 1, (0, 0, 0, 0, 0), [], []), (9, .getfield 74, 3, (0, 0, 2, 220, 0), [], []), (12, .iload_n 2, 1, (0, 0, 0, 0, 0), [], []), (13, .iaload, 1, (20, 0, 0, 0, 0), [], []), (14, .iload_n 3, 1, (0, 0, 0, 0, 0), [], []), (15, .if_icmp .eq 7, 3, (22, 0, 0, 0, 0), [0, 2, 3], [0, 2, 3])], 0, [])),
  (18, ([(18, .iconst 1, 1, (0, 0, 0, 0, 0), [], []), (19, .goto 4, 3, (23, 0, 0, 0, 0), [0, 2, 3], [])], 0, [])),
  (22, ([(22, .iconst 0, 1, (0, 0, 0, 0, 0), [], [])], 23, [0, 2, 3])),
  (23, ([(23, .istore 4, 2, (0, 0, 0, 0, 0), [], []), (25, .aload_n 0, 1, (0, 0, 0, 0, 0), [], []), (26, .getfield 22, 3, (4, 3, 2, 325, 0), [], []), (29, .iload_n 2, 1, (0, 0, 0, 0, 0), [], []), (30, .bipush 12, 2, (0, 0, 0, 0, 0), [], []), (32, .imul, 1, (0, 0, 0, 0, 0), [], []), (33, .iload_n 3, 1, (0, 0, 0, 0, 0), [], []), (34, .iadd, 1, (0, 0, 0, 0, 0), [], []), (35, .iaload, 1, (20, 0, 0, 0, 0), [], []), (36, .bipush 100, 2, (0, 0, 0, 0, 0), [], []), (38, .iadd, 1, (0, 0, 0, 0, 0), [], []), (39, .iload 4, 2, (0, 0, 0, 0, 0), [], []), (41, .ifCond .eq 7, 3, (48, 0, 0, 0, 0), [], [])], 0, [])),
  (44, ([(44, .iconst 1, 1, (0, 0, 0, 0, 0), [], []), (45, .goto 4, 3, (49, 0, 0, 0, 0), [], [])], 0, [])),
  (48, ([(48, .iconst 0, 1, (0, 0, 0, 0, 0), [], [])], 49, [])),
  (49, ([(49, .isub, 1, (0, 0, 0, 0, 0), [], []), (50, .ireturn, 1, (0, 0, 0, 0, 0), [], [])], 0, []))]
def cd_Mender_bestBehind : List (Nat × AB) := [
  (0, ([(0, .aload_n 0, 1, (0, 0, 0, 0, 0), [], []), (1, .getfield 25, 3, (4, 4, 2, 326, 0), [], []), (4, .iload_n 3, 1, (0, 0, 0, 0, 0), [], []), (5, .iconst 1, 1, (0, 0, 0, 0, 0), [], []), (6, .iadd, 1, (0, 0, 0, 0, 0), [], []), (7, .iaload, 1, (20, 0, 0, 0, 0), [], []), (8, .aload_n 0, 1, (0, 0, 0, 0, 0), [], []), (9, .getfield 25, 3, (4, 4, 2, 326, 0), [], []), (12, .aload_n 1, 1, (0, 0, 0, 0, 0), [], []), (13, .getfield 34, 3, (9, 5, 0, 132, 0), [], []), (16, .iaload, 1, (20, 0, 0, 0, 0), [], []), (17, .isub, 1, (0, 0, 0, 0, 0), [], []), (18, .istore 5, 2, (0, 0, 0, 0, 0), [], []), (20, .iload_n 3, 1, (0, 0, 0, 0, 0), [], []), (21, .iconst 1, 1, (0, 0, 0, 0, 0), [], []), (22, .iadd, 1, (0, 0, 0, 0, 0), [], []), (23, .istore 6, 2, (0, 0, 0, 0, 0), [], [])], 25, [0, 1, 2, 3, 4, 5, 6])),
  (25, ([(25, .iload 6, 2, (0, 0, 0, 0, 0), [], []), (27, .aload_n 1, 1, (0, 0, 0, 0, 0), [], []), (28, .getfield 34, 3, (9, 5, 0, 132, 0), [], []), (31, .if_icmp .ge 81, 3, (112, 0, 0, 0, 0), [5], [0, 1, 2, 3, 4, 5, 6])], 0, [])),
  (34, ([(34, .aload_n 0, 1, (0, 0, 0, 0, 0), [], []), (35, .getfield 25, 3, (4, 4, 2, 326, 0), [], []), (38, .iload 6, 2, (0, 0, 0, 0, 0), [], []), (40, .iaload, 1, (20, 0, 0, 0, 0), [], []), (41, .aload_n 0, 1, (0, 0, 0, 0, 0), [], []), (42, .getfield 25, 3, (4, 4, 2, 326, 0), [], []), (45, .iload_n 3, 1, (0, 0, 0, 0, 0), [], []), (46, .iconst 1, 1, (0, 0, 0, 0, 0), [], []), (47, .iadd, 1, (0, 0, 0, 0, 0), [], []), (48, .iaload, 1, (20, 0, 0, 0, 0), [], []), (49, .isub, 1, (0, 0, 0, 0, 0), [], []), (50, .istore 7, 2, (0, 0, 0, 0, 0), [], []), (52, .iload 4, 2, (0, 0, 0, 0, 0), [], []), (54, .iconst 1, 1, (0, 0, 0, 0, 0), [], []), (55, .iadd, 1, (0, 0, 0, 0, 0), [], []), (56, .istore 8, 2, (0, 0, 0, 0, 0), [], [])], 58, [0, 1, 2, 3, 4, 5, 6, 7, 8])),
  (58, ([(58, .iload 8, 2, (0, 0, 0, 0, 0), [], []), (60, .aload_n 1, 1, (0, 0, 0, 0, 0), [], []), (61, .getfield 45, 3, (9, 6, 0, 142, 0), [], []), (64, .if_icmp .ge 42, 3, (106, 0, 0, 0, 0), [0, 1, 2, 3, 4, 5, 6], [0, 1, 2, 3, 4, 5, 6, 7, 8])], 0, [])),
  (67, ([(67, .aload_n 1, 1, (0, 0, 0, 0, 0), [], []), (68, .iload_n 3, 1, (0, 0, 0, 0, 0), [], []), (69, .iload 4, 2, (0, 0, 0, 0, 0), [], []), (71, .iload 6, 2, (0, 0, 0, 0, 0), [], []), (73, .iload 8, 2, (0, 0, 0, 0, 0), [], []), (75, .invokestatic 77, 3, (195, 5, 0, 0, 966), [0, 1, 2, 3, 4, 5, 6, 7, 8], [5])], 0, [])),
  (78, ([(78, .ifCond .eq 22, 3, (100, 0, 0, 0, 0), [0, 1, 2, 3, 4, 5, 6, 7, 8], [0, 1, 2, 3, 4, 5, 6, 7, 8])], 0, [])),
  (81, ([(81, .iload 5, 2, (0, 0, 0, 0, 0), [], []), (83, .aload_n 0, 1, (0, 0, 0, 0, 0), [], []), (84, .aload_n 2, 1, (0, 0, 0, 0, 0), [], []), (85, .iload 6, 2, (0, 0, 0, 0, 0), [], []), (87, .iload 8, 2, (0, 0, 0, 0, 0), [], []), (89, .invokevirtual 81, 3, (196, 4, 10, 4, 974), [0, 1, 2, 3, 4, 6, 7, 8], [5])], 0, [])),
  (92, ([(92, .iload 7, 2, (0, 0, 0, 0, 0), [], []), (94, .isub, 1, (0, 0, 0, 0, 0), [], []), (95, .invokestatic 85, 3, (21, 2, 0, 0, 978), [0, 1, 2, 3, 4, 6, 7, 8], [2])], 0, [])),
  (98, ([(98, .istore 5, 2, (0, 0, 0, 0, 0), [], [])], 100, [0, 1, 2, 3, 4, 5, 6, 7, 8])),
  (100, ([(100, .iinc 8 1, 3, (0, 0, 0, 0, 0), [], []), (103, .goto (-45), 3, (58, 0, 0, 0, 0), [0, 1, 2, 3, 4, 5, 6, 7, 8], [])], 0, [])),
  (106, ([(106, .iinc 6 1, 3, (0, 0, 0, 0, 0), [], []), (109, .goto (-84), 3, (25, 0, 0, 0, 0), [0, 1, 2, 3, 4, 5, 6], [])], 0, [])),
  (112, ([(112, .iload 5, 2, (0, 0, 0, 0, 0), [], []), (114, .ireturn, 1, (0, 0, 0, 0, 0), [], [])], 0, []))]
def cd_Mender_choose : List (Nat × AB) := [
  (0, ([(0, .iload_n 3, 1, (0, 0, 0, 0, 0), [], []), (1, .istore 4, 2, (0, 0, 0, 0, 0), [], []), (3, .iconst (-1), 1, (0, 0, 0, 0, 0), [], []), (4, .istore 5, 2, (0, 0, 0, 0, 0), [], []), (6, .iconst (-1), 1, (0, 0, 0, 0, 0), [], []), (7, .istore 6, 2, (0, 0, 0, 0, 0), [], []), (9, .iconst 0, 1, (0, 0, 0, 0, 0), [], []), (10, .istore 7, 2, (0, 0, 0, 0, 0), [], [])], 12, [0, 1, 2, 4, 5, 6, 7])),
  (12, ([(12, .iload 7, 2, (0, 0, 0, 0, 0), [], []), (14, .aload_n 1, 1, (0, 0, 0, 0, 0), [], []), (15, .getfield 34, 3, (9, 5, 0, 132, 0), [], []), (18, .if_icmp .ge 138, 3, (156, 0, 0, 0, 0), [], [0, 1, 2, 4, 5, 6, 7])], 0, [])),
  (21, ([(21, .iload 6, 2, (0, 0, 0, 0, 0), [], []), (23, .iconst 1, 1, (0, 0, 0, 0, 0), [], []), (24, .iadd, 1, (0, 0, 0, 0, 0), [], []), (25, .istore 8, 2, (0, 0, 0, 0, 0), [], [])], 27, [0, 1, 2, 4, 5, 6, 7, 8])),
  (27, ([(27, .iload 8, 2, (0, 0, 0, 0, 0), [], []), (29, .aload_n 1, 1, (0, 0, 0, 0, 0), [], []), (30, .getfield 45, 3, (9, 6, 0, 142, 0), [], []), (33, .if_icmp .ge 58, 3, (91, 0, 0, 0, 0), [0, 1, 2, 4, 5, 6, 7], [0, 1, 2, 4, 5, 6, 7, 8])], 0, [])),
  (36, ([(36, .aload_n 0, 1, (0, 0, 0, 0, 0), [], []), (37, .getfield 9, 3, (4, 0, 2, 319, 0), [], []), (40, .iload 7, 2, (0, 0, 0, 0, 0), [], []), (42, .iaload, 1, (20, 0, 0, 0, 0), [], []), (43, .iconst (-1), 1, (0, 0, 0, 0, 0), [], []), (44, .if_icmp .ne 47, 3, (91, 0, 0, 0, 0), [0, 1, 2, 4, 5, 6, 7], [0, 1, 2, 4, 5, 6, 7, 8])], 0, [])),
  (47, ([(47, .aload_n 1, 1, (0, 0, 0, 0, 0), [], []), (48, .iload 5, 2, (0, 0, 0, 0, 0), [], []), (50, .iload 6, 2, (0, 0, 0, 0, 0), [], []), (52, .iload 7, 2, (0, 0, 0, 0, 0), [], []), (54, .iload 8, 2, (0, 0, 0, 0, 0), [], []), (56, .invokestatic 77, 3, (195, 5, 0, 0, 966), [0, 1, 2, 4, 5, 6, 7, 8], [5])], 0, [])),
  (59, ([(59, .ifCond .eq 26, 3, (85, 0, 0, 0, 0), [0, 1, 2, 4, 5, 6, 7, 8], [0, 1, 2, 4, 5, 6, 7, 8])], 0, [])),
  (62, ([(62, .aload_n 0, 1, (0, 0, 0, 0, 0), [], []), (63, .aload_n 2, 1, (0, 0, 0, 0, 0), [], []), (64, .iload 7, 2, (0, 0, 0, 0, 0), [], []), (66, .iload 8, 2, (0, 0, 0, 0, 0), [], []), (68, .invokevirtual 81, 3, (196, 4, 10, 4, 974), [0, 1, 2, 4, 5, 6, 7, 8], [5])], 0, [])),
  (71, ([(71, .iload 4, 2, (0, 0, 0, 0, 0), [], []), (73, .if_icmp .ne 12, 3, (85, 0, 0, 0, 0), [0, 1, 2, 4, 5, 6, 7, 8], [0, 1, 2, 4, 5, 6, 7, 8])], 0, [])),
  (76, ([(76, .aload_n 0, 1, (0, 0, 0, 0, 0), [], []), (77, .getfield 9, 3, (4, 0, 2, 319, 0), [], []), (80, .iload 7, 2, (0, 0, 0, 0, 0), [], []), (82, .iload 8, 2, (0, 0, 0, 0, 0), [], []), (84, .iastore, 1, (0, 0, 0, 0, 0), [], [])], 85, [0, 1, 2, 4, 5, 6, 7, 8])),
  (85, ([(85, .iinc 8 1, 3, (0, 0, 0, 0, 0), [], []), (88, .goto (-61), 3, (27, 0, 0, 0, 0), [0, 1, 2, 4, 5, 6, 7, 8], [])], 0, [])),
  (91, ([(91, .aload_n 0, 1, (0, 0, 0, 0, 0), [], []), (92, .getfield 9, 3, (4, 0, 2, 319, 0), [], []), (95, .iload 7, 2, (0, 0, 0, 0, 0), [], []), (97, .iaload, 1, (20, 0, 0, 0, 0), [], []), (98, .iconst (-1), 1, (0, 0, 0, 0, 0), [], []), (99, .if_icmp .eq 39, 3, (138, 0, 0, 0, 0), [0, 1, 2, 4, 5, 6, 7], [0, 1, 2, 7])], 0, [])),
  (102, ([(102, .aload_n 0, 1, (0, 0, 0, 0, 0), [], []), (103, .getfield 22, 3, (4, 3, 2, 325, 0), [], []), (106, .iload 7, 2, (0, 0, 0, 0, 0), [], []), (108, .bipush 12, 2, (0, 0, 0, 0, 0), [], []), (110, .imul, 1, (0, 0, 0, 0, 0), [], []), (111, .aload_n 0, 1, (0, 0, 0, 0, 0), [], []), (112, .getfield 9, 3, (4, 0, 2, 319, 0), [], []), (115, .iload 7, 2, (0, 0, 0, 0, 0), [], []), (117, .iaload, 1, (20, 0, 0, 0, 0), [], []), (118, .iadd, 1, (0, 0, 0, 0, 0), [], []), (119, .iaload, 1, (20, 0, 0, 0, 0), [], []), (120, .istore 4, 2, (0, 0, 0, 0, 0), [], []), (122, .iload 7, 2, (0, 0, 0, 0, 0), [], []), (124, .istore 5, 2, (0, 0, 0, 0, 0), [], []), (126, .aload_n 0, 1, (0, 0, 0, 0, 0), [], []), (127, .getfield 9, 3, (4, 0, 2, 319, 0), [], []), (130, .iload 7, 2, (0, 0, 0, 0, 0), [], []), (132, .iaload, 1, (20, 0, 0, 0, 0), [], []), (133, .istore 6, 2, (0, 0, 0, 0, 0), [], []), (135, .goto 15, 3, (150, 0, 0, 0, 0), [0, 1, 2, 4, 5, 6, 7], [])], 0, [])),
  (138, ([(138, .aload_n 2, 1, (0, 0, 0, 0, 0), [], []), (139, .iload 7, 2, (0, 0, 0, 0, 0), [], []), (141, .invokevirtual 39, 3, (37, 2, 10, 0, 956), [0, 1, 2, 4, 5, 6, 7], [2])], 0, [])),
  (144, ([(144, .ifCond .eq 6, 3, (150, 0, 0, 0, 0), [0, 1, 2, 4, 5, 6, 7], [0, 1, 2, 4, 5, 6, 7])], 0, [])),
  (147, ([(147, .iinc 4 1, 3, (0, 0, 0, 0, 0), [], [])], 150, [0, 1, 2, 4, 5, 6, 7])),
  (150, ([(150, .iinc 7 1, 3, (0, 0, 0, 0, 0), [], []), (153, .goto (-141), 3, (12, 0, 0, 0, 0), [0, 1, 2, 4, 5, 6, 7], [])], 0, [])),
  (156, ([(156, .return_, 1, (0, 0, 0, 0, 0), [], [])], 0, []))]
def cd_Mender_tell : List (Nat × AB) := [
  (0, ([(0, .aload_n 0, 1, (0, 0, 0, 0, 0), [], []), (1, .iconst 0, 1, (0, 0, 0, 0, 0), [], []), (2, .putfield 15, 3, (4, 1, 0, 321, 0), [], [])], 5, [0, 1, 2])),
  (5, ([(5, .aload_n 0, 1, (0, 0, 0, 0, 0), [], []), (6, .iconst 0, 1, (0, 0, 0, 0, 0), [], []), (7, .putfield 19, 3, (4, 2, 0, 323, 0), [], [])], 10, [0, 1, 2])),
  (10, ([(10, .iconst 0, 1, (0, 0, 0, 0, 0), [], []), (11, .istore_n 3, 1, (0, 0, 0, 0, 0), [], [])], 12, [0, 1, 2, 3])),
  (12, ([(12, .iload_n 3, 1, (0, 0, 0, 0, 0), [], []), (13, .aload_n 1, 1, (0, 0, 0, 0, 0), [], []), (14, .getfield 34, 3, (9, 5, 0, 132, 0), [], []), (17, .if_icmp .ge 62, 3, (79, 0, 0, 0, 0), [], [0, 1, 2, 3])], 0, [])),
  (20, ([(20, .aload_n 0, 1, (0, 0, 0, 0, 0), [], []), (21, .getfield 9, 3, (4, 0, 2, 319, 0), [], []), (24, .iload_n 3, 1, (0, 0, 0, 0, 0), [], []), (25, .iaload, 1, (20, 0, 0, 0, 0), [], []), (26, .iconst (-1), 1, (0, 0, 0, 0, 0), [], []), (27, .if_icmp .eq 13, 3, (40, 0, 0, 0, 0), [0, 1, 2, 3], [0, 1, 2, 3])], 0, [])),
  (30, ([(30, .aload_n 0, 1, (0, 0, 0, 0, 0), [], []), (31, .dup, 1, (0, 0, 0, 0, 0), [], []), (32, .getfield 15, 3, (4, 1, 0, 321, 0), [], []), (35, .iconst 1, 1, (0, 0, 0, 0, 0), [], []), (36, .iadd, 1, (0, 0, 0, 0, 0), [], []), (37, .putfield 15, 3, (4, 1, 0, 321, 0), [], [])], 40, [0, 1, 2, 3])),
  (40, ([(40, .aload_n 2, 1, (0, 0, 0, 0, 0), [], []), (41, .iload_n 3, 1, (0, 0, 0, 0, 0), [], []), (42, .invokevirtual 39, 3, (37, 2, 10, 0, 956), [0, 1, 2, 3], [2])], 0, [])),
  (45, ([(45, .ifCond .eq 28, 3, (73, 0, 0, 0, 0), [0, 1, 2, 3], [0, 1, 2, 3])], 0, [])),
  (48, ([(48, .aload_n 2, 1, (0, 0, 0, 0, 0), [], []), (49, .getfield 74, 3, (0, 0, 2, 220, 0), [], []), (52, .iload_n 3, 1, (0, 0, 0, 0, 0), [], []), (53, .iaload, 1, (20, 0, 0, 0, 0), [], []), (54, .aload_n 0, 1, (0, 0, 0, 0, 0), [], []), (55, .getfield 9, 3, (4, 0, 2, 319, 0), [], []), (58, .iload_n 3, 1, (0, 0, 0, 0, 0), [], []), (59, .iaload, 1, (20, 0, 0, 0, 0), [], []), (60, .if_icmp .eq 13, 3, (73, 0, 0, 0, 0), [0, 1, 2, 3], [0, 1, 2, 3])], 0, [])),
  (63, ([(63, .aload_n 0, 1, (0, 0, 0, 0, 0), [], []), (64, .dup, 1, (0, 0, 0, 0, 0), [], []), (65, .getfield 19, 3, (4, 2, 0, 323, 0), [], []), (68, .iconst 1, 1, (0, 0, 0, 0, 0), [], []), (69, .iadd, 1, (0, 0, 0, 0, 0), [], []), (70, .putfield 19, 3, (4, 2, 0, 323, 0), [], [])], 73, [0, 1, 2, 3])),
  (73, ([(73, .iinc 3 1, 3, (0, 0, 0, 0, 0), [], []), (76, .goto (-64), 3, (12, 0, 0, 0, 0), [0, 1, 2, 3], [])], 0, [])),
  (79, ([(79, .return_, 1, (0, 0, 0, 0, 0), [], [])], 0, []))]
def cd_Mender_mend : List (Nat × AB) := [
  (0, ([(0, .aload_n 0, 1, (0, 0, 0, 0, 0), [], []), (1, .getfield 9, 3, (4, 0, 2, 319, 0), [], []), (4, .iconst (-1), 1, (0, 0, 0, 0, 0), [], []), (5, .invokestatic 28, 3, (3, 2, 1, 0, 955), [0, 1, 2], [4])], 0, [])),
  (8, ([(8, .iconst 0, 1, (0, 0, 0, 0, 0), [], []), (9, .istore_n 3, 1, (0, 0, 0, 0, 0), [], [])], 10, [0, 1, 2, 3])),
  (10, ([(10, .iload_n 3, 1, (0, 0, 0, 0, 0), [], []), (11, .aload_n 1, 1, (0, 0, 0, 0, 0), [], []), (12, .getfield 34, 3, (9, 5, 0, 132, 0), [], []), (15, .if_icmp .ge 37, 3, (52, 0, 0, 0, 0), [0, 1, 2], [0, 1, 2, 3])], 0, [])),
  (18, ([(18, .aload_n 0, 1, (0, 0, 0, 0, 0), [], []), (19, .getfield 25, 3, (4, 4, 2, 326, 0), [], []), (22, .iload_n 3, 1, (0, 0, 0, 0, 0), [], []), (23, .iconst 1, 1, (0, 0, 0, 0, 0), [], []), (24, .iadd, 1, (0, 0, 0, 0, 0), [], []), (25, .aload_n 0, 1, (0, 0, 0, 0, 0), [], []), (26, .getfield 25, 3, (4, 4, 2, 326, 0), [], []), (29, .iload_n 3, 1, (0, 0, 0, 0, 0), [], []), (30, .iaload, 1, (20, 0, 0, 0, 0), [], []), (31, .aload_n 2, 1, (0, 0, 0, 0, 0), [], []), (32, .iload_n 3, 1, (0, 0, 0, 0, 0), [], []), (33, .invokevirtual 39, 3, (37, 2, 10, 0, 956), [0, 1, 2, 3], [2])], 0, [])),
  (36, ([(36, .ifCond .eq 7, 3, (43, 0, 0, 0, 0), [0, 1, 2, 3], [0, 1, 2, 3])], 0, [])),
  (39, ([(39, .iconst 1, 1, (0, 0, 0, 0, 0), [], []), (40, .goto 4, 3, (44, 0, 0, 0, 0), [0, 1, 2, 3], [])], 0, [])),
  (43, ([(43, .iconst 0, 1, (0, 0, 0, 0, 0), [], [])], 44, [0, 1, 2, 3])),
  (44, ([(44, .iadd, 1, (0, 0, 0, 0, 0), [], []), (45, .iastore, 1, (0, 0, 0, 0, 0), [], [])], 46, [0, 1, 2, 3])),
  (46, ([(46, .iinc 3 1, 3, (0, 0, 0, 0, 0), [], []), (49, .goto (-39), 3, (10, 0, 0, 0, 0), [0, 1, 2, 3], [])], 0, [])),
  (52, ([(52, .aload_n 1, 1, (0, 0, 0, 0, 0), [], []), (53, .getfield 34, 3, (9, 5, 0, 132, 0), [], []), (56, .iconst 1, 1, (0, 0, 0, 0, 0), [], []), (57, .isub, 1, (0, 0, 0, 0, 0), [], []), (58, .istore_n 3, 1, (0, 0, 0, 0, 0), [], [])], 59, [0, 1, 2, 3])),
  (59, ([(59, .iload_n 3, 1, (0, 0, 0, 0, 0), [], []), (60, .ifCond .lt 59, 3, (119, 0, 0, 0, 0), [0, 1, 2], [0, 1, 2, 3])], 0, [])),
  (63, ([(63, .aload_n 1, 1, (0, 0, 0, 0, 0), [], []), (64, .getfield 45, 3, (9, 6, 0, 142, 0), [], []), (67, .iconst 1, 1, (0, 0, 0, 0, 0), [], []), (68, .isub, 1, (0, 0, 0, 0, 0), [], []), (69, .istore 4, 2, (0, 0, 0, 0, 0), [], [])], 71, [0, 1, 2, 3, 4])),
  (71, ([(71, .iload 4, 2, (0, 0, 0, 0, 0), [], []), (73, .ifCond .lt 40, 3, (113, 0, 0, 0, 0), [0, 1, 2, 3], [0, 1, 2, 3, 4])], 0, [])),
  (76, ([(76, .aload_n 1, 1, (0, 0, 0, 0, 0), [], []), (77, .iload_n 3, 1, (0, 0, 0, 0, 0), [], []), (78, .iload 4, 2, (0, 0, 0, 0, 0), [], []), (80, .invokestatic 47, 3, (193, 3, 0, 0, 957), [0, 1, 2, 3, 4], [3])], 0, [])),
  (83, ([(83, .ifCond .eq 24, 3, (107, 0, 0, 0, 0), [0, 1, 2, 3, 4], [0, 1, 2, 3, 4])], 0, [])),
  (86, ([(86, .aload_n 0, 1, (0, 0, 0, 0, 0), [], []), (87, .getfield 22, 3, (4, 3, 2, 325, 0), [], []), (90, .iload_n 3, 1, (0, 0, 0, 0, 0), [], []), (91, .bipush 12, 2, (0, 0, 0, 0, 0), [], []), (93, .imul, 1, (0, 0, 0, 0, 0), [], []), (94, .iload 4, 2, (0, 0, 0, 0, 0), [], []), (96, .iadd, 1, (0, 0, 0, 0, 0), [], []), (97, .aload_n 0, 1, (0, 0, 0, 0, 0), [], []), (98, .aload_n 1, 1, (0, 0, 0, 0, 0), [], []), (99, .aload_n 2, 1, (0, 0, 0, 0, 0), [], []), (100, .iload_n 3, 1, (0, 0, 0, 0, 0), [], []), (101, .iload 4, 2, (0, 0, 0, 0, 0), [], []), (103, .invokevirtual 51, 3, (197, 5, 10, 4, 962), [0, 1, 2, 3, 4], [9])], 0, [])),
  (106, ([(106, .iastore, 1, (0, 0, 0, 0, 0), [], [])], 107, [0, 1, 2, 3, 4])),
  (107, ([(107, .iinc 4 (-1), 3, (0, 0, 0, 0, 0), [], []), (110, .goto (-39), 3, (71, 0, 0, 0, 0), [0, 1, 2, 3, 4], [])], 0, [])),
  (113, ([(113, .iinc 3 (-1), 3, (0, 0, 0, 0, 0), [], []), (116, .goto (-57), 3, (59, 0, 0, 0, 0), [0, 1, 2, 3], [])], 0, [])),
  (119, ([(119, .aload_n 0, 1, (0, 0, 0, 0, 0), [], []), (120, .aload_n 1, 1, (0, 0, 0, 0, 0), [], []), (121, .aload_n 2, 1, (0, 0, 0, 0, 0), [], []), (122, .aload_n 0, 1, (0, 0, 0, 0, 0), [], []), (123, .aload_n 1, 1, (0, 0, 0, 0, 0), [], []), (124, .aload_n 2, 1, (0, 0, 0, 0, 0), [], []), (125, .iconst (-1), 1, (0, 0, 0, 0, 0), [], []), (126, .iconst (-1), 1, (0, 0, 0, 0, 0), [], []), (127, .invokevirtual 51, 3, (197, 5, 10, 4, 962), [0, 1, 2], [9])], 0, [])),
  (130, ([(130, .invokevirtual 55, 3, (198, 4, 11, 4, 979), [0, 1, 2], [9])], 0, [])),
  (133, ([(133, .aload_n 0, 1, (0, 0, 0, 0, 0), [], []), (134, .aload_n 1, 1, (0, 0, 0, 0, 0), [], []), (135, .aload_n 2, 1, (0, 0, 0, 0, 0), [], []), (136, .invokevirtual 59, 3, (199, 3, 11, 4, 983), [], [4])], 0, [])),
  (139, ([(139, .return_, 1, (0, 0, 0, 0, 0), [], [])], 0, []))]
def cd_Hook_mended : List (Nat × AB) := [
  (0, ([(0, .iload_n 1, 1, (0, 0, 0, 0, 0), [], []), (1, .bipush 10, 2, (0, 0, 0, 0, 0), [], []), (3, .if_icmp .lt 21, 3, (24, 0, 0, 0, 0), [0, 1], [0, 1])], 0, [])),
  (6, ([(6, .aload_n 0, 1, (0, 0, 0, 0, 0), [], []), (7, .getfield 33, 3, (10, 5, 2, 359, 0), [], []), (10, .iload_n 1, 1, (0, 0, 0, 0, 0), [], []), (11, .bipush 10, 2, (0, 0, 0, 0, 0), [], []), (13, .isub, 1, (0, 0, 0, 0, 0), [], []), (14, .invokevirtual 130, 3, (35, 2, 10, 9, 744), [0, 1], [2])], 0, [])),
  (17, ([(17, .ifCond .eq 7, 3, (24, 0, 0, 0, 0), [0, 1], [0, 1])], 0, [])),
  (20, ([(20, .iconst 1, 1, (0, 0, 0, 0, 0), [], []), (21, .goto 4, 3, (25, 0, 0, 0, 0), [0, 1], [])], 0, [])),
  (24, ([(24, .iconst 0, 1, (0, 0, 0, 0, 0), [], [])], 25, [0, 1])),
  (25, ([(25, .istore_n 2, 1, (0, 0, 0, 0, 0), [], []), (26, .iload_n 1, 1, (0, 0, 0, 0, 0), [], []), (27, .ifCond .eq 15, 3, (42, 0, 0, 0, 0), [0, 1, 2], [0, 1, 2])], 0, [])),
  (30, ([(30, .iload_n 1, 1, (0, 0, 0, 0, 0), [], []), (31, .iconst 1, 1, (0, 0, 0, 0, 0), [], []), (32, .if_icmp .eq 10, 3, (42, 0, 0, 0, 0), [0, 1, 2], [0, 1, 2])], 0, [])),
  (35, ([(35, .iload_n 2, 1, (0, 0, 0, 0, 0), [], []), (36, .ifCond .ne 6, 3, (42, 0, 0, 0, 0), [0, 1, 2], [])], 0, [])),
  (39, ([(39, .bipush (-2), 2, (0, 0, 0, 0, 0), [], []), (41, .ireturn, 1, (0, 0, 0, 0, 0), [], [])], 0, [])),
  (42, ([(42, .aload_n 0, 1, (0, 0, 0, 0, 0), [], []), (43, .getfield 86, 3, (10, 15, 2, 369, 0), [], []), (46, .aload_n 0, 1, (0, 0, 0, 0, 0), [], []), (47, .getfield 33, 3, (10, 5, 2, 359, 0), [], []), (50, .aload_n 0, 1, (0, 0, 0, 0, 0), [], []), (51, .getfield 43, 3, (10, 7, 2, 361, 0), [], []), (54, .invokevirtual 270, 3, (200, 3, 11, 4, 951), [0, 1, 2], [5])], 0, [])),
  (57, ([(57, .iload_n 2, 1, (0, 0, 0, 0, 0), [], []), (58, .ifCond .eq 16, 3, (74, 0, 0, 0, 0), [0, 1], [0, 1])], 0, [])),
  (61, ([(61, .aload_n 0, 1, (0, 0, 0, 0, 0), [], []), (62, .getfield 86, 3, (10, 15, 2, 369, 0), [], []), (65, .getfield 274, 3, (4, 0, 2, 320, 0), [], []), (68, .iload_n 1, 1, (0, 0, 0, 0, 0), [], []), (69, .bipush 10, 2, (0, 0, 0, 0, 0), [], []), (71, .isub, 1, (0, 0, 0, 0, 0), [], []), (72, .iaload, 1, (20, 0, 0, 0, 0), [], []), (73, .ireturn, 1, (0, 0, 0, 0, 0), [], [])], 0, [])),
  (74, ([(74, .iload_n 1, 1, (0, 0, 0, 0, 0), [], []), (75, .ifCond .ne 13, 3, (88, 0, 0, 0, 0), [0], [0])], 0, [])),
  (78, ([(78, .aload_n 0, 1, (0, 0, 0, 0, 0), [], []), (79, .getfield 86, 3, (10, 15, 2, 369, 0), [], []), (82, .getfield 276, 3, (4, 1, 0, 322, 0), [], []), (85, .goto 10, 3, (95, 0, 0, 0, 0), [], [])], 0, [])),
  (88, ([(88, .aload_n 0, 1, (0, 0, 0, 0, 0), [], []), (89, .getfield 86, 3, (10, 15, 2, 369, 0), [], []), (92, .getfield 279, 3, (4, 2, 0, 324, 0), [], [])], 95, [])),
  (95, ([(95, .ireturn, 1, (0, 0, 0, 0, 0), [], [])], 0, []))]
def cd_Mod_asksHook : List (Nat × AB) := [
  (0, ([(0, .iload_n 1, 1, (0, 0, 0, 0, 0), [], []), (1, .i2l, 1, (0, 0, 0, 0, 0), [], []), (2, .lconst 0, 1, (0, 0, 0, 0, 0), [], []), (3, .iload_n 2, 1, (0, 0, 0, 0, 0), [], []), (4, .i2l, 1, (0, 0, 0, 0, 0), [], []), (5, .invokestatic 136, 3, (71, 3, 0, 0, 1372), [0, 1], [6])], 0, [])),
  (8, ([(8, .ifCond .ne 24, 3, (32, 0, 0, 0, 0), [], [0, 1])], 0, [])),
  (11, ([(11, .iload_n 1, 1, (0, 0, 0, 0, 0), [], []), (12, .i2l, 1, (0, 0, 0, 0, 0), [], []), (13, .ldc2_w 282, 3, (0, 0, 0, 1598, 10), [], []), (16, .bipush 9, 2, (0, 0, 0, 0, 0), [], []), (18, .aload_n 0, 1, (0, 0, 0, 0, 0), [], []), (19, .getfield 13, 3, (11, 1, 2, 1256, 0), [], []), (22, .iconst 1, 1, (0, 0, 0, 0, 0), [], []), (23, .iaload, 1, (20, 0, 0, 0, 0), [], []), (24, .iadd, 1, (0, 0, 0, 0, 0), [], []), (25, .i2l, 1, (0, 0, 0, 0, 0), [], []), (26, .invokestatic 136, 3, (71, 3, 0, 0, 1372), [], [6])], 0, [])),
  (29, ([(29, .ifCond .eq 7, 3, (36, 0, 0, 0, 0), [], [])], 0, [])),
  (32, ([(32, .iconst 1, 1, (0, 0, 0, 0, 0), [], []), (33, .goto 4, 3, (37, 0, 0, 0, 0), [], [])], 0, [])),
  (36, ([(36, .iconst 0, 1, (0, 0, 0, 0, 0), [], [])], 37, [])),
  (37, ([(37, .ireturn, 1, (1, 0, 0, 0, 0), [], [])], 0, []))]
def cd_Mod_keptBy : List (Nat × AB) := [
  (0, ([(0, .bipush 100, 2, (0, 0, 0, 0, 0), [], []), (2, .aload_n 0, 1, (0, 0, 0, 0, 0), [], []), (3, .getfield 13, 3, (11, 1, 2, 1256, 0), [], []), (6, .bipush 61, 2, (0, 0, 0, 0, 0), [], []), (8, .iload_n 1, 1, (0, 0, 0, 0, 0), [], []), (9, .iadd, 1, (0, 0, 0, 0, 0), [], []), (10, .iaload, 1, (20, 0, 0, 0, 0), [], []), (11, .iload_n 2, 1, (0, 0, 0, 0, 0), [], []), (12, .if_icmp .ne 7, 3, (19, 0, 0, 0, 0), [], [])], 0, [])),
  (15, ([(15, .iconst 1, 1, (0, 0, 0, 0, 0), [], []), (16, .goto 4, 3, (20, 0, 0, 0, 0), [], [])], 0, [])),
  (19, ([(19, .iconst 0, 1, (0, 0, 0, 0, 0), [], [])], 20, [])),
  (20, ([(20, .iadd, 1, (0, 0, 0, 0, 0), [], []), (21, .ireturn, 1, (0, 0, 0, 0, 0), [], [])], 0, []))]
def cd_Mod_laysRight : List (Nat × AB) := [
  (0, ([(0, .aload_n 0, 1, (0, 0, 0, 0, 0), [], []), (1, .invokevirtual 345, 3, (187, 1, 11, 11, 1648), [0], [1])], 0, [])),
  (4, ([(4, .aload_n 0, 1, (0, 0, 0, 0, 0), [], []), (5, .getfield 13, 3, (11, 1, 2, 1256, 0), [], []), (8, .iconst 1, 1, (0, 0, 0, 0, 0), [], []), (9, .iaload, 1, (20, 0, 0, 0, 0), [], []), (10, .iconst 1, 1, (0, 0, 0, 0, 0), [], []), (11, .isub, 1, (0, 0, 0, 0, 0), [], []), (12, .istore_n 1, 1, (0, 0, 0, 0, 0), [], [])], 13, [0, 1])),
  (13, ([(13, .iload_n 1, 1, (0, 0, 0, 0, 0), [], []), (14, .iconst (-1), 1, (0, 0, 0, 0, 0), [], []), (15, .if_icmp .lt 185, 3, (200, 0, 0, 0, 0), [0], [0, 1])], 0, [])),
  (18, ([(18, .aload_n 0, 1, (0, 0, 0, 0, 0), [], []), (19, .getfield 13, 3, (11, 1, 2, 1256, 0), [], []), (22, .iconst 2, 1, (0, 0, 0, 0, 0), [], []), (23, .iaload, 1, (20, 0, 0, 0, 0), [], []), (24, .iconst 1, 1, (0, 0, 0, 0, 0), [], []), (25, .isub, 1, (0, 0, 0, 0, 0), [], []), (26, .istore_n 2, 1, (0, 0, 0, 0, 0), [], [])], 27, [0, 1, 2])),
  (27, ([(27, .iload_n 2, 1, (0, 0, 0, 0, 0), [], []), (28, .iconst (-1), 1, (0, 0, 0, 0, 0), [], []), (29, .if_icmp .lt 165, 3, (194, 0, 0, 0, 0), [0, 1], [0, 1, 2])], 0, [])),
  (32, ([(32, .iload_n 1, 1, (0, 0, 0, 0, 0), [], []), (33, .iconst (-1), 1, (0, 0, 0, 0, 0), [], []), (34, .if_icmp .ne 7, 3, (41, 0, 0, 0, 0), [0, 1, 2], [0, 1, 2])], 0, [])),
  (37, ([(37, .iconst 1, 1, (0, 0, 0, 0, 0), [], []), (38, .goto 4, 3, (42, 0, 0, 0, 0), [0, 1, 2], [])], 0, [])),
  (41, ([(41, .iconst 0, 1, (0, 0, 0, 0, 0), [], [])], 42, [0, 1, 2])),
  (42, ([(42, .iload_n 2, 1, (0, 0, 0, 0, 0), [], []), (43, .iconst (-1), 1, (0, 0, 0, 0, 0), [], []), (44, .if_icmp .ne 7, 3, (51, 0, 0, 0, 0), [0, 1, 2], [0, 1, 2])], 0, [])),
  (47, ([(47, .iconst 1, 1, (0, 0, 0, 0, 0), [], []), (48, .goto 4, 3, (52, 0, 0, 0, 0), [0, 1, 2], [])], 0, [])),
  (51, ([(51, .iconst 0, 1, (0, 0, 0, 0, 0), [], [])], 52, [0, 1, 2])),
  (52, ([(52, .if_icmp .eq 6, 3, (58, 0, 0, 0, 0), [0, 1, 2], [0, 1, 2])], 0, [])),
  (55, ([(55, .goto 133, 3, (188, 0, 0, 0, 0), [0, 1, 2], [])], 0, [])),
  (58, ([(58, .iconst 0, 1, (0, 0, 0, 0, 0), [], []), (59, .istore_n 3, 1, (0, 0, 0, 0, 0), [], []), (60, .iload_n 1, 1, (0, 0, 0, 0, 0), [], []), (61, .iconst 1, 1, (0, 0, 0, 0, 0), [], []), (62, .iadd, 1, (0, 0, 0, 0, 0), [], []), (63, .istore 4, 2, (0, 0, 0, 0, 0), [], [])], 65, [0, 1, 2, 3, 4])),
  (65, ([(65, .iload 4, 2, (0, 0, 0, 0, 0), [], []), (67, .aload_n 0, 1, (0, 0, 0, 0, 0), [], []), (68, .getfield 13, 3, (11, 1, 2, 1256, 0), [], []), (71, .iconst 1, 1, (0, 0, 0, 0, 0), [], []), (72, .iaload, 1, (20, 0, 0, 0, 0), [], []), (73, .if_icmp .ge 99, 3, (172, 0, 0, 0, 0), [0, 1, 2, 3], [0, 1, 2, 3, 4])], 0, [])),
  (76, ([(76, .iload_n 2, 1, (0, 0, 0, 0, 0), [], []), (77, .iconst 1, 1, (0, 0, 0, 0, 0), [], []), (78, .iadd, 1, (0, 0, 0, 0, 0), [], []), (79, .istore 5, 2, (0, 0, 0, 0, 0), [], [])], 81, [0, 1, 2, 3, 4, 5])),
  (81, ([(81, .iload 5, 2, (0, 0, 0, 0, 0), [], []), (83, .aload_n 0, 1, (0, 0, 0, 0, 0), [], []), (84, .getfield 13, 3, (11, 1, 2, 1256, 0), [], []), (87, .iconst 2, 1, (0, 0, 0, 0, 0), [], []), (88, .iaload, 1, (20, 0, 0, 0, 0), [], []), (89, .if_icmp .ge 77, 3, (166, 0, 0, 0, 0), [0, 1, 2, 3, 4], [0, 1, 2, 3, 4, 5])], 0, [])),
  (92, ([(92, .aload_n 0, 1, (0, 0, 0, 0, 0), [], []), (93, .iload_n 1, 1, (0, 0, 0, 0, 0), [], []), (94, .iload_n 2, 1, (0, 0, 0, 0, 0), [], []), (95, .iload 4, 2, (0, 0, 0, 0, 0), [], []), (97, .iload 5, 2, (0, 0, 0, 0, 0), [], []), (99, .invokevirtual 337, 3, (185, 5, 10, 11, 1664), [0, 1, 2, 3, 4, 5], [6])], 0, [])),
  (102, ([(102, .ifCond .eq 58, 3, (160, 0, 0, 0, 0), [0, 1, 2, 3, 4, 5], [0, 1, 2, 3, 4, 5])], 0, [])),
  (105, ([(105, .aload_n 0, 1, (0, 0, 0, 0, 0), [], []), (106, .iload 4, 2, (0, 0, 0, 0, 0), [], []), (108, .iload 5, 2, (0, 0, 0, 0, 0), [], []), (110, .invokevirtual 236, 3, (113, 3, 10, 11, 1516), [0, 1, 2, 3, 4, 5], [6])], 0, [])),
  (113, ([(113, .ifCond .ne 6, 3, (119, 0, 0, 0, 0), [0, 1, 2, 3, 4, 5], [0, 1, 2, 3, 4, 5])], 0, [])),
  (116, ([(116, .goto 44, 3, (160, 0, 0, 0, 0), [0, 1, 2, 3, 4, 5], [])], 0, [])),
  (119, ([(119, .aload_n 0, 1, (0, 0, 0, 0, 0), [], []), (120, .iload 4, 2, (0, 0, 0, 0, 0), [], []), (122, .iload 5, 2, (0, 0, 0, 0, 0), [], []), (124, .invokevirtual 362, 3, (203, 3, 10, 11, 1700), [0, 1, 2, 3, 4, 5], [3])], 0, [])),
  (127, ([(127, .aload_n 0, 1, (0, 0, 0, 0, 0), [], []), (128, .getfield 43, 3, (11, 24, 2, 1279, 0), [], []), (131, .bipush 13, 2, (0, 0, 0, 0, 0), [], []), (133, .iload 4, 2, (0, 0, 0, 0, 0), [], []), (135, .iconst 1, 1, (0, 0, 0, 0, 0), [], []), (136, .iadd, 1, (0, 0, 0, 0, 0), [], []), (137, .imul, 1, (0, 0, 0, 0, 0), [], []), (138, .iload 5, 2, (0, 0, 0, 0, 0), [], []), (140, .iadd, 1, (0, 0, 0, 0, 0), [], []), (141, .iconst 1, 1, (0, 0, 0, 0, 0), [], []), (142, .iadd, 1, (0, 0, 0, 0, 0), [], []), (143, .iaload, 1, (20, 0, 0, 0, 0), [], []), (144, .iadd, 1, (0, 0, 0, 0, 0), [], []), (145, .istore 6, 2, (0, 0, 0, 0, 0), [], []), (147, .iload 6, 2, (0, 0, 0, 0, 0), [], []), (149, .iload_n 3, 1, (0, 0, 0, 0, 0), [], []), (150, .if_icmp .le 8, 3, (158, 0, 0, 0, 0), [0, 1, 2, 3, 4, 5], [0, 1, 2, 4, 5, 6])], 0, [])),
  (153, ([(153, .iload 6, 2, (0, 0, 0, 0, 0), [], []), (155, .goto 4, 3, (159, 0, 0, 0, 0), [0, 1, 2, 4, 5], [])], 0, [])),
  (158, ([(158, .iload_n 3, 1, (0, 0, 0, 0, 0), [], [])], 159, [0, 1, 2, 4, 5])),
  (159, ([(159, .istore_n 3, 1, (0, 0, 0, 0, 0), [], [])], 160, [0, 1, 2, 3, 4, 5])),
  (160, ([(160, .iinc 5 1, 3, (0, 0, 0, 0, 0), [], []), (163, .goto (-82), 3, (81, 0, 0, 0, 0), [0, 1, 2, 3, 4, 5], [])], 0, [])),
  (166, ([(166, .iinc 4 1, 3, (0, 0, 0, 0, 0), [], []), (169, .goto (-104), 3, (65, 0, 0, 0, 0), [0, 1, 2, 3, 4], [])], 0, [])),
  (172, ([(172, .aload_n 0, 1, (0, 0, 0, 0, 0), [], []), (173, .getfield 43, 3, (11, 24, 2, 1279, 0), [], []), (176, .bipush 13, 2, (0, 0, 0, 0, 0), [], []), (178, .iload_n 1, 1, (0, 0, 0, 0, 0), [], []), (179, .iconst 1, 1, (0, 0, 0, 0, 0), [], []), (180, .iadd, 1, (0, 0, 0, 0, 0), [], []), (181, .imul, 1, (0, 0, 0, 0, 0), [], []), (182, .iload_n 2, 1, (0, 0, 0, 0, 0), [], []), (183, .iadd, 1, (0, 0, 0, 0, 0), [], []), (184, .iconst 1, 1, (0, 0, 0, 0, 0), [], []), (185, .iadd, 1, (0, 0, 0, 0, 0), [], []), (186, .iload_n 3, 1, (0, 0, 0, 0, 0), [], []), (187, .iastore, 1, (0, 0, 0, 0, 0), [], [])], 188, [0, 1, 2])),
  (188, ([(188, .iinc 2 (-1), 3, (0, 0, 0, 0, 0), [], []), (191, .goto (-164), 3, (27, 0, 0, 0, 0), [0, 1, 2], [])], 0, [])),
  (194, ([(194, .iinc 1 (-1), 3, (0, 0, 0, 0, 0), [], []), (197, .goto (-184), 3, (13, 0, 0, 0, 0), [0, 1], [])], 0, [])),
  (200, ([(200, .aload_n 0, 1, (0, 0, 0, 0, 0), [], []), (201, .getfield 43, 3, (11, 24, 2, 1279, 0), [], []), (204, .iconst 0, 1, (0, 0, 0, 0, 0), [], []), (205, .iaload, 1, (20, 0, 0, 0, 0), [], []), (206, .ireturn, 1, (0, 0, 0, 0, 0), [], [])], 0, []))]
def cd_Mod_foundNone : List (Nat × AB) := [
  (0, ([(0, .iconst 0, 1, (0, 0, 0, 0, 0), [], []), (1, .istore_n 1, 1, (0, 0, 0, 0, 0), [], [])], 2, [0, 1])),
  (2, ([(2, .iload_n 1, 1, (0, 0, 0, 0, 0), [], []), (3, .bipush 12, 2, (0, 0, 0, 0, 0), [], []), (5, .if_icmp .ge 16, 3, (21, 0, 0, 0, 0), [], [0, 1])], 0, [])),
  (8, ([(8, .aload_n 0, 1, (0, 0, 0, 0, 0), [], []), (9, .getfield 40, 3, (11, 23, 2, 1278, 0), [], []), (12, .iload_n 1, 1, (0, 0, 0, 0, 0), [], []), (13, .iconst (-1), 1, (0, 0, 0, 0, 0), [], []), (14, .iastore, 1, (0, 0, 0, 0, 0), [], [])], 15, [0, 1])),
  (15, ([(15, .iinc 1 1, 3, (0, 0, 0, 0, 0), [], []), (18, .goto (-16), 3, (2, 0, 0, 0, 0), [0, 1], [])], 0, [])),
  (21, ([(21, .return_, 1, (0, 0, 0, 0, 0), [], [])], 0, []))]
def cd_Mod_findsRight : List (Nat × AB) := [
  (0, ([(0, .aload_n 0, 1, (0, 0, 0, 0, 0), [], []), (1, .invokevirtual 359, 3, (205, 1, 11, 11, 1684), [0], [2])], 0, [])),
  (4, ([(4, .iconst (-1), 1, (0, 0, 0, 0, 0), [], []), (5, .istore_n 1, 1, (0, 0, 0, 0, 0), [], []), (6, .iconst (-1), 1, (0, 0, 0, 0, 0), [], []), (7, .istore_n 2, 1, (0, 0, 0, 0, 0), [], [])], 8, [0, 1, 2])),
  (8, ([(8, .aload_n 0, 1, (0, 0, 0, 0, 0), [], []), (9, .getfield 43, 3, (11, 24, 2, 1279, 0), [], []), (12, .bipush 13, 2, (0, 0, 0, 0, 0), [], []), (14, .iload_n 1, 1, (0, 0, 0, 0, 0), [], []), (15, .iconst 1, 1, (0, 0, 0, 0, 0), [], []), (16, .iadd, 1, (0, 0, 0, 0, 0), [], []), (17, .imul, 1, (0, 0, 0, 0, 0), [], []), (18, .iload_n 2, 1, (0, 0, 0, 0, 0), [], []), (19, .iadd, 1, (0, 0, 0, 0, 0), [], []), (20, .iconst 1, 1, (0, 0, 0, 0, 0), [], []), (21, .iadd, 1, (0, 0, 0, 0, 0), [], []), (22, .iaload, 1, (20, 0, 0, 0, 0), [], []), (23, .ifCond .le 158, 3, (181, 0, 0, 0, 0), [], [0, 1, 2])], 0, [])),
  (26, ([(26, .iload_n 1, 1, (0, 0, 0, 0, 0), [], []), (27, .istore_n 3, 1, (0, 0, 0, 0, 0), [], []), (28, .iload_n 2, 1, (0, 0, 0, 0, 0), [], []), (29, .istore 4, 2, (0, 0, 0, 0, 0), [], []), (31, .iload_n 1, 1, (0, 0, 0, 0, 0), [], []), (32, .iconst 1, 1, (0, 0, 0, 0, 0), [], []), (33, .iadd, 1, (0, 0, 0, 0, 0), [], []), (34, .istore 5, 2, (0, 0, 0, 0, 0), [], [])], 36, [0, 1, 2, 3, 4, 5])),
  (36, ([(36, .iload 5, 2, (0, 0, 0, 0, 0), [], []), (38, .aload_n 0, 1, (0, 0, 0, 0, 0), [], []), (39, .getfield 13, 3, (11, 1, 2, 1256, 0), [], []), (42, .iconst 1, 1, (0, 0, 0, 0, 0), [], []), (43, .iaload, 1, (20, 0, 0, 0, 0), [], []), (44, .if_icmp .ge 122, 3, (166, 0, 0, 0, 0), [0, 3, 4], [0, 1, 2, 3, 4, 5])], 0, [])),
  (47, ([(47, .iload_n 3, 1, (0, 0, 0, 0, 0), [], []), (48, .iload_n 1, 1, (0, 0, 0, 0, 0), [], []), (49, .if_icmp .ne 117, 3, (166, 0, 0, 0, 0), [0, 3, 4], [0, 1, 2, 3, 4, 5])], 0, [])),
  (52, ([(52, .iload_n 2, 1, (0, 0, 0, 0, 0), [], []), (53, .iconst 1, 1, (0, 0, 0, 0, 0), [], []), (54, .iadd, 1, (0, 0, 0, 0, 0), [], []), (55, .istore 6, 2, (0, 0, 0, 0, 0), [], [])], 57, [0, 1, 2, 3, 4, 5, 6])),
  (57, ([(57, .iload 6, 2, (0, 0, 0, 0, 0), [], []), (59, .aload_n 0, 1, (0, 0, 0, 0, 0), [], []), (60, .getfield 13, 3, (11, 1, 2, 1256, 0), [], []), (63, .iconst 2, 1, (0, 0, 0, 0, 0), [], []), (64, .iaload, 1, (20, 0, 0, 0, 0), [], []), (65, .if_icmp .ge 95, 3, (160, 0, 0, 0, 0), [0, 1, 2, 3, 4, 5], [0, 1, 2, 3, 4, 5, 6])], 0, [])),
  (68, ([(68, .iload_n 3, 1, (0, 0, 0, 0, 0), [], []), (69, .iload_n 1, 1, (0, 0, 0, 0, 0), [], []), (70, .if_icmp .ne 90, 3, (160, 0, 0, 0, 0), [0, 1, 2, 3, 4, 5], [0, 1, 2, 3, 4, 5, 6])], 0, [])),
  (73, ([(73, .aload_n 0, 1, (0, 0, 0, 0, 0), [], []), (74, .iload_n 1, 1, (0, 0, 0, 0, 0), [], []), (75, .iload_n 2, 1, (0, 0, 0, 0, 0), [], []), (76, .iload 5, 2, (0, 0, 0, 0, 0), [], []), (78, .iload 6, 2, (0, 0, 0, 0, 0), [], []), (80, .invokevirtual 337, 3, (185, 5, 10, 11, 1664), [0, 1, 2, 3, 4, 5, 6], [6])], 0, [])),
  (83, ([(83, .ifCond .eq 71, 3, (154, 0, 0, 0, 0), [0, 1, 2, 3, 4, 5, 6], [0, 1, 2, 3, 4, 5, 6])], 0, [])),
  (86, ([(86, .aload_n 0, 1, (0, 0, 0, 0, 0), [], []), (87, .iload 5, 2, (0, 0, 0, 0, 0), [], []), (89, .iload 6, 2, (0, 0, 0, 0, 0), [], []), (91, .invokevirtual 236, 3, (113, 3, 10, 11, 1516), [0, 1, 2, 3, 4, 5, 6], [6])], 0, [])),
  (94, ([(94, .ifCond .ne 6, 3, (100, 0, 0, 0, 0), [0, 1, 2, 3, 4, 5, 6], [0, 1, 2, 3, 4, 5, 6])], 0, [])),
  (97, ([(97, .goto 57, 3, (154, 0, 0, 0, 0), [0, 1, 2, 3, 4, 5, 6], [])], 0, [])),
  (100, ([(100, .aload_n 0, 1, (0, 0, 0, 0, 0), [], []), (101, .iload 5, 2, (0, 0, 0, 0, 0), [], []), (103, .iload 6, 2, (0, 0, 0, 0, 0), [], []), (105, .invokevirtual 362, 3, (203, 3, 10, 11, 1700), [0, 1, 2, 3, 4, 5, 6], [3])], 0, [])),
  (108, ([(108, .aload_n 0, 1, (0, 0, 0, 0, 0), [], []), (109, .getfield 43, 3, (11, 24, 2, 1279, 0), [], []), (112, .bipush 13, 2, (0, 0, 0, 0, 0), [], []), (114, .iload 5, 2, (0, 0, 0, 0, 0), [], []), (116, .iconst 1, 1, (0, 0, 0, 0, 0), [], []), (117, .iadd, 1, (0, 0, 0, 0, 0), [], []), (118, .imul, 1, (0, 0, 0, 0, 0), [], []), (119, .iload 6, 2, (0, 0, 0, 0, 0), [], []), (121, .iadd, 1, (0, 0, 0, 0, 0), [], []), (122, .iconst 1, 1, (0, 0, 0, 0, 0), [], []), (123, .iadd, 1, (0, 0, 0, 0, 0), [], []), (124, .iaload, 1, (20, 0, 0, 0, 0), [], []), (125, .iadd, 1, (0, 0, 0, 0, 0), [], []), (126, .aload_n 0, 1, (0, 0, 0, 0, 0), [], []), (127, .getfield 43, 3, (11, 24, 2, 1279, 0), [], []), (130, .bipush 13, 2, (0, 0, 0, 0, 0), [], []), (132, .iload_n 1, 1, (0, 0, 0, 0, 0), [], []), (133, .iconst 1, 1, (0, 0, 0, 0, 0), [], []), (134, .iadd, 1, (0, 0, 0, 0, 0), [], []), (135, .imul, 1, (0, 0, 0, 0, 0), [], []), (136, .iload_n 2, 1, (0, 0, 0, 0, 0), [], []), (137, .iadd, 1, (0, 0, 0, 0, 0), [], []), (138, .iconst 1, 1, (0, 0, 0, 0, 0), [], []), (139, .iadd, 1, (0, 0, 0, 0, 0), [], []), (140, .iaload, 1, (20, 0, 0, 0, 0), [], []), (141, .if_icmp .eq 6, 3, (147, 0, 0, 0, 0), [0, 1, 2, 5, 6], [0, 1, 2, 3, 4, 5, 6])], 0, [])),
  (144, ([(144, .goto 10, 3, (154, 0, 0, 0, 0), [0, 1, 2, 3, 4, 5, 6], [])], 0, [])),
  (147, ([(147, .iload 5, 2, (0, 0, 0, 0, 0), [], []), (149, .istore_n 3, 1, (0, 0, 0, 0, 0), [], []), (150, .iload 6, 2, (0, 0, 0, 0, 0), [], []), (152, .istore 4, 2, (0, 0, 0, 0, 0), [], [])], 154, [0, 1, 2, 3, 4, 5, 6])),
  (154, ([(154, .iinc 6 1, 3, (0, 0, 0, 0, 0), [], []), (157, .goto (-100), 3, (57, 0, 0, 0, 0), [0, 1, 2, 3, 4, 5, 6], [])], 0, [])),
  (160, ([(160, .iinc 5 1, 3, (0, 0, 0, 0, 0), [], []), (163, .goto (-127), 3, (36, 0, 0, 0, 0), [0, 1, 2, 3, 4, 5], [])], 0, [])),
  (166, ([(166, .iload_n 3, 1, (0, 0, 0, 0, 0), [], []), (167, .istore_n 1, 1, (0, 0, 0, 0, 0), [], []), (168, .iload 4, 2, (0, 0, 0, 0, 0), [], []), (170, .istore_n 2, 1, (0, 0, 0, 0, 0), [], []), (171, .aload_n 0, 1, (0, 0, 0, 0, 0), [], []), (172, .getfield 40, 3, (11, 23, 2, 1278, 0), [], []), (175, .iload_n 1, 1, (0, 0, 0, 0, 0), [], []), (176, .iload_n 2, 1, (0, 0, 0, 0, 0), [], []), (177, .iastore, 1, (0, 0, 0, 0, 0), [], [])], 178, [0, 1, 2])),
  (178, ([(178, .goto (-170), 3, (8, 0, 0, 0, 0), [0, 1, 2], [])], 0, [])),
  (181, ([(181, .return_, 1, (0, 0, 0, 0, 0), [], [])], 0, []))]
def cd_Mod_mended : List (Nat × AB) := [
  (0, ([(0, .aload_n 0, 1, (0, 0, 0, 0, 0), [], []), (1, .iconst 0, 1, (0, 0, 0, 0, 0), [], []), (2, .putfield 1, 3, (11, 0, 0, 1255, 0), [], [])], 5, [0, 1])),
  (5, ([(5, .aload_n 0, 1, (0, 0, 0, 0, 0), [], []), (6, .iload_n 1, 1, (0, 0, 0, 0, 0), [], []), (7, .iconst 1, 1, (0, 0, 0, 0, 0), [], []), (8, .invokevirtual 365, 3, (202, 3, 10, 11, 1692), [0, 1], [3])], 0, [])),
  (11, ([(11, .ifCond .ne 6, 3, (17, 0, 0, 0, 0), [0, 1], [])], 0, [])),
  (14, ([(14, .bipush (-2), 2, (0, 0, 0, 0, 0), [], []), (16, .ireturn, 1, (0, 0, 0, 0, 0), [], [])], 0, [])),
  (17, ([(17, .aload_n 0, 1, (0, 0, 0, 0, 0), [], []), (18, .invokevirtual 368, 3, (204, 1, 10, 11, 1696), [0, 1], [7])], 0, [])),
  (21, ([(21, .istore_n 2, 1, (0, 0, 0, 0, 0), [], []), (22, .iload_n 1, 1, (0, 0, 0, 0, 0), [], []), (23, .ifCond .ne 8, 3, (31, 0, 0, 0, 0), [0, 1, 2], [2])], 0, [])),
  (26, ([(26, .iload_n 2, 1, (0, 0, 0, 0, 0), [], []), (27, .bipush 100, 2, (0, 0, 0, 0, 0), [], []), (29, .idiv, 1, (0, 0, 0, 0, 0), [], []), (30, .ireturn, 1, (0, 0, 0, 0, 0), [], [])], 0, [])),
  (31, ([(31, .iload_n 1, 1, (0, 0, 0, 0, 0), [], []), (32, .iconst 1, 1, (0, 0, 0, 0, 0), [], []), (33, .if_icmp .ne 13, 3, (46, 0, 0, 0, 0), [0, 1], [0, 2])], 0, [])),
  (36, ([(36, .aload_n 0, 1, (0, 0, 0, 0, 0), [], []), (37, .invokevirtual 255, 3, (126, 1, 10, 11, 1546), [2], [3])], 0, [])),
  (40, ([(40, .iload_n 2, 1, (0, 0, 0, 0, 0), [], []), (41, .bipush 100, 2, (0, 0, 0, 0, 0), [], []), (43, .irem, 1, (0, 0, 0, 0, 0), [], []), (44, .isub, 1, (0, 0, 0, 0, 0), [], []), (45, .ireturn, 1, (0, 0, 0, 0, 0), [], [])], 0, [])),
  (46, ([(46, .aload_n 0, 1, (0, 0, 0, 0, 0), [], []), (47, .invokevirtual 371, 3, (206, 1, 11, 11, 1704), [0, 1], [7])], 0, [])),
  (50, ([(50, .aload_n 0, 1, (0, 0, 0, 0, 0), [], []), (51, .getfield 40, 3, (11, 23, 2, 1278, 0), [], []), (54, .iload_n 1, 1, (0, 0, 0, 0, 0), [], []), (55, .bipush 10, 2, (0, 0, 0, 0, 0), [], []), (57, .isub, 1, (0, 0, 0, 0, 0), [], []), (58, .iaload, 1, (20, 0, 0, 0, 0), [], []), (59, .ireturn, 1, (0, 0, 0, 0, 0), [], [])], 0, []))]
def cd_Joinings_measureBehind : List (Nat × AB) := [
  (0, ([(0, .iload_n 2, 1, (0, 0, 0, 0, 0), [], []), (1, .iload_n 3, 1, (0, 0, 0, 0, 0), [], []), (2, .invokestatic 60, 3, (178, 2, 0, 0, 935), [0, 1, 2, 3, 4, 5], [2])], 0, [])),
  (5, ([(5, .istore 6, 2, (0, 0, 0, 0, 0), [], []), (7, .aload 4, 2, (0, 0, 0, 0, 0), [], []), (9, .iload 6, 2, (0, 0, 0, 0, 0), [], []), (11, .iconst 0, 1, (0, 0, 0, 0, 0), [], []), (12, .iastore, 1, (0, 0, 0, 0, 0), [], [])], 13, [0, 1, 2, 3, 4, 5, 6])),
  (13, ([(13, .iload_n 2, 1, (0, 0, 0, 0, 0), [], []), (14, .iconst 1, 1, (0, 0, 0, 0, 0), [], []), (15, .iadd, 1, (0, 0, 0, 0, 0), [], []), (16, .istore 7, 2, (0, 0, 0, 0, 0), [], [])], 18, [0, 1, 2, 3, 4, 5, 6, 7])),
  (18, ([(18, .iload 7, 2, (0, 0, 0, 0, 0), [], []), (20, .aload_n 1, 1, (0, 0, 0, 0, 0), [], []), (21, .getfield 44, 3, (9, 5, 0, 134, 0), [], []), (24, .if_icmp .ge 163, 3, (187, 0, 0, 0, 0), [], [0, 1, 2, 3, 4, 5, 6, 7])], 0, [])),
  (27, ([(27, .iload_n 3, 1, (0, 0, 0, 0, 0), [], []), (28, .iconst 1, 1, (0, 0, 0, 0, 0), [], []), (29, .iadd, 1, (0, 0, 0, 0, 0), [], []), (30, .istore 8, 2, (0, 0, 0, 0, 0), [], [])], 32, [0, 1, 2, 3, 4, 5, 6, 7, 8])),
  (32, ([(32, .iload 8, 2, (0, 0, 0, 0, 0), [], []), (34, .aload_n 1, 1, (0, 0, 0, 0, 0), [], []), (35, .getfield 49, 3, (9, 6, 0, 143, 0), [], []), (38, .if_icmp .ge 143, 3, (181, 0, 0, 0, 0), [0, 1, 2, 3, 4, 5, 6, 7], [0, 1, 2, 3, 4, 5, 6, 7, 8])], 0, [])),
  (41, ([(41, .aload_n 1, 1, (0, 0, 0, 0, 0), [], []), (42, .iload_n 2, 1, (0, 0, 0, 0, 0), [], []), (43, .iload_n 3, 1, (0, 0, 0, 0, 0), [], []), (44, .iload 7, 2, (0, 0, 0, 0, 0), [], []), (46, .iload 8, 2, (0, 0, 0, 0, 0), [], []), (48, .invokevirtual 64, 3, (42, 5, 10, 9, 938), [0, 1, 2, 3, 4, 5, 6, 7, 8], [5])], 0, [])),
  (51, ([(51, .istore 9, 2, (0, 0, 0, 0, 0), [], []), (53, .iload 9, 2, (0, 0, 0, 0, 0), [], []), (55, .ifCond .lt 120, 3, (175, 0, 0, 0, 0), [0, 1, 2, 3, 4, 5, 6, 7, 8], [0, 1, 2, 3, 4, 5, 6, 7, 8, 9])], 0, [])),
  (58, ([(58, .iload 5, 2, (0, 0, 0, 0, 0), [], []), (60, .ifCond .eq 15, 3, (75, 0, 0, 0, 0), [0, 1, 2, 3, 4, 5, 6, 7, 8, 9], [0, 1, 2, 3, 4, 5, 6, 7, 8, 9])], 0, [])),
  (63, ([(63, .iload 9, 2, (0, 0, 0, 0, 0), [], []), (65, .aload_n 0, 1, (0, 0, 0, 0, 0), [], []), (66, .getfield 29, 3, (2, 5, 0, 290, 0), [], []), (69, .if_icmp .le 6, 3, (75, 0, 0, 0, 0), [0, 1, 2, 3, 4, 5, 6, 7, 8, 9], [0, 1, 2, 3, 4, 5, 6, 7, 8])], 0, [])),
  (72, ([(72, .goto 103, 3, (175, 0, 0, 0, 0), [0, 1, 2, 3, 4, 5, 6, 7, 8], [])], 0, [])),
  (75, ([(75, .iload 7, 2, (0, 0, 0, 0, 0), [], []), (77, .iload 8, 2, (0, 0, 0, 0, 0), [], []), (79, .invokestatic 60, 3, (178, 2, 0, 0, 935), [0, 1, 2, 3, 4, 5, 6, 7, 8, 9], [2])], 0, [])),
  (82, ([(82, .istore 10, 2, (0, 0, 0, 0, 0), [], []), (84, .iconst 1, 1, (0, 0, 0, 0, 0), [], []), (85, .istore 11, 2, (0, 0, 0, 0, 0), [], [])], 87, [0, 1, 2, 3, 4, 5, 6, 7, 8, 9, 10, 11])),
  (87, ([(87, .iload 11, 2, (0, 0, 0, 0, 0), [], []), (89, .aload_n 0, 1, (0, 0, 0, 0, 0), [], []), (90, .getfield 21, 3, (2, 2, 0, 285, 0), [], []), (93, .if_icmp .ge 82, 3, (175, 0, 0, 0, 0), [0, 1, 2, 3, 4, 5, 6, 7, 8], [0, 1, 2, 3, 4, 5, 6, 7, 8, 9, 10, 11])], 0, [])),
  (96, ([(96, .aload_n 0, 1, (0, 0, 0, 0, 0), [], []), (97, .getfield 9, 3, (2, 0, 2, 282, 0), [], []), (100, .iload 10, 2, (0, 0, 0, 0, 0), [], []), (102, .iload 11, 2, (0, 0, 0, 0, 0), [], []), (104, .iadd, 1, (0, 0, 0, 0, 0), [], []), (105, .iconst 1, 1, (0, 0, 0, 0, 0), [], []), (106, .isub, 1, (0, 0, 0, 0, 0), [], []), (107, .iaload, 1, (20, 0, 0, 0, 0), [], []), (108, .ifCond .eq 67, 3, (175, 0, 0, 0, 0), [0, 1, 2, 3, 4, 5, 6, 7, 8], [0, 1, 2, 3, 4, 5, 6, 7, 8, 9, 10, 11])], 0, [])),
  (111, ([(111, .aload 4, 2, (0, 0, 0, 0, 0), [], []), (113, .iload 10, 2, (0, 0, 0, 0, 0), [], []), (115, .iload 11, 2, (0, 0, 0, 0, 0), [], []), (117, .iadd, 1, (0, 0, 0, 0, 0), [], []), (118, .iconst 1, 1, (0, 0, 0, 0, 0), [], []), (119, .isub, 1, (0, 0, 0, 0, 0), [], []), (120, .iaload, 1, (20, 0, 0, 0, 0), [], []), (121, .istore 12, 2, (0, 0, 0, 0, 0), [], []), (123, .iload 5, 2, (0, 0, 0, 0, 0), [], []), (125, .ifCond .eq 14, 3, (139, 0, 0, 0, 0), [0, 1, 2, 3, 4, 5, 6, 7, 8, 9, 10, 11, 12], [0, 1, 2, 3, 4, 5, 6, 7, 8, 9, 10, 11, 12])], 0, [])),
  (128, ([(128, .iload 9, 2, (0, 0, 0, 0, 0), [], []), (130, .iload 9, 2, (0, 0, 0, 0, 0), [], []), (132, .imul, 1, (0, 0, 0, 0, 0), [], []), (133, .iload 12, 2, (0, 0, 0, 0, 0), [], []), (135, .iadd, 1, (0, 0, 0, 0, 0), [], []), (136, .goto 10, 3, (146, 0, 0, 0, 0), [0, 1, 2, 3, 4, 5, 6, 7, 8, 9, 10, 11], [])], 0, [])),
  (139, ([(139, .iload 9, 2, (0, 0, 0, 0, 0), [], []), (141, .iload 12, 2, (0, 0, 0, 0, 0), [], []), (143, .invokestatic 98, 3, (21, 2, 0, 0, 1005), [0, 1, 2, 3, 4, 5, 6, 7, 8, 9, 10, 11], [2])], 0, [])),
  (146, ([(146, .istore 13, 2, (0, 0, 0, 0, 0), [], []), (148, .aload 4, 2, (0, 0, 0, 0, 0), [], []), (150, .iload 6, 2, (0, 0, 0, 0, 0), [], []), (152, .iload 11, 2, (0, 0, 0, 0, 0), [], []), (154, .iadd, 1, (0, 0, 0, 0, 0), [], []), (155, .aload 4, 2, (0, 0, 0, 0, 0), [], []), (157, .iload 6, 2, (0, 0, 0, 0, 0), [], []), (159, .iload 11, 2, (0, 0, 0, 0, 0), [], []), (161, .iadd, 1, (0, 0, 0, 0, 0), [], []), (162, .iaload, 1, (20, 0, 0, 0, 0), [], []), (163, .iload 13, 2, (0, 0, 0, 0, 0), [], []), (165, .invokestatic 93, 3, (20, 2, 0, 0, 1006), [0, 1, 2, 3, 4, 5, 6, 7, 8, 9, 10, 11], [2])], 0, [])),
  (168, ([(168, .iastore, 1, (0, 0, 0, 0, 0), [], [])], 169, [0, 1, 2, 3, 4, 5, 6, 7, 8, 9, 10, 11])),
  (169, ([(169, .iinc 11 1, 3, (0, 0, 0, 0, 0), [], []), (172, .goto (-85), 3, (87, 0, 0, 0, 0), [0, 1, 2, 3, 4, 5, 6, 7, 8, 9, 10, 11], [])], 0, [])),
  (175, ([(175, .iinc 8 1, 3, (0, 0, 0, 0, 0), [], []), (178, .goto (-146), 3, (32, 0, 0, 0, 0), [0, 1, 2, 3, 4, 5, 6, 7, 8], [])], 0, [])),
  (181, ([(181, .iinc 7 1, 3, (0, 0, 0, 0, 0), [], []), (184, .goto (-166), 3, (18, 0, 0, 0, 0), [0, 1, 2, 3, 4, 5, 6, 7], [])], 0, [])),
  (187, ([(187, .return_, 1, (0, 0, 0, 0, 0), [], [])], 0, []))]
def cd_Joinings_leastOfFull : List (Nat × AB) := [
  (0, ([(0, .aload_n 2, 1, (0, 0, 0, 0, 0), [], []), (1, .ldc 88, 2, (0, 0, 0, 1000, 536870912), [], []), (3, .invokestatic 38, 3, (3, 2, 1, 0, 929), [0, 1, 2, 3], [4])], 0, [])),
  (6, ([(6, .ldc 88, 2, (0, 0, 0, 1000, 536870912), [], []), (8, .istore 4, 2, (0, 0, 0, 0, 0), [], []), (10, .aload_n 1, 1, (0, 0, 0, 0, 0), [], []), (11, .getfield 44, 3, (9, 5, 0, 134, 0), [], []), (14, .iconst 1, 1, (0, 0, 0, 0, 0), [], []), (15, .isub, 1, (0, 0, 0, 0, 0), [], []), (16, .istore 5, 2, (0, 0, 0, 0, 0), [], [])], 18, [0, 1, 2, 3, 4, 5])),
  (18, ([(18, .iload 5, 2, (0, 0, 0, 0, 0), [], []), (20, .ifCond .lt 71, 3, (91, 0, 0, 0, 0), [4], [0, 1, 2, 3, 4, 5])], 0, [])),
  (23, ([(23, .aload_n 1, 1, (0, 0, 0, 0, 0), [], []), (24, .getfield 49, 3, (9, 6, 0, 143, 0), [], []), (27, .iconst 1, 1, (0, 0, 0, 0, 0), [], []), (28, .isub, 1, (0, 0, 0, 0, 0), [], []), (29, .istore 6, 2, (0, 0, 0, 0, 0), [], [])], 31, [0, 1, 2, 3, 4, 5, 6])),
  (31, ([(31, .iload 6, 2, (0, 0, 0, 0, 0), [], []), (33, .ifCond .lt 52, 3, (85, 0, 0, 0, 0), [0, 1, 2, 3, 4, 5], [0, 1, 2, 3, 4, 5, 6])], 0, [])),
  (36, ([(36, .aload_n 1, 1, (0, 0, 0, 0, 0), [], []), (37, .iload 6, 2, (0, 0, 0, 0, 0), [], []), (39, .invokevirtual 52, 3, (38, 2, 10, 9, 930), [0, 1, 2, 3, 4, 5, 6], [2])], 0, [])),
  (42, ([(42, .ifCond .ne 37, 3, (79, 0, 0, 0, 0), [0, 1, 2, 3, 4, 5, 6], [0, 1, 2, 3, 4, 5, 6])], 0, [])),
  (45, ([(45, .aload_n 0, 1, (0, 0, 0, 0, 0), [], []), (46, .aload_n 1, 1, (0, 0, 0, 0, 0), [], []), (47, .iload 5, 2, (0, 0, 0, 0, 0), [], []), (49, .iload 6, 2, (0, 0, 0, 0, 0), [], []), (51, .aload_n 2, 1, (0, 0, 0, 0, 0), [], []), (52, .iload_n 3, 1, (0, 0, 0, 0, 0), [], []), (53, .invokevirtual 89, 3, (208, 6, 11, 2, 1001), [0, 1, 2, 3, 4, 5, 6], [14])], 0, [])),
  (56, ([(56, .iload 4, 2, (0, 0, 0, 0, 0), [], []), (58, .aload_n 2, 1, (0, 0, 0, 0, 0), [], []), (59, .iload 5, 2, (0, 0, 0, 0, 0), [], []), (61, .iload 6, 2, (0, 0, 0, 0, 0), [], []), (63, .invokestatic 60, 3, (178, 2, 0, 0, 935), [0, 1, 2, 3, 5, 6], [2])], 0, [])),
  (66, ([(66, .aload_n 0, 1, (0, 0, 0, 0, 0), [], []), (67, .getfield 21, 3, (2, 2, 0, 285, 0), [], []), (70, .iadd, 1, (0, 0, 0, 0, 0), [], []), (71, .iconst 1, 1, (0, 0, 0, 0, 0), [], []), (72, .isub, 1, (0, 0, 0, 0, 0), [], []), (73, .iaload, 1, (20, 0, 0, 0, 0), [], []), (74, .invokestatic 93, 3, (20, 2, 0, 0, 1006), [0, 1, 2, 3, 5, 6], [2])], 0, [])),
  (77, ([(77, .istore 4, 2, (0, 0, 0, 0, 0), [], [])], 79, [0, 1, 2, 3, 4, 5, 6])),
  (79, ([(79, .iinc 6 (-1), 3, (0, 0, 0, 0, 0), [], []), (82, .goto (-51), 3, (31, 0, 0, 0, 0), [0, 1, 2, 3, 4, 5, 6], [])], 0, [])),
  (85, ([(85, .iinc 5 (-1), 3, (0, 0, 0, 0, 0), [], []), (88, .goto (-70), 3, (18, 0, 0, 0, 0), [0, 1, 2, 3, 4, 5], [])], 0, [])),
  (91, ([(91, .iload 4, 2, (0, 0, 0, 0, 0), [], []), (93, .ireturn, 1, (0, 0, 0, 0, 0), [], [])], 0, []))]
def cd_Joinings_chooseEven : List (Nat × AB) := [
  (0, ([(0, .aload_n 0, 1, (0, 0, 0, 0, 0), [], []), (1, .getfield 32, 3, (2, 6, 0, 292, 0), [], []), (4, .istore_n 3, 1, (0, 0, 0, 0, 0), [], []), (5, .aload_n 0, 1, (0, 0, 0, 0, 0), [], []), (6, .getfield 21, 3, (2, 2, 0, 285, 0), [], []), (9, .istore 4, 2, (0, 0, 0, 0, 0), [], []), (11, .iconst (-1), 1, (0, 0, 0, 0, 0), [], []), (12, .istore 5, 2, (0, 0, 0, 0, 0), [], []), (14, .iconst (-1), 1, (0, 0, 0, 0, 0), [], []), (15, .istore 6, 2, (0, 0, 0, 0, 0), [], []), (17, .iconst 0, 1, (0, 0, 0, 0, 0), [], []), (18, .istore 7, 2, (0, 0, 0, 0, 0), [], [])], 20, [0, 1, 2, 3, 4, 5, 6, 7])),
  (20, ([(20, .iload 7, 2, (0, 0, 0, 0, 0), [], []), (22, .aload_n 1, 1, (0, 0, 0, 0, 0), [], []), (23, .getfield 44, 3, (9, 5, 0, 134, 0), [], []), (26, .if_icmp .ge 151, 3, (177, 0, 0, 0, 0), [], [0, 1, 2, 3, 4, 5, 6, 7])], 0, [])),
  (29, ([(29, .iload 4, 2, (0, 0, 0, 0, 0), [], []), (31, .ifCond .le 146, 3, (177, 0, 0, 0, 0), [], [0, 1, 2, 3, 4, 5, 6, 7])], 0, [])),
  (34, ([(34, .iload 6, 2, (0, 0, 0, 0, 0), [], []), (36, .iconst 1, 1, (0, 0, 0, 0, 0), [], []), (37, .iadd, 1, (0, 0, 0, 0, 0), [], []), (38, .istore 8, 2, (0, 0, 0, 0, 0), [], [])], 40, [0, 1, 2, 3, 4, 5, 6, 7, 8])),
  (40, ([(40, .iload 8, 2, (0, 0, 0, 0, 0), [], []), (42, .aload_n 1, 1, (0, 0, 0, 0, 0), [], []), (43, .getfield 49, 3, (9, 6, 0, 143, 0), [], []), (46, .if_icmp .ge 98, 3, (144, 0, 0, 0, 0), [0, 1, 2, 3, 4, 5, 6, 7], [0, 1, 2, 3, 4, 5, 6, 7, 8])], 0, [])),
  (49, ([(49, .aload_n 0, 1, (0, 0, 0, 0, 0), [], []), (50, .getfield 18, 3, (2, 4, 2, 288, 0), [], []), (53, .iload 7, 2, (0, 0, 0, 0, 0), [], []), (55, .iaload, 1, (20, 0, 0, 0, 0), [], []), (56, .iconst (-1), 1, (0, 0, 0, 0, 0), [], []), (57, .if_icmp .ne 87, 3, (144, 0, 0, 0, 0), [0, 1, 2, 3, 4, 5, 6, 7], [0, 1, 2, 3, 4, 5, 6, 7, 8])], 0, [])),
  (60, ([(60, .iload 5, 2, (0, 0, 0, 0, 0), [], []), (62, .iconst (-1), 1, (0, 0, 0, 0, 0), [], []), (63, .if_icmp .ne 7, 3, (70, 0, 0, 0, 0), [0, 1, 2, 3, 4, 5, 6, 7, 8], [0, 1, 2, 3, 4, 5, 6, 7, 8])], 0, [])),
  (66, ([(66, .iconst 0, 1, (0, 0, 0, 0, 0), [], []), (67, .goto 15, 3, (82, 0, 0, 0, 0), [0, 1, 2, 3, 4, 5, 6, 7, 8], [])], 0, [])),
  (70, ([(70, .aload_n 1, 1, (0, 0, 0, 0, 0), [], []), (71, .iload 5, 2, (0, 0, 0, 0, 0), [], []), (73, .iload 6, 2, (0, 0, 0, 0, 0), [], []), (75, .iload 7, 2, (0, 0, 0, 0, 0), [], []), (77, .iload 8, 2, (0, 0, 0, 0, 0), [], []), (79, .invokevirtual 64, 3, (42, 5, 10, 9, 938), [0, 1, 2, 3, 4, 5, 6, 7, 8], [5])], 0, [])),
  (82, ([(82, .istore 9, 2, (0, 0, 0, 0, 0), [], []), (84, .aload_n 2, 1, (0, 0, 0, 0, 0), [], []), (85, .iload 7, 2, (0, 0, 0, 0, 0), [], []), (87, .iload 8, 2, (0, 0, 0, 0, 0), [], []), (89, .invokestatic 60, 3, (178, 2, 0, 0, 935), [0, 1, 2, 3, 4, 5, 6, 7, 8, 9], [2])], 0, [])),
  (92, ([(92, .iload 4, 2, (0, 0, 0, 0, 0), [], []), (94, .iadd, 1, (0, 0, 0, 0, 0), [], []), (95, .iconst 1, 1, (0, 0, 0, 0, 0), [], []), (96, .isub, 1, (0, 0, 0, 0, 0), [], []), (97, .iaload, 1, (20, 0, 0, 0, 0), [], []), (98, .istore 10, 2, (0, 0, 0, 0, 0), [], []), (100, .iload 9, 2, (0, 0, 0, 0, 0), [], []), (102, .ifCond .lt 36, 3, (138, 0, 0, 0, 0), [0, 1, 2, 3, 4, 5, 6, 7, 8], [0, 1, 2, 3, 4, 5, 6, 7, 8, 9, 10])], 0, [])),
  (105, ([(105, .iload 9, 2, (0, 0, 0, 0, 0), [], []), (107, .aload_n 0, 1, (0, 0, 0, 0, 0), [], []), (108, .getfield 29, 3, (2, 5, 0, 290, 0), [], []), (111, .if_icmp .gt 27, 3, (138, 0, 0, 0, 0), [0, 1, 2, 3, 4, 5, 6, 7, 8], [0, 1, 2, 3, 4, 5, 6, 7, 8, 9, 10])], 0, [])),
  (114, ([(114, .iload 9, 2, (0, 0, 0, 0, 0), [], []), (116, .iload 9, 2, (0, 0, 0, 0, 0), [], []), (118, .imul, 1, (0, 0, 0, 0, 0), [], []), (119, .iload 10, 2, (0, 0, 0, 0, 0), [], []), (121, .iadd, 1, (0, 0, 0, 0, 0), [], []), (122, .iload_n 3, 1, (0, 0, 0, 0, 0), [], []), (123, .if_icmp .ne 15, 3, (138, 0, 0, 0, 0), [0, 1, 2, 3, 4, 5, 6, 7, 8], [0, 1, 2, 4, 5, 6, 7, 8, 10])], 0, [])),
  (126, ([(126, .aload_n 0, 1, (0, 0, 0, 0, 0), [], []), (127, .getfield 18, 3, (2, 4, 2, 288, 0), [], []), (130, .iload 7, 2, (0, 0, 0, 0, 0), [], []), (132, .iload 8, 2, (0, 0, 0, 0, 0), [], []), (134, .iastore, 1, (0, 0, 0, 0, 0), [], [])], 135, [0, 1, 2, 4, 5, 6, 7, 8, 10])),
  (135, ([(135, .iload 10, 2, (0, 0, 0, 0, 0), [], []), (137, .istore_n 3, 1, (0, 0, 0, 0, 0), [], [])], 138, [0, 1, 2, 3, 4, 5, 6, 7, 8])),
  (138, ([(138, .iinc 8 1, 3, (0, 0, 0, 0, 0), [], []), (141, .goto (-101), 3, (40, 0, 0, 0, 0), [0, 1, 2, 3, 4, 5, 6, 7, 8], [])], 0, [])),
  (144, ([(144, .aload_n 0, 1, (0, 0, 0, 0, 0), [], []), (145, .getfield 18, 3, (2, 4, 2, 288, 0), [], []), (148, .iload 7, 2, (0, 0, 0, 0, 0), [], []), (150, .iaload, 1, (20, 0, 0, 0, 0), [], []), (151, .iconst (-1), 1, (0, 0, 0, 0, 0), [], []), (152, .if_icmp .eq 19, 3, (171, 0, 0, 0, 0), [0, 1, 2, 3, 4, 5, 6, 7], [0, 1, 2, 3, 4, 7])], 0, [])),
  (155, ([(155, .iload 7, 2, (0, 0, 0, 0, 0), [], []), (157, .istore 5, 2, (0, 0, 0, 0, 0), [], []), (159, .aload_n 0, 1, (0, 0, 0, 0, 0), [], []), (160, .getfield 18, 3, (2, 4, 2, 288, 0), [], []), (163, .iload 7, 2, (0, 0, 0, 0, 0), [], []), (165, .iaload, 1, (20, 0, 0, 0, 0), [], []), (166, .istore 6, 2, (0, 0, 0, 0, 0), [], []), (168, .iinc 4 (-1), 3, (0, 0, 0, 0, 0), [], [])], 171, [0, 1, 2, 3, 4, 5, 6, 7])),
  (171, ([(171, .iinc 7 1, 3, (0, 0, 0, 0, 0), [], []), (174, .goto (-154), 3, (20, 0, 0, 0, 0), [0, 1, 2, 3, 4, 5, 6, 7], [])], 0, [])),
  (177, ([(177, .return_, 1, (0, 0, 0, 0, 0), [], [])], 0, []))]
def cd_Joinings_evenFor : List (Nat × AB) := [
  (0, ([(0, .aload_n 0, 1, (0, 0, 0, 0, 0), [], []), (1, .aload_n 1, 1, (0, 0, 0, 0, 0), [], []), (2, .invokevirtual 76, 3, (181, 2, 11, 2, 995), [0, 1, 2], [4])], 0, [])),
  (5, ([(5, .aload_n 0, 1, (0, 0, 0, 0, 0), [], []), (6, .getfield 35, 3, (2, 7, 3, 294, 0), [], []), (9, .ifCond .eq 4, 3, (13, 0, 0, 0, 0), [0, 1, 2], [])], 0, [])),
  (12, ([(12, .return_, 1, (0, 0, 0, 0, 0), [], [])], 0, [])),
  (13, ([(13, .aload_n 0, 1, (0, 0, 0, 0, 0), [], []), (14, .iconst 1, 1, (0, 0, 0, 0, 0), [], []), (15, .putfield 35, 3, (2, 7, 3, 294, 0), [], [])], 18, [0, 1, 2])),
  (18, ([(18, .aload_n 0, 1, (0, 0, 0, 0, 0), [], []), (19, .getfield 18, 3, (2, 4, 2, 288, 0), [], []), (22, .iconst (-1), 1, (0, 0, 0, 0, 0), [], []), (23, .invokestatic 38, 3, (3, 2, 1, 0, 929), [0, 1, 2], [4])], 0, [])),
  (26, ([(26, .aload_n 0, 1, (0, 0, 0, 0, 0), [], []), (27, .iconst 0, 1, (0, 0, 0, 0, 0), [], []), (28, .putfield 29, 3, (2, 5, 0, 290, 0), [], [])], 31, [0, 1, 2])),
  (31, ([(31, .aload_n 0, 1, (0, 0, 0, 0, 0), [], []), (32, .iconst 0, 1, (0, 0, 0, 0, 0), [], []), (33, .putfield 32, 3, (2, 6, 0, 292, 0), [], [])], 36, [0, 1, 2])),
  (36, ([(36, .aload_n 0, 1, (0, 0, 0, 0, 0), [], []), (37, .getfield 21, 3, (2, 2, 0, 285, 0), [], []), (40, .ifCond .ne 4, 3, (44, 0, 0, 0, 0), [0, 1, 2], [])], 0, [])),
  (43, ([(43, .return_, 1, (0, 0, 0, 0, 0), [], [])], 0, [])),
  (44, ([(44, .aload_n 0, 1, (0, 0, 0, 0, 0), [], []), (45, .aload_n 0, 1, (0, 0, 0, 0, 0), [], []), (46, .aload_n 1, 1, (0, 0, 0, 0, 0), [], []), (47, .aload_n 2, 1, (0, 0, 0, 0, 0), [], []), (48, .iconst 0, 1, (0, 0, 0, 0, 0), [], []), (49, .invokevirtual 80, 3, (209, 4, 10, 2, 996), [0, 1, 2], [7])], 0, [])),
  (52, ([(52, .putfield 29, 3, (2, 5, 0, 290, 0), [], [])], 55, [0, 1, 2])),
  (55, ([(55, .aload_n 0, 1, (0, 0, 0, 0, 0), [], []), (56, .aload_n 0, 1, (0, 0, 0, 0, 0), [], []), (57, .aload_n 1, 1, (0, 0, 0, 0, 0), [], []), (58, .aload_n 2, 1, (0, 0, 0, 0, 0), [], []), (59, .iconst 1, 1, (0, 0, 0, 0, 0), [], []), (60, .invokevirtual 80, 3, (209, 4, 10, 2, 996), [0, 1, 2], [7])], 0, [])),
  (63, ([(63, .putfield 32, 3, (2, 6, 0, 292, 0), [], [])], 66, [0, 1, 2])),
  (66, ([(66, .aload_n 0, 1, (0, 0, 0, 0, 0), [], []), (67, .aload_n 1, 1, (0, 0, 0, 0, 0), [], []), (68, .aload_n 2, 1, (0, 0, 0, 0, 0), [], []), (69, .invokevirtual 84, 3, (210, 3, 11, 2, 1007), [], [11])], 0, [])),
  (72, ([(72, .return_, 1, (0, 0, 0, 0, 0), [], [])], 0, []))]
def cd_Hook_evenest : List (Nat × AB) := [
  (0, ([(0, .iload_n 1, 1, (0, 0, 0, 0, 0), [], []), (1, .bipush 10, 2, (0, 0, 0, 0, 0), [], []), (3, .if_icmp .lt 21, 3, (24, 0, 0, 0, 0), [0, 1], [0, 1])], 0, [])),
  (6, ([(6, .aload_n 0, 1, (0, 0, 0, 0, 0), [], []), (7, .getfield 33, 3, (10, 5, 2, 359, 0), [], []), (10, .iload_n 1, 1, (0, 0, 0, 0, 0), [], []), (11, .bipush 10, 2, (0, 0, 0, 0, 0), [], []), (13, .isub, 1, (0, 0, 0, 0, 0), [], []), (14, .invokevirtual 130, 3, (35, 2, 10, 9, 744), [0, 1], [2])], 0, [])),
  (17, ([(17, .ifCond .eq 7, 3, (24, 0, 0, 0, 0), [0, 1], [0, 1])], 0, [])),
  (20, ([(20, .iconst 1, 1, (0, 0, 0, 0, 0), [], []), (21, .goto 4, 3, (25, 0, 0, 0, 0), [0, 1], [])], 0, [])),
  (24, ([(24, .iconst 0, 1, (0, 0, 0, 0, 0), [], [])], 25, [0, 1])),
  (25, ([(25, .istore_n 2, 1, (0, 0, 0, 0, 0), [], []), (26, .iload_n 1, 1, (0, 0, 0, 0, 0), [], []), (27, .ifCond .eq 15, 3, (42, 0, 0, 0, 0), [0, 1, 2], [0, 1, 2])], 0, [])),
  (30, ([(30, .iload_n 1, 1, (0, 0, 0, 0, 0), [], []), (31, .iconst 1, 1, (0, 0, 0, 0, 0), [], []), (32, .if_icmp .eq 10, 3, (42, 0, 0, 0, 0), [0, 1, 2], [0, 1, 2])], 0, [])),
  (35, ([(35, .iload_n 2, 1, (0, 0, 0, 0, 0), [], []), (36, .ifCond .ne 6, 3, (42, 0, 0, 0, 0), [0, 1, 2], [])], 0, [])),
  (39, ([(39, .bipush (-2), 2, (0, 0, 0, 0, 0), [], []), (41, .ireturn, 1, (0, 0, 0, 0, 0), [], [])], 0, [])),
  (42, ([(42, .aload_n 0, 1, (0, 0, 0, 0, 0), [], []), (43, .getfield 79, 3, (10, 14, 2, 368, 0), [], []), (46, .aload_n 0, 1, (0, 0, 0, 0, 0), [], []), (47, .getfield 33, 3, (10, 5, 2, 359, 0), [], []), (50, .aload_n 0, 1, (0, 0, 0, 0, 0), [], []), (51, .getfield 97, 3, (10, 17, 2, 371, 0), [], []), (54, .invokevirtual 282, 3, (211, 3, 11, 2, 991), [0, 1, 2], [3])], 0, [])),
  (57, ([(57, .iload_n 2, 1, (0, 0, 0, 0, 0), [], []), (58, .ifCond .eq 16, 3, (74, 0, 0, 0, 0), [0, 1], [0, 1])], 0, [])),
  (61, ([(61, .aload_n 0, 1, (0, 0, 0, 0, 0), [], []), (62, .getfield 79, 3, (10, 14, 2, 368, 0), [], []), (65, .getfield 286, 3, (2, 4, 2, 289, 0), [], []), (68, .iload_n 1, 1, (0, 0, 0, 0, 0), [], []), (69, .bipush 10, 2, (0, 0, 0, 0, 0), [], []), (71, .isub, 1, (0, 0, 0, 0, 0), [], []), (72, .iaload, 1, (20, 0, 0, 0, 0), [], []), (73, .ireturn, 1, (0, 0, 0, 0, 0), [], [])], 0, [])),
  (74, ([(74, .iload_n 1, 1, (0, 0, 0, 0, 0), [], []), (75, .ifCond .ne 13, 3, (88, 0, 0, 0, 0), [0], [0])], 0, [])),
  (78, ([(78, .aload_n 0, 1, (0, 0, 0, 0, 0), [], []), (79, .getfield 79, 3, (10, 14, 2, 368, 0), [], []), (82, .getfield 289, 3, (2, 5, 0, 291, 0), [], []), (85, .goto 10, 3, (95, 0, 0, 0, 0), [], [])], 0, [])),
  (88, ([(88, .aload_n 0, 1, (0, 0, 0, 0, 0), [], []), (89, .getfield 79, 3, (10, 14, 2, 368, 0), [], []), (92, .getfield 292, 3, (2, 6, 0, 293, 0), [], [])], 95, [])),
  (95, ([(95, .ireturn, 1, (0, 0, 0, 0, 0), [], [])], 0, []))]
def cd_Mod_worse : List (Nat × AB) := [
  (0, ([(0, .iload_n 0, 1, (0, 0, 0, 0, 0), [], []), (1, .iload_n 1, 1, (0, 0, 0, 0, 0), [], []), (2, .if_icmp .le 7, 3, (9, 0, 0, 0, 0), [1], [0])], 0, [])),
  (5, ([(5, .iload_n 0, 1, (0, 0, 0, 0, 0), [], []), (6, .goto 4, 3, (10, 0, 0, 0, 0), [], [])], 0, [])),
  (9, ([(9, .iload_n 1, 1, (0, 0, 0, 0, 0), [], [])], 10, [])),
  (10, ([(10, .ireturn, 1, (0, 0, 0, 0, 0), [], [])], 0, []))]
def cd_Mod_leastBy : List (Nat × AB) := [
  (0, ([(0, .aload_n 0, 1, (0, 0, 0, 0, 0), [], []), (1, .iload_n 2, 1, (0, 0, 0, 0, 0), [], []), (2, .iload_n 3, 1, (0, 0, 0, 0, 0), [], []), (3, .iload 4, 2, (0, 0, 0, 0, 0), [], []), (5, .iload 5, 2, (0, 0, 0, 0, 0), [], []), (7, .invokevirtual 337, 3, (185, 5, 10, 11, 1664), [0, 1, 2, 3, 4, 5, 6, 7, 8], [6])], 0, [])),
  (10, ([(10, .ifCond .ne 5, 3, (15, 0, 0, 0, 0), [0, 1, 2, 3, 4, 5, 6, 7, 8], [])], 0, [])),
  (13, ([(13, .iconst (-1), 1, (0, 0, 0, 0, 0), [], []), (14, .ireturn, 1, (0, 0, 0, 0, 0), [], [])], 0, [])),
  (15, ([(15, .aload_n 1, 1, (0, 0, 0, 0, 0), [], []), (16, .iload 4, 2, (0, 0, 0, 0, 0), [], []), (18, .iload 5, 2, (0, 0, 0, 0, 0), [], []), (20, .iload 6, 2, (0, 0, 0, 0, 0), [], []), (22, .iconst 1, 1, (0, 0, 0, 0, 0), [], []), (23, .isub, 1, (0, 0, 0, 0, 0), [], []), (24, .invokestatic 334, 3, (183, 3, 0, 0, 1656), [0, 2, 3, 4, 5, 7, 8], [3])], 0, [])),
  (27, ([(27, .iaload, 1, (20, 0, 0, 0, 0), [], []), (28, .istore 9, 2, (0, 0, 0, 0, 0), [], []), (30, .iload_n 2, 1, (0, 0, 0, 0, 0), [], []), (31, .iconst (-1), 1, (0, 0, 0, 0, 0), [], []), (32, .if_icmp .ne 7, 3, (39, 0, 0, 0, 0), [0, 2, 3, 4, 5, 7, 8, 9], [7, 8, 9])], 0, [])),
  (35, ([(35, .iconst 0, 1, (0, 0, 0, 0, 0), [], []), (36, .goto 16, 3, (52, 0, 0, 0, 0), [7, 8, 9], [])], 0, [])),
  (39, ([(39, .aload_n 0, 1, (0, 0, 0, 0, 0), [], []), (40, .getfield 13, 3, (11, 1, 2, 1256, 0), [], []), (43, .iload_n 2, 1, (0, 0, 0, 0, 0), [], []), (44, .iload_n 3, 1, (0, 0, 0, 0, 0), [], []), (45, .iload 4, 2, (0, 0, 0, 0, 0), [], []), (47, .iload 5, 2, (0, 0, 0, 0, 0), [], []), (49, .invokestatic 218, 3, (97, 5, 0, 0, 1489), [7, 8, 9], [7])], 0, [])),
  (52, ([(52, .istore 10, 2, (0, 0, 0, 0, 0), [], []), (54, .iload 9, 2, (0, 0, 0, 0, 0), [], []), (56, .iconst (-1), 1, (0, 0, 0, 0, 0), [], []), (57, .if_icmp .eq 16, 3, (73, 0, 0, 0, 0), [], [7, 8, 9, 10])], 0, [])),
  (60, ([(60, .iload 7, 2, (0, 0, 0, 0, 0), [], []), (62, .iconst (-1), 1, (0, 0, 0, 0, 0), [], []), (63, .if_icmp .eq 12, 3, (75, 0, 0, 0, 0), [8, 9, 10], [7, 8, 9, 10])], 0, [])),
  (66, ([(66, .iload 10, 2, (0, 0, 0, 0, 0), [], []), (68, .iload 7, 2, (0, 0, 0, 0, 0), [], []), (70, .if_icmp .le 5, 3, (75, 0, 0, 0, 0), [8, 9, 10], [])], 0, [])),
  (73, ([(73, .iconst (-1), 1, (0, 0, 0, 0, 0), [], []), (74, .ireturn, 1, (0, 0, 0, 0, 0), [], [])], 0, [])),
  (75, ([(75, .iload 8, 2, (0, 0, 0, 0, 0), [], []), (77, .ifCond .eq 14, 3, (91, 0, 0, 0, 0), [9, 10], [9, 10])], 0, [])),
  (80, ([(80, .iload 9, 2, (0, 0, 0, 0, 0), [], []), (82, .iload 10, 2, (0, 0, 0, 0, 0), [], []), (84, .iload 10, 2, (0, 0, 0, 0, 0), [], []), (86, .imul, 1, (0, 0, 0, 0, 0), [], []), (87, .iadd, 1, (0, 0, 0, 0, 0), [], []), (88, .goto 10, 3, (98, 0, 0, 0, 0), [], [])], 0, [])),
  (91, ([(91, .iload 9, 2, (0, 0, 0, 0, 0), [], []), (93, .iload 10, 2, (0, 0, 0, 0, 0), [], []), (95, .invokestatic 378, 3, (213, 2, 0, 0, 1724), [], [2])], 0, [])),
  (98, ([(98, .ireturn, 1, (0, 0, 0, 0, 0), [], [])], 0, []))]
def cd_Mod_laysLeast : List (Nat × AB) := [
  (0, ([(0, .aload_n 0, 1, (0, 0, 0, 0, 0), [], []), (1, .getfield 13, 3, (11, 1, 2, 1256, 0), [], []), (4, .iconst 1, 1, (0, 0, 0, 0, 0), [], []), (5, .iaload, 1, (20, 0, 0, 0, 0), [], []), (6, .iconst 1, 1, (0, 0, 0, 0, 0), [], []), (7, .isub, 1, (0, 0, 0, 0, 0), [], []), (8, .istore 4, 2, (0, 0, 0, 0, 0), [], [])], 10, [0, 1, 2, 3, 4])),
  (10, ([(10, .iload 4, 2, (0, 0, 0, 0, 0), [], []), (12, .iconst (-1), 1, (0, 0, 0, 0, 0), [], []), (13, .if_icmp .lt 193, 3, (206, 0, 0, 0, 0), [], [0, 1, 2, 3, 4])], 0, [])),
  (16, ([(16, .aload_n 0, 1, (0, 0, 0, 0, 0), [], []), (17, .getfield 13, 3, (11, 1, 2, 1256, 0), [], []), (20, .iconst 2, 1, (0, 0, 0, 0, 0), [], []), (21, .iaload, 1, (20, 0, 0, 0, 0), [], []), (22, .iconst 1, 1, (0, 0, 0, 0, 0), [], []), (23, .isub, 1, (0, 0, 0, 0, 0), [], []), (24, .istore 5, 2, (0, 0, 0, 0, 0), [], [])], 26, [0, 1, 2, 3, 4, 5])),
  (26, ([(26, .iload 5, 2, (0, 0, 0, 0, 0), [], []), (28, .iconst (-1), 1, (0, 0, 0, 0, 0), [], []), (29, .if_icmp .lt 171, 3, (200, 0, 0, 0, 0), [0, 1, 2, 3, 4], [0, 1, 2, 3, 4, 5])], 0, [])),
  (32, ([(32, .iload 4, 2, (0, 0, 0, 0, 0), [], []), (34, .iconst (-1), 1, (0, 0, 0, 0, 0), [], []), (35, .if_icmp .ne 7, 3, (42, 0, 0, 0, 0), [0, 1, 2, 3, 4, 5], [0, 1, 2, 3, 4, 5])], 0, [])),
  (38, ([(38, .iconst 1, 1, (0, 0, 0, 0, 0), [], []), (39, .goto 4, 3, (43, 0, 0, 0, 0), [0, 1, 2, 3, 4, 5], [])], 0, [])),
  (42, ([(42, .iconst 0, 1, (0, 0, 0, 0, 0), [], [])], 43, [0, 1, 2, 3, 4, 5])),
  (43, ([(43, .iload 5, 2, (0, 0, 0, 0, 0), [], []), (45, .iconst (-1), 1, (0, 0, 0, 0, 0), [], []), (46, .if_icmp .ne 7, 3, (53, 0, 0, 0, 0), [0, 1, 2, 3, 4, 5], [0, 1, 2, 3, 4, 5])], 0, [])),
  (49, ([(49, .iconst 1, 1, (0, 0, 0, 0, 0), [], []), (50, .goto 4, 3, (54, 0, 0, 0, 0), [0, 1, 2, 3, 4, 5], [])], 0, [])),
  (53, ([(53, .iconst 0, 1, (0, 0, 0, 0, 0), [], [])], 54, [0, 1, 2, 3, 4, 5])),
  (54, ([(54, .if_icmp .eq 6, 3, (60, 0, 0, 0, 0), [0, 1, 2, 3, 4, 5], [0, 1, 2, 3, 4, 5])], 0, [])),
  (57, ([(57, .goto 137, 3, (194, 0, 0, 0, 0), [0, 1, 2, 3, 4, 5], [])], 0, [])),
  (60, ([(60, .iconst 0, 1, (0, 0, 0, 0, 0), [], []), (61, .istore 6, 2, (0, 0, 0, 0, 0), [], [])], 63, [0, 1, 2, 3, 4, 5, 6])),
  (63, ([(63, .iload 6, 2, (0, 0, 0, 0, 0), [], []), (65, .bipush 12, 2, (0, 0, 0, 0, 0), [], []), (67, .if_icmp .gt 127, 3, (194, 0, 0, 0, 0), [0, 1, 2, 3, 4, 5], [0, 1, 2, 3, 4, 5, 6])], 0, [])),
  (70, ([(70, .iload 6, 2, (0, 0, 0, 0, 0), [], []), (72, .ifCond .ne 7, 3, (79, 0, 0, 0, 0), [0, 1, 2, 3, 4, 5, 6], [0, 1, 2, 3, 4, 5, 6])], 0, [])),
  (75, ([(75, .iconst 0, 1, (0, 0, 0, 0, 0), [], []), (76, .goto 4, 3, (80, 0, 0, 0, 0), [0, 1, 2, 3, 4, 5, 6], [])], 0, [])),
  (79, ([(79, .iconst (-1), 1, (0, 0, 0, 0, 0), [], [])], 80, [0, 1, 2, 3, 4, 5, 6])),
  (80, ([(80, .istore 7, 2, (0, 0, 0, 0, 0), [], []), (82, .iload 4, 2, (0, 0, 0, 0, 0), [], []), (84, .iconst 1, 1, (0, 0, 0, 0, 0), [], []), (85, .iadd, 1, (0, 0, 0, 0, 0), [], []), (86, .istore 8, 2, (0, 0, 0, 0, 0), [], [])], 88, [0, 1, 2, 3, 4, 5, 6, 7, 8])),
  (88, ([(88, .iload 8, 2, (0, 0, 0, 0, 0), [], []), (90, .aload_n 0, 1, (0, 0, 0, 0, 0), [], []), (91, .getfield 13, 3, (11, 1, 2, 1256, 0), [], []), (94, .iconst 1, 1, (0, 0, 0, 0, 0), [], []), (95, .iaload, 1, (20, 0, 0, 0, 0), [], []), (96, .if_icmp .ge 79, 3, (175, 0, 0, 0, 0), [0, 1, 2, 3, 4, 5, 6, 7], [0, 1, 2, 3, 4, 5, 6, 7, 8])], 0, [])),
  (99, ([(99, .iload 6, 2, (0, 0, 0, 0, 0), [], []), (101, .ifCond .le 74, 3, (175, 0, 0, 0, 0), [0, 1, 2, 3, 4, 5, 6, 7], [0, 1, 2, 3, 4, 5, 6, 7, 8])], 0, [])),
  (104, ([(104, .iload 5, 2, (0, 0, 0, 0, 0), [], []), (106, .iconst 1, 1, (0, 0, 0, 0, 0), [], []), (107, .iadd, 1, (0, 0, 0, 0, 0), [], []), (108, .istore 9, 2, (0, 0, 0, 0, 0), [], [])], 110, [0, 1, 2, 3, 4, 5, 6, 7, 8, 9])),
  (110, ([(110, .iload 9, 2, (0, 0, 0, 0, 0), [], []), (112, .aload_n 0, 1, (0, 0, 0, 0, 0), [], []), (113, .getfield 13, 3, (11, 1, 2, 1256, 0), [], []), (116, .iconst 2, 1, (0, 0, 0, 0, 0), [], []), (117, .iaload, 1, (20, 0, 0, 0, 0), [], []), (118, .if_icmp .ge 51, 3, (169, 0, 0, 0, 0), [0, 1, 2, 3, 4, 5, 6, 7, 8], [0, 1, 2, 3, 4, 5, 6, 7, 8, 9])], 0, [])),
  (121, ([(121, .aload_n 0, 1, (0, 0, 0, 0, 0), [], []), (122, .aload_n 1, 1, (0, 0, 0, 0, 0), [], []), (123, .iload 4, 2, (0, 0, 0, 0, 0), [], []), (125, .iload 5, 2, (0, 0, 0, 0, 0), [], []), (127, .iload 8, 2, (0, 0, 0, 0, 0), [], []), (129, .iload 9, 2, (0, 0, 0, 0, 0), [], []), (131, .iload 6, 2, (0, 0, 0, 0, 0), [], []), (133, .iload_n 2, 1, (0, 0, 0, 0, 0), [], []), (134, .iload_n 3, 1, (0, 0, 0, 0, 0), [], []), (135, .invokevirtual 374, 3, (214, 9, 10, 11, 1720), [0, 1, 2, 3, 4, 5, 6, 7, 8, 9], [11])], 0, [])),
  (138, ([(138, .istore 10, 2, (0, 0, 0, 0, 0), [], []), (140, .iload 10, 2, (0, 0, 0, 0, 0), [], []), (142, .iconst (-1), 1, (0, 0, 0, 0, 0), [], []), (143, .if_icmp .eq 20, 3, (163, 0, 0, 0, 0), [0, 1, 2, 3, 4, 5, 6, 7, 8, 9], [0, 1, 2, 3, 4, 5, 6, 7, 8, 9, 10])], 0, [])),
  (146, ([(146, .iload 7, 2, (0, 0, 0, 0, 0), [], []), (148, .iconst (-1), 1, (0, 0, 0, 0, 0), [], []), (149, .if_icmp .eq 10, 3, (159, 0, 0, 0, 0), [0, 1, 2, 3, 4, 5, 6, 8, 9, 10], [0, 1, 2, 3, 4, 5, 6, 7, 8, 9, 10])], 0, [])),
  (152, ([(152, .iload 10, 2, (0, 0, 0, 0, 0), [], []), (154, .iload 7, 2, (0, 0, 0, 0, 0), [], []), (156, .if_icmp .ge 7, 3, (163, 0, 0, 0, 0), [0, 1, 2, 3, 4, 5, 6, 7, 8, 9], [0, 1, 2, 3, 4, 5, 6, 8, 9, 10])], 0, [])),
  (159, ([(159, .iload 10, 2, (0, 0, 0, 0, 0), [], []), (161, .istore 7, 2, (0, 0, 0, 0, 0), [], [])], 163, [0, 1, 2, 3, 4, 5, 6, 7, 8, 9])),
  (163, ([(163, .iinc 9 1, 3, (0, 0, 0, 0, 0), [], []), (166, .goto (-56), 3, (110, 0, 0, 0, 0), [0, 1, 2, 3, 4, 5, 6, 7, 8, 9], [])], 0, [])),
  (169, ([(169, .iinc 8 1, 3, (0, 0, 0, 0, 0), [], []), (172, .goto (-84), 3, (88, 0, 0, 0, 0), [0, 1, 2, 3, 4, 5, 6, 7, 8], [])], 0, [])),
  (175, ([(175, .aload_n 1, 1, (0, 0, 0, 0, 0), [], []), (176, .iload 4, 2, (0, 0, 0, 0, 0), [], []), (178, .iload 5, 2, (0, 0, 0, 0, 0), [], []), (180, .iload 6, 2, (0, 0, 0, 0, 0), [], []), (182, .invokestatic 334, 3, (183, 3, 0, 0, 1656), [0, 1, 2, 3, 4, 5, 6, 7], [3])], 0, [])),
  (185, ([(185, .iload 7, 2, (0, 0, 0, 0, 0), [], []), (187, .iastore, 1, (0, 0, 0, 0, 0), [], [])], 188, [0, 1, 2, 3, 4, 5, 6])),
  (188, ([(188, .iinc 6 1, 3, (0, 0, 0, 0, 0), [], []), (191, .goto (-128), 3, (63, 0, 0, 0, 0), [0, 1, 2, 3, 4, 5, 6], [])], 0, [])),
  (194, ([(194, .iinc 5 (-1), 3, (0, 0, 0, 0, 0), [], []), (197, .goto (-171), 3, (26, 0, 0, 0, 0), [0, 1, 2, 3, 4, 5], [])], 0, [])),
  (200, ([(200, .iinc 4 (-1), 3, (0, 0, 0, 0, 0), [], []), (203, .goto (-193), 3, (10, 0, 0, 0, 0), [0, 1, 2, 3, 4], [])], 0, [])),
  (206, ([(206, .return_, 1, (0, 0, 0, 0, 0), [], [])], 0, []))]
def cd_Mod_laysEvenest : List (Nat × AB) := [
  (0, ([(0, .aload_n 0, 1, (0, 0, 0, 0, 0), [], []), (1, .aload_n 0, 1, (0, 0, 0, 0, 0), [], []), (2, .invokevirtual 356, 3, (191, 1, 10, 11, 1676), [0], [2])], 0, [])),
  (5, ([(5, .putfield 381, 3, (11, 27, 0, 1282, 0), [], [])], 8, [0])),
  (8, ([(8, .aload_n 0, 1, (0, 0, 0, 0, 0), [], []), (9, .aload_n 0, 1, (0, 0, 0, 0, 0), [], []), (10, .getfield 46, 3, (11, 25, 2, 1280, 0), [], []), (13, .iconst (-1), 1, (0, 0, 0, 0, 0), [], []), (14, .iconst 0, 1, (0, 0, 0, 0, 0), [], []), (15, .invokevirtual 384, 3, (215, 4, 11, 11, 1716), [0], [11])], 0, [])),
  (18, ([(18, .aload_n 0, 1, (0, 0, 0, 0, 0), [], []), (19, .aload_n 0, 1, (0, 0, 0, 0, 0), [], []), (20, .getfield 46, 3, (11, 25, 2, 1280, 0), [], []), (23, .iconst (-1), 1, (0, 0, 0, 0, 0), [], []), (24, .iconst (-1), 1, (0, 0, 0, 0, 0), [], []), (25, .aload_n 0, 1, (0, 0, 0, 0, 0), [], []), (26, .getfield 381, 3, (11, 27, 0, 1282, 0), [], []), (29, .invokestatic 334, 3, (183, 3, 0, 0, 1656), [0], [3])], 0, [])),
  (32, ([(32, .iaload, 1, (20, 0, 0, 0, 0), [], []), (33, .putfield 388, 3, (11, 28, 0, 1283, 0), [], [])], 36, [0])),
  (36, ([(36, .aload_n 0, 1, (0, 0, 0, 0, 0), [], []), (37, .aload_n 0, 1, (0, 0, 0, 0, 0), [], []), (38, .getfield 49, 3, (11, 26, 2, 1281, 0), [], []), (41, .aload_n 0, 1, (0, 0, 0, 0, 0), [], []), (42, .getfield 388, 3, (11, 28, 0, 1283, 0), [], []), (45, .iconst 1, 1, (0, 0, 0, 0, 0), [], []), (46, .invokevirtual 384, 3, (215, 4, 11, 11, 1716), [], [11])], 0, [])),
  (49, ([(49, .return_, 1, (0, 0, 0, 0, 0), [], [])], 0, []))]
def cd_Mod_findsEvenest : List (Nat × AB) := [
  (0, ([(0, .aload_n 0, 1, (0, 0, 0, 0, 0), [], []), (1, .invokevirtual 359, 3, (205, 1, 11, 11, 1684), [0], [2])], 0, [])),
  (4, ([(4, .iconst (-1), 1, (0, 0, 0, 0, 0), [], []), (5, .istore_n 1, 1, (0, 0, 0, 0, 0), [], []), (6, .iconst (-1), 1, (0, 0, 0, 0, 0), [], []), (7, .istore_n 2, 1, (0, 0, 0, 0, 0), [], []), (8, .aload_n 0, 1, (0, 0, 0, 0, 0), [], []), (9, .getfield 381, 3, (11, 27, 0, 1282, 0), [], []), (12, .istore_n 3, 1, (0, 0, 0, 0, 0), [], [])], 13, [0, 1, 2, 3])),
  (13, ([(13, .iload_n 3, 1, (0, 0, 0, 0, 0), [], []), (14, .ifCond .le 129, 3, (143, 0, 0, 0, 0), [], [0, 1, 2, 3])], 0, [])),
  (17, ([(17, .iload_n 1, 1, (0, 0, 0, 0, 0), [], []), (18, .istore 4, 2, (0, 0, 0, 0, 0), [], []), (20, .iload_n 2, 1, (0, 0, 0, 0, 0), [], []), (21, .istore 5, 2, (0, 0, 0, 0, 0), [], []), (23, .iload_n 1, 1, (0, 0, 0, 0, 0), [], []), (24, .iconst 1, 1, (0, 0, 0, 0, 0), [], []), (25, .iadd, 1, (0, 0, 0, 0, 0), [], []), (26, .istore 6, 2, (0, 0, 0, 0, 0), [], [])], 28, [0, 1, 2, 3, 4, 5, 6])),
  (28, ([(28, .iload 6, 2, (0, 0, 0, 0, 0), [], []), (30, .aload_n 0, 1, (0, 0, 0, 0, 0), [], []), (31, .getfield 13, 3, (11, 1, 2, 1256, 0), [], []), (34, .iconst 1, 1, (0, 0, 0, 0, 0), [], []), (35, .iaload, 1, (20, 0, 0, 0, 0), [], []), (36, .if_icmp .ge 88, 3, (124, 0, 0, 0, 0), [0, 3, 4, 5], [0, 1, 2, 3, 4, 5, 6])], 0, [])),
  (39, ([(39, .iload 4, 2, (0, 0, 0, 0, 0), [], []), (41, .iload_n 1, 1, (0, 0, 0, 0, 0), [], []), (42, .if_icmp .ne 82, 3, (124, 0, 0, 0, 0), [0, 3, 4, 5], [0, 1, 2, 3, 4, 5, 6])], 0, [])),
  (45, ([(45, .iload_n 2, 1, (0, 0, 0, 0, 0), [], []), (46, .iconst 1, 1, (0, 0, 0, 0, 0), [], []), (47, .iadd, 1, (0, 0, 0, 0, 0), [], []), (48, .istore 7, 2, (0, 0, 0, 0, 0), [], [])], 50, [0, 1, 2, 3, 4, 5, 6, 7])),
  (50, ([(50, .iload 7, 2, (0, 0, 0, 0, 0), [], []), (52, .aload_n 0, 1, (0, 0, 0, 0, 0), [], []), (53, .getfield 13, 3, (11, 1, 2, 1256, 0), [], []), (56, .iconst 2, 1, (0, 0, 0, 0, 0), [], []), (57, .iaload, 1, (20, 0, 0, 0, 0), [], []), (58, .if_icmp .ge 60, 3, (118, 0, 0, 0, 0), [0, 1, 2, 3, 4, 5, 6], [0, 1, 2, 3, 4, 5, 6, 7])], 0, [])),
  (61, ([(61, .iload 4, 2, (0, 0, 0, 0, 0), [], []), (63, .iload_n 1, 1, (0, 0, 0, 0, 0), [], []), (64, .if_icmp .ne 54, 3, (118, 0, 0, 0, 0), [0, 1, 2, 3, 4, 5, 6], [0, 1, 2, 3, 4, 5, 6, 7])], 0, [])),
  (67, ([(67, .aload_n 0, 1, (0, 0, 0, 0, 0), [], []), (68, .aload_n 0, 1, (0, 0, 0, 0, 0), [], []), (69, .getfield 49, 3, (11, 26, 2, 1281, 0), [], []), (72, .iload_n 1, 1, (0, 0, 0, 0, 0), [], []), (73, .iload_n 2, 1, (0, 0, 0, 0, 0), [], []), (74, .iload 6, 2, (0, 0, 0, 0, 0), [], []), (76, .iload 7, 2, (0, 0, 0, 0, 0), [], []), (78, .iload_n 3, 1, (0, 0, 0, 0, 0), [], []), (79, .aload_n 0, 1, (0, 0, 0, 0, 0), [], []), (80, .getfield 388, 3, (11, 28, 0, 1283, 0), [], []), (83, .iconst 1, 1, (0, 0, 0, 0, 0), [], []), (84, .invokevirtual 374, 3, (214, 9, 10, 11, 1720), [0, 1, 2, 3, 4, 5, 6, 7], [11])], 0, [])),
  (87, ([(87, .aload_n 0, 1, (0, 0, 0, 0, 0), [], []), (88, .getfield 49, 3, (11, 26, 2, 1281, 0), [], []), (91, .iload_n 1, 1, (0, 0, 0, 0, 0), [], []), (92, .iload_n 2, 1, (0, 0, 0, 0, 0), [], []), (93, .iload_n 3, 1, (0, 0, 0, 0, 0), [], []), (94, .invokestatic 334, 3, (183, 3, 0, 0, 1656), [0, 1, 2, 3, 4, 5, 6, 7], [3])], 0, [])),
  (97, ([(97, .iaload, 1, (20, 0, 0, 0, 0), [], []), (98, .if_icmp .eq 6, 3, (104, 0, 0, 0, 0), [0, 1, 2, 3, 6, 7], [0, 1, 2, 3, 4, 5, 6, 7])], 0, [])),
  (101, ([(101, .goto 11, 3, (112, 0, 0, 0, 0), [0, 1, 2, 3, 4, 5, 6, 7], [])], 0, [])),
  (104, ([(104, .iload 6, 2, (0, 0, 0, 0, 0), [], []), (106, .istore 4, 2, (0, 0, 0, 0, 0), [], []), (108, .iload 7, 2, (0, 0, 0, 0, 0), [], []), (110, .istore 5, 2, (0, 0, 0, 0, 0), [], [])], 112, [0, 1, 2, 3, 4, 5, 6, 7])),
  (112, ([(112, .iinc 7 1, 3, (0, 0, 0, 0, 0), [], []), (115, .goto (-65), 3, (50, 0, 0, 0, 0), [0, 1, 2, 3, 4, 5, 6, 7], [])], 0, [])),
  (118, ([(118, .iinc 6 1, 3, (0, 0, 0, 0, 0), [], []), (121, .goto (-93), 3, (28, 0, 0, 0, 0), [0, 1, 2, 3, 4, 5, 6], [])], 0, [])),
  (124, ([(124, .iload 4, 2, (0, 0, 0, 0, 0), [], []), (126, .istore_n 1, 1, (0, 0, 0, 0, 0), [], []), (127, .iload 5, 2, (0, 0, 0, 0, 0), [], []), (129, .istore_n 2, 1, (0, 0, 0, 0, 0), [], []), (130, .aload_n 0, 1, (0, 0, 0, 0, 0), [], []), (131, .getfield 40, 3, (11, 23, 2, 1278, 0), [], []), (134, .iload_n 1, 1, (0, 0, 0, 0, 0), [], []), (135, .iload_n 2, 1, (0, 0, 0, 0, 0), [], []), (136, .iastore, 1, (0, 0, 0, 0, 0), [], [])], 137, [0, 1, 2, 3])),
  (137, ([(137, .iinc 3 (-1), 3, (0, 0, 0, 0, 0), [], []), (140, .goto (-127), 3, (13, 0, 0, 0, 0), [0, 1, 2, 3], [])], 0, [])),
  (143, ([(143, .return_, 1, (0, 0, 0, 0, 0), [], [])], 0, []))]
def cd_Mod_evenest : List (Nat × AB) := [
  (0, ([(0, .aload_n 0, 1, (0, 0, 0, 0, 0), [], []), (1, .iconst 0, 1, (0, 0, 0, 0, 0), [], []), (2, .putfield 1, 3, (11, 0, 0, 1255, 0), [], [])], 5, [0, 1])),
  (5, ([(5, .aload_n 0, 1, (0, 0, 0, 0, 0), [], []), (6, .iload_n 1, 1, (0, 0, 0, 0, 0), [], []), (7, .iconst 1, 1, (0, 0, 0, 0, 0), [], []), (8, .invokevirtual 365, 3, (202, 3, 10, 11, 1692), [0, 1], [3])], 0, [])),
  (11, ([(11, .ifCond .ne 6, 3, (17, 0, 0, 0, 0), [0, 1], [])], 0, [])),
  (14, ([(14, .bipush (-2), 2, (0, 0, 0, 0, 0), [], []), (16, .ireturn, 1, (0, 0, 0, 0, 0), [], [])], 0, [])),
  (17, ([(17, .aload_n 0, 1, (0, 0, 0, 0, 0), [], []), (18, .invokevirtual 391, 3, (216, 1, 11, 11, 1712), [0, 1], [1])], 0, [])),
  (21, ([(21, .iload_n 1, 1, (0, 0, 0, 0, 0), [], []), (22, .ifCond .ne 8, 3, (30, 0, 0, 0, 0), [0, 1], [0])], 0, [])),
  (25, ([(25, .aload_n 0, 1, (0, 0, 0, 0, 0), [], []), (26, .getfield 388, 3, (11, 28, 0, 1283, 0), [], []), (29, .ireturn, 1, (0, 0, 0, 0, 0), [], [])], 0, [])),
  (30, ([(30, .iload_n 1, 1, (0, 0, 0, 0, 0), [], []), (31, .iconst 1, 1, (0, 0, 0, 0, 0), [], []), (32, .if_icmp .ne 18, 3, (50, 0, 0, 0, 0), [0, 1], [0])], 0, [])),
  (35, ([(35, .aload_n 0, 1, (0, 0, 0, 0, 0), [], []), (36, .getfield 49, 3, (11, 26, 2, 1281, 0), [], []), (39, .iconst (-1), 1, (0, 0, 0, 0, 0), [], []), (40, .iconst (-1), 1, (0, 0, 0, 0, 0), [], []), (41, .aload_n 0, 1, (0, 0, 0, 0, 0), [], []), (42, .getfield 381, 3, (11, 27, 0, 1282, 0), [], []), (45, .invokestatic 334, 3, (183, 3, 0, 0, 1656), [], [3])], 0, [])),
  (48, ([(48, .iaload, 1, (20, 0, 0, 0, 0), [], []), (49, .ireturn, 1, (0, 0, 0, 0, 0), [], [])], 0, [])),
  (50, ([(50, .aload_n 0, 1, (0, 0, 0, 0, 0), [], []), (51, .invokevirtual 394, 3, (217, 1, 11, 11, 1727), [0, 1], [8])], 0, [])),
  (54, ([(54, .aload_n 0, 1, (0, 0, 0, 0, 0), [], []), (55, .getfield 40, 3, (11, 23, 2, 1278, 0), [], []), (58, .iload_n 1, 1, (0, 0, 0, 0, 0), [], []), (59, .bipush 10, 2, (0, 0, 0, 0, 0), [], []), (61, .isub, 1, (0, 0, 0, 0, 0), [], []), (62, .iaload, 1, (20, 0, 0, 0, 0), [], []), (63, .ireturn, 1, (0, 0, 0, 0, 0), [], [])], 0, []))]
def cd_Hook_spread : List (Nat × AB) := [
  (0, ([(0, .aload_n 0, 1, (0, 0, 0, 0, 0), [], []), (1, .getfield 79, 3, (10, 14, 2, 368, 0), [], []), (4, .aload_n 0, 1, (0, 0, 0, 0, 0), [], []), (5, .getfield 33, 3, (10, 5, 2, 359, 0), [], []), (8, .aload_n 0, 1, (0, 0, 0, 0, 0), [], []), (9, .getfield 97, 3, (10, 17, 2, 371, 0), [], []), (12, .invokevirtual 282, 3, (211, 3, 11, 2, 991), [0], [3])], 0, [])),
  (15, ([(15, .aload_n 0, 1, (0, 0, 0, 0, 0), [], []), (16, .getfield 47, 3, (10, 8, 2, 362, 0), [], []), (19, .aload_n 0, 1, (0, 0, 0, 0, 0), [], []), (20, .getfield 43, 3, (10, 7, 2, 361, 0), [], []), (23, .invokevirtual 119, 3, (67, 2, 11, 0, 721), [0], [2])], 0, [])),
  (26, ([(26, .iconst 0, 1, (0, 0, 0, 0, 0), [], []), (27, .istore_n 1, 1, (0, 0, 0, 0, 0), [], []), (28, .iconst 0, 1, (0, 0, 0, 0, 0), [], []), (29, .istore_n 2, 1, (0, 0, 0, 0, 0), [], [])], 30, [0, 1, 2])),
  (30, ([(30, .iload_n 2, 1, (0, 0, 0, 0, 0), [], []), (31, .aload_n 0, 1, (0, 0, 0, 0, 0), [], []), (32, .getfield 33, 3, (10, 5, 2, 359, 0), [], []), (35, .getfield 140, 3, (9, 5, 0, 137, 0), [], []), (38, .if_icmp .ge 51, 3, (89, 0, 0, 0, 0), [0, 1], [0, 1, 2])], 0, [])),
  (41, ([(41, .aload_n 0, 1, (0, 0, 0, 0, 0), [], []), (42, .getfield 43, 3, (10, 7, 2, 361, 0), [], []), (45, .getfield 134, 3, (0, 0, 2, 221, 0), [], []), (48, .iload_n 2, 1, (0, 0, 0, 0, 0), [], []), (49, .iaload, 1, (20, 0, 0, 0, 0), [], []), (50, .aload_n 0, 1, (0, 0, 0, 0, 0), [], []), (51, .getfield 79, 3, (10, 14, 2, 368, 0), [], []), (54, .getfield 286, 3, (2, 4, 2, 289, 0), [], []), (57, .iload_n 2, 1, (0, 0, 0, 0, 0), [], []), (58, .iaload, 1, (20, 0, 0, 0, 0), [], []), (59, .if_icmp .eq 24, 3, (83, 0, 0, 0, 0), [0, 1, 2], [0, 1, 2])], 0, [])),
  (62, ([(62, .aload_n 0, 1, (0, 0, 0, 0, 0), [], []), (63, .getfield 43, 3, (10, 7, 2, 361, 0), [], []), (66, .getfield 134, 3, (0, 0, 2, 221, 0), [], []), (69, .iload_n 2, 1, (0, 0, 0, 0, 0), [], []), (70, .aload_n 0, 1, (0, 0, 0, 0, 0), [], []), (71, .getfield 79, 3, (10, 14, 2, 368, 0), [], []), (74, .getfield 286, 3, (2, 4, 2, 289, 0), [], []), (77, .iload_n 2, 1, (0, 0, 0, 0, 0), [], []), (78, .iaload, 1, (20, 0, 0, 0, 0), [], []), (79, .iastore, 1, (0, 0, 0, 0, 0), [], [])], 80, [0, 1, 2])),
  (80, ([(80, .iinc 1 1, 3, (0, 0, 0, 0, 0), [], [])], 83, [0, 1, 2])),
  (83, ([(83, .iinc 2 1, 3, (0, 0, 0, 0, 0), [], []), (86, .goto (-56), 3, (30, 0, 0, 0, 0), [0, 1, 2], [])], 0, [])),
  (89, ([(89, .iload_n 1, 1, (0, 0, 0, 0, 0), [], []), (90, .ifCond .le 14, 3, (104, 0, 0, 0, 0), [1], [0, 1])], 0, [])),
  (93, ([(93, .aload_n 0, 1, (0, 0, 0, 0, 0), [], []), (94, .getfield 53, 3, (10, 9, 2, 363, 0), [], []), (97, .aload_n 0, 1, (0, 0, 0, 0, 0), [], []), (98, .getfield 47, 3, (10, 8, 2, 362, 0), [], []), (101, .invokevirtual 194, 3, (130, 2, 11, 1, 803), [1], [3])], 0, [])),
  (104, ([(104, .iload_n 1, 1, (0, 0, 0, 0, 0), [], []), (105, .ireturn, 1, (0, 0, 0, 0, 0), [], [])], 0, []))]
def cd_Mod_spread : List (Nat × AB) := [
  (0, ([(0, .aload_n 0, 1, (0, 0, 0, 0, 0), [], []), (1, .iconst 0, 1, (0, 0, 0, 0, 0), [], []), (2, .putfield 1, 3, (11, 0, 0, 1255, 0), [], [])], 5, [0])),
  (5, ([(5, .aload_n 0, 1, (0, 0, 0, 0, 0), [], []), (6, .invokevirtual 267, 3, (137, 1, 11, 11, 1558), [0], [2])], 0, [])),
  (9, ([(9, .aload_n 0, 1, (0, 0, 0, 0, 0), [], []), (10, .invokevirtual 391, 3, (216, 1, 11, 11, 1712), [0], [1])], 0, [])),
  (13, ([(13, .aload_n 0, 1, (0, 0, 0, 0, 0), [], []), (14, .invokevirtual 394, 3, (217, 1, 11, 11, 1727), [0], [8])], 0, [])),
  (17, ([(17, .iconst 0, 1, (0, 0, 0, 0, 0), [], []), (18, .istore_n 1, 1, (0, 0, 0, 0, 0), [], []), (19, .iconst 0, 1, (0, 0, 0, 0, 0), [], []), (20, .istore_n 2, 1, (0, 0, 0, 0, 0), [], [])], 21, [0, 1, 2])),
  (21, ([(21, .iload_n 2, 1, (0, 0, 0, 0, 0), [], []), (22, .aload_n 0, 1, (0, 0, 0, 0, 0), [], []), (23, .getfield 13, 3, (11, 1, 2, 1256, 0), [], []), (26, .iconst 1, 1, (0, 0, 0, 0, 0), [], []), (27, .iaload, 1, (20, 0, 0, 0, 0), [], []), (28, .if_icmp .ge 50, 3, (78, 0, 0, 0, 0), [0, 1], [0, 1, 2])], 0, [])),
  (31, ([(31, .iload_n 1, 1, (0, 0, 0, 0, 0), [], []), (32, .aload_n 0, 1, (0, 0, 0, 0, 0), [], []), (33, .getfield 13, 3, (11, 1, 2, 1256, 0), [], []), (36, .bipush 61, 2, (0, 0, 0, 0, 0), [], []), (38, .iload_n 2, 1, (0, 0, 0, 0, 0), [], []), (39, .iadd, 1, (0, 0, 0, 0, 0), [], []), (40, .iaload, 1, (20, 0, 0, 0, 0), [], []), (41, .aload_n 0, 1, (0, 0, 0, 0, 0), [], []), (42, .getfield 40, 3, (11, 23, 2, 1278, 0), [], []), (45, .iload_n 2, 1, (0, 0, 0, 0, 0), [], []), (46, .iaload, 1, (20, 0, 0, 0, 0), [], []), (47, .if_icmp .ne 7, 3, (54, 0, 0, 0, 0), [0, 2], [0, 2])], 0, [])),
  (50, ([(50, .iconst 0, 1, (0, 0, 0, 0, 0), [], []), (51, .goto 4, 3, (55, 0, 0, 0, 0), [0, 2], [])], 0, [])),
  (54, ([(54, .iconst 1, 1, (0, 0, 0, 0, 0), [], [])], 55, [0, 2])),
  (55, ([(55, .iadd, 1, (0, 0, 0, 0, 0), [], []), (56, .istore_n 1, 1, (0, 0, 0, 0, 0), [], []), (57, .aload_n 0, 1, (0, 0, 0, 0, 0), [], []), (58, .getfield 13, 3, (11, 1, 2, 1256, 0), [], []), (61, .bipush 61, 2, (0, 0, 0, 0, 0), [], []), (63, .iload_n 2, 1, (0, 0, 0, 0, 0), [], []), (64, .iadd, 1, (0, 0, 0, 0, 0), [], []), (65, .aload_n 0, 1, (0, 0, 0, 0, 0), [], []), (66, .getfield 40, 3, (11, 23, 2, 1278, 0), [], []), (69, .iload_n 2, 1, (0, 0, 0, 0, 0), [], []), (70, .iaload, 1, (20, 0, 0, 0, 0), [], []), (71, .iastore, 1, (0, 0, 0, 0, 0), [], [])], 72, [0, 1, 2])),
  (72, ([(72, .iinc 2 1, 3, (0, 0, 0, 0, 0), [], []), (75, .goto (-54), 3, (21, 0, 0, 0, 0), [0, 1, 2], [])], 0, [])),
  (78, ([(78, .iload_n 1, 1, (0, 0, 0, 0, 0), [], []), (79, .ifCond .le 7, 3, (86, 0, 0, 0, 0), [1], [0, 1])], 0, [])),
  (82, ([(82, .aload_n 0, 1, (0, 0, 0, 0, 0), [], []), (83, .invokevirtual 273, 3, (142, 1, 11, 11, 1578), [1], [2])], 0, [])),
  (86, ([(86, .iload_n 1, 1, (0, 0, 0, 0, 0), [], []), (87, .ireturn, 1, (0, 0, 0, 0, 0), [], [])], 0, []))]
def cd_Joinings_ringInFull : List (Nat × AB) := [
  (0, ([(0, .iload_n 2, 1, (0, 0, 0, 0, 0), [], []), (1, .istore 4, 2, (0, 0, 0, 0, 0), [], []), (3, .aload_n 0, 1, (0, 0, 0, 0, 0), [], []), (4, .getfield 21, 3, (2, 2, 0, 285, 0), [], []), (7, .istore 5, 2, (0, 0, 0, 0, 0), [], []), (9, .iconst (-1), 1, (0, 0, 0, 0, 0), [], []), (10, .istore 6, 2, (0, 0, 0, 0, 0), [], []), (12, .iconst (-1), 1, (0, 0, 0, 0, 0), [], []), (13, .istore 7, 2, (0, 0, 0, 0, 0), [], []), (15, .iconst 0, 1, (0, 0, 0, 0, 0), [], []), (16, .istore 8, 2, (0, 0, 0, 0, 0), [], [])], 18, [0, 1, 3, 4, 5, 6, 7, 8])),
  (18, ([(18, .iload 8, 2, (0, 0, 0, 0, 0), [], []), (20, .iload_n 3, 1, (0, 0, 0, 0, 0), [], []), (21, .if_icmp .gt 129, 3, (150, 0, 0, 0, 0), [], [0, 1, 3, 4, 5, 6, 7, 8])], 0, [])),
  (24, ([(24, .iconst (-1), 1, (0, 0, 0, 0, 0), [], []), (25, .istore 9, 2, (0, 0, 0, 0, 0), [], []), (27, .iload 7, 2, (0, 0, 0, 0, 0), [], []), (29, .iconst 1, 1, (0, 0, 0, 0, 0), [], []), (30, .iadd, 1, (0, 0, 0, 0, 0), [], []), (31, .istore 10, 2, (0, 0, 0, 0, 0), [], [])], 33, [0, 1, 3, 4, 5, 6, 7, 8, 9, 10])),
  (33, ([(33, .iload 10, 2, (0, 0, 0, 0, 0), [], []), (35, .aload_n 1, 1, (0, 0, 0, 0, 0), [], []), (36, .getfield 49, 3, (9, 6, 0, 143, 0), [], []), (39, .if_icmp .ge 79, 3, (118, 0, 0, 0, 0), [0, 1, 3, 4, 5, 6, 7, 8, 9], [0, 1, 3, 4, 5, 6, 7, 8, 9, 10])], 0, [])),
  (42, ([(42, .iload 5, 2, (0, 0, 0, 0, 0), [], []), (44, .ifCond .le 74, 3, (118, 0, 0, 0, 0), [0, 1, 3, 4, 5, 6, 7, 8, 9], [0, 1, 3, 4, 5, 6, 7, 8, 9, 10])], 0, [])),
  (47, ([(47, .iload 9, 2, (0, 0, 0, 0, 0), [], []), (49, .iconst (-1), 1, (0, 0, 0, 0, 0), [], []), (50, .if_icmp .ne 68, 3, (118, 0, 0, 0, 0), [0, 1, 3, 4, 5, 6, 7, 8, 9], [0, 1, 3, 4, 5, 6, 7, 8, 9, 10])], 0, [])),
  (53, ([(53, .aload_n 1, 1, (0, 0, 0, 0, 0), [], []), (54, .iload 6, 2, (0, 0, 0, 0, 0), [], []), (56, .iload 7, 2, (0, 0, 0, 0, 0), [], []), (58, .iload 8, 2, (0, 0, 0, 0, 0), [], []), (60, .iload 10, 2, (0, 0, 0, 0, 0), [], []), (62, .invokevirtual 72, 3, (194, 5, 10, 9, 1023), [0, 1, 3, 4, 5, 6, 7, 8, 9, 10], [5])], 0, [])),
  (65, ([(65, .ifCond .eq 23, 3, (88, 0, 0, 0, 0), [0, 1, 3, 4, 5, 6, 7, 8, 9, 10], [0, 1, 3, 4, 5, 6, 7, 8, 9, 10])], 0, [])),
  (68, ([(68, .aload_n 0, 1, (0, 0, 0, 0, 0), [], []), (69, .getfield 9, 3, (2, 0, 2, 282, 0), [], []), (72, .iload 8, 2, (0, 0, 0, 0, 0), [], []), (74, .iload 10, 2, (0, 0, 0, 0, 0), [], []), (76, .invokestatic 60, 3, (178, 2, 0, 0, 935), [0, 1, 3, 4, 5, 6, 7, 8, 9, 10], [2])], 0, [])),
  (79, ([(79, .iload 5, 2, (0, 0, 0, 0, 0), [], []), (81, .iadd, 1, (0, 0, 0, 0, 0), [], []), (82, .iconst 1, 1, (0, 0, 0, 0, 0), [], []), (83, .isub, 1, (0, 0, 0, 0, 0), [], []), (84, .iaload, 1, (20, 0, 0, 0, 0), [], []), (85, .goto 4, 3, (89, 0, 0, 0, 0), [0, 1, 3, 4, 5, 6, 7, 8, 9, 10], [])], 0, [])),
  (88, ([(88, .iconst 0, 1, (0, 0, 0, 0, 0), [], [])], 89, [0, 1, 3, 4, 5, 6, 7, 8, 9, 10])),
  (89, ([(89, .istore 11, 2, (0, 0, 0, 0, 0), [], []), (91, .iload 4, 2, (0, 0, 0, 0, 0), [], []), (93, .iload 11, 2, (0, 0, 0, 0, 0), [], []), (95, .if_icmp .ge 10, 3, (105, 0, 0, 0, 0), [0, 1, 3, 4, 5, 6, 7, 8, 9, 10, 11], [0, 1, 3, 4, 5, 6, 7, 8, 10])], 0, [])),
  (98, ([(98, .iload 10, 2, (0, 0, 0, 0, 0), [], []), (100, .istore 9, 2, (0, 0, 0, 0, 0), [], []), (102, .goto 10, 3, (112, 0, 0, 0, 0), [0, 1, 3, 4, 5, 6, 7, 8, 9, 10], [])], 0, [])),
  (105, ([(105, .iload 4, 2, (0, 0, 0, 0, 0), [], []), (107, .iload 11, 2, (0, 0, 0, 0, 0), [], []), (109, .isub, 1, (0, 0, 0, 0, 0), [], []), (110, .istore 4, 2, (0, 0, 0, 0, 0), [], [])], 112, [0, 1, 3, 4, 5, 6, 7, 8, 9, 10])),
  (112, ([(112, .iinc 10 1, 3, (0, 0, 0, 0, 0), [], []), (115, .goto (-82), 3, (33, 0, 0, 0, 0), [0, 1, 3, 4, 5, 6, 7, 8, 9, 10], [])], 0, [])),
  (118, ([(118, .iload 8, 2, (0, 0, 0, 0, 0), [], []), (120, .iload_n 3, 1, (0, 0, 0, 0, 0), [], []), (121, .if_icmp .ne 6, 3, (127, 0, 0, 0, 0), [0, 1, 3, 4, 5, 6, 7, 8, 9], [9])], 0, [])),
  (124, ([(124, .iload 9, 2, (0, 0, 0, 0, 0), [], []), (126, .ireturn, 1, (0, 0, 0, 0, 0), [], [])], 0, [])),
  (127, ([(127, .iload 9, 2, (0, 0, 0, 0, 0), [], []), (129, .iconst (-1), 1, (0, 0, 0, 0, 0), [], []), (130, .if_icmp .eq 14, 3, (144, 0, 0, 0, 0), [0, 1, 3, 4, 5, 6, 7, 8], [0, 1, 3, 4, 5, 8, 9])], 0, [])),
  (133, ([(133, .iload 8, 2, (0, 0, 0, 0, 0), [], []), (135, .istore 6, 2, (0, 0, 0, 0, 0), [], []), (137, .iload 9, 2, (0, 0, 0, 0, 0), [], []), (139, .istore 7, 2, (0, 0, 0, 0, 0), [], []), (141, .iinc 5 (-1), 3, (0, 0, 0, 0, 0), [], [])], 144, [0, 1, 3, 4, 5, 6, 7, 8])),
  (144, ([(144, .iinc 8 1, 3, (0, 0, 0, 0, 0), [], []), (147, .goto (-129), 3, (18, 0, 0, 0, 0), [0, 1, 3, 4, 5, 6, 7, 8], [])], 0, [])),
  (150, ([(150, .iconst (-1), 1, (0, 0, 0, 0, 0), [], []), (151, .ireturn, 1, (0, 0, 0, 0, 0), [], [])], 0, []))]
def cd_Hook_fullAt : List (Nat × AB) := [
  (0, ([(0, .aload_n 0, 1, (0, 0, 0, 0, 0), [], []), (1, .getfield 33, 3, (10, 5, 2, 359, 0), [], []), (4, .iload_n 2, 1, (0, 0, 0, 0, 0), [], []), (5, .invokevirtual 130, 3, (35, 2, 10, 9, 744), [0, 1, 2], [2])], 0, [])),
  (8, ([(8, .ifCond .ne 6, 3, (14, 0, 0, 0, 0), [0, 1, 2], [])], 0, [])),
  (11, ([(11, .bipush (-2), 2, (0, 0, 0, 0, 0), [], []), (13, .ireturn, 1, (0, 0, 0, 0, 0), [], [])], 0, [])),
  (14, ([(14, .iload_n 1, 1, (0, 0, 0, 0, 0), [], []), (15, .ifCond .ge 6, 3, (21, 0, 0, 0, 0), [0, 1, 2], [])], 0, [])),
  (18, ([(18, .bipush (-3), 2, (0, 0, 0, 0, 0), [], []), (20, .ireturn, 1, (0, 0, 0, 0, 0), [], [])], 0, [])),
  (21, ([(21, .aload_n 0, 1, (0, 0, 0, 0, 0), [], []), (22, .getfield 79, 3, (10, 14, 2, 368, 0), [], []), (25, .aload_n 0, 1, (0, 0, 0, 0, 0), [], []), (26, .getfield 33, 3, (10, 5, 2, 359, 0), [], []), (29, .invokevirtual 260, 3, (181, 2, 11, 2, 925), [0, 1, 2], [4])], 0, [])),
  (32, ([(32, .iload_n 1, 1, (0, 0, 0, 0, 0), [], []), (33, .aload_n 0, 1, (0, 0, 0, 0, 0), [], []), (34, .getfield 79, 3, (10, 14, 2, 368, 0), [], []), (37, .getfield 264, 3, (2, 1, 2, 284, 0), [], []), (40, .aload_n 0, 1, (0, 0, 0, 0, 0), [], []), (41, .getfield 79, 3, (10, 14, 2, 368, 0), [], []), (44, .getfield 267, 3, (2, 2, 0, 286, 0), [], []), (47, .iaload, 1, (20, 0, 0, 0, 0), [], []), (48, .if_icmp .lt 6, 3, (54, 0, 0, 0, 0), [0, 1, 2], [])], 0, [])),
  (51, ([(51, .bipush (-5), 2, (0, 0, 0, 0, 0), [], []), (53, .ireturn, 1, (0, 0, 0, 0, 0), [], [])], 0, [])),
  (54, ([(54, .aload_n 0, 1, (0, 0, 0, 0, 0), [], []), (55, .getfield 79, 3, (10, 14, 2, 368, 0), [], []), (58, .aload_n 0, 1, (0, 0, 0, 0, 0), [], []), (59, .getfield 33, 3, (10, 5, 2, 359, 0), [], []), (62, .iload_n 1, 1, (0, 0, 0, 0, 0), [], []), (63, .iload_n 2, 1, (0, 0, 0, 0, 0), [], []), (64, .invokevirtual 295, 3, (221, 4, 10, 2, 1019), [], [12])], 0, [])),
  (67, ([(67, .ireturn, 1, (0, 0, 0, 0, 0), [], [])], 0, []))]
def cd_Mod_fullAt : List (Nat × AB) := [
  (0, ([(0, .aload_n 0, 1, (0, 0, 0, 0, 0), [], []), (1, .iconst 0, 1, (0, 0, 0, 0, 0), [], []), (2, .putfield 1, 3, (11, 0, 0, 1255, 0), [], [])], 5, [0, 1, 2])),
  (5, ([(5, .aload_n 0, 1, (0, 0, 0, 0, 0), [], []), (6, .iload_n 2, 1, (0, 0, 0, 0, 0), [], []), (7, .invokevirtual 240, 3, (108, 2, 10, 11, 1500), [0, 1, 2], [2])], 0, [])),
  (10, ([(10, .ifCond .ne 6, 3, (16, 0, 0, 0, 0), [0, 1, 2], [])], 0, [])),
  (13, ([(13, .bipush (-2), 2, (0, 0, 0, 0, 0), [], []), (15, .ireturn, 1, (0, 0, 0, 0, 0), [], [])], 0, [])),
  (16, ([(16, .iload_n 1, 1, (0, 0, 0, 0, 0), [], []), (17, .ifCond .ge 6, 3, (23, 0, 0, 0, 0), [0, 1, 2], [])], 0, [])),
  (20, ([(20, .bipush (-3), 2, (0, 0, 0, 0, 0), [], []), (22, .ireturn, 1, (0, 0, 0, 0, 0), [], [])], 0, [])),
  (23, ([(23, .aload_n 0, 1, (0, 0, 0, 0, 0), [], []), (24, .invokevirtual 356, 3, (191, 1, 10, 11, 1676), [0, 1, 2], [2])], 0, [])),
  (27, ([(27, .istore_n 3, 1, (0, 0, 0, 0, 0), [], []), (28, .aload_n 0, 1, (0, 0, 0, 0, 0), [], []), (29, .iload_n 3, 1, (0, 0, 0, 0, 0), [], []), (30, .invokevirtual 348, 3, (188, 2, 10, 11, 1668), [0, 1, 2, 3], [2])], 0, [])),
  (33, ([(33, .iload_n 1, 1, (0, 0, 0, 0, 0), [], []), (34, .i2l, 1, (0, 0, 0, 0, 0), [], []), (35, .lcmp, 1, (0, 0, 0, 0, 0), [], []), (36, .ifCond .gt 6, 3, (42, 0, 0, 0, 0), [0, 1, 2, 3], [])], 0, [])),
  (39, ([(39, .bipush (-5), 2, (0, 0, 0, 0, 0), [], []), (41, .ireturn, 1, (0, 0, 0, 0, 0), [], [])], 0, [])),
  (42, ([(42, .iload_n 1, 1, (0, 0, 0, 0, 0), [], []), (43, .i2l, 1, (0, 0, 0, 0, 0), [], []), (44, .lstore 4, 2, (0, 0, 0, 0, 0), [], []), (46, .aload_n 0, 1, (0, 0, 0, 0, 0), [], []), (47, .invokevirtual 359, 3, (205, 1, 11, 11, 1684), [0, 2, 3, 4], [2])], 0, [])),
  (50, ([(50, .iconst (-1), 1, (0, 0, 0, 0, 0), [], []), (51, .istore 6, 2, (0, 0, 0, 0, 0), [], []), (53, .iconst (-1), 1, (0, 0, 0, 0, 0), [], []), (54, .istore 7, 2, (0, 0, 0, 0, 0), [], [])], 56, [0, 2, 3, 4, 6, 7])),
  (56, ([(56, .iload_n 3, 1, (0, 0, 0, 0, 0), [], []), (57, .ifCond .le 164, 3, (221, 0, 0, 0, 0), [0, 2], [0, 2, 3, 4, 6, 7])], 0, [])),
  (60, ([(60, .iload 6, 2, (0, 0, 0, 0, 0), [], []), (62, .istore 8, 2, (0, 0, 0, 0, 0), [], []), (64, .iload 7, 2, (0, 0, 0, 0, 0), [], []), (66, .istore 9, 2, (0, 0, 0, 0, 0), [], []), (68, .iload 6, 2, (0, 0, 0, 0, 0), [], []), (70, .iconst 1, 1, (0, 0, 0, 0, 0), [], []), (71, .iadd, 1, (0, 0, 0, 0, 0), [], []), (72, .istore 10, 2, (0, 0, 0, 0, 0), [], [])], 74, [0, 2, 3, 4, 6, 7, 8, 9, 10])),
  (74, ([(74, .iload 10, 2, (0, 0, 0, 0, 0), [], []), (76, .aload_n 0, 1, (0, 0, 0, 0, 0), [], []), (77, .getfield 13, 3, (11, 1, 2, 1256, 0), [], []), (80, .iconst 1, 1, (0, 0, 0, 0, 0), [], []), (81, .iaload, 1, (20, 0, 0, 0, 0), [], []), (82, .if_icmp .ge 116, 3, (198, 0, 0, 0, 0), [0, 2, 3, 4, 8, 9], [0, 2, 3, 4, 6, 7, 8, 9, 10])], 0, [])),
  (85, ([(85, .iload 8, 2, (0, 0, 0, 0, 0), [], []), (87, .iload 6, 2, (0, 0, 0, 0, 0), [], []), (89, .if_icmp .ne 109, 3, (198, 0, 0, 0, 0), [0, 2, 3, 4, 8, 9], [0, 2, 3, 4, 6, 7, 8, 9, 10])], 0, [])),
  (92, ([(92, .iload 7, 2, (0, 0, 0, 0, 0), [], []), (94, .iconst 1, 1, (0, 0, 0, 0, 0), [], []), (95, .iadd, 1, (0, 0, 0, 0, 0), [], []), (96, .istore 11, 2, (0, 0, 0, 0, 0), [], [])], 98, [0, 2, 3, 4, 6, 7, 8, 9, 10, 11])),
  (98, ([(98, .iload 11, 2, (0, 0, 0, 0, 0), [], []), (100, .aload_n 0, 1, (0, 0, 0, 0, 0), [], []), (101, .getfield 13, 3, (11, 1, 2, 1256, 0), [], []), (104, .iconst 2, 1, (0, 0, 0, 0, 0), [], []), (105, .iaload, 1, (20, 0, 0, 0, 0), [], []), (106, .if_icmp .ge 86, 3, (192, 0, 0, 0, 0), [0, 2, 3, 4, 6, 7, 8, 9, 10], [0, 2, 3, 4, 6, 7, 8, 9, 10, 11])], 0, [])),
  (109, ([(109, .iload 8, 2, (0, 0, 0, 0, 0), [], []), (111, .iload 6, 2, (0, 0, 0, 0, 0), [], []), (113, .if_icmp .ne 79, 3, (192, 0, 0, 0, 0), [0, 2, 3, 4, 6, 7, 8, 9, 10], [0, 2, 3, 4, 6, 7, 8, 9, 10, 11])], 0, [])),
  (116, ([(116, .aload_n 0, 1, (0, 0, 0, 0, 0), [], []), (117, .iload 6, 2, (0, 0, 0, 0, 0), [], []), (119, .iload 7, 2, (0, 0, 0, 0, 0), [], []), (121, .iload 10, 2, (0, 0, 0, 0, 0), [], []), (123, .iload 11, 2, (0, 0, 0, 0, 0), [], []), (125, .invokevirtual 337, 3, (185, 5, 10, 11, 1664), [0, 2, 3, 4, 6, 7, 8, 9, 10, 11], [6])], 0, [])),
  (128, ([(128, .ifCond .ne 6, 3, (134, 0, 0, 0, 0), [0, 2, 3, 4, 6, 7, 8, 9, 10, 11], [0, 2, 3, 4, 6, 7, 8, 9, 10, 11])], 0, [])),
  (131, ([(131, .goto 55, 3, (186, 0, 0, 0, 0), [0, 2, 3, 4, 6, 7, 8, 9, 10, 11], [])], 0, [])),
  (134, ([(134, .lload 4, 2, (0, 0, 0, 0, 0), [], []), (136, .aload_n 0, 1, (0, 0, 0, 0, 0), [], []), (137, .getfield 36, 3, (11, 19, 2, 1274, 0), [], []), (140, .iload 10, 2, (0, 0, 0, 0, 0), [], []), (142, .iload 11, 2, (0, 0, 0, 0, 0), [], []), (144, .iload_n 3, 1, (0, 0, 0, 0, 0), [], []), (145, .iconst 1, 1, (0, 0, 0, 0, 0), [], []), (146, .isub, 1, (0, 0, 0, 0, 0), [], []), (147, .invokestatic 334, 3, (183, 3, 0, 0, 1656), [0, 2, 3, 4, 6, 7, 8, 9, 10, 11], [3])], 0, [])),
  (150, ([(150, .laload, 1, (0, 0, 0, 0, 0), [], []), (151, .lcmp, 1, (0, 0, 0, 0, 0), [], []), (152, .ifCond .lt 26, 3, (178, 0, 0, 0, 0), [0, 2, 3, 4, 6, 7, 10, 11], [0, 2, 3, 4, 6, 7, 8, 9, 10, 11])], 0, [])),
  (155, ([(155, .lload 4, 2, (0, 0, 0, 0, 0), [], []), (157, .aload_n 0, 1, (0, 0, 0, 0, 0), [], []), (158, .getfield 36, 3, (11, 19, 2, 1274, 0), [], []), (161, .iload 10, 2, (0, 0, 0, 0, 0), [], []), (163, .iload 11, 2, (0, 0, 0, 0, 0), [], []), (165, .iload_n 3, 1, (0, 0, 0, 0, 0), [], []), (166, .iconst 1, 1, (0, 0, 0, 0, 0), [], []), (167, .isub, 1, (0, 0, 0, 0, 0), [], []), (168, .invokestatic 334, 3, (183, 3, 0, 0, 1656), [0, 2, 3, 6, 7, 8, 9, 10, 11], [3])], 0, [])),
  (171, ([(171, .laload, 1, (0, 0, 0, 0, 0), [], []), (172, .lsub, 1, (0, 0, 0, 0, 0), [], []), (173, .lstore 4, 2, (0, 0, 0, 0, 0), [], []), (175, .goto 11, 3, (186, 0, 0, 0, 0), [0, 2, 3, 4, 6, 7, 8, 9, 10, 11], [])], 0, [])),
  (178, ([(178, .iload 10, 2, (0, 0, 0, 0, 0), [], []), (180, .istore 8, 2, (0, 0, 0, 0, 0), [], []), (182, .iload 11, 2, (0, 0, 0, 0, 0), [], []), (184, .istore 9, 2, (0, 0, 0, 0, 0), [], [])], 186, [0, 2, 3, 4, 6, 7, 8, 9, 10, 11])),
  (186, ([(186, .iinc 11 1, 3, (0, 0, 0, 0, 0), [], []), (189, .goto (-91), 3, (98, 0, 0, 0, 0), [0, 2, 3, 4, 6, 7, 8, 9, 10, 11], [])], 0, [])),
  (192, ([(192, .iinc 10 1, 3, (0, 0, 0, 0, 0), [], []), (195, .goto (-121), 3, (74, 0, 0, 0, 0), [0, 2, 3, 4, 6, 7, 8, 9, 10], [])], 0, [])),
  (198, ([(198, .iload 8, 2, (0, 0, 0, 0, 0), [], []), (200, .istore 6, 2, (0, 0, 0, 0, 0), [], []), (202, .iload 9, 2, (0, 0, 0, 0, 0), [], []), (204, .istore 7, 2, (0, 0, 0, 0, 0), [], []), (206, .aload_n 0, 1, (0, 0, 0, 0, 0), [], []), (207, .getfield 40, 3, (11, 23, 2, 1278, 0), [], []), (210, .iload 6, 2, (0, 0, 0, 0, 0), [], []), (212, .iload 7, 2, (0, 0, 0, 0, 0), [], []), (214, .iastore, 1, (0, 0, 0, 0, 0), [], [])], 215, [0, 2, 3, 4, 6, 7])),
  (215, ([(215, .iinc 3 (-1), 3, (0, 0, 0, 0, 0), [], []), (218, .goto (-162), 3, (56, 0, 0, 0, 0), [0, 2, 3, 4, 6, 7], [])], 0, [])),
  (221, ([(221, .aload_n 0, 1, (0, 0, 0, 0, 0), [], []), (222, .getfield 40, 3, (11, 23, 2, 1278, 0), [], []), (225, .iload_n 2, 1, (0, 0, 0, 0, 0), [], []), (226, .iaload, 1, (20, 0, 0, 0, 0), [], []), (227, .ireturn, 1, (0, 0, 0, 0, 0), [], [])], 0, []))]
def cd_Tray_isWithin : List (Nat × AB) := [
  (0, ([(0, .iconst 0, 1, (0, 0, 0, 0, 0), [], []), (1, .istore 5, 2, (0, 0, 0, 0, 0), [], [])], 3, [0, 1, 3, 5])),
  (3, ([(3, .iload 5, 2, (0, 0, 0, 0, 0), [], []), (5, .aload_n 0, 1, (0, 0, 0, 0, 0), [], []), (6, .getfield 19, 3, (7, 2, 0, 262, 0), [], []), (9, .if_icmp .ge 35, 3, (44, 0, 0, 0, 0), [], [0, 1, 3, 5])], 0, [])),
  (12, ([(12, .aload_n 0, 1, (0, 0, 0, 0, 0), [], []), (13, .getfield 9, 3, (7, 0, 2, 260, 0), [], []), (16, .iload 5, 2, (0, 0, 0, 0, 0), [], []), (18, .laload, 1, (0, 0, 0, 0, 0), [], []), (19, .lload_n 1, 1, (0, 0, 0, 0, 0), [], []), (20, .lcmp, 1, (0, 0, 0, 0, 0), [], []), (21, .ifCond .lt 15, 3, (36, 0, 0, 0, 0), [], [0, 1, 3, 5])], 0, [])),
  (24, ([(24, .aload_n 0, 1, (0, 0, 0, 0, 0), [], []), (25, .getfield 9, 3, (7, 0, 2, 260, 0), [], []), (28, .iload 5, 2, (0, 0, 0, 0, 0), [], []), (30, .laload, 1, (0, 0, 0, 0, 0), [], []), (31, .lload_n 3, 1, (0, 0, 0, 0, 0), [], []), (32, .lcmp, 1, (0, 0, 0, 0, 0), [], []), (33, .ifCond .le 5, 3, (38, 0, 0, 0, 0), [0, 1, 3, 5], [])], 0, [])),
  (36, ([(36, .iconst 0, 1, (0, 0, 0, 0, 0), [], []), (37, .ireturn, 1, (1, 0, 0, 0, 0), [], [])], 0, [])),
  (38, ([(38, .iinc 5 1, 3, (0, 0, 0, 0, 0), [], []), (41, .goto (-38), 3, (3, 0, 0, 0, 0), [0, 1, 3, 5], [])], 0, [])),
  (44, ([(44, .iconst 1, 1, (0, 0, 0, 0, 0), [], []), (45, .ireturn, 1, (1, 0, 0, 0, 0), [], [])], 0, []))]
def cd_Reckoner_costAt : List (Nat × AB) := [
  (0, ([(0, .iload_n 2, 1, (0, 0, 0, 0, 0), [], []), (1, .ifCond .eq 7, 3, (8, 0, 0, 0, 0), [0, 1], [])], 0, [])),
  (4, ([(4, .iconst 1, 1, (0, 0, 0, 0, 0), [], []), (5, .goto 9, 3, (14, 0, 0, 0, 0), [], [])], 0, [])),
  (8, ([(8, .aload_n 0, 1, (0, 0, 0, 0, 0), [], []), (9, .iload_n 1, 1, (0, 0, 0, 0, 0), [], []), (10, .invokevirtual 9, 3, (156, 2, 10, 7, 1044), [], [2])], 0, [])),
  (13, ([(13, .l2i, 1, (0, 0, 0, 0, 0), [], [])], 14, [])),
  (14, ([(14, .ireturn, 1, (0, 0, 0, 0, 0), [], [])], 0, []))]
def cd_Reckoner_worstWith : List (Nat × AB) := [
  (0, ([(0, .aload 5, 2, (0, 0, 0, 0, 0), [], []), (2, .iload_n 2, 1, (0, 0, 0, 0, 0), [], []), (3, .bipush 21, 2, (0, 0, 0, 0, 0), [], []), (5, .imul, 1, (0, 0, 0, 0, 0), [], []), (6, .iload_n 3, 1, (0, 0, 0, 0, 0), [], []), (7, .iadd, 1, (0, 0, 0, 0, 0), [], []), (8, .iaload, 1, (20, 0, 0, 0, 0), [], []), (9, .istore 6, 2, (0, 0, 0, 0, 0), [], []), (11, .aload 5, 2, (0, 0, 0, 0, 0), [], []), (13, .iload_n 3, 1, (0, 0, 0, 0, 0), [], []), (14, .iconst 1, 1, (0, 0, 0, 0, 0), [], []), (15, .iadd, 1, (0, 0, 0, 0, 0), [], []), (16, .bipush 21, 2, (0, 0, 0, 0, 0), [], []), (18, .imul, 1, (0, 0, 0, 0, 0), [], []), (19, .iload 4, 2, (0, 0, 0, 0, 0), [], []), (21, .iadd, 1, (0, 0, 0, 0, 0), [], []), (22, .iaload, 1, (20, 0, 0, 0, 0), [], []), (23, .istore 7, 2, (0, 0, 0, 0, 0), [], []), (25, .aload_n 0, 1, (0, 0, 0, 0, 0), [], []), (26, .iload_n 3, 1, (0, 0, 0, 0, 0), [], []), (27, .iload_n 1, 1, (0, 0, 0, 0, 0), [], []), (28, .invokestatic 32, 3, (225, 3, 0, 0, 1041), [6, 7], [3])], 0, [])),
  (31, ([(31, .iload 6, 2, (0, 0, 0, 0, 0), [], []), (33, .iload 7, 2, (0, 0, 0, 0, 0), [], []), (35, .invokestatic 36, 3, (21, 2, 0, 0, 1045), [], [2])], 0, [])),
  (38, ([(38, .iadd, 1, (0, 0, 0, 0, 0), [], []), (39, .ireturn, 1, (0, 0, 0, 0, 0), [], [])], 0, []))]
def cd_Reckoner_worstOfLooks : List (Nat × AB) := [
  (0, ([(0, .aload_n 0, 1, (0, 0, 0, 0, 0), [], []), (1, .getfield 15, 3, (7, 2, 0, 263, 0), [], []), (4, .bipush 20, 2, (0, 0, 0, 0, 0), [], []), (6, .invokestatic 19, 3, (20, 2, 0, 0, 1036), [0, 1, 2], [2])], 0, [])),
  (9, ([(9, .istore_n 3, 1, (0, 0, 0, 0, 0), [], []), (10, .iload_n 3, 1, (0, 0, 0, 0, 0), [], []), (11, .istore 4, 2, (0, 0, 0, 0, 0), [], [])], 13, [0, 1, 2, 3, 4])),
  (13, ([(13, .iload 4, 2, (0, 0, 0, 0, 0), [], []), (15, .ifCond .lt 90, 3, (105, 0, 0, 0, 0), [2, 3], [0, 1, 2, 3, 4])], 0, [])),
  (18, ([(18, .aload_n 2, 1, (0, 0, 0, 0, 0), [], []), (19, .iload 4, 2, (0, 0, 0, 0, 0), [], []), (21, .bipush 21, 2, (0, 0, 0, 0, 0), [], []), (23, .imul, 1, (0, 0, 0, 0, 0), [], []), (24, .iload 4, 2, (0, 0, 0, 0, 0), [], []), (26, .iadd, 1, (0, 0, 0, 0, 0), [], []), (27, .iconst 0, 1, (0, 0, 0, 0, 0), [], []), (28, .iastore, 1, (0, 0, 0, 0, 0), [], [])], 29, [0, 1, 2, 3, 4])),
  (29, ([(29, .iload 4, 2, (0, 0, 0, 0, 0), [], []), (31, .iconst 1, 1, (0, 0, 0, 0, 0), [], []), (32, .iadd, 1, (0, 0, 0, 0, 0), [], []), (33, .istore 5, 2, (0, 0, 0, 0, 0), [], [])], 35, [0, 1, 2, 3, 4, 5])),
  (35, ([(35, .iload 5, 2, (0, 0, 0, 0, 0), [], []), (37, .iload_n 3, 1, (0, 0, 0, 0, 0), [], []), (38, .if_icmp .gt 61, 3, (99, 0, 0, 0, 0), [0, 1, 2, 3, 4], [0, 1, 2, 3, 4, 5])], 0, [])),
  (41, ([(41, .ldc 27, 2, (0, 0, 0, 1037, 536870912), [], []), (43, .istore 6, 2, (0, 0, 0, 0, 0), [], []), (45, .iload 4, 2, (0, 0, 0, 0, 0), [], []), (47, .istore 7, 2, (0, 0, 0, 0, 0), [], [])], 49, [0, 1, 2, 3, 4, 5, 6, 7])),
  (49, ([(49, .iload 7, 2, (0, 0, 0, 0, 0), [], []), (51, .iload 5, 2, (0, 0, 0, 0, 0), [], []), (53, .if_icmp .ge 28, 3, (81, 0, 0, 0, 0), [0, 1, 2, 3, 4, 5, 6], [0, 1, 2, 3, 4, 5, 6, 7])], 0, [])),
  (56, ([(56, .iload 6, 2, (0, 0, 0, 0, 0), [], []), (58, .aload_n 0, 1, (0, 0, 0, 0, 0), [], []), (59, .iload_n 1, 1, (0, 0, 0, 0, 0), [], []), (60, .iload 4, 2, (0, 0, 0, 0, 0), [], []), (62, .iload 7, 2, (0, 0, 0, 0, 0), [], []), (64, .iload 5, 2, (0, 0, 0, 0, 0), [], []), (66, .aload_n 2, 1, (0, 0, 0, 0, 0), [], []), (67, .invokestatic 28, 3, (226, 6, 0, 0, 1038), [0, 1, 2, 3, 4, 5, 7], [8])], 0, [])),
  (70, ([(70, .invokestatic 19, 3, (20, 2, 0, 0, 1036), [0, 1, 2, 3, 4, 5, 7], [2])], 0, [])),
  (73, ([(73, .istore 6, 2, (0, 0, 0, 0, 0), [], []), (75, .iinc 7 1, 3, (0, 0, 0, 0, 0), [], []), (78, .goto (-29), 3, (49, 0, 0, 0, 0), [0, 1, 2, 3, 4, 5, 6, 7], [])], 0, [])),
  (81, ([(81, .aload_n 2, 1, (0, 0, 0, 0, 0), [], []), (82, .iload 4, 2, (0, 0, 0, 0, 0), [], []), (84, .bipush 21, 2, (0, 0, 0, 0, 0), [], []), (86, .imul, 1, (0, 0, 0, 0, 0), [], []), (87, .iload 5, 2, (0, 0, 0, 0, 0), [], []), (89, .iadd, 1, (0, 0, 0, 0, 0), [], []), (90, .iload 6, 2, (0, 0, 0, 0, 0), [], []), (92, .iastore, 1, (0, 0, 0, 0, 0), [], [])], 93, [0, 1, 2, 3, 4, 5])),
  (93, ([(93, .iinc 5 1, 3, (0, 0, 0, 0, 0), [], []), (96, .goto (-61), 3, (35, 0, 0, 0, 0), [0, 1, 2, 3, 4, 5], [])], 0, [])),
  (99, ([(99, .iinc 4 (-1), 3, (0, 0, 0, 0, 0), [], []), (102, .goto (-89), 3, (13, 0, 0, 0, 0), [0, 1, 2, 3, 4], [])], 0, [])),
  (105, ([(105, .iload_n 3, 1, (0, 0, 0, 0, 0), [], []), (106, .ifCond .le 9, 3, (115, 0, 0, 0, 0), [], [2, 3])], 0, [])),
  (109, ([(109, .aload_n 2, 1, (0, 0, 0, 0, 0), [], []), (110, .iload_n 3, 1, (0, 0, 0, 0, 0), [], []), (111, .iaload, 1, (20, 0, 0, 0, 0), [], []), (112, .goto 4, 3, (116, 0, 0, 0, 0), [], [])], 0, [])),
  (115, ([(115, .iconst 0, 1, (0, 0, 0, 0, 0), [], [])], 116, [])),
  (116, ([(116, .ireturn, 1, (0, 0, 0, 0, 0), [], [])], 0, []))]
def cd_Reckoner_firstLook : List (Nat × AB) := [
  (0, ([(0, .aload_n 0, 1, (0, 0, 0, 0, 0), [], []), (1, .getfield 15, 3, (7, 2, 0, 263, 0), [], []), (4, .bipush 20, 2, (0, 0, 0, 0, 0), [], []), (6, .invokestatic 19, 3, (20, 2, 0, 0, 1036), [0, 1], [2])], 0, [])),
  (9, ([(9, .istore_n 2, 1, (0, 0, 0, 0, 0), [], []), (10, .iconst 0, 1, (0, 0, 0, 0, 0), [], []), (11, .istore_n 3, 1, (0, 0, 0, 0, 0), [], [])], 12, [0, 1, 2, 3])),
  (12, ([(12, .iload_n 3, 1, (0, 0, 0, 0, 0), [], []), (13, .iload_n 2, 1, (0, 0, 0, 0, 0), [], []), (14, .if_icmp .ge 26, 3, (40, 0, 0, 0, 0), [], [0, 1, 2, 3])], 0, [])),
  (17, ([(17, .aload_n 0, 1, (0, 0, 0, 0, 0), [], []), (18, .iconst 0, 1, (0, 0, 0, 0, 0), [], []), (19, .iconst 0, 1, (0, 0, 0, 0, 0), [], []), (20, .iload_n 3, 1, (0, 0, 0, 0, 0), [], []), (21, .iload_n 2, 1, (0, 0, 0, 0, 0), [], []), (22, .aload_n 1, 1, (0, 0, 0, 0, 0), [], []), (23, .invokestatic 28, 3, (226, 6, 0, 0, 1038), [0, 1, 2, 3], [8])], 0, [])),
  (26, ([(26, .aload_n 1, 1, (0, 0, 0, 0, 0), [], []), (27, .iload_n 2, 1, (0, 0, 0, 0, 0), [], []), (28, .iaload, 1, (20, 0, 0, 0, 0), [], []), (29, .if_icmp .ne 5, 3, (34, 0, 0, 0, 0), [0, 1, 2, 3], [3])], 0, [])),
  (32, ([(32, .iload_n 3, 1, (0, 0, 0, 0, 0), [], []), (33, .ireturn, 1, (0, 0, 0, 0, 0), [], [])], 0, [])),
  (34, ([(34, .iinc 3 1, 3, (0, 0, 0, 0, 0), [], []), (37, .goto (-25), 3, (12, 0, 0, 0, 0), [0, 1, 2, 3], [])], 0, [])),
  (40, ([(40, .iconst (-1), 1, (0, 0, 0, 0, 0), [], []), (41, .ireturn, 1, (0, 0, 0, 0, 0), [], [])], 0, []))]
def cd_Hook_looks : List (Nat × AB) := [
  (0, ([(0, .iload_n 1, 1, (0, 0, 0, 0, 0), [], []), (1, .invokestatic 213, 3, (154, 1, 0, 0, 856), [0, 1, 2], [1])], 0, [])),
  (4, ([(4, .ifCond .eq 12, 3, (16, 0, 0, 0, 0), [], [0, 1, 2])], 0, [])),
  (7, ([(7, .iload_n 2, 1, (0, 0, 0, 0, 0), [], []), (8, .ifCond .lt 8, 3, (16, 0, 0, 0, 0), [], [0, 1, 2])], 0, [])),
  (11, ([(11, .iload_n 2, 1, (0, 0, 0, 0, 0), [], []), (12, .iconst 2, 1, (0, 0, 0, 0, 0), [], []), (13, .if_icmp .le 6, 3, (19, 0, 0, 0, 0), [0, 1, 2], [])], 0, [])),
  (16, ([(16, .bipush (-2), 2, (0, 0, 0, 0, 0), [], []), (18, .ireturn, 1, (0, 0, 0, 0, 0), [], [])], 0, [])),
  (19, ([(19, .aload_n 0, 1, (0, 0, 0, 0, 0), [], []), (20, .getfield 59, 3, (10, 10, 2, 364, 0), [], []), (23, .iload_n 1, 1, (0, 0, 0, 0, 0), [], []), (24, .aaload, 1, (24, 7, 0, 0, 0), [], []), (25, .astore_n 3, 1, (0, 0, 0, 0, 0), [], []), (26, .aload_n 3, 1, (0, 0, 0, 0, 0), [], []), (27, .invokevirtual 216, 3, (155, 1, 10, 7, 859), [0, 2, 3], [1])], 0, [])),
  (30, ([(30, .ifCond .eq 6, 3, (36, 0, 0, 0, 0), [0, 2, 3], [])], 0, [])),
  (33, ([(33, .bipush (-6), 2, (0, 0, 0, 0, 0), [], []), (35, .ireturn, 1, (0, 0, 0, 0, 0), [], [])], 0, [])),
  (36, ([(36, .aload_n 3, 1, (0, 0, 0, 0, 0), [], []), (37, .getfield 224, 3, (7, 2, 0, 264, 0), [], []), (40, .iconst 1, 1, (0, 0, 0, 0, 0), [], []), (41, .if_icmp .lt 12, 3, (53, 0, 0, 0, 0), [], [0, 2, 3])], 0, [])),
  (44, ([(44, .aload_n 3, 1, (0, 0, 0, 0, 0), [], []), (45, .getfield 224, 3, (7, 2, 0, 264, 0), [], []), (48, .bipush 20, 2, (0, 0, 0, 0, 0), [], []), (50, .if_icmp .le 6, 3, (56, 0, 0, 0, 0), [0, 2, 3], [])], 0, [])),
  (53, ([(53, .bipush (-4), 2, (0, 0, 0, 0, 0), [], []), (55, .ireturn, 1, (0, 0, 0, 0, 0), [], [])], 0, [])),
  (56, ([(56, .aload_n 3, 1, (0, 0, 0, 0, 0), [], []), (57, .lconst 0, 1, (0, 0, 0, 0, 0), [], []), (58, .ldc2_w 298, 3, (0, 0, 0, 1028, 999), [], []), (61, .invokevirtual 300, 3, (224, 3, 10, 7, 1029), [0, 2, 3], [6])], 0, [])),
  (64, ([(64, .ifCond .ne 6, 3, (70, 0, 0, 0, 0), [0, 2, 3], [])], 0, [])),
  (67, ([(67, .bipush (-3), 2, (0, 0, 0, 0, 0), [], []), (69, .ireturn, 1, (0, 0, 0, 0, 0), [], [])], 0, [])),
  (70, ([(70, .aload_n 3, 1, (0, 0, 0, 0, 0), [], []), (71, .iload_n 2, 1, (0, 0, 0, 0, 0), [], []), (72, .iconst 2, 1, (0, 0, 0, 0, 0), [], []), (73, .if_icmp .ne 7, 3, (80, 0, 0, 0, 0), [0, 2, 3], [0, 2, 3])], 0, [])),
  (76, ([(76, .iconst 1, 1, (0, 0, 0, 0, 0), [], []), (77, .goto 4, 3, (81, 0, 0, 0, 0), [0, 2, 3], [])], 0, [])),
  (80, ([(80, .iconst 0, 1, (0, 0, 0, 0, 0), [], [])], 81, [0, 2, 3])),
  (81, ([(81, .aload_n 0, 1, (0, 0, 0, 0, 0), [], []), (82, .getfield 97, 3, (10, 17, 2, 371, 0), [], []), (85, .invokestatic 304, 3, (227, 3, 0, 0, 1033), [0, 2, 3], [8])], 0, [])),
  (88, ([(88, .istore 4, 2, (0, 0, 0, 0, 0), [], []), (90, .iload_n 2, 1, (0, 0, 0, 0, 0), [], []), (91, .iconst 1, 1, (0, 0, 0, 0, 0), [], []), (92, .if_icmp .ne 14, 3, (106, 0, 0, 0, 0), [4], [0, 3])], 0, [])),
  (95, ([(95, .aload_n 3, 1, (0, 0, 0, 0, 0), [], []), (96, .aload_n 0, 1, (0, 0, 0, 0, 0), [], []), (97, .getfield 97, 3, (10, 17, 2, 371, 0), [], []), (100, .invokestatic 310, 3, (228, 2, 0, 0, 1046), [], [4])], 0, [])),
  (103, ([(103, .goto 5, 3, (108, 0, 0, 0, 0), [], [])], 0, [])),
  (106, ([(106, .iload 4, 2, (0, 0, 0, 0, 0), [], [])], 108, [])),
  (108, ([(108, .ireturn, 1, (0, 0, 0, 0, 0), [], [])], 0, []))]
def cd_Mod_lookAt : List (Nat × AB) := [
  (0, ([(0, .iload 5, 2, (0, 0, 0, 0, 0), [], []), (2, .ifCond .eq 7, 3, (9, 0, 0, 0, 0), [0, 1, 2, 3, 4], [0, 2, 3, 4])], 0, [])),
  (5, ([(5, .iconst 1, 1, (0, 0, 0, 0, 0), [], []), (6, .goto 15, 3, (21, 0, 0, 0, 0), [0, 2, 3, 4], [])], 0, [])),
  (9, ([(9, .aload_n 0, 1, (0, 0, 0, 0, 0), [], []), (10, .getfield 67, 3, (11, 35, 2, 1290, 0), [], []), (13, .bipush 40, 2, (0, 0, 0, 0, 0), [], []), (15, .iload_n 1, 1, (0, 0, 0, 0, 0), [], []), (16, .imul, 1, (0, 0, 0, 0, 0), [], []), (17, .iload_n 3, 1, (0, 0, 0, 0, 0), [], []), (18, .iadd, 1, (0, 0, 0, 0, 0), [], []), (19, .laload, 1, (0, 0, 0, 0, 0), [], []), (20, .l2i, 1, (0, 0, 0, 0, 0), [], [])], 21, [0, 2, 3, 4])),
  (21, ([(21, .aload_n 0, 1, (0, 0, 0, 0, 0), [], []), (22, .getfield 52, 3, (11, 29, 2, 1284, 0), [], []), (25, .bipush 21, 2, (0, 0, 0, 0, 0), [], []), (27, .iload_n 2, 1, (0, 0, 0, 0, 0), [], []), (28, .imul, 1, (0, 0, 0, 0, 0), [], []), (29, .iload_n 3, 1, (0, 0, 0, 0, 0), [], []), (30, .iadd, 1, (0, 0, 0, 0, 0), [], []), (31, .iaload, 1, (20, 0, 0, 0, 0), [], []), (32, .aload_n 0, 1, (0, 0, 0, 0, 0), [], []), (33, .getfield 52, 3, (11, 29, 2, 1284, 0), [], []), (36, .bipush 21, 2, (0, 0, 0, 0, 0), [], []), (38, .iload_n 3, 1, (0, 0, 0, 0, 0), [], []), (39, .iconst 1, 1, (0, 0, 0, 0, 0), [], []), (40, .iadd, 1, (0, 0, 0, 0, 0), [], []), (41, .imul, 1, (0, 0, 0, 0, 0), [], []), (42, .iload 4, 2, (0, 0, 0, 0, 0), [], []), (44, .iadd, 1, (0, 0, 0, 0, 0), [], []), (45, .iaload, 1, (20, 0, 0, 0, 0), [], []), (46, .invokestatic 378, 3, (213, 2, 0, 0, 1724), [], [2])], 0, [])),
  (49, ([(49, .iadd, 1, (0, 0, 0, 0, 0), [], []), (50, .ireturn, 1, (0, 0, 0, 0, 0), [], [])], 0, []))]
def cd_Mod_laysLooks : List (Nat × AB) := [
  (0, ([(0, .aload_n 0, 1, (0, 0, 0, 0, 0), [], []), (1, .getfield 64, 3, (11, 34, 2, 1289, 0), [], []), (4, .iload_n 1, 1, (0, 0, 0, 0, 0), [], []), (5, .iaload, 1, (20, 0, 0, 0, 0), [], []), (6, .istore_n 3, 1, (0, 0, 0, 0, 0), [], []), (7, .iconst 0, 1, (0, 0, 0, 0, 0), [], []), (8, .istore 4, 2, (0, 0, 0, 0, 0), [], [])], 10, [0, 1, 2, 3, 4])),
  (10, ([(10, .iload 4, 2, (0, 0, 0, 0, 0), [], []), (12, .iload_n 3, 1, (0, 0, 0, 0, 0), [], []), (13, .if_icmp .gt 116, 3, (129, 0, 0, 0, 0), [], [0, 1, 2, 3, 4])], 0, [])),
  (16, ([(16, .iconst 0, 1, (0, 0, 0, 0, 0), [], []), (17, .istore 5, 2, (0, 0, 0, 0, 0), [], [])], 19, [0, 1, 2, 3, 4, 5])),
  (19, ([(19, .iload 5, 2, (0, 0, 0, 0, 0), [], []), (21, .iload 4, 2, (0, 0, 0, 0, 0), [], []), (23, .iadd, 1, (0, 0, 0, 0, 0), [], []), (24, .iload_n 3, 1, (0, 0, 0, 0, 0), [], []), (25, .if_icmp .gt 98, 3, (123, 0, 0, 0, 0), [0, 1, 2, 3, 4], [0, 1, 2, 3, 4, 5])], 0, [])),
  (28, ([(28, .iload 4, 2, (0, 0, 0, 0, 0), [], []), (30, .ifCond .ne 7, 3, (37, 0, 0, 0, 0), [0, 1, 2, 3, 4, 5], [0, 1, 2, 3, 4, 5])], 0, [])),
  (33, ([(33, .iconst 0, 1, (0, 0, 0, 0, 0), [], []), (34, .goto 4, 3, (38, 0, 0, 0, 0), [0, 1, 2, 3, 4, 5], [])], 0, [])),
  (37, ([(37, .iconst (-1), 1, (0, 0, 0, 0, 0), [], [])], 38, [0, 1, 2, 3, 4, 5])),
  (38, ([(38, .istore 6, 2, (0, 0, 0, 0, 0), [], []), (40, .iload 5, 2, (0, 0, 0, 0, 0), [], []), (42, .istore 7, 2, (0, 0, 0, 0, 0), [], [])], 44, [0, 1, 2, 3, 4, 5, 6, 7])),
  (44, ([(44, .iload 7, 2, (0, 0, 0, 0, 0), [], []), (46, .iload 5, 2, (0, 0, 0, 0, 0), [], []), (48, .iload 4, 2, (0, 0, 0, 0, 0), [], []), (50, .iadd, 1, (0, 0, 0, 0, 0), [], []), (51, .if_icmp .ge 48, 3, (99, 0, 0, 0, 0), [0, 1, 2, 3, 4, 5, 6], [0, 1, 2, 3, 4, 5, 6, 7])], 0, [])),
  (54, ([(54, .aload_n 0, 1, (0, 0, 0, 0, 0), [], []), (55, .iload_n 1, 1, (0, 0, 0, 0, 0), [], []), (56, .iload 5, 2, (0, 0, 0, 0, 0), [], []), (58, .iload 7, 2, (0, 0, 0, 0, 0), [], []), (60, .iload 5, 2, (0, 0, 0, 0, 0), [], []), (62, .iload 4, 2, (0, 0, 0, 0, 0), [], []), (64, .iadd, 1, (0, 0, 0, 0, 0), [], []), (65, .iload_n 2, 1, (0, 0, 0, 0, 0), [], []), (66, .invokevirtual 397, 3, (230, 6, 10, 11, 1746), [0, 1, 2, 3, 4, 5, 6, 7], [6])], 0, [])),
  (69, ([(69, .istore 8, 2, (0, 0, 0, 0, 0), [], []), (71, .iload 6, 2, (0, 0, 0, 0, 0), [], []), (73, .iconst (-1), 1, (0, 0, 0, 0, 0), [], []), (74, .if_icmp .eq 10, 3, (84, 0, 0, 0, 0), [0, 1, 2, 3, 4, 5, 7, 8], [0, 1, 2, 3, 4, 5, 6, 7, 8])], 0, [])),
  (77, ([(77, .iload 8, 2, (0, 0, 0, 0, 0), [], []), (79, .iload 6, 2, (0, 0, 0, 0, 0), [], []), (81, .if_icmp .ge 8, 3, (89, 0, 0, 0, 0), [0, 1, 2, 3, 4, 5, 6, 7], [0, 1, 2, 3, 4, 5, 7, 8])], 0, [])),
  (84, ([(84, .iload 8, 2, (0, 0, 0, 0, 0), [], []), (86, .goto 5, 3, (91, 0, 0, 0, 0), [0, 1, 2, 3, 4, 5, 7], [])], 0, [])),
  (89, ([(89, .iload 6, 2, (0, 0, 0, 0, 0), [], [])], 91, [0, 1, 2, 3, 4, 5, 7])),
  (91, ([(91, .istore 6, 2, (0, 0, 0, 0, 0), [], []), (93, .iinc 7 1, 3, (0, 0, 0, 0, 0), [], []), (96, .goto (-52), 3, (44, 0, 0, 0, 0), [0, 1, 2, 3, 4, 5, 6, 7], [])], 0, [])),
  (99, ([(99, .aload_n 0, 1, (0, 0, 0, 0, 0), [], []), (100, .getfield 52, 3, (11, 29, 2, 1284, 0), [], []), (103, .bipush 21, 2, (0, 0, 0, 0, 0), [], []), (105, .iload 5, 2, (0, 0, 0, 0, 0), [], []), (107, .imul, 1, (0, 0, 0, 0, 0), [], []), (108, .iload 5, 2, (0, 0, 0, 0, 0), [], []), (110, .iadd, 1, (0, 0, 0, 0, 0), [], []), (111, .iload 4, 2, (0, 0, 0, 0, 0), [], []), (113, .iadd, 1, (0, 0, 0, 0, 0), [], []), (114, .iload 6, 2, (0, 0, 0, 0, 0), [], []), (116, .iastore, 1, (0, 0, 0, 0, 0), [], [])], 117, [0, 1, 2, 3, 4, 5])),
  (117, ([(117, .iinc 5 1, 3, (0, 0, 0, 0, 0), [], []), (120, .goto (-101), 3, (19, 0, 0, 0, 0), [0, 1, 2, 3, 4, 5], [])], 0, [])),
  (123, ([(123, .iinc 4 1, 3, (0, 0, 0, 0, 0), [], []), (126, .goto (-116), 3, (10, 0, 0, 0, 0), [0, 1, 2, 3, 4], [])], 0, [])),
  (129, ([(129, .return_, 1, (0, 0, 0, 0, 0), [], [])], 0, []))]
def cd_Mod_looks : List (Nat × AB) := [
  (0, ([(0, .aload_n 0, 1, (0, 0, 0, 0, 0), [], []), (1, .iconst 0, 1, (0, 0, 0, 0, 0), [], []), (2, .putfield 1, 3, (11, 0, 0, 1255, 0), [], [])], 5, [0, 1, 2])),
  (5, ([(5, .iload_n 2, 1, (0, 0, 0, 0, 0), [], []), (6, .i2l, 1, (0, 0, 0, 0, 0), [], []), (7, .lconst 0, 1, (0, 0, 0, 0, 0), [], []), (8, .ldc2_w 401, 3, (0, 0, 0, 1739, 2), [], []), (11, .invokestatic 136, 3, (71, 3, 0, 0, 1372), [0, 1, 2], [6])], 0, [])),
  (14, ([(14, .ifCond .ne 6, 3, (20, 0, 0, 0, 0), [0, 1, 2], [])], 0, [])),
  (17, ([(17, .bipush (-2), 2, (0, 0, 0, 0, 0), [], []), (19, .ireturn, 1, (0, 0, 0, 0, 0), [], [])], 0, [])),
  (20, ([(20, .aload_n 0, 1, (0, 0, 0, 0, 0), [], []), (21, .iload_n 1, 1, (0, 0, 0, 0, 0), [], []), (22, .invokevirtual 299, 3, (162, 2, 10, 11, 1604), [0, 1, 2], [2])], 0, [])),
  (25, ([(25, .istore_n 3, 1, (0, 0, 0, 0, 0), [], []), (26, .iload_n 3, 1, (0, 0, 0, 0, 0), [], []), (27, .ifCond .eq 5, 3, (32, 0, 0, 0, 0), [0, 1, 2], [3])], 0, [])),
  (30, ([(30, .iload_n 3, 1, (0, 0, 0, 0, 0), [], []), (31, .ireturn, 1, (0, 0, 0, 0, 0), [], [])], 0, [])),
  (32, ([(32, .aload_n 0, 1, (0, 0, 0, 0, 0), [], []), (33, .getfield 64, 3, (11, 34, 2, 1289, 0), [], []), (36, .iload_n 1, 1, (0, 0, 0, 0, 0), [], []), (37, .iaload, 1, (20, 0, 0, 0, 0), [], []), (38, .istore 4, 2, (0, 0, 0, 0, 0), [], []), (40, .iload 4, 2, (0, 0, 0, 0, 0), [], []), (42, .i2l, 1, (0, 0, 0, 0, 0), [], []), (43, .lconst 1, 1, (0, 0, 0, 0, 0), [], []), (44, .ldc2_w 403, 3, (0, 0, 0, 1740, 20), [], []), (47, .invokestatic 136, 3, (71, 3, 0, 0, 1372), [0, 1, 2, 4], [6])], 0, [])),
  (50, ([(50, .ifCond .ne 6, 3, (56, 0, 0, 0, 0), [0, 1, 2, 4], [])], 0, [])),
  (53, ([(53, .bipush (-4), 2, (0, 0, 0, 0, 0), [], []), (55, .ireturn, 1, (0, 0, 0, 0, 0), [], [])], 0, [])),
  (56, ([(56, .iconst 0, 1, (0, 0, 0, 0, 0), [], []), (57, .istore 5, 2, (0, 0, 0, 0, 0), [], [])], 59, [0, 1, 2, 4, 5])),
  (59, ([(59, .iload 5, 2, (0, 0, 0, 0, 0), [], []), (61, .iload 4, 2, (0, 0, 0, 0, 0), [], []), (63, .if_icmp .ge 34, 3, (97, 0, 0, 0, 0), [0, 1, 2, 4], [0, 1, 2, 4, 5])], 0, [])),
  (66, ([(66, .aload_n 0, 1, (0, 0, 0, 0, 0), [], []), (67, .getfield 67, 3, (11, 35, 2, 1290, 0), [], []), (70, .bipush 40, 2, (0, 0, 0, 0, 0), [], []), (72, .iload_n 1, 1, (0, 0, 0, 0, 0), [], []), (73, .imul, 1, (0, 0, 0, 0, 0), [], []), (74, .iload 5, 2, (0, 0, 0, 0, 0), [], []), (76, .iadd, 1, (0, 0, 0, 0, 0), [], []), (77, .laload, 1, (0, 0, 0, 0, 0), [], []), (78, .lconst 0, 1, (0, 0, 0, 0, 0), [], []), (79, .ldc2_w 405, 3, (0, 0, 0, 1741, 999), [], []), (82, .invokestatic 136, 3, (71, 3, 0, 0, 1372), [0, 1, 2, 4, 5], [6])], 0, [])),
  (85, ([(85, .ifCond .ne 6, 3, (91, 0, 0, 0, 0), [0, 1, 2, 4, 5], [])], 0, [])),
  (88, ([(88, .bipush (-3), 2, (0, 0, 0, 0, 0), [], []), (90, .ireturn, 1, (0, 0, 0, 0, 0), [], [])], 0, [])),
  (91, ([(91, .iinc 5 1, 3, (0, 0, 0, 0, 0), [], []), (94, .goto (-35), 3, (59, 0, 0, 0, 0), [0, 1, 2, 4, 5], [])], 0, [])),
  (97, ([(97, .aload_n 0, 1, (0, 0, 0, 0, 0), [], []), (98, .iload_n 1, 1, (0, 0, 0, 0, 0), [], []), (99, .iload_n 2, 1, (0, 0, 0, 0, 0), [], []), (100, .iconst 2, 1, (0, 0, 0, 0, 0), [], []), (101, .if_icmp .ne 7, 3, (108, 0, 0, 0, 0), [0, 1, 2, 4], [0, 1, 2, 4])], 0, [])),
  (104, ([(104, .iconst 1, 1, (0, 0, 0, 0, 0), [], []), (105, .goto 4, 3, (109, 0, 0, 0, 0), [0, 1, 2, 4], [])], 0, [])),
  (108, ([(108, .iconst 0, 1, (0, 0, 0, 0, 0), [], [])], 109, [0, 1, 2, 4])),
  (109, ([(109, .invokevirtual 407, 3, (231, 3, 11, 11, 1742), [0, 1, 2, 4], [9])], 0, [])),
  (112, ([(112, .aload_n 0, 1, (0, 0, 0, 0, 0), [], []), (113, .getfield 52, 3, (11, 29, 2, 1284, 0), [], []), (116, .iload 4, 2, (0, 0, 0, 0, 0), [], []), (118, .iaload, 1, (20, 0, 0, 0, 0), [], []), (119, .istore 5, 2, (0, 0, 0, 0, 0), [], []), (121, .iload_n 2, 1, (0, 0, 0, 0, 0), [], []), (122, .iconst 1, 1, (0, 0, 0, 0, 0), [], []), (123, .if_icmp .eq 6, 3, (129, 0, 0, 0, 0), [0, 1, 4, 5], [5])], 0, [])),
  (126, ([(126, .iload 5, 2, (0, 0, 0, 0, 0), [], []), (128, .ireturn, 1, (0, 0, 0, 0, 0), [], [])], 0, [])),
  (129, ([(129, .iconst 0, 1, (0, 0, 0, 0, 0), [], []), (130, .istore 6, 2, (0, 0, 0, 0, 0), [], [])], 132, [0, 1, 4, 5, 6])),
  (132, ([(132, .aload_n 0, 1, (0, 0, 0, 0, 0), [], []), (133, .iload_n 1, 1, (0, 0, 0, 0, 0), [], []), (134, .iconst 0, 1, (0, 0, 0, 0, 0), [], []), (135, .iload 6, 2, (0, 0, 0, 0, 0), [], []), (137, .iload 4, 2, (0, 0, 0, 0, 0), [], []), (139, .iconst 0, 1, (0, 0, 0, 0, 0), [], []), (140, .invokevirtual 397, 3, (230, 6, 10, 11, 1746), [0, 1, 4, 5, 6], [6])], 0, [])),
  (143, ([(143, .iload 5, 2, (0, 0, 0, 0, 0), [], []), (145, .if_icmp .eq 9, 3, (154, 0, 0, 0, 0), [6], [0, 1, 4, 5, 6])], 0, [])),
  (148, ([(148, .iinc 6 1, 3, (0, 0, 0, 0, 0), [], []), (151, .goto (-19), 3, (132, 0, 0, 0, 0), [0, 1, 4, 5, 6], [])], 0, [])),
  (154, ([(154, .iload 6, 2, (0, 0, 0, 0, 0), [], []), (156, .ireturn, 1, (0, 0, 0, 0, 0), [], [])], 0, []))]
def cd_Tray_hasTwins : List (Nat × AB) := [
  (0, ([(0, .iconst 0, 1, (0, 0, 0, 0, 0), [], []), (1, .istore_n 1, 1, (0, 0, 0, 0, 0), [], [])], 2, [0, 1])),
  (2, ([(2, .iload_n 1, 1, (0, 0, 0, 0, 0), [], []), (3, .aload_n 0, 1, (0, 0, 0, 0, 0), [], []), (4, .getfield 19, 3, (7, 2, 0, 262, 0), [], []), (7, .if_icmp .ge 45, 3, (52, 0, 0, 0, 0), [], [0, 1])], 0, [])),
  (10, ([(10, .iload_n 1, 1, (0, 0, 0, 0, 0), [], []), (11, .iconst 1, 1, (0, 0, 0, 0, 0), [], []), (12, .iadd, 1, (0, 0, 0, 0, 0), [], []), (13, .istore_n 2, 1, (0, 0, 0, 0, 0), [], [])], 14, [0, 1, 2])),
  (14, ([(14, .iload_n 2, 1, (0, 0, 0, 0, 0), [], []), (15, .aload_n 0, 1, (0, 0, 0, 0, 0), [], []), (16, .getfield 19, 3, (7, 2, 0, 262, 0), [], []), (19, .if_icmp .ge 27, 3, (46, 0, 0, 0, 0), [0, 1], [0, 1, 2])], 0, [])),
  (22, ([(22, .aload_n 0, 1, (0, 0, 0, 0, 0), [], []), (23, .getfield 9, 3, (7, 0, 2, 260, 0), [], []), (26, .iload_n 1, 1, (0, 0, 0, 0, 0), [], []), (27, .laload, 1, (0, 0, 0, 0, 0), [], []), (28, .aload_n 0, 1, (0, 0, 0, 0, 0), [], []), (29, .getfield 9, 3, (7, 0, 2, 260, 0), [], []), (32, .iload_n 2, 1, (0, 0, 0, 0, 0), [], []), (33, .laload, 1, (0, 0, 0, 0, 0), [], []), (34, .lcmp, 1, (0, 0, 0, 0, 0), [], []), (35, .ifCond .ne 5, 3, (40, 0, 0, 0, 0), [0, 1, 2], [])], 0, [])),
  (38, ([(38, .iconst 1, 1, (0, 0, 0, 0, 0), [], []), (39, .ireturn, 1, (1, 0, 0, 0, 0), [], [])], 0, [])),
  (40, ([(40, .iinc 2 1, 3, (0, 0, 0, 0, 0), [], []), (43, .goto (-29), 3, (14, 0, 0, 0, 0), [0, 1, 2], [])], 0, [])),
  (46, ([(46, .iinc 1 1, 3, (0, 0, 0, 0, 0), [], []), (49, .goto (-47), 3, (2, 0, 0, 0, 0), [0, 1], [])], 0, [])),
  (52, ([(52, .iconst 0, 1, (0, 0, 0, 0, 0), [], []), (53, .ireturn, 1, (1, 0, 0, 0, 0), [], [])], 0, []))]
def cd_Reckoner_secondsBy : List (Nat × AB) := [
  (0, ([(0, .aload_n 1, 1, (0, 0, 0, 0, 0), [], []), (1, .iload 4, 2, (0, 0, 0, 0, 0), [], []), (3, .invokevirtual 9, 3, (156, 2, 10, 7, 1044), [0, 2, 3, 4, 5], [2])], 0, [])),
  (6, ([(6, .l2i, 1, (0, 0, 0, 0, 0), [], []), (7, .istore 6, 2, (0, 0, 0, 0, 0), [], []), (9, .aload_n 0, 1, (0, 0, 0, 0, 0), [], []), (10, .iload_n 3, 1, (0, 0, 0, 0, 0), [], []), (11, .iload 6, 2, (0, 0, 0, 0, 0), [], []), (13, .invokevirtual 48, 3, (133, 3, 10, 9, 1063), [0, 2, 3, 4, 5, 6], [4])], 0, [])),
  (16, ([(16, .aload 5, 2, (0, 0, 0, 0, 0), [], []), (18, .iload_n 2, 1, (0, 0, 0, 0, 0), [], []), (19, .iconst 1, 1, (0, 0, 0, 0, 0), [], []), (20, .iload 4, 2, (0, 0, 0, 0, 0), [], []), (22, .ishl, 1, (0, 0, 0, 0, 0), [], []), (23, .ior, 1, (0, 0, 0, 0, 0), [], []), (24, .bipush 12, 2, (0, 0, 0, 0, 0), [], []), (26, .imul, 1, (0, 0, 0, 0, 0), [], []), (27, .aload_n 0, 1, (0, 0, 0, 0, 0), [], []), (28, .iload_n 3, 1, (0, 0, 0, 0, 0), [], []), (29, .iload 6, 2, (0, 0, 0, 0, 0), [], []), (31, .invokevirtual 51, 3, (131, 3, 10, 9, 1064), [], [3])], 0, [])),
  (34, ([(34, .iadd, 1, (0, 0, 0, 0, 0), [], []), (35, .iaload, 1, (20, 0, 0, 0, 0), [], []), (36, .iadd, 1, (0, 0, 0, 0, 0), [], []), (37, .ireturn, 1, (0, 0, 0, 0, 0), [], [])], 0, []))]
def cd_Reckoner_fillRounds : List (Nat × AB) := [
  (0, ([(0, .aload_n 1, 1, (0, 0, 0, 0, 0), [], []), (1, .getfield 15, 3, (7, 2, 0, 263, 0), [], []), (4, .bipush 8, 2, (0, 0, 0, 0, 0), [], []), (6, .invokestatic 19, 3, (20, 2, 0, 0, 1036), [0, 1, 2], [2])], 0, [])),
  (9, ([(9, .istore_n 3, 1, (0, 0, 0, 0, 0), [], []), (10, .iconst 1, 1, (0, 0, 0, 0, 0), [], []), (11, .iload_n 3, 1, (0, 0, 0, 0, 0), [], []), (12, .ishl, 1, (0, 0, 0, 0, 0), [], []), (13, .iconst 1, 1, (0, 0, 0, 0, 0), [], []), (14, .isub, 1, (0, 0, 0, 0, 0), [], []), (15, .istore 4, 2, (0, 0, 0, 0, 0), [], []), (17, .iload 4, 2, (0, 0, 0, 0, 0), [], []), (19, .istore 5, 2, (0, 0, 0, 0, 0), [], [])], 21, [0, 1, 2, 3, 4, 5])),
  (21, ([(21, .iload 5, 2, (0, 0, 0, 0, 0), [], []), (23, .ifCond .lt 98, 3, (121, 0, 0, 0, 0), [], [0, 1, 2, 3, 4, 5])], 0, [])),
  (26, ([(26, .iconst 0, 1, (0, 0, 0, 0, 0), [], []), (27, .istore 6, 2, (0, 0, 0, 0, 0), [], [])], 29, [0, 1, 2, 3, 4, 5, 6])),
  (29, ([(29, .iload 6, 2, (0, 0, 0, 0, 0), [], []), (31, .aload_n 0, 1, (0, 0, 0, 0, 0), [], []), (32, .getfield 39, 3, (9, 6, 0, 146, 0), [], []), (35, .if_icmp .ge 80, 3, (115, 0, 0, 0, 0), [0, 1, 2, 3, 4, 5], [0, 1, 2, 3, 4, 5, 6])], 0, [])),
  (38, ([(38, .iload 5, 2, (0, 0, 0, 0, 0), [], []), (40, .iload 4, 2, (0, 0, 0, 0, 0), [], []), (42, .if_icmp .ne 7, 3, (49, 0, 0, 0, 0), [0, 1, 2, 3, 4, 5, 6], [0, 1, 2, 3, 4, 5, 6])], 0, [])),
  (45, ([(45, .iconst 0, 1, (0, 0, 0, 0, 0), [], []), (46, .goto 5, 3, (51, 0, 0, 0, 0), [0, 1, 2, 3, 4, 5, 6], [])], 0, [])),
  (49, ([(49, .ldc 27, 2, (0, 0, 0, 1037, 536870912), [], [])], 51, [0, 1, 2, 3, 4, 5, 6])),
  (51, ([(51, .istore 7, 2, (0, 0, 0, 0, 0), [], []), (53, .iconst 0, 1, (0, 0, 0, 0, 0), [], []), (54, .istore 8, 2, (0, 0, 0, 0, 0), [], [])], 56, [0, 1, 2, 3, 4, 5, 6, 7, 8])),
  (56, ([(56, .iload 8, 2, (0, 0, 0, 0, 0), [], []), (58, .iload_n 3, 1, (0, 0, 0, 0, 0), [], []), (59, .if_icmp .ge 38, 3, (97, 0, 0, 0, 0), [0, 1, 2, 3, 4, 5, 6, 7], [0, 1, 2, 3, 4, 5, 6, 7, 8])], 0, [])),
  (62, ([(62, .iload 5, 2, (0, 0, 0, 0, 0), [], []), (64, .iload 8, 2, (0, 0, 0, 0, 0), [], []), (66, .iushr, 1, (0, 0, 0, 0, 0), [], []), (67, .iconst 1, 1, (0, 0, 0, 0, 0), [], []), (68, .iand, 1, (0, 0, 0, 0, 0), [], []), (69, .ifCond .ne 22, 3, (91, 0, 0, 0, 0), [0, 1, 2, 3, 4, 5, 6, 7, 8], [0, 1, 2, 3, 4, 5, 6, 7, 8])], 0, [])),
  (72, ([(72, .iload 7, 2, (0, 0, 0, 0, 0), [], []), (74, .aload_n 0, 1, (0, 0, 0, 0, 0), [], []), (75, .aload_n 1, 1, (0, 0, 0, 0, 0), [], []), (76, .iload 5, 2, (0, 0, 0, 0, 0), [], []), (78, .iload 6, 2, (0, 0, 0, 0, 0), [], []), (80, .iload 8, 2, (0, 0, 0, 0, 0), [], []), (82, .aload_n 2, 1, (0, 0, 0, 0, 0), [], []), (83, .invokestatic 44, 3, (234, 6, 0, 0, 1060), [0, 1, 2, 3, 4, 5, 6, 8], [7])], 0, [])),
  (86, ([(86, .invokestatic 19, 3, (20, 2, 0, 0, 1036), [0, 1, 2, 3, 4, 5, 6, 8], [2])], 0, [])),
  (89, ([(89, .istore 7, 2, (0, 0, 0, 0, 0), [], [])], 91, [0, 1, 2, 3, 4, 5, 6, 7, 8])),
  (91, ([(91, .iinc 8 1, 3, (0, 0, 0, 0, 0), [], []), (94, .goto (-38), 3, (56, 0, 0, 0, 0), [0, 1, 2, 3, 4, 5, 6, 7, 8], [])], 0, [])),
  (97, ([(97, .aload_n 2, 1, (0, 0, 0, 0, 0), [], []), (98, .iload 5, 2, (0, 0, 0, 0, 0), [], []), (100, .bipush 12, 2, (0, 0, 0, 0, 0), [], []), (102, .imul, 1, (0, 0, 0, 0, 0), [], []), (103, .iload 6, 2, (0, 0, 0, 0, 0), [], []), (105, .iadd, 1, (0, 0, 0, 0, 0), [], []), (106, .iload 7, 2, (0, 0, 0, 0, 0), [], []), (108, .iastore, 1, (0, 0, 0, 0, 0), [], [])], 109, [0, 1, 2, 3, 4, 5, 6])),
  (109, ([(109, .iinc 6 1, 3, (0, 0, 0, 0, 0), [], []), (112, .goto (-83), 3, (29, 0, 0, 0, 0), [0, 1, 2, 3, 4, 5, 6], [])], 0, [])),
  (115, ([(115, .iinc 5 (-1), 3, (0, 0, 0, 0, 0), [], []), (118, .goto (-97), 3, (21, 0, 0, 0, 0), [0, 1, 2, 3, 4, 5], [])], 0, [])),
  (121, ([(121, .return_, 1, (0, 0, 0, 0, 0), [], [])], 0, []))]
def cd_Reckoner_secondsOfRound : List (Nat × AB) := [
  (0, ([(0, .iload_n 0, 1, (0, 0, 0, 0, 0), [], []), (1, .ifCond .lt 15, 3, (16, 0, 0, 0, 0), [], [0, 1])], 0, [])),
  (4, ([(4, .iload_n 0, 1, (0, 0, 0, 0, 0), [], []), (5, .bipush 12, 2, (0, 0, 0, 0, 0), [], []), (7, .if_icmp .ge 9, 3, (16, 0, 0, 0, 0), [], [0, 1])], 0, [])),
  (10, ([(10, .aload_n 1, 1, (0, 0, 0, 0, 0), [], []), (11, .iload_n 0, 1, (0, 0, 0, 0, 0), [], []), (12, .iaload, 1, (20, 0, 0, 0, 0), [], []), (13, .goto 4, 3, (17, 0, 0, 0, 0), [], [])], 0, [])),
  (16, ([(16, .iconst 0, 1, (0, 0, 0, 0, 0), [], [])], 17, [])),
  (17, ([(17, .ireturn, 1, (0, 0, 0, 0, 0), [], [])], 0, []))]
def cd_Reckoner_orderRound : List (Nat × AB) := [
  (0, ([(0, .aload_n 1, 1, (0, 0, 0, 0, 0), [], []), (1, .getfield 15, 3, (7, 2, 0, 263, 0), [], []), (4, .bipush 8, 2, (0, 0, 0, 0, 0), [], []), (6, .invokestatic 19, 3, (20, 2, 0, 0, 1036), [0, 1, 2, 3, 4], [2])], 0, [])),
  (9, ([(9, .istore 5, 2, (0, 0, 0, 0, 0), [], []), (11, .iconst 0, 1, (0, 0, 0, 0, 0), [], []), (12, .istore 6, 2, (0, 0, 0, 0, 0), [], []), (14, .iload_n 2, 1, (0, 0, 0, 0, 0), [], []), (15, .istore 7, 2, (0, 0, 0, 0, 0), [], []), (17, .iconst 0, 1, (0, 0, 0, 0, 0), [], []), (18, .istore 8, 2, (0, 0, 0, 0, 0), [], [])], 20, [0, 1, 3, 4, 5, 6, 7, 8])),
  (20, ([(20, .iload 8, 2, (0, 0, 0, 0, 0), [], []), (22, .iload 5, 2, (0, 0, 0, 0, 0), [], []), (24, .if_icmp .ge 118, 3, (142, 0, 0, 0, 0), [], [0, 1, 3, 4, 5, 6, 7, 8])], 0, [])),
  (27, ([(27, .aload_n 3, 1, (0, 0, 0, 0, 0), [], []), (28, .iload 6, 2, (0, 0, 0, 0, 0), [], []), (30, .bipush 12, 2, (0, 0, 0, 0, 0), [], []), (32, .imul, 1, (0, 0, 0, 0, 0), [], []), (33, .iload 7, 2, (0, 0, 0, 0, 0), [], []), (35, .iadd, 1, (0, 0, 0, 0, 0), [], []), (36, .iaload, 1, (20, 0, 0, 0, 0), [], []), (37, .istore 9, 2, (0, 0, 0, 0, 0), [], []), (39, .iconst (-1), 1, (0, 0, 0, 0, 0), [], []), (40, .istore 10, 2, (0, 0, 0, 0, 0), [], []), (42, .iconst 0, 1, (0, 0, 0, 0, 0), [], []), (43, .istore 11, 2, (0, 0, 0, 0, 0), [], [])], 45, [0, 1, 3, 4, 5, 6, 7, 8, 9, 10, 11])),
  (45, ([(45, .iload 11, 2, (0, 0, 0, 0, 0), [], []), (47, .iload 5, 2, (0, 0, 0, 0, 0), [], []), (49, .if_icmp .ge 46, 3, (95, 0, 0, 0, 0), [0, 1, 3, 4, 5, 6, 7, 8, 10], [0, 1, 3, 4, 5, 6, 7, 8, 9, 10, 11])], 0, [])),
  (52, ([(52, .iload 10, 2, (0, 0, 0, 0, 0), [], []), (54, .iconst (-1), 1, (0, 0, 0, 0, 0), [], []), (55, .if_icmp .ne 40, 3, (95, 0, 0, 0, 0), [0, 1, 3, 4, 5, 6, 7, 8, 10], [0, 1, 3, 4, 5, 6, 7, 8, 9, 10, 11])], 0, [])),
  (58, ([(58, .iload 6, 2, (0, 0, 0, 0, 0), [], []), (60, .iload 11, 2, (0, 0, 0, 0, 0), [], []), (62, .iushr, 1, (0, 0, 0, 0, 0), [], []), (63, .iconst 1, 1, (0, 0, 0, 0, 0), [], []), (64, .iand, 1, (0, 0, 0, 0, 0), [], []), (65, .ifCond .ne 24, 3, (89, 0, 0, 0, 0), [0, 1, 3, 4, 5, 6, 7, 8, 9, 10, 11], [0, 1, 3, 4, 5, 6, 7, 8, 9, 10, 11])], 0, [])),
  (68, ([(68, .aload_n 0, 1, (0, 0, 0, 0, 0), [], []), (69, .aload_n 1, 1, (0, 0, 0, 0, 0), [], []), (70, .iload 6, 2, (0, 0, 0, 0, 0), [], []), (72, .iload 7, 2, (0, 0, 0, 0, 0), [], []), (74, .iload 11, 2, (0, 0, 0, 0, 0), [], []), (76, .aload_n 3, 1, (0, 0, 0, 0, 0), [], []), (77, .invokestatic 44, 3, (234, 6, 0, 0, 1060), [0, 1, 3, 4, 5, 6, 7, 8, 9, 10, 11], [7])], 0, [])),
  (80, ([(80, .iload 9, 2, (0, 0, 0, 0, 0), [], []), (82, .if_icmp .ne 7, 3, (89, 0, 0, 0, 0), [0, 1, 3, 4, 5, 6, 7, 8, 9, 10, 11], [0, 1, 3, 4, 5, 6, 7, 8, 9, 11])], 0, [])),
  (85, ([(85, .iload 11, 2, (0, 0, 0, 0, 0), [], []), (87, .istore 10, 2, (0, 0, 0, 0, 0), [], [])], 89, [0, 1, 3, 4, 5, 6, 7, 8, 9, 10, 11])),
  (89, ([(89, .iinc 11 1, 3, (0, 0, 0, 0, 0), [], []), (92, .goto (-47), 3, (45, 0, 0, 0, 0), [0, 1, 3, 4, 5, 6, 7, 8, 9, 10, 11], [])], 0, [])),
  (95, ([(95, .iload 10, 2, (0, 0, 0, 0, 0), [], []), (97, .iconst (-1), 1, (0, 0, 0, 0, 0), [], []), (98, .if_icmp .ne 4, 3, (102, 0, 0, 0, 0), [0, 1, 3, 4, 5, 6, 7, 8, 10], [])], 0, [])),
  (101, ([(101, .return_, 1, (0, 0, 0, 0, 0), [], [])], 0, [])),
  (102, ([(102, .aload 4, 2, (0, 0, 0, 0, 0), [], []), (104, .iload 8, 2, (0, 0, 0, 0, 0), [], []), (106, .aload_n 1, 1, (0, 0, 0, 0, 0), [], []), (107, .iload 10, 2, (0, 0, 0, 0, 0), [], []), (109, .invokevirtual 9, 3, (156, 2, 10, 7, 1044), [0, 1, 3, 4, 5, 6, 7, 8, 10], [2])], 0, [])),
  (112, ([(112, .l2i, 1, (0, 0, 0, 0, 0), [], []), (113, .iastore, 1, (0, 0, 0, 0, 0), [], [])], 114, [0, 1, 3, 4, 5, 6, 7, 8, 10])),
  (114, ([(114, .iload 6, 2, (0, 0, 0, 0, 0), [], []), (116, .iconst 1, 1, (0, 0, 0, 0, 0), [], []), (117, .iload 10, 2, (0, 0, 0, 0, 0), [], []), (119, .ishl, 1, (0, 0, 0, 0, 0), [], []), (120, .ior, 1, (0, 0, 0, 0, 0), [], []), (121, .istore 6, 2, (0, 0, 0, 0, 0), [], []), (123, .aload_n 0, 1, (0, 0, 0, 0, 0), [], []), (124, .iload 7, 2, (0, 0, 0, 0, 0), [], []), (126, .aload 4, 2, (0, 0, 0, 0, 0), [], []), (128, .iload 8, 2, (0, 0, 0, 0, 0), [], []), (130, .iaload, 1, (20, 0, 0, 0, 0), [], []), (131, .invokevirtual 51, 3, (131, 3, 10, 9, 1064), [0, 1, 3, 4, 5, 6, 8], [3])], 0, [])),
  (134, ([(134, .istore 7, 2, (0, 0, 0, 0, 0), [], []), (136, .iinc 8 1, 3, (0, 0, 0, 0, 0), [], []), (139, .goto (-119), 3, (20, 0, 0, 0, 0), [0, 1, 3, 4, 5, 6, 7, 8], [])], 0, [])),
  (142, ([(142, .return_, 1, (0, 0, 0, 0, 0), [], [])], 0, []))]
def cd_Hook_rounds : List (Nat × AB) := [
  (0, ([(0, .iload_n 2, 1, (0, 0, 0, 0, 0), [], []), (1, .bipush 10, 2, (0, 0, 0, 0, 0), [], []), (3, .if_icmp .lt 13, 3, (16, 0, 0, 0, 0), [0, 1, 2], [0, 1, 2])], 0, [])),
  (6, ([(6, .iload_n 2, 1, (0, 0, 0, 0, 0), [], []), (7, .bipush 18, 2, (0, 0, 0, 0, 0), [], []), (9, .if_icmp .ge 7, 3, (16, 0, 0, 0, 0), [0, 1, 2], [0, 1, 2])], 0, [])),
  (12, ([(12, .iconst 1, 1, (0, 0, 0, 0, 0), [], []), (13, .goto 4, 3, (17, 0, 0, 0, 0), [0, 1, 2], [])], 0, [])),
  (16, ([(16, .iconst 0, 1, (0, 0, 0, 0, 0), [], [])], 17, [0, 1, 2])),
  (17, ([(17, .istore_n 3, 1, (0, 0, 0, 0, 0), [], []), (18, .iload_n 1, 1, (0, 0, 0, 0, 0), [], []), (19, .invokestatic 213, 3, (154, 1, 0, 0, 856), [0, 1, 2, 3], [1])], 0, [])),
  (22, ([(22, .ifCond .eq 11, 3, (33, 0, 0, 0, 0), [], [0, 1, 2, 3])], 0, [])),
  (25, ([(25, .iload_n 2, 1, (0, 0, 0, 0, 0), [], []), (26, .ifCond .eq 10, 3, (36, 0, 0, 0, 0), [0, 1, 2], [0, 1, 2, 3])], 0, [])),
  (29, ([(29, .iload_n 3, 1, (0, 0, 0, 0, 0), [], []), (30, .ifCond .ne 6, 3, (36, 0, 0, 0, 0), [0, 1, 2], [])], 0, [])),
  (33, ([(33, .bipush (-2), 2, (0, 0, 0, 0, 0), [], []), (35, .ireturn, 1, (0, 0, 0, 0, 0), [], [])], 0, [])),
  (36, ([(36, .aload_n 0, 1, (0, 0, 0, 0, 0), [], []), (37, .getfield 59, 3, (10, 10, 2, 364, 0), [], []), (40, .iload_n 1, 1, (0, 0, 0, 0, 0), [], []), (41, .aaload, 1, (24, 7, 0, 0, 0), [], []), (42, .astore 4, 2, (0, 0, 0, 0, 0), [], []), (44, .aload 4, 2, (0, 0, 0, 0, 0), [], []), (46, .invokevirtual 216, 3, (155, 1, 10, 7, 859), [0, 2, 4], [1])], 0, [])),
  (49, ([(49, .ifCond .eq 6, 3, (55, 0, 0, 0, 0), [0, 2, 4], [])], 0, [])),
  (52, ([(52, .bipush (-6), 2, (0, 0, 0, 0, 0), [], []), (54, .ireturn, 1, (0, 0, 0, 0, 0), [], [])], 0, [])),
  (55, ([(55, .aload 4, 2, (0, 0, 0, 0, 0), [], []), (57, .getfield 224, 3, (7, 2, 0, 264, 0), [], []), (60, .iconst 1, 1, (0, 0, 0, 0, 0), [], []), (61, .if_icmp .lt 13, 3, (74, 0, 0, 0, 0), [], [0, 2, 4])], 0, [])),
  (64, ([(64, .aload 4, 2, (0, 0, 0, 0, 0), [], []), (66, .getfield 224, 3, (7, 2, 0, 264, 0), [], []), (69, .bipush 8, 2, (0, 0, 0, 0, 0), [], []), (71, .if_icmp .le 6, 3, (77, 0, 0, 0, 0), [0, 2, 4], [])], 0, [])),
  (74, ([(74, .bipush (-4), 2, (0, 0, 0, 0, 0), [], []), (76, .ireturn, 1, (0, 0, 0, 0, 0), [], [])], 0, [])),
  (77, ([(77, .aload 4, 2, (0, 0, 0, 0, 0), [], []), (79, .lconst 0, 1, (0, 0, 0, 0, 0), [], []), (80, .aload_n 0, 1, (0, 0, 0, 0, 0), [], []), (81, .getfield 33, 3, (10, 5, 2, 359, 0), [], []), (84, .getfield 163, 3, (9, 6, 0, 147, 0), [], []), (87, .iconst 1, 1, (0, 0, 0, 0, 0), [], []), (88, .isub, 1, (0, 0, 0, 0, 0), [], []), (89, .i2l, 1, (0, 0, 0, 0, 0), [], []), (90, .invokevirtual 300, 3, (224, 3, 10, 7, 1029), [0, 2, 4], [6])], 0, [])),
  (93, ([(93, .ifCond .eq 11, 3, (104, 0, 0, 0, 0), [], [0, 2, 4])], 0, [])),
  (96, ([(96, .aload 4, 2, (0, 0, 0, 0, 0), [], []), (98, .invokevirtual 314, 3, (233, 1, 10, 7, 1053), [0, 2, 4], [3])], 0, [])),
  (101, ([(101, .ifCond .eq 6, 3, (107, 0, 0, 0, 0), [0, 2, 4], [])], 0, [])),
  (104, ([(104, .bipush (-3), 2, (0, 0, 0, 0, 0), [], []), (106, .ireturn, 1, (0, 0, 0, 0, 0), [], [])], 0, [])),
  (107, ([(107, .aload_n 0, 1, (0, 0, 0, 0, 0), [], []), (108, .getfield 33, 3, (10, 5, 2, 359, 0), [], []), (111, .aload 4, 2, (0, 0, 0, 0, 0), [], []), (113, .aload_n 0, 1, (0, 0, 0, 0, 0), [], []), (114, .getfield 97, 3, (10, 17, 2, 371, 0), [], []), (117, .invokestatic 317, 3, (235, 3, 1, 0, 1057), [0, 2, 4], [9])], 0, [])),
  (120, ([(120, .iload_n 2, 1, (0, 0, 0, 0, 0), [], []), (121, .ifCond .ne 18, 3, (139, 0, 0, 0, 0), [0, 2, 4], [0])], 0, [])),
  (124, ([(124, .aload_n 0, 1, (0, 0, 0, 0, 0), [], []), (125, .getfield 43, 3, (10, 7, 2, 361, 0), [], []), (128, .getfield 321, 3, (0, 1, 0, 225, 0), [], []), (131, .aload_n 0, 1, (0, 0, 0, 0, 0), [], []), (132, .getfield 97, 3, (10, 17, 2, 371, 0), [], []), (135, .invokestatic 324, 3, (236, 2, 0, 0, 1065), [], [2])], 0, [])),
  (138, ([(138, .ireturn, 1, (0, 0, 0, 0, 0), [], [])], 0, [])),
  (139, ([(139, .iload_n 2, 1, (0, 0, 0, 0, 0), [], []), (140, .bipush 10, 2, (0, 0, 0, 0, 0), [], []), (142, .isub, 1, (0, 0, 0, 0, 0), [], []), (143, .aload 4, 2, (0, 0, 0, 0, 0), [], []), (145, .getfield 224, 3, (7, 2, 0, 264, 0), [], []), (148, .if_icmp .lt 5, 3, (153, 0, 0, 0, 0), [0, 2, 4], [])], 0, [])),
  (151, ([(151, .iconst (-1), 1, (0, 0, 0, 0, 0), [], []), (152, .ireturn, 1, (0, 0, 0, 0, 0), [], [])], 0, [])),
  (153, ([(153, .aload_n 0, 1, (0, 0, 0, 0, 0), [], []), (154, .getfield 33, 3, (10, 5, 2, 359, 0), [], []), (157, .aload 4, 2, (0, 0, 0, 0, 0), [], []), (159, .aload_n 0, 1, (0, 0, 0, 0, 0), [], []), (160, .getfield 43, 3, (10, 7, 2, 361, 0), [], []), (163, .getfield 321, 3, (0, 1, 0, 225, 0), [], []), (166, .aload_n 0, 1, (0, 0, 0, 0, 0), [], []), (167, .getfield 97, 3, (10, 17, 2, 371, 0), [], []), (170, .aload_n 0, 1, (0, 0, 0, 0, 0), [], []), (171, .getfield 101, 3, (10, 18, 2, 372, 0), [], []), (174, .invokestatic 328, 3, (237, 5, 1, 0, 1068), [0, 2], [12])], 0, [])),
  (177, ([(177, .aload_n 0, 1, (0, 0, 0, 0, 0), [], []), (178, .getfield 101, 3, (10, 18, 2, 372, 0), [], []), (181, .iload_n 2, 1, (0, 0, 0, 0, 0), [], []), (182, .bipush 10, 2, (0, 0, 0, 0, 0), [], []), (184, .isub, 1, (0, 0, 0, 0, 0), [], []), (185, .iaload, 1, (20, 0, 0, 0, 0), [], []), (186, .ireturn, 1, (0, 0, 0, 0, 0), [], [])], 0, []))]
def cd_Mod_goesRound : List (Nat × AB) := [
  (0, ([(0, .iload_n 2, 1, (0, 0, 0, 0, 0), [], []), (1, .aload_n 0, 1, (0, 0, 0, 0, 0), [], []), (2, .getfield 64, 3, (11, 34, 2, 1289, 0), [], []), (5, .iload_n 1, 1, (0, 0, 0, 0, 0), [], []), (6, .iaload, 1, (20, 0, 0, 0, 0), [], []), (7, .if_icmp .ne 57, 3, (64, 0, 0, 0, 0), [0, 1, 2, 3, 4, 5], [0, 2, 5])], 0, [])),
  (10, ([(10, .aload_n 0, 1, (0, 0, 0, 0, 0), [], []), (11, .getfield 411, 3, (11, 32, 0, 1287, 0), [], []), (14, .iconst (-1), 1, (0, 0, 0, 0, 0), [], []), (15, .if_icmp .eq 13, 3, (28, 0, 0, 0, 0), [0, 2, 5], [0, 2, 5])], 0, [])),
  (18, ([(18, .iload 5, 2, (0, 0, 0, 0, 0), [], []), (20, .aload_n 0, 1, (0, 0, 0, 0, 0), [], []), (21, .getfield 411, 3, (11, 32, 0, 1287, 0), [], []), (24, .if_icmp .lt 4, 3, (28, 0, 0, 0, 0), [0, 2, 5], [])], 0, [])),
  (27, ([(27, .return_, 1, (0, 0, 0, 0, 0), [], [])], 0, [])),
  (28, ([(28, .aload_n 0, 1, (0, 0, 0, 0, 0), [], []), (29, .iload 5, 2, (0, 0, 0, 0, 0), [], []), (31, .putfield 411, 3, (11, 32, 0, 1287, 0), [], [])], 34, [0, 2])),
  (34, ([(34, .iconst 0, 1, (0, 0, 0, 0, 0), [], []), (35, .istore 6, 2, (0, 0, 0, 0, 0), [], [])], 37, [0, 2, 6])),
  (37, ([(37, .iload 6, 2, (0, 0, 0, 0, 0), [], []), (39, .iload_n 2, 1, (0, 0, 0, 0, 0), [], []), (40, .if_icmp .ge 23, 3, (63, 0, 0, 0, 0), [], [0, 2, 6])], 0, [])),
  (43, ([(43, .aload_n 0, 1, (0, 0, 0, 0, 0), [], []), (44, .getfield 58, 3, (11, 31, 2, 1286, 0), [], []), (47, .iload 6, 2, (0, 0, 0, 0, 0), [], []), (49, .aload_n 0, 1, (0, 0, 0, 0, 0), [], []), (50, .getfield 55, 3, (11, 30, 2, 1285, 0), [], []), (53, .iload 6, 2, (0, 0, 0, 0, 0), [], []), (55, .iaload, 1, (20, 0, 0, 0, 0), [], []), (56, .iastore, 1, (0, 0, 0, 0, 0), [], [])], 57, [0, 2, 6])),
  (57, ([(57, .iinc 6 1, 3, (0, 0, 0, 0, 0), [], []), (60, .goto (-23), 3, (37, 0, 0, 0, 0), [0, 2, 6], [])], 0, [])),
  (63, ([(63, .return_, 1, (0, 0, 0, 0, 0), [], [])], 0, [])),
  (64, ([(64, .iconst 0, 1, (0, 0, 0, 0, 0), [], []), (65, .istore 6, 2, (0, 0, 0, 0, 0), [], [])], 67, [0, 1, 2, 3, 4, 5, 6])),
  (67, ([(67, .iload 6, 2, (0, 0, 0, 0, 0), [], []), (69, .aload_n 0, 1, (0, 0, 0, 0, 0), [], []), (70, .getfield 64, 3, (11, 34, 2, 1289, 0), [], []), (73, .iload_n 1, 1, (0, 0, 0, 0, 0), [], []), (74, .iaload, 1, (20, 0, 0, 0, 0), [], []), (75, .if_icmp .ge 78, 3, (153, 0, 0, 0, 0), [], [0, 1, 2, 3, 4, 5, 6])], 0, [])),
  (78, ([(78, .iload_n 3, 1, (0, 0, 0, 0, 0), [], []), (79, .i2l, 1, (0, 0, 0, 0, 0), [], []), (80, .iload 6, 2, (0, 0, 0, 0, 0), [], []), (82, .invokestatic 214, 3, (96, 2, 0, 0, 1486), [0, 1, 2, 3, 4, 5, 6], [3])], 0, [])),
  (85, ([(85, .ifCond .eq 6, 3, (91, 0, 0, 0, 0), [0, 1, 2, 3, 4, 5, 6], [0, 1, 2, 3, 4, 5, 6])], 0, [])),
  (88, ([(88, .goto 59, 3, (147, 0, 0, 0, 0), [0, 1, 2, 3, 4, 5, 6], [])], 0, [])),
  (91, ([(91, .aload_n 0, 1, (0, 0, 0, 0, 0), [], []), (92, .getfield 67, 3, (11, 35, 2, 1290, 0), [], []), (95, .bipush 40, 2, (0, 0, 0, 0, 0), [], []), (97, .iload_n 1, 1, (0, 0, 0, 0, 0), [], []), (98, .imul, 1, (0, 0, 0, 0, 0), [], []), (99, .iload 6, 2, (0, 0, 0, 0, 0), [], []), (101, .iadd, 1, (0, 0, 0, 0, 0), [], []), (102, .laload, 1, (0, 0, 0, 0, 0), [], []), (103, .l2i, 1, (0, 0, 0, 0, 0), [], []), (104, .istore 7, 2, (0, 0, 0, 0, 0), [], []), (106, .aload_n 0, 1, (0, 0, 0, 0, 0), [], []), (107, .getfield 55, 3, (11, 30, 2, 1285, 0), [], []), (110, .iload_n 2, 1, (0, 0, 0, 0, 0), [], []), (111, .iload 7, 2, (0, 0, 0, 0, 0), [], []), (113, .iastore, 1, (0, 0, 0, 0, 0), [], [])], 114, [0, 1, 2, 3, 4, 5, 6, 7])),
  (114, ([(114, .aload_n 0, 1, (0, 0, 0, 0, 0), [], []), (115, .iload_n 1, 1, (0, 0, 0, 0, 0), [], []), (116, .iload_n 2, 1, (0, 0, 0, 0, 0), [], []), (117, .iconst 1, 1, (0, 0, 0, 0, 0), [], []), (118, .iadd, 1, (0, 0, 0, 0, 0), [], []), (119, .iload_n 3, 1, (0, 0, 0, 0, 0), [], []), (120, .iconst 1, 1, (0, 0, 0, 0, 0), [], []), (121, .iload 6, 2, (0, 0, 0, 0, 0), [], []), (123, .ishl, 1, (0, 0, 0, 0, 0), [], []), (124, .ior, 1, (0, 0, 0, 0, 0), [], []), (125, .aload_n 0, 1, (0, 0, 0, 0, 0), [], []), (126, .iload 4, 2, (0, 0, 0, 0, 0), [], []), (128, .iload 7, 2, (0, 0, 0, 0, 0), [], []), (130, .invokevirtual 258, 3, (138, 3, 10, 11, 1574), [0, 1, 2, 3, 4, 5, 6, 7], [3])], 0, [])),
  (133, ([(133, .iload 5, 2, (0, 0, 0, 0, 0), [], []), (135, .aload_n 0, 1, (0, 0, 0, 0, 0), [], []), (136, .iload 4, 2, (0, 0, 0, 0, 0), [], []), (138, .iload 7, 2, (0, 0, 0, 0, 0), [], []), (140, .invokevirtual 261, 3, (139, 3, 10, 11, 1570), [0, 1, 2, 3, 4, 5, 6], [5])], 0, [])),
  (143, ([(143, .iadd, 1, (0, 0, 0, 0, 0), [], []), (144, .invokevirtual 414, 3, (239, 6, 11, 11, 1755), [0, 1, 2, 3, 4, 5, 6], [8])], 0, [])),
  (147, ([(147, .iinc 6 1, 3, (0, 0, 0, 0, 0), [], []), (150, .goto (-83), 3, (67, 0, 0, 0, 0), [0, 1, 2, 3, 4, 5, 6], [])], 0, [])),
  (153, ([(153, .return_, 1, (0, 0, 0, 0, 0), [], [])], 0, []))]
def cd_Mod_rounds : List (Nat × AB) := [
  (0, ([(0, .aload_n 0, 1, (0, 0, 0, 0, 0), [], []), (1, .iconst 0, 1, (0, 0, 0, 0, 0), [], []), (2, .putfield 1, 3, (11, 0, 0, 1255, 0), [], [])], 5, [0, 1, 2])),
  (5, ([(5, .iload_n 2, 1, (0, 0, 0, 0, 0), [], []), (6, .ifCond .eq 20, 3, (26, 0, 0, 0, 0), [0, 1, 2], [0, 1, 2])], 0, [])),
  (9, ([(9, .iload_n 2, 1, (0, 0, 0, 0, 0), [], []), (10, .i2l, 1, (0, 0, 0, 0, 0), [], []), (11, .ldc2_w 282, 3, (0, 0, 0, 1598, 10), [], []), (14, .ldc2_w 154, 3, (0, 0, 0, 1459, 17), [], []), (17, .invokestatic 136, 3, (71, 3, 0, 0, 1372), [0, 1, 2], [6])], 0, [])),
  (20, ([(20, .ifCond .ne 6, 3, (26, 0, 0, 0, 0), [0, 1, 2], [])], 0, [])),
  (23, ([(23, .bipush (-2), 2, (0, 0, 0, 0, 0), [], []), (25, .ireturn, 1, (0, 0, 0, 0, 0), [], [])], 0, [])),
  (26, ([(26, .aload_n 0, 1, (0, 0, 0, 0, 0), [], []), (27, .iload_n 1, 1, (0, 0, 0, 0, 0), [], []), (28, .invokevirtual 299, 3, (162, 2, 10, 11, 1604), [0, 1, 2], [2])], 0, [])),
  (31, ([(31, .istore_n 3, 1, (0, 0, 0, 0, 0), [], []), (32, .iload_n 3, 1, (0, 0, 0, 0, 0), [], []), (33, .ifCond .eq 5, 3, (38, 0, 0, 0, 0), [0, 1, 2], [3])], 0, [])),
  (36, ([(36, .iload_n 3, 1, (0, 0, 0, 0, 0), [], []), (37, .ireturn, 1, (0, 0, 0, 0, 0), [], [])], 0, [])),
  (38, ([(38, .aload_n 0, 1, (0, 0, 0, 0, 0), [], []), (39, .getfield 64, 3, (11, 34, 2, 1289, 0), [], []), (42, .iload_n 1, 1, (0, 0, 0, 0, 0), [], []), (43, .iaload, 1, (20, 0, 0, 0, 0), [], []), (44, .i2l, 1, (0, 0, 0, 0, 0), [], []), (45, .lconst 1, 1, (0, 0, 0, 0, 0), [], []), (46, .ldc2_w 418, 3, (0, 0, 0, 1754, 8), [], []), (49, .invokestatic 136, 3, (71, 3, 0, 0, 1372), [0, 1, 2], [6])], 0, [])),
  (52, ([(52, .ifCond .ne 6, 3, (58, 0, 0, 0, 0), [0, 1, 2], [])], 0, [])),
  (55, ([(55, .bipush (-4), 2, (0, 0, 0, 0, 0), [], []), (57, .ireturn, 1, (0, 0, 0, 0, 0), [], [])], 0, [])),
  (58, ([(58, .iconst 0, 1, (0, 0, 0, 0, 0), [], []), (59, .istore 4, 2, (0, 0, 0, 0, 0), [], [])], 61, [0, 1, 2, 4])),
  (61, ([(61, .iload 4, 2, (0, 0, 0, 0, 0), [], []), (63, .aload_n 0, 1, (0, 0, 0, 0, 0), [], []), (64, .getfield 64, 3, (11, 34, 2, 1289, 0), [], []), (67, .iload_n 1, 1, (0, 0, 0, 0, 0), [], []), (68, .iaload, 1, (20, 0, 0, 0, 0), [], []), (69, .if_icmp .ge 78, 3, (147, 0, 0, 0, 0), [0, 1, 2], [0, 1, 2, 4])], 0, [])),
  (72, ([(72, .aload_n 0, 1, (0, 0, 0, 0, 0), [], []), (73, .aload_n 0, 1, (0, 0, 0, 0, 0), [], []), (74, .getfield 67, 3, (11, 35, 2, 1290, 0), [], []), (77, .bipush 40, 2, (0, 0, 0, 0, 0), [], []), (79, .iload_n 1, 1, (0, 0, 0, 0, 0), [], []), (80, .imul, 1, (0, 0, 0, 0, 0), [], []), (81, .iload 4, 2, (0, 0, 0, 0, 0), [], []), (83, .iadd, 1, (0, 0, 0, 0, 0), [], []), (84, .laload, 1, (0, 0, 0, 0, 0), [], []), (85, .invokevirtual 249, 3, (117, 2, 10, 11, 1533), [0, 1, 2, 4], [3])], 0, [])),
  (88, ([(88, .ifCond .ne 6, 3, (94, 0, 0, 0, 0), [0, 1, 2, 4], [])], 0, [])),
  (91, ([(91, .bipush (-3), 2, (0, 0, 0, 0, 0), [], []), (93, .ireturn, 1, (0, 0, 0, 0, 0), [], [])], 0, [])),
  (94, ([(94, .iconst 0, 1, (0, 0, 0, 0, 0), [], []), (95, .istore 5, 2, (0, 0, 0, 0, 0), [], [])], 97, [0, 1, 2, 4, 5])),
  (97, ([(97, .iload 5, 2, (0, 0, 0, 0, 0), [], []), (99, .iload 4, 2, (0, 0, 0, 0, 0), [], []), (101, .if_icmp .ge 40, 3, (141, 0, 0, 0, 0), [0, 1, 2, 4], [0, 1, 2, 4, 5])], 0, [])),
  (104, ([(104, .aload_n 0, 1, (0, 0, 0, 0, 0), [], []), (105, .getfield 67, 3, (11, 35, 2, 1290, 0), [], []), (108, .bipush 40, 2, (0, 0, 0, 0, 0), [], []), (110, .iload_n 1, 1, (0, 0, 0, 0, 0), [], []), (111, .imul, 1, (0, 0, 0, 0, 0), [], []), (112, .iload 5, 2, (0, 0, 0, 0, 0), [], []), (114, .iadd, 1, (0, 0, 0, 0, 0), [], []), (115, .laload, 1, (0, 0, 0, 0, 0), [], []), (116, .aload_n 0, 1, (0, 0, 0, 0, 0), [], []), (117, .getfield 67, 3, (11, 35, 2, 1290, 0), [], []), (120, .bipush 40, 2, (0, 0, 0, 0, 0), [], []), (122, .iload_n 1, 1, (0, 0, 0, 0, 0), [], []), (123, .imul, 1, (0, 0, 0, 0, 0), [], []), (124, .iload 4, 2, (0, 0, 0, 0, 0), [], []), (126, .iadd, 1, (0, 0, 0, 0, 0), [], []), (127, .laload, 1, (0, 0, 0, 0, 0), [], []), (128, .lcmp, 1, (0, 0, 0, 0, 0), [], []), (129, .ifCond .ne 6, 3, (135, 0, 0, 0, 0), [0, 1, 2, 4, 5], [])], 0, [])),
  (132, ([(132, .bipush (-3), 2, (0, 0, 0, 0, 0), [], []), (134, .ireturn, 1, (0, 0, 0, 0, 0), [], [])], 0, [])),
  (135, ([(135, .iinc 5 1, 3, (0, 0, 0, 0, 0), [], []), (138, .goto (-41), 3, (97, 0, 0, 0, 0), [0, 1, 2, 4, 5], [])], 0, [])),
  (141, ([(141, .iinc 4 1, 3, (0, 0, 0, 0, 0), [], []), (144, .goto (-83), 3, (61, 0, 0, 0, 0), [0, 1, 2, 4], [])], 0, [])),
  (147, ([(147, .aload_n 0, 1, (0, 0, 0, 0, 0), [], []), (148, .iconst (-1), 1, (0, 0, 0, 0, 0), [], []), (149, .putfield 411, 3, (11, 32, 0, 1287, 0), [], [])], 152, [0, 1, 2])),
  (152, ([(152, .aload_n 0, 1, (0, 0, 0, 0, 0), [], []), (153, .iload_n 1, 1, (0, 0, 0, 0, 0), [], []), (154, .iconst 0, 1, (0, 0, 0, 0, 0), [], []), (155, .iconst 0, 1, (0, 0, 0, 0, 0), [], []), (156, .aload_n 0, 1, (0, 0, 0, 0, 0), [], []), (157, .getfield 13, 3, (11, 1, 2, 1256, 0), [], []), (160, .bipush 59, 2, (0, 0, 0, 0, 0), [], []), (162, .iaload, 1, (20, 0, 0, 0, 0), [], []), (163, .iconst 0, 1, (0, 0, 0, 0, 0), [], []), (164, .invokevirtual 414, 3, (239, 6, 11, 11, 1755), [0, 1, 2], [8])], 0, [])),
  (167, ([(167, .iload_n 2, 1, (0, 0, 0, 0, 0), [], []), (168, .ifCond .ne 10, 3, (178, 0, 0, 0, 0), [0, 1, 2], [0])], 0, [])),
  (171, ([(171, .aload_n 0, 1, (0, 0, 0, 0, 0), [], []), (172, .getfield 411, 3, (11, 32, 0, 1287, 0), [], []), (175, .goto 29, 3, (204, 0, 0, 0, 0), [], [])], 0, [])),
  (178, ([(178, .iload_n 2, 1, (0, 0, 0, 0, 0), [], []), (179, .bipush 10, 2, (0, 0, 0, 0, 0), [], []), (181, .isub, 1, (0, 0, 0, 0, 0), [], []), (182, .aload_n 0, 1, (0, 0, 0, 0, 0), [], []), (183, .getfield 64, 3, (11, 34, 2, 1289, 0), [], []), (186, .iload_n 1, 1, (0, 0, 0, 0, 0), [], []), (187, .iaload, 1, (20, 0, 0, 0, 0), [], []), (188, .if_icmp .ge 15, 3, (203, 0, 0, 0, 0), [], [0, 2])], 0, [])),
  (191, ([(191, .aload_n 0, 1, (0, 0, 0, 0, 0), [], []), (192, .getfield 58, 3, (11, 31, 2, 1286, 0), [], []), (195, .iload_n 2, 1, (0, 0, 0, 0, 0), [], []), (196, .bipush 10, 2, (0, 0, 0, 0, 0), [], []), (198, .isub, 1, (0, 0, 0, 0, 0), [], []), (199, .iaload, 1, (20, 0, 0, 0, 0), [], []), (200, .goto 4, 3, (204, 0, 0, 0, 0), [], [])], 0, [])),
  (203, ([(203, .iconst (-1), 1, (0, 0, 0, 0, 0), [], [])], 204, [])),
  (204, ([(204, .ireturn, 1, (0, 0, 0, 0, 0), [], [])], 0, []))]
def cd_Hanging_joinedWithRemainder : List (Nat × AB) := [
  (0, ([(0, .iconst 0, 1, (0, 0, 0, 0, 0), [], []), (1, .istore_n 3, 1, (0, 0, 0, 0, 0), [], []), (2, .iconst 0, 1, (0, 0, 0, 0, 0), [], []), (3, .istore 4, 2, (0, 0, 0, 0, 0), [], [])], 5, [0, 1, 2, 3, 4])),
  (5, ([(5, .iload 4, 2, (0, 0, 0, 0, 0), [], []), (7, .aload_n 1, 1, (0, 0, 0, 0, 0), [], []), (8, .getfield 47, 3, (9, 5, 0, 136, 0), [], []), (11, .if_icmp .ge 49, 3, (60, 0, 0, 0, 0), [3], [0, 1, 2, 3, 4])], 0, [])),
  (14, ([(14, .aload_n 0, 1, (0, 0, 0, 0, 0), [], []), (15, .iload 4, 2, (0, 0, 0, 0, 0), [], []), (17, .invokevirtual 37, 3, (37, 2, 10, 0, 618), [0, 1, 2, 3, 4], [2])], 0, [])),
  (20, ([(20, .ifCond .eq 34, 3, (54, 0, 0, 0, 0), [0, 1, 2, 3, 4], [0, 1, 2, 3, 4])], 0, [])),
  (23, ([(23, .aload_n 1, 1, (0, 0, 0, 0, 0), [], []), (24, .getfield 71, 3, (9, 11, 0, 165, 0), [], []), (27, .ifCond .le 27, 3, (54, 0, 0, 0, 0), [0, 1, 2, 3, 4], [0, 1, 2, 3, 4])], 0, [])),
  (30, ([(30, .aload_n 0, 1, (0, 0, 0, 0, 0), [], []), (31, .getfield 9, 3, (0, 0, 2, 218, 0), [], []), (34, .iload 4, 2, (0, 0, 0, 0, 0), [], []), (36, .iaload, 1, (20, 0, 0, 0, 0), [], []), (37, .iload 4, 2, (0, 0, 0, 0, 0), [], []), (39, .isub, 1, (0, 0, 0, 0, 0), [], []), (40, .aload_n 1, 1, (0, 0, 0, 0, 0), [], []), (41, .getfield 71, 3, (9, 11, 0, 165, 0), [], []), (44, .invokestatic 74, 3, (150, 2, 0, 0, 1079), [0, 1, 2, 3, 4], [3])], 0, [])),
  (47, ([(47, .iload_n 2, 1, (0, 0, 0, 0, 0), [], []), (48, .if_icmp .ne 6, 3, (54, 0, 0, 0, 0), [0, 1, 2, 3, 4], [0, 1, 2, 3, 4])], 0, [])),
  (51, ([(51, .iinc 3 1, 3, (0, 0, 0, 0, 0), [], [])], 54, [0, 1, 2, 3, 4])),
  (54, ([(54, .iinc 4 1, 3, (0, 0, 0, 0, 0), [], []), (57, .goto (-52), 3, (5, 0, 0, 0, 0), [0, 1, 2, 3, 4], [])], 0, [])),
  (60, ([(60, .iload_n 3, 1, (0, 0, 0, 0, 0), [], []), (61, .ireturn, 1, (0, 0, 0, 0, 0), [], [])], 0, []))]
def cd_Hook_pleats : List (Nat × AB) := [
  (0, ([(0, .iload_n 1, 1, (0, 0, 0, 0, 0), [], []), (1, .ifCond .eq 11, 3, (12, 0, 0, 0, 0), [0, 1], [0, 1])], 0, [])),
  (4, ([(4, .iload_n 1, 1, (0, 0, 0, 0, 0), [], []), (5, .iconst 1, 1, (0, 0, 0, 0, 0), [], []), (6, .if_icmp .eq 6, 3, (12, 0, 0, 0, 0), [0, 1], [])], 0, [])),
  (9, ([(9, .bipush (-2), 2, (0, 0, 0, 0, 0), [], []), (11, .ireturn, 1, (0, 0, 0, 0, 0), [], [])], 0, [])),
  (12, ([(12, .aload_n 0, 1, (0, 0, 0, 0, 0), [], []), (13, .getfield 33, 3, (10, 5, 2, 359, 0), [], []), (16, .getfield 332, 3, (9, 11, 0, 166, 0), [], []), (19, .ifCond .ne 6, 3, (25, 0, 0, 0, 0), [0, 1], [])], 0, [])),
  (22, ([(22, .bipush (-5), 2, (0, 0, 0, 0, 0), [], []), (24, .ireturn, 1, (0, 0, 0, 0, 0), [], [])], 0, [])),
  (25, ([(25, .iconst 0, 1, (0, 0, 0, 0, 0), [], []), (26, .istore_n 2, 1, (0, 0, 0, 0, 0), [], []), (27, .iconst (-1), 1, (0, 0, 0, 0, 0), [], []), (28, .istore_n 3, 1, (0, 0, 0, 0, 0), [], []), (29, .iconst 0, 1, (0, 0, 0, 0, 0), [], []), (30, .istore 4, 2, (0, 0, 0, 0, 0), [], [])], 32, [0, 1, 2, 3, 4])),
  (32, ([(32, .iload 4, 2, (0, 0, 0, 0, 0), [], []), (34, .aload_n 0, 1, (0, 0, 0, 0, 0), [], []), (35, .getfield 33, 3, (10, 5, 2, 359, 0), [], []), (38, .getfield 332, 3, (9, 11, 0, 166, 0), [], []), (41, .if_icmp .ge 36, 3, (77, 0, 0, 0, 0), [1, 2, 3], [0, 1, 2, 3, 4])], 0, [])),
  (44, ([(44, .aload_n 0, 1, (0, 0, 0, 0, 0), [], []), (45, .getfield 43, 3, (10, 7, 2, 361, 0), [], []), (48, .aload_n 0, 1, (0, 0, 0, 0, 0), [], []), (49, .getfield 33, 3, (10, 5, 2, 359, 0), [], []), (52, .iload 4, 2, (0, 0, 0, 0, 0), [], []), (54, .invokevirtual 335, 3, (241, 3, 10, 0, 1075), [0, 1, 2, 3, 4], [5])], 0, [])),
  (57, ([(57, .istore 5, 2, (0, 0, 0, 0, 0), [], []), (59, .iload 5, 2, (0, 0, 0, 0, 0), [], []), (61, .iload_n 2, 1, (0, 0, 0, 0, 0), [], []), (62, .if_icmp .le 9, 3, (71, 0, 0, 0, 0), [0, 1, 2, 3, 4], [0, 1, 4, 5])], 0, [])),
  (65, ([(65, .iload 5, 2, (0, 0, 0, 0, 0), [], []), (67, .istore_n 2, 1, (0, 0, 0, 0, 0), [], []), (68, .iload 4, 2, (0, 0, 0, 0, 0), [], []), (70, .istore_n 3, 1, (0, 0, 0, 0, 0), [], [])], 71, [0, 1, 2, 3, 4])),
  (71, ([(71, .iinc 4 1, 3, (0, 0, 0, 0, 0), [], []), (74, .goto (-42), 3, (32, 0, 0, 0, 0), [0, 1, 2, 3, 4], [])], 0, [])),
  (77, ([(77, .iload_n 1, 1, (0, 0, 0, 0, 0), [], []), (78, .ifCond .ne 7, 3, (85, 0, 0, 0, 0), [3], [2])], 0, [])),
  (81, ([(81, .iload_n 2, 1, (0, 0, 0, 0, 0), [], []), (82, .goto 4, 3, (86, 0, 0, 0, 0), [], [])], 0, [])),
  (85, ([(85, .iload_n 3, 1, (0, 0, 0, 0, 0), [], [])], 86, [])),
  (86, ([(86, .ireturn, 1, (0, 0, 0, 0, 0), [], [])], 0, []))]
def cd_Mod_pleats : List (Nat × AB) := [
  (0, ([(0, .aload_n 0, 1, (0, 0, 0, 0, 0), [], []), (1, .iconst 0, 1, (0, 0, 0, 0, 0), [], []), (2, .putfield 1, 3, (11, 0, 0, 1255, 0), [], [])], 5, [0, 1])),
  (5, ([(5, .iload_n 1, 1, (0, 0, 0, 0, 0), [], []), (6, .i2l, 1, (0, 0, 0, 0, 0), [], []), (7, .lconst 0, 1, (0, 0, 0, 0, 0), [], []), (8, .lconst 1, 1, (0, 0, 0, 0, 0), [], []), (9, .invokestatic 136, 3, (71, 3, 0, 0, 1372), [0, 1], [6])], 0, [])),
  (12, ([(12, .ifCond .ne 6, 3, (18, 0, 0, 0, 0), [0, 1], [])], 0, [])),
  (15, ([(15, .bipush (-2), 2, (0, 0, 0, 0, 0), [], []), (17, .ireturn, 1, (0, 0, 0, 0, 0), [], [])], 0, [])),
  (18, ([(18, .aload_n 0, 1, (0, 0, 0, 0, 0), [], []), (19, .getfield 13, 3, (11, 1, 2, 1256, 0), [], []), (22, .bipush 6, 2, (0, 0, 0, 0, 0), [], []), (24, .iaload, 1, (20, 0, 0, 0, 0), [], []), (25, .ifCond .ne 6, 3, (31, 0, 0, 0, 0), [0, 1], [])], 0, [])),
  (28, ([(28, .bipush (-5), 2, (0, 0, 0, 0, 0), [], []), (30, .ireturn, 1, (0, 0, 0, 0, 0), [], [])], 0, [])),
  (31, ([(31, .iconst 0, 1, (0, 0, 0, 0, 0), [], []), (32, .istore_n 2, 1, (0, 0, 0, 0, 0), [], []), (33, .iconst (-1), 1, (0, 0, 0, 0, 0), [], []), (34, .istore_n 3, 1, (0, 0, 0, 0, 0), [], []), (35, .iconst 0, 1, (0, 0, 0, 0, 0), [], []), (36, .istore 4, 2, (0, 0, 0, 0, 0), [], [])], 38, [0, 1, 2, 3, 4])),
  (38, ([(38, .iload 4, 2, (0, 0, 0, 0, 0), [], []), (40, .aload_n 0, 1, (0, 0, 0, 0, 0), [], []), (41, .getfield 13, 3, (11, 1, 2, 1256, 0), [], []), (44, .bipush 6, 2, (0, 0, 0, 0, 0), [], []), (46, .iaload, 1, (20, 0, 0, 0, 0), [], []), (47, .if_icmp .ge 100, 3, (147, 0, 0, 0, 0), [1, 2, 3], [0, 1, 2, 3, 4])], 0, [])),
  (50, ([(50, .iconst 0, 1, (0, 0, 0, 0, 0), [], []), (51, .istore 5, 2, (0, 0, 0, 0, 0), [], []), (53, .iconst 0, 1, (0, 0, 0, 0, 0), [], []), (54, .istore 6, 2, (0, 0, 0, 0, 0), [], [])], 56, [0, 1, 2, 3, 4, 5, 6])),
  (56, ([(56, .iload 6, 2, (0, 0, 0, 0, 0), [], []), (58, .aload_n 0, 1, (0, 0, 0, 0, 0), [], []), (59, .getfield 13, 3, (11, 1, 2, 1256, 0), [], []), (62, .iconst 1, 1, (0, 0, 0, 0, 0), [], []), (63, .iaload, 1, (20, 0, 0, 0, 0), [], []), (64, .if_icmp .ge 62, 3, (126, 0, 0, 0, 0), [0, 1, 2, 3, 4, 5], [0, 1, 2, 3, 4, 5, 6])], 0, [])),
  (67, ([(67, .iload 5, 2, (0, 0, 0, 0, 0), [], []), (69, .aload_n 0, 1, (0, 0, 0, 0, 0), [], []), (70, .getfield 13, 3, (11, 1, 2, 1256, 0), [], []), (73, .bipush 61, 2, (0, 0, 0, 0, 0), [], []), (75, .iload 6, 2, (0, 0, 0, 0, 0), [], []), (77, .iadd, 1, (0, 0, 0, 0, 0), [], []), (78, .iaload, 1, (20, 0, 0, 0, 0), [], []), (79, .iconst (-1), 1, (0, 0, 0, 0, 0), [], []), (80, .if_icmp .eq 36, 3, (116, 0, 0, 0, 0), [0, 1, 2, 3, 4, 6], [0, 1, 2, 3, 4, 6])], 0, [])),
  (83, ([(83, .aload_n 0, 1, (0, 0, 0, 0, 0), [], []), (84, .getfield 13, 3, (11, 1, 2, 1256, 0), [], []), (87, .bipush 61, 2, (0, 0, 0, 0, 0), [], []), (89, .iload 6, 2, (0, 0, 0, 0, 0), [], []), (91, .iadd, 1, (0, 0, 0, 0, 0), [], []), (92, .iaload, 1, (20, 0, 0, 0, 0), [], []), (93, .iload 6, 2, (0, 0, 0, 0, 0), [], []), (95, .isub, 1, (0, 0, 0, 0, 0), [], []), (96, .bipush 60, 2, (0, 0, 0, 0, 0), [], []), (98, .iadd, 1, (0, 0, 0, 0, 0), [], []), (99, .aload_n 0, 1, (0, 0, 0, 0, 0), [], []), (100, .getfield 13, 3, (11, 1, 2, 1256, 0), [], []), (103, .bipush 6, 2, (0, 0, 0, 0, 0), [], []), (105, .iaload, 1, (20, 0, 0, 0, 0), [], []), (106, .irem, 1, (0, 0, 0, 0, 0), [], []), (107, .iload 4, 2, (0, 0, 0, 0, 0), [], []), (109, .if_icmp .ne 7, 3, (116, 0, 0, 0, 0), [0, 1, 2, 3, 4, 6], [0, 1, 2, 3, 4, 6])], 0, [])),
  (112, ([(112, .iconst 1, 1, (0, 0, 0, 0, 0), [], []), (113, .goto 4, 3, (117, 0, 0, 0, 0), [0, 1, 2, 3, 4, 6], [])], 0, [])),
  (116, ([(116, .iconst 0, 1, (0, 0, 0, 0, 0), [], [])], 117, [0, 1, 2, 3, 4, 6])),
  (117, ([(117, .iadd, 1, (0, 0, 0, 0, 0), [], []), (118, .istore 5, 2, (0, 0, 0, 0, 0), [], []), (120, .iinc 6 1, 3, (0, 0, 0, 0, 0), [], []), (123, .goto (-67), 3, (56, 0, 0, 0, 0), [0, 1, 2, 3, 4, 5, 6], [])], 0, [])),
  (126, ([(126, .iload 5, 2, (0, 0, 0, 0, 0), [], []), (128, .iload_n 2, 1, (0, 0, 0, 0, 0), [], []), (129, .if_icmp .gt 6, 3, (135, 0, 0, 0, 0), [0, 1, 4, 5], [0, 1, 2, 3, 4])], 0, [])),
  (132, ([(132, .goto 9, 3, (141, 0, 0, 0, 0), [0, 1, 2, 3, 4], [])], 0, [])),
  (135, ([(135, .iload 5, 2, (0, 0, 0, 0, 0), [], []), (137, .istore_n 2, 1, (0, 0, 0, 0, 0), [], []), (138, .iload 4, 2, (0, 0, 0, 0, 0), [], []), (140, .istore_n 3, 1, (0, 0, 0, 0, 0), [], [])], 141, [0, 1, 2, 3, 4])),
  (141, ([(141, .iinc 4 1, 3, (0, 0, 0, 0, 0), [], []), (144, .goto (-106), 3, (38, 0, 0, 0, 0), [0, 1, 2, 3, 4], [])], 0, [])),
  (147, ([(147, .iload_n 1, 1, (0, 0, 0, 0, 0), [], []), (148, .ifCond .ne 7, 3, (155, 0, 0, 0, 0), [3], [2])], 0, [])),
  (151, ([(151, .iload_n 2, 1, (0, 0, 0, 0, 0), [], []), (152, .goto 4, 3, (156, 0, 0, 0, 0), [], [])], 0, [])),
  (155, ([(155, .iload_n 3, 1, (0, 0, 0, 0, 0), [], [])], 156, [])),
  (156, ([(156, .ireturn, 1, (0, 0, 0, 0, 0), [], [])], 0, []))]
def cd_Reckoner_power : List (Nat × AB) := [
  (0, ([(0, .lconst 1, 1, (0, 0, 0, 0, 0), [], []), (1, .lstore_n 3, 1, (0, 0, 0, 0, 0), [], []), (2, .iconst 0, 1, (0, 0, 0, 0, 0), [], []), (3, .istore 5, 2, (0, 0, 0, 0, 0), [], [])], 5, [0, 2, 3, 5])),
  (5, ([(5, .iload 5, 2, (0, 0, 0, 0, 0), [], []), (7, .iload_n 2, 1, (0, 0, 0, 0, 0), [], []), (8, .if_icmp .ge 13, 3, (21, 0, 0, 0, 0), [3], [0, 2, 3, 5])], 0, [])),
  (11, ([(11, .lload_n 3, 1, (0, 0, 0, 0, 0), [], []), (12, .lload_n 0, 1, (0, 0, 0, 0, 0), [], []), (13, .lmul, 1, (0, 0, 0, 0, 0), [], []), (14, .lstore_n 3, 1, (0, 0, 0, 0, 0), [], []), (15, .iinc 5 1, 3, (0, 0, 0, 0, 0), [], []), (18, .goto (-13), 3, (5, 0, 0, 0, 0), [0, 2, 3, 5], [])], 0, [])),
  (21, ([(21, .lload_n 3, 1, (0, 0, 0, 0, 0), [], []), (22, .lreturn, 1, (0, 0, 0, 0, 0), [], [])], 0, []))]
def cd_Reckoner_upperOfGroup : List (Nat × AB) := [
  (0, ([(0, .iload_n 1, 1, (0, 0, 0, 0, 0), [], []), (1, .i2l, 1, (0, 0, 0, 0, 0), [], []), (2, .aload_n 0, 1, (0, 0, 0, 0, 0), [], []), (3, .getfield 68, 3, (9, 10, 0, 161, 0), [], []), (6, .i2l, 1, (0, 0, 0, 0, 0), [], []), (7, .lmul, 1, (0, 0, 0, 0, 0), [], []), (8, .aload_n 0, 1, (0, 0, 0, 0, 0), [], []), (9, .getfield 71, 3, (9, 13, 0, 172, 0), [], []), (12, .i2l, 1, (0, 0, 0, 0, 0), [], []), (13, .ladd, 1, (0, 0, 0, 0, 0), [], []), (14, .lstore_n 2, 1, (0, 0, 0, 0, 0), [], []), (15, .lload_n 2, 1, (0, 0, 0, 0, 0), [], []), (16, .ldc2_w 74, 3, (0, 0, 0, 1092, 10), [], []), (19, .iload_n 1, 1, (0, 0, 0, 0, 0), [], []), (20, .invokestatic 57, 3, (244, 2, 0, 0, 1093), [0, 1], [6])], 0, [])),
  (23, ([(23, .lmul, 1, (0, 0, 0, 0, 0), [], []), (24, .bipush 10, 2, (0, 0, 0, 0, 0), [], []), (26, .aload_n 0, 1, (0, 0, 0, 0, 0), [], []), (27, .getfield 54, 3, (9, 12, 0, 169, 0), [], []), (30, .isub, 1, (0, 0, 0, 0, 0), [], []), (31, .i2l, 1, (0, 0, 0, 0, 0), [], []), (32, .bipush 12, 2, (0, 0, 0, 0, 0), [], []), (34, .iload_n 1, 1, (0, 0, 0, 0, 0), [], []), (35, .isub, 1, (0, 0, 0, 0, 0), [], []), (36, .invokestatic 57, 3, (244, 2, 0, 0, 1093), [], [6])], 0, [])),
  (39, ([(39, .lmul, 1, (0, 0, 0, 0, 0), [], []), (40, .lreturn, 1, (0, 0, 0, 0, 0), [], [])], 0, []))]
def cd_Reckoner_averageUpper : List (Nat × AB) := [
  (0, ([(0, .lconst 0, 1, (0, 0, 0, 0, 0), [], []), (1, .lstore_n 2, 1, (0, 0, 0, 0, 0), [], []), (2, .iconst 1, 1, (0, 0, 0, 0, 0), [], []), (3, .iload_n 1, 1, (0, 0, 0, 0, 0), [], []), (4, .invokestatic 36, 3, (21, 2, 0, 0, 1045), [0, 2], [2])], 0, [])),
  (7, ([(7, .istore 4, 2, (0, 0, 0, 0, 0), [], []), (9, .iconst 0, 1, (0, 0, 0, 0, 0), [], []), (10, .istore 5, 2, (0, 0, 0, 0, 0), [], [])], 12, [0, 2, 4, 5])),
  (12, ([(12, .iload 5, 2, (0, 0, 0, 0, 0), [], []), (14, .aload_n 0, 1, (0, 0, 0, 0, 0), [], []), (15, .getfield 61, 3, (9, 5, 0, 140, 0), [], []), (18, .if_icmp .ge 32, 3, (50, 0, 0, 0, 0), [2], [0, 2, 4, 5])], 0, [])),
  (21, ([(21, .lload_n 2, 1, (0, 0, 0, 0, 0), [], []), (22, .aload_n 0, 1, (0, 0, 0, 0, 0), [], []), (23, .iload 4, 2, (0, 0, 0, 0, 0), [], []), (25, .aload_n 0, 1, (0, 0, 0, 0, 0), [], []), (26, .getfield 61, 3, (9, 5, 0, 140, 0), [], []), (29, .iload 5, 2, (0, 0, 0, 0, 0), [], []), (31, .isub, 1, (0, 0, 0, 0, 0), [], []), (32, .invokestatic 19, 3, (20, 2, 0, 0, 1036), [0, 4, 5], [2])], 0, [])),
  (35, ([(35, .invokestatic 64, 3, (245, 2, 0, 0, 1089), [0, 4, 5], [4])], 0, [])),
  (38, ([(38, .ladd, 1, (0, 0, 0, 0, 0), [], []), (39, .lstore_n 2, 1, (0, 0, 0, 0, 0), [], []), (40, .iload 5, 2, (0, 0, 0, 0, 0), [], []), (42, .iload 4, 2, (0, 0, 0, 0, 0), [], []), (44, .iadd, 1, (0, 0, 0, 0, 0), [], []), (45, .istore 5, 2, (0, 0, 0, 0, 0), [], []), (47, .goto (-35), 3, (12, 0, 0, 0, 0), [0, 2, 4, 5], [])], 0, [])),
  (50, ([(50, .lload_n 2, 1, (0, 0, 0, 0, 0), [], []), (51, .lreturn, 1, (0, 0, 0, 0, 0), [], [])], 0, []))]
def cd_Reckoner_averageLower : List (Nat × AB) := [
  (0, ([(0, .bipush 10, 2, (0, 0, 0, 0, 0), [], []), (2, .aload_n 0, 1, (0, 0, 0, 0, 0), [], []), (3, .getfield 54, 3, (9, 12, 0, 169, 0), [], []), (6, .isub, 1, (0, 0, 0, 0, 0), [], []), (7, .i2l, 1, (0, 0, 0, 0, 0), [], []), (8, .bipush 12, 2, (0, 0, 0, 0, 0), [], []), (10, .invokestatic 57, 3, (244, 2, 0, 0, 1093), [], [6])], 0, [])),
  (13, ([(13, .lreturn, 1, (0, 0, 0, 0, 0), [], [])], 0, []))]
def cd_Reckoner_commonDivisor : List (Nat × AB) := [
  (0, ([(0, .lload_n 0, 1, (0, 0, 0, 0, 0), [], []), (1, .lstore 4, 2, (0, 0, 0, 0, 0), [], []), (3, .lload_n 2, 1, (0, 0, 0, 0, 0), [], []), (4, .lstore 6, 2, (0, 0, 0, 0, 0), [], []), (6, .iconst 0, 1, (0, 0, 0, 0, 0), [], []), (7, .istore 8, 2, (0, 0, 0, 0, 0), [], [])], 9, [4, 6, 8])),
  (9, ([(9, .iload 8, 2, (0, 0, 0, 0, 0), [], []), (11, .sipush 200, 3, (0, 0, 0, 0, 0), [], []), (14, .if_icmp .ge 31, 3, (45, 0, 0, 0, 0), [4], [4, 6, 8])], 0, [])),
  (17, ([(17, .lload 6, 2, (0, 0, 0, 0, 0), [], []), (19, .lconst 0, 1, (0, 0, 0, 0, 0), [], []), (20, .lcmp, 1, (0, 0, 0, 0, 0), [], []), (21, .ifCond .eq 24, 3, (45, 0, 0, 0, 0), [4], [4, 6, 8])], 0, [])),
  (24, ([(24, .lload 4, 2, (0, 0, 0, 0, 0), [], []), (26, .lload 6, 2, (0, 0, 0, 0, 0), [], []), (28, .lrem, 1, (0, 0, 0, 0, 0), [], []), (29, .lstore 9, 2, (0, 0, 0, 0, 0), [], []), (31, .lload 6, 2, (0, 0, 0, 0, 0), [], []), (33, .lstore 4, 2, (0, 0, 0, 0, 0), [], []), (35, .lload 9, 2, (0, 0, 0, 0, 0), [], []), (37, .lstore 6, 2, (0, 0, 0, 0, 0), [], []), (39, .iinc 8 1, 3, (0, 0, 0, 0, 0), [], []), (42, .goto (-33), 3, (9, 0, 0, 0, 0), [4, 6, 8], [])], 0, [])),
  (45, ([(45, .lload 4, 2, (0, 0, 0, 0, 0), [], []), (47, .lreturn, 1, (0, 0, 0, 0, 0), [], [])], 0, []))]
def cd_Hook_average : List (Nat × AB) := [
  (0, ([(0, .iload_n 2, 1, (0, 0, 0, 0, 0), [], []), (1, .ifCond .eq 12, 3, (13, 0, 0, 0, 0), [0, 1, 2], [0, 1, 2])], 0, [])),
  (4, ([(4, .iload_n 2, 1, (0, 0, 0, 0, 0), [], []), (5, .iconst 1, 1, (0, 0, 0, 0, 0), [], []), (6, .if_icmp .eq 7, 3, (13, 0, 0, 0, 0), [0, 1, 2], [])], 0, [])),
  (9, ([(9, .ldc2_w 338, 3, (0, 0, 0, 1084, (-2)), [], []), (12, .lreturn, 1, (0, 0, 0, 0, 0), [], [])], 0, [])),
  (13, ([(13, .iload_n 1, 1, (0, 0, 0, 0, 0), [], []), (14, .iconst 1, 1, (0, 0, 0, 0, 0), [], []), (15, .if_icmp .lt 9, 3, (24, 0, 0, 0, 0), [], [0, 1, 2])], 0, [])),
  (18, ([(18, .iload_n 1, 1, (0, 0, 0, 0, 0), [], []), (19, .bipush 12, 2, (0, 0, 0, 0, 0), [], []), (21, .if_icmp .le 7, 3, (28, 0, 0, 0, 0), [0, 1, 2], [])], 0, [])),
  (24, ([(24, .ldc2_w 258, 3, (0, 0, 0, 924, (-3)), [], []), (27, .lreturn, 1, (0, 0, 0, 0, 0), [], [])], 0, [])),
  (28, ([(28, .aload_n 0, 1, (0, 0, 0, 0, 0), [], []), (29, .getfield 33, 3, (10, 5, 2, 359, 0), [], []), (32, .getfield 140, 3, (9, 5, 0, 137, 0), [], []), (35, .ifCond .ne 7, 3, (42, 0, 0, 0, 0), [0, 1, 2], [])], 0, [])),
  (38, ([(38, .ldc2_w 340, 3, (0, 0, 0, 1085, (-5)), [], []), (41, .lreturn, 1, (0, 0, 0, 0, 0), [], [])], 0, [])),
  (42, ([(42, .aload_n 0, 1, (0, 0, 0, 0, 0), [], []), (43, .getfield 33, 3, (10, 5, 2, 359, 0), [], []), (46, .iload_n 1, 1, (0, 0, 0, 0, 0), [], []), (47, .invokestatic 342, 3, (246, 2, 0, 0, 1086), [0, 2], [6])], 0, [])),
  (50, ([(50, .lstore_n 3, 1, (0, 0, 0, 0, 0), [], []), (51, .aload_n 0, 1, (0, 0, 0, 0, 0), [], []), (52, .getfield 33, 3, (10, 5, 2, 359, 0), [], []), (55, .invokestatic 346, 3, (247, 1, 0, 0, 1096), [2, 3], [1])], 0, [])),
  (58, ([(58, .lstore 5, 2, (0, 0, 0, 0, 0), [], []), (60, .lload_n 3, 1, (0, 0, 0, 0, 0), [], []), (61, .lload 5, 2, (0, 0, 0, 0, 0), [], []), (63, .invokestatic 350, 3, (248, 2, 0, 0, 1099), [2, 3, 5], [11])], 0, [])),
  (66, ([(66, .lstore 7, 2, (0, 0, 0, 0, 0), [], []), (68, .lload 7, 2, (0, 0, 0, 0, 0), [], []), (70, .lconst 0, 1, (0, 0, 0, 0, 0), [], []), (71, .lcmp, 1, (0, 0, 0, 0, 0), [], []), (72, .ifCond .ne 5, 3, (77, 0, 0, 0, 0), [2, 3, 5, 7], [])], 0, [])),
  (75, ([(75, .lconst 0, 1, (0, 0, 0, 0, 0), [], []), (76, .lreturn, 1, (0, 0, 0, 0, 0), [], [])], 0, [])),
  (77, ([(77, .iload_n 2, 1, (0, 0, 0, 0, 0), [], []), (78, .ifCond .ne 10, 3, (88, 0, 0, 0, 0), [5, 7], [3, 7])], 0, [])),
  (81, ([(81, .lload_n 3, 1, (0, 0, 0, 0, 0), [], []), (82, .lload 7, 2, (0, 0, 0, 0, 0), [], []), (84, .ldiv, 1, (0, 0, 0, 0, 0), [], []), (85, .goto 8, 3, (93, 0, 0, 0, 0), [], [])], 0, [])),
  (88, ([(88, .lload 5, 2, (0, 0, 0, 0, 0), [], []), (90, .lload 7, 2, (0, 0, 0, 0, 0), [], []), (92, .ldiv, 1, (0, 0, 0, 0, 0), [], [])], 93, [])),
  (93, ([(93, .lreturn, 1, (0, 0, 0, 0, 0), [], [])], 0, []))]
def cd_Mod_power : List (Nat × AB) := [
  (0, ([(0, .lconst 1, 1, (0, 0, 0, 0, 0), [], []), (1, .lstore_n 3, 1, (0, 0, 0, 0, 0), [], []), (2, .iconst 0, 1, (0, 0, 0, 0, 0), [], []), (3, .istore 5, 2, (0, 0, 0, 0, 0), [], [])], 5, [0, 2, 3, 5])),
  (5, ([(5, .iload 5, 2, (0, 0, 0, 0, 0), [], []), (7, .iload_n 2, 1, (0, 0, 0, 0, 0), [], []), (8, .if_icmp .ge 13, 3, (21, 0, 0, 0, 0), [3], [0, 2, 3, 5])], 0, [])),
  (11, ([(11, .lload_n 3, 1, (0, 0, 0, 0, 0), [], []), (12, .lload_n 0, 1, (0, 0, 0, 0, 0), [], []), (13, .lmul, 1, (0, 0, 0, 0, 0), [], []), (14, .lstore_n 3, 1, (0, 0, 0, 0, 0), [], []), (15, .iinc 5 1, 3, (0, 0, 0, 0, 0), [], []), (18, .goto (-13), 3, (5, 0, 0, 0, 0), [0, 2, 3, 5], [])], 0, [])),
  (21, ([(21, .lload_n 3, 1, (0, 0, 0, 0, 0), [], []), (22, .lreturn, 1, (0, 0, 0, 0, 0), [], [])], 0, []))]
def cd_Mod_hungAtOnce : List (Nat × AB) := [
  (0, ([(0, .iload_n 1, 1, (0, 0, 0, 0, 0), [], []), (1, .ifCond .ne 7, 3, (8, 0, 0, 0, 0), [0, 1, 2], [])], 0, [])),
  (4, ([(4, .lconst 0, 1, (0, 0, 0, 0, 0), [], []), (5, .goto 47, 3, (52, 0, 0, 0, 0), [], [])], 0, [])),
  (8, ([(8, .iload_n 1, 1, (0, 0, 0, 0, 0), [], []), (9, .aload_n 0, 1, (0, 0, 0, 0, 0), [], []), (10, .getfield 13, 3, (11, 1, 2, 1256, 0), [], []), (13, .iconst 5, 1, (0, 0, 0, 0, 0), [], []), (14, .iaload, 1, (20, 0, 0, 0, 0), [], []), (15, .imul, 1, (0, 0, 0, 0, 0), [], []), (16, .aload_n 0, 1, (0, 0, 0, 0, 0), [], []), (17, .getfield 13, 3, (11, 1, 2, 1256, 0), [], []), (20, .bipush 8, 2, (0, 0, 0, 0, 0), [], []), (22, .iaload, 1, (20, 0, 0, 0, 0), [], []), (23, .iadd, 1, (0, 0, 0, 0, 0), [], []), (24, .i2l, 1, (0, 0, 0, 0, 0), [], []), (25, .ldc2_w 282, 3, (0, 0, 0, 1598, 10), [], []), (28, .iload_n 1, 1, (0, 0, 0, 0, 0), [], []), (29, .invokestatic 420, 3, (250, 2, 0, 0, 1777), [0, 1, 2], [6])], 0, [])),
  (32, ([(32, .lmul, 1, (0, 0, 0, 0, 0), [], []), (33, .ldc2_w 282, 3, (0, 0, 0, 1598, 10), [], []), (36, .aload_n 0, 1, (0, 0, 0, 0, 0), [], []), (37, .getfield 13, 3, (11, 1, 2, 1256, 0), [], []), (40, .bipush 7, 2, (0, 0, 0, 0, 0), [], []), (42, .iaload, 1, (20, 0, 0, 0, 0), [], []), (43, .i2l, 1, (0, 0, 0, 0, 0), [], []), (44, .lsub, 1, (0, 0, 0, 0, 0), [], []), (45, .iload_n 2, 1, (0, 0, 0, 0, 0), [], []), (46, .iload_n 1, 1, (0, 0, 0, 0, 0), [], []), (47, .isub, 1, (0, 0, 0, 0, 0), [], []), (48, .invokestatic 420, 3, (250, 2, 0, 0, 1777), [], [6])], 0, [])),
  (51, ([(51, .lmul, 1, (0, 0, 0, 0, 0), [], [])], 52, [])),
  (52, ([(52, .lreturn, 1, (0, 0, 0, 0, 0), [], [])], 0, []))]
def cd_Mod_averageBy : List (Nat × AB) := [
  (0, ([(0, .aload_n 0, 1, (0, 0, 0, 0, 0), [], []), (1, .getfield 13, 3, (11, 1, 2, 1256, 0), [], []), (4, .iconst 1, 1, (0, 0, 0, 0, 0), [], []), (5, .iaload, 1, (20, 0, 0, 0, 0), [], []), (6, .iload_n 1, 1, (0, 0, 0, 0, 0), [], []), (7, .idiv, 1, (0, 0, 0, 0, 0), [], []), (8, .i2l, 1, (0, 0, 0, 0, 0), [], []), (9, .aload_n 0, 1, (0, 0, 0, 0, 0), [], []), (10, .iload_n 1, 1, (0, 0, 0, 0, 0), [], []), (11, .iload_n 2, 1, (0, 0, 0, 0, 0), [], []), (12, .invokevirtual 424, 3, (251, 3, 10, 11, 1773), [0, 1, 2], [3])], 0, [])),
  (15, ([(15, .lmul, 1, (0, 0, 0, 0, 0), [], []), (16, .aload_n 0, 1, (0, 0, 0, 0, 0), [], []), (17, .aload_n 0, 1, (0, 0, 0, 0, 0), [], []), (18, .getfield 13, 3, (11, 1, 2, 1256, 0), [], []), (21, .iconst 1, 1, (0, 0, 0, 0, 0), [], []), (22, .iaload, 1, (20, 0, 0, 0, 0), [], []), (23, .iload_n 1, 1, (0, 0, 0, 0, 0), [], []), (24, .irem, 1, (0, 0, 0, 0, 0), [], []), (25, .iload_n 2, 1, (0, 0, 0, 0, 0), [], []), (26, .invokevirtual 424, 3, (251, 3, 10, 11, 1773), [], [3])], 0, [])),
  (29, ([(29, .ladd, 1, (0, 0, 0, 0, 0), [], []), (30, .lreturn, 1, (0, 0, 0, 0, 0), [], [])], 0, []))]
def cd_Mod_common : List (Nat × AB) := [
  (0, ([(0, .lload_n 2, 1, (0, 0, 0, 0, 0), [], []), (1, .lconst 0, 1, (0, 0, 0, 0, 0), [], []), (2, .lcmp, 1, (0, 0, 0, 0, 0), [], []), (3, .ifCond .ne 7, 3, (10, 0, 0, 0, 0), [0, 2], [0])], 0, [])),
  (6, ([(6, .lload_n 0, 1, (0, 0, 0, 0, 0), [], []), (7, .goto 10, 3, (17, 0, 0, 0, 0), [], [])], 0, [])),
  (10, ([(10, .lload_n 2, 1, (0, 0, 0, 0, 0), [], []), (11, .lload_n 0, 1, (0, 0, 0, 0, 0), [], []), (12, .lload_n 2, 1, (0, 0, 0, 0, 0), [], []), (13, .lrem, 1, (0, 0, 0, 0, 0), [], []), (14, .invokestatic 428, 3, (253, 2, 0, 0, 1780), [], [4])], 0, [])),
  (17, ([(17, .lreturn, 1, (0, 0, 0, 0, 0), [], [])], 0, []))]
def cd_Mod_average : List (Nat × AB) := [
  (0, ([(0, .aload_n 0, 1, (0, 0, 0, 0, 0), [], []), (1, .iconst 0, 1, (0, 0, 0, 0, 0), [], []), (2, .putfield 1, 3, (11, 0, 0, 1255, 0), [], [])], 5, [0, 1, 2])),
  (5, ([(5, .iload_n 2, 1, (0, 0, 0, 0, 0), [], []), (6, .i2l, 1, (0, 0, 0, 0, 0), [], []), (7, .lconst 0, 1, (0, 0, 0, 0, 0), [], []), (8, .lconst 1, 1, (0, 0, 0, 0, 0), [], []), (9, .invokestatic 136, 3, (71, 3, 0, 0, 1372), [0, 1, 2], [6])], 0, [])),
  (12, ([(12, .ifCond .ne 7, 3, (19, 0, 0, 0, 0), [0, 1, 2], [])], 0, [])),
  (15, ([(15, .ldc2_w 432, 3, (0, 0, 0, 1767, (-2)), [], []), (18, .lreturn, 1, (0, 0, 0, 0, 0), [], [])], 0, [])),
  (19, ([(19, .iload_n 1, 1, (0, 0, 0, 0, 0), [], []), (20, .i2l, 1, (0, 0, 0, 0, 0), [], []), (21, .lconst 1, 1, (0, 0, 0, 0, 0), [], []), (22, .ldc2_w 352, 3, (0, 0, 0, 1646, 12), [], []), (25, .invokestatic 136, 3, (71, 3, 0, 0, 1372), [0, 1, 2], [6])], 0, [])),
  (28, ([(28, .ifCond .ne 7, 3, (35, 0, 0, 0, 0), [0, 1, 2], [])], 0, [])),
  (31, ([(31, .ldc2_w 354, 3, (0, 0, 0, 1647, (-3)), [], []), (34, .lreturn, 1, (0, 0, 0, 0, 0), [], [])], 0, [])),
  (35, ([(35, .aload_n 0, 1, (0, 0, 0, 0, 0), [], []), (36, .getfield 13, 3, (11, 1, 2, 1256, 0), [], []), (39, .iconst 1, 1, (0, 0, 0, 0, 0), [], []), (40, .iaload, 1, (20, 0, 0, 0, 0), [], []), (41, .ifCond .ne 7, 3, (48, 0, 0, 0, 0), [0, 1, 2], [])], 0, [])),
  (44, ([(44, .ldc2_w 434, 3, (0, 0, 0, 1768, (-5)), [], []), (47, .lreturn, 1, (0, 0, 0, 0, 0), [], [])], 0, [])),
  (48, ([(48, .iload_n 1, 1, (0, 0, 0, 0, 0), [], []), (49, .aload_n 0, 1, (0, 0, 0, 0, 0), [], []), (50, .getfield 13, 3, (11, 1, 2, 1256, 0), [], []), (53, .iconst 1, 1, (0, 0, 0, 0, 0), [], []), (54, .iaload, 1, (20, 0, 0, 0, 0), [], []), (55, .if_icmp .ge 7, 3, (62, 0, 0, 0, 0), [0, 2], [0, 1, 2])], 0, [])),
  (58, ([(58, .iload_n 1, 1, (0, 0, 0, 0, 0), [], []), (59, .goto 9, 3, (68, 0, 0, 0, 0), [0, 2], [])], 0, [])),
  (62, ([(62, .aload_n 0, 1, (0, 0, 0, 0, 0), [], []), (63, .getfield 13, 3, (11, 1, 2, 1256, 0), [], []), (66, .iconst 1, 1, (0, 0, 0, 0, 0), [], []), (67, .iaload, 1, (20, 0, 0, 0, 0), [], [])], 68, [0, 2])),
  (68, ([(68, .istore_n 3, 1, (0, 0, 0, 0, 0), [], []), (69, .aload_n 0, 1, (0, 0, 0, 0, 0), [], []), (70, .iload_n 3, 1, (0, 0, 0, 0, 0), [], []), (71, .iload_n 3, 1, (0, 0, 0, 0, 0), [], []), (72, .invokevirtual 436, 3, (252, 3, 10, 11, 1769), [0, 2, 3], [3])], 0, [])),
  (75, ([(75, .lstore 4, 2, (0, 0, 0, 0, 0), [], []), (77, .ldc2_w 282, 3, (0, 0, 0, 1598, 10), [], []), (80, .aload_n 0, 1, (0, 0, 0, 0, 0), [], []), (81, .getfield 13, 3, (11, 1, 2, 1256, 0), [], []), (84, .bipush 7, 2, (0, 0, 0, 0, 0), [], []), (86, .iaload, 1, (20, 0, 0, 0, 0), [], []), (87, .i2l, 1, (0, 0, 0, 0, 0), [], []), (88, .lsub, 1, (0, 0, 0, 0, 0), [], []), (89, .iload_n 3, 1, (0, 0, 0, 0, 0), [], []), (90, .invokestatic 420, 3, (250, 2, 0, 0, 1777), [2, 4], [6])], 0, [])),
  (93, ([(93, .lstore 6, 2, (0, 0, 0, 0, 0), [], []), (95, .lload 4, 2, (0, 0, 0, 0, 0), [], []), (97, .lload 6, 2, (0, 0, 0, 0, 0), [], []), (99, .invokestatic 428, 3, (253, 2, 0, 0, 1780), [2, 4, 6], [4])], 0, [])),
  (102, ([(102, .lstore 8, 2, (0, 0, 0, 0, 0), [], []), (104, .iload_n 2, 1, (0, 0, 0, 0, 0), [], []), (105, .ifCond .ne 11, 3, (116, 0, 0, 0, 0), [6, 8], [4, 8])], 0, [])),
  (108, ([(108, .lload 4, 2, (0, 0, 0, 0, 0), [], []), (110, .lload 8, 2, (0, 0, 0, 0, 0), [], []), (112, .ldiv, 1, (0, 0, 0, 0, 0), [], []), (113, .goto 8, 3, (121, 0, 0, 0, 0), [], [])], 0, [])),
  (116, ([(116, .lload 6, 2, (0, 0, 0, 0, 0), [], []), (118, .lload 8, 2, (0, 0, 0, 0, 0), [], []), (120, .ldiv, 1, (0, 0, 0, 0, 0), [], [])], 121, [])),
  (121, ([(121, .lreturn, 1, (0, 0, 0, 0, 0), [], [])], 0, []))]
def cd_Hook_bestLook : List (Nat × AB) := [
  (0, ([(0, .aload_n 0, 1, (0, 0, 0, 0, 0), [], []), (1, .getfield 33, 3, (10, 5, 2, 359, 0), [], []), (4, .getfield 140, 3, (9, 5, 0, 137, 0), [], []), (7, .ifCond .ne 6, 3, (13, 0, 0, 0, 0), [0], [])], 0, [])),
  (10, ([(10, .bipush (-5), 2, (0, 0, 0, 0, 0), [], []), (12, .ireturn, 1, (0, 0, 0, 0, 0), [], [])], 0, [])),
  (13, ([(13, .iconst 1, 1, (0, 0, 0, 0, 0), [], []), (14, .istore_n 1, 1, (0, 0, 0, 0, 0), [], []), (15, .aload_n 0, 1, (0, 0, 0, 0, 0), [], []), (16, .getfield 33, 3, (10, 5, 2, 359, 0), [], []), (19, .iconst 1, 1, (0, 0, 0, 0, 0), [], []), (20, .invokestatic 342, 3, (246, 2, 0, 0, 1086), [0, 1], [6])], 0, [])),
  (23, ([(23, .lstore_n 2, 1, (0, 0, 0, 0, 0), [], []), (24, .iconst 2, 1, (0, 0, 0, 0, 0), [], []), (25, .istore 4, 2, (0, 0, 0, 0, 0), [], [])], 27, [0, 1, 2, 4])),
  (27, ([(27, .iload 4, 2, (0, 0, 0, 0, 0), [], []), (29, .aload_n 0, 1, (0, 0, 0, 0, 0), [], []), (30, .getfield 33, 3, (10, 5, 2, 359, 0), [], []), (33, .getfield 140, 3, (9, 5, 0, 137, 0), [], []), (36, .if_icmp .gt 33, 3, (69, 0, 0, 0, 0), [1], [0, 1, 2, 4])], 0, [])),
  (39, ([(39, .aload_n 0, 1, (0, 0, 0, 0, 0), [], []), (40, .getfield 33, 3, (10, 5, 2, 359, 0), [], []), (43, .iload 4, 2, (0, 0, 0, 0, 0), [], []), (45, .invokestatic 342, 3, (246, 2, 0, 0, 1086), [0, 1, 2, 4], [6])], 0, [])),
  (48, ([(48, .lstore 5, 2, (0, 0, 0, 0, 0), [], []), (50, .lload 5, 2, (0, 0, 0, 0, 0), [], []), (52, .lload_n 2, 1, (0, 0, 0, 0, 0), [], []), (53, .lcmp, 1, (0, 0, 0, 0, 0), [], []), (54, .ifCond .ge 9, 3, (63, 0, 0, 0, 0), [0, 1, 2, 4], [0, 4, 5])], 0, [])),
  (57, ([(57, .lload 5, 2, (0, 0, 0, 0, 0), [], []), (59, .lstore_n 2, 1, (0, 0, 0, 0, 0), [], []), (60, .iload 4, 2, (0, 0, 0, 0, 0), [], []), (62, .istore_n 1, 1, (0, 0, 0, 0, 0), [], [])], 63, [0, 1, 2, 4])),
  (63, ([(63, .iinc 4 1, 3, (0, 0, 0, 0, 0), [], []), (66, .goto (-39), 3, (27, 0, 0, 0, 0), [0, 1, 2, 4], [])], 0, [])),
  (69, ([(69, .iload_n 1, 1, (0, 0, 0, 0, 0), [], []), (70, .ireturn, 1, (0, 0, 0, 0, 0), [], [])], 0, []))]
def cd_Mod_bestLook : List (Nat × AB) := [
  (0, ([(0, .aload_n 0, 1, (0, 0, 0, 0, 0), [], []), (1, .iconst 0, 1, (0, 0, 0, 0, 0), [], []), (2, .putfield 1, 3, (11, 0, 0, 1255, 0), [], [])], 5, [0])),
  (5, ([(5, .aload_n 0, 1, (0, 0, 0, 0, 0), [], []), (6, .getfield 13, 3, (11, 1, 2, 1256, 0), [], []), (9, .iconst 1, 1, (0, 0, 0, 0, 0), [], []), (10, .iaload, 1, (20, 0, 0, 0, 0), [], []), (11, .ifCond .ne 6, 3, (17, 0, 0, 0, 0), [0], [])], 0, [])),
  (14, ([(14, .bipush (-5), 2, (0, 0, 0, 0, 0), [], []), (16, .ireturn, 1, (0, 0, 0, 0, 0), [], [])], 0, [])),
  (17, ([(17, .iconst 1, 1, (0, 0, 0, 0, 0), [], []), (18, .istore_n 1, 1, (0, 0, 0, 0, 0), [], []), (19, .iconst 2, 1, (0, 0, 0, 0, 0), [], []), (20, .istore_n 2, 1, (0, 0, 0, 0, 0), [], [])], 21, [0, 1, 2])),
  (21, ([(21, .iload_n 2, 1, (0, 0, 0, 0, 0), [], []), (22, .aload_n 0, 1, (0, 0, 0, 0, 0), [], []), (23, .getfield 13, 3, (11, 1, 2, 1256, 0), [], []), (26, .iconst 1, 1, (0, 0, 0, 0, 0), [], []), (27, .iaload, 1, (20, 0, 0, 0, 0), [], []), (28, .if_icmp .gt 37, 3, (65, 0, 0, 0, 0), [1], [0, 1, 2])], 0, [])),
  (31, ([(31, .aload_n 0, 1, (0, 0, 0, 0, 0), [], []), (32, .iload_n 2, 1, (0, 0, 0, 0, 0), [], []), (33, .aload_n 0, 1, (0, 0, 0, 0, 0), [], []), (34, .getfield 13, 3, (11, 1, 2, 1256, 0), [], []), (37, .iconst 1, 1, (0, 0, 0, 0, 0), [], []), (38, .iaload, 1, (20, 0, 0, 0, 0), [], []), (39, .invokevirtual 436, 3, (252, 3, 10, 11, 1769), [0, 1, 2], [3])], 0, [])),
  (42, ([(42, .aload_n 0, 1, (0, 0, 0, 0, 0), [], []), (43, .iload_n 1, 1, (0, 0, 0, 0, 0), [], []), (44, .aload_n 0, 1, (0, 0, 0, 0, 0), [], []), (45, .getfield 13, 3, (11, 1, 2, 1256, 0), [], []), (48, .iconst 1, 1, (0, 0, 0, 0, 0), [], []), (49, .iaload, 1, (20, 0, 0, 0, 0), [], []), (50, .invokevirtual 436, 3, (252, 3, 10, 11, 1769), [0, 1, 2], [3])], 0, [])),
  (53, ([(53, .lcmp, 1, (0, 0, 0, 0, 0), [], []), (54, .ifCond .ge 5, 3, (59, 0, 0, 0, 0), [0, 1, 2], [0, 2])], 0, [])),
  (57, ([(57, .iload_n 2, 1, (0, 0, 0, 0, 0), [], []), (58, .istore_n 1, 1, (0, 0, 0, 0, 0), [], [])], 59, [0, 1, 2])),
  (59, ([(59, .iinc 2 1, 3, (0, 0, 0, 0, 0), [], []), (62, .goto (-41), 3, (21, 0, 0, 0, 0), [0, 1, 2], [])], 0, [])),
  (65, ([(65, .iload_n 1, 1, (0, 0, 0, 0, 0), [], []), (66, .ireturn, 1, (0, 0, 0, 0, 0), [], [])], 0, []))]
def cd_Window_rightOneOut : List (Nat × AB) := [
  (0, ([(0, .iconst 0, 1, (0, 0, 0, 0, 0), [], []), (1, .istore_n 3, 1, (0, 0, 0, 0, 0), [], []), (2, .iconst 0, 1, (0, 0, 0, 0, 0), [], []), (3, .istore 4, 2, (0, 0, 0, 0, 0), [], [])], 5, [0, 1, 2, 3, 4])),
  (5, ([(5, .iload 4, 2, (0, 0, 0, 0, 0), [], []), (7, .aload_n 0, 1, (0, 0, 0, 0, 0), [], []), (8, .getfield 36, 3, (9, 5, 0, 133, 0), [], []), (11, .if_icmp .ge 36, 3, (47, 0, 0, 0, 0), [3], [0, 1, 2, 3, 4])], 0, [])),
  (14, ([(14, .aload_n 0, 1, (0, 0, 0, 0, 0), [], []), (15, .iload 4, 2, (0, 0, 0, 0, 0), [], []), (17, .iload 4, 2, (0, 0, 0, 0, 0), [], []), (19, .iload_n 1, 1, (0, 0, 0, 0, 0), [], []), (20, .if_icmp .ge 8, 3, (28, 0, 0, 0, 0), [0, 1, 2, 3, 4], [0, 1, 2, 3, 4])], 0, [])),
  (23, ([(23, .iload 4, 2, (0, 0, 0, 0, 0), [], []), (25, .goto 7, 3, (32, 0, 0, 0, 0), [0, 1, 2, 3, 4], [])], 0, [])),
  (28, ([(28, .iload 4, 2, (0, 0, 0, 0, 0), [], []), (30, .iload_n 2, 1, (0, 0, 0, 0, 0), [], []), (31, .iadd, 1, (0, 0, 0, 0, 0), [], [])], 32, [0, 1, 2, 3, 4])),
  (32, ([(32, .invokevirtual 84, 3, (105, 3, 10, 9, 1114), [0, 1, 2, 3, 4], [3])], 0, [])),
  (35, ([(35, .ifCond .eq 6, 3, (41, 0, 0, 0, 0), [0, 1, 2, 3, 4], [0, 1, 2, 3, 4])], 0, [])),
  (38, ([(38, .iinc 3 1, 3, (0, 0, 0, 0, 0), [], [])], 41, [0, 1, 2, 3, 4])),
  (41, ([(41, .iinc 4 1, 3, (0, 0, 0, 0, 0), [], []), (44, .goto (-39), 3, (5, 0, 0, 0, 0), [0, 1, 2, 3, 4], [])], 0, [])),
  (47, ([(47, .iload_n 3, 1, (0, 0, 0, 0, 0), [], []), (48, .ireturn, 1, (0, 0, 0, 0, 0), [], [])], 0, []))]
def cd_Hook_oneOut : List (Nat × AB) := [
  (0, ([(0, .iload_n 1, 1, (0, 0, 0, 0, 0), [], []), (1, .ifCond .lt 24, 3, (25, 0, 0, 0, 0), [], [0, 1, 2])], 0, [])),
  (4, ([(4, .iload_n 1, 1, (0, 0, 0, 0, 0), [], []), (5, .aload_n 0, 1, (0, 0, 0, 0, 0), [], []), (6, .getfield 33, 3, (10, 5, 2, 359, 0), [], []), (9, .getfield 140, 3, (9, 5, 0, 137, 0), [], []), (12, .if_icmp .gt 13, 3, (25, 0, 0, 0, 0), [], [0, 1, 2])], 0, [])),
  (15, ([(15, .iload_n 2, 1, (0, 0, 0, 0, 0), [], []), (16, .iconst 1, 1, (0, 0, 0, 0, 0), [], []), (17, .if_icmp .eq 11, 3, (28, 0, 0, 0, 0), [0, 1, 2], [0, 1, 2])], 0, [])),
  (20, ([(20, .iload_n 2, 1, (0, 0, 0, 0, 0), [], []), (21, .iconst (-1), 1, (0, 0, 0, 0, 0), [], []), (22, .if_icmp .eq 6, 3, (28, 0, 0, 0, 0), [0, 1, 2], [])], 0, [])),
  (25, ([(25, .bipush (-3), 2, (0, 0, 0, 0, 0), [], []), (27, .ireturn, 1, (0, 0, 0, 0, 0), [], [])], 0, [])),
  (28, ([(28, .aload_n 0, 1, (0, 0, 0, 0, 0), [], []), (29, .getfield 33, 3, (10, 5, 2, 359, 0), [], []), (32, .iload_n 1, 1, (0, 0, 0, 0, 0), [], []), (33, .iload_n 2, 1, (0, 0, 0, 0, 0), [], []), (34, .invokevirtual 354, 3, (257, 3, 10, 9, 1110), [], [5])], 0, [])),
  (37, ([(37, .ireturn, 1, (0, 0, 0, 0, 0), [], [])], 0, []))]
def cd_Mod_rightOut : List (Nat × AB) := [
  (0, ([(0, .iconst 0, 1, (0, 0, 0, 0, 0), [], []), (1, .istore_n 3, 1, (0, 0, 0, 0, 0), [], []), (2, .iconst 0, 1, (0, 0, 0, 0, 0), [], []), (3, .istore 4, 2, (0, 0, 0, 0, 0), [], [])], 5, [0, 1, 2, 3, 4])),
  (5, ([(5, .iload 4, 2, (0, 0, 0, 0, 0), [], []), (7, .aload_n 0, 1, (0, 0, 0, 0, 0), [], []), (8, .getfield 13, 3, (11, 1, 2, 1256, 0), [], []), (11, .iconst 1, 1, (0, 0, 0, 0, 0), [], []), (12, .iaload, 1, (20, 0, 0, 0, 0), [], []), (13, .if_icmp .ge 55, 3, (68, 0, 0, 0, 0), [3], [0, 1, 2, 3, 4])], 0, [])),
  (16, ([(16, .iload 4, 2, (0, 0, 0, 0, 0), [], []), (18, .iload_n 1, 1, (0, 0, 0, 0, 0), [], []), (19, .if_icmp .ge 8, 3, (27, 0, 0, 0, 0), [0, 1, 2, 3, 4], [0, 1, 2, 3, 4])], 0, [])),
  (22, ([(22, .iload 4, 2, (0, 0, 0, 0, 0), [], []), (24, .goto 7, 3, (31, 0, 0, 0, 0), [0, 1, 2, 3, 4], [])], 0, [])),
  (27, ([(27, .iload 4, 2, (0, 0, 0, 0, 0), [], []), (29, .iload_n 2, 1, (0, 0, 0, 0, 0), [], []), (30, .iadd, 1, (0, 0, 0, 0, 0), [], [])], 31, [0, 1, 2, 3, 4])),
  (31, ([(31, .istore 5, 2, (0, 0, 0, 0, 0), [], []), (33, .iload_n 3, 1, (0, 0, 0, 0, 0), [], []), (34, .aload_n 0, 1, (0, 0, 0, 0, 0), [], []), (35, .iload 5, 2, (0, 0, 0, 0, 0), [], []), (37, .i2l, 1, (0, 0, 0, 0, 0), [], []), (38, .invokevirtual 249, 3, (117, 2, 10, 11, 1533), [0, 1, 2, 4, 5], [3])], 0, [])),
  (41, ([(41, .ifCond .eq 18, 3, (59, 0, 0, 0, 0), [0, 1, 2, 4], [0, 1, 2, 4, 5])], 0, [])),
  (44, ([(44, .aload_n 0, 1, (0, 0, 0, 0, 0), [], []), (45, .iload 4, 2, (0, 0, 0, 0, 0), [], []), (47, .iload 5, 2, (0, 0, 0, 0, 0), [], []), (49, .invokevirtual 236, 3, (113, 3, 10, 11, 1516), [0, 1, 2, 4], [6])], 0, [])),
  (52, ([(52, .ifCond .eq 7, 3, (59, 0, 0, 0, 0), [0, 1, 2, 4], [0, 1, 2, 4])], 0, [])),
  (55, ([(55, .iconst 1, 1, (0, 0, 0, 0, 0), [], []), (56, .goto 4, 3, (60, 0, 0, 0, 0), [0, 1, 2, 4], [])], 0, [])),
  (59, ([(59, .iconst 0, 1, (0, 0, 0, 0, 0), [], [])], 60, [0, 1, 2, 4])),
  (60, ([(60, .iadd, 1, (0, 0, 0, 0, 0), [], []), (61, .istore_n 3, 1, (0, 0, 0, 0, 0), [], []), (62, .iinc 4 1, 3, (0, 0, 0, 0, 0), [], []), (65, .goto (-60), 3, (5, 0, 0, 0, 0), [0, 1, 2, 3, 4], [])], 0, [])),
  (68, ([(68, .iload_n 3, 1, (0, 0, 0, 0, 0), [], []), (69, .ireturn, 1, (0, 0, 0, 0, 0), [], [])], 0, []))]
def cd_Mod_oneOut : List (Nat × AB) := [
  (0, ([(0, .aload_n 0, 1, (0, 0, 0, 0, 0), [], []), (1, .iconst 0, 1, (0, 0, 0, 0, 0), [], []), (2, .putfield 1, 3, (11, 0, 0, 1255, 0), [], [])], 5, [0, 1, 2])),
  (5, ([(5, .iload_n 1, 1, (0, 0, 0, 0, 0), [], []), (6, .i2l, 1, (0, 0, 0, 0, 0), [], []), (7, .lconst 0, 1, (0, 0, 0, 0, 0), [], []), (8, .aload_n 0, 1, (0, 0, 0, 0, 0), [], []), (9, .getfield 13, 3, (11, 1, 2, 1256, 0), [], []), (12, .iconst 1, 1, (0, 0, 0, 0, 0), [], []), (13, .iaload, 1, (20, 0, 0, 0, 0), [], []), (14, .i2l, 1, (0, 0, 0, 0, 0), [], []), (15, .invokestatic 136, 3, (71, 3, 0, 0, 1372), [0, 1, 2], [6])], 0, [])),
  (18, ([(18, .ifCond .eq 22, 3, (40, 0, 0, 0, 0), [], [0, 1, 2])], 0, [])),
  (21, ([(21, .iload_n 2, 1, (0, 0, 0, 0, 0), [], []), (22, .iconst 1, 1, (0, 0, 0, 0, 0), [], []), (23, .if_icmp .eq 8, 3, (31, 0, 0, 0, 0), [0, 1, 2], [0, 1, 2])], 0, [])),
  (26, ([(26, .iload_n 2, 1, (0, 0, 0, 0, 0), [], []), (27, .iconst (-1), 1, (0, 0, 0, 0, 0), [], []), (28, .if_icmp .ne 12, 3, (40, 0, 0, 0, 0), [], [0, 1, 2])], 0, [])),
  (31, ([(31, .aload_n 0, 1, (0, 0, 0, 0, 0), [], []), (32, .iload_n 1, 1, (0, 0, 0, 0, 0), [], []), (33, .iload_n 2, 1, (0, 0, 0, 0, 0), [], []), (34, .invokevirtual 439, 3, (259, 3, 10, 11, 1791), [], [6])], 0, [])),
  (37, ([(37, .goto 5, 3, (42, 0, 0, 0, 0), [], [])], 0, [])),
  (40, ([(40, .bipush (-3), 2, (0, 0, 0, 0, 0), [], [])], 42, [])),
  (42, ([(42, .ireturn, 1, (0, 0, 0, 0, 0), [], [])], 0, []))]
def cd_Hook_out : List (Nat × AB) := [
  (0, ([(0, .iload_n 2, 1, (0, 0, 0, 0, 0), [], []), (1, .ifCond .eq 11, 3, (12, 0, 0, 0, 0), [0, 1, 2], [0, 1, 2])], 0, [])),
  (4, ([(4, .iload_n 2, 1, (0, 0, 0, 0, 0), [], []), (5, .iconst 1, 1, (0, 0, 0, 0, 0), [], []), (6, .if_icmp .eq 6, 3, (12, 0, 0, 0, 0), [0, 1, 2], [])], 0, [])),
  (9, ([(9, .bipush (-2), 2, (0, 0, 0, 0, 0), [], []), (11, .ireturn, 1, (0, 0, 0, 0, 0), [], [])], 0, [])),
  (12, ([(12, .iload_n 1, 1, (0, 0, 0, 0, 0), [], []), (13, .iconst 1, 1, (0, 0, 0, 0, 0), [], []), (14, .if_icmp .eq 11, 3, (25, 0, 0, 0, 0), [0, 1, 2], [0, 1, 2])], 0, [])),
  (17, ([(17, .iload_n 1, 1, (0, 0, 0, 0, 0), [], []), (18, .iconst (-1), 1, (0, 0, 0, 0, 0), [], []), (19, .if_icmp .eq 6, 3, (25, 0, 0, 0, 0), [0, 1, 2], [])], 0, [])),
  (22, ([(22, .bipush (-3), 2, (0, 0, 0, 0, 0), [], []), (24, .ireturn, 1, (0, 0, 0, 0, 0), [], [])], 0, [])),
  (25, ([(25, .iconst 0, 1, (0, 0, 0, 0, 0), [], []), (26, .istore_n 3, 1, (0, 0, 0, 0, 0), [], []), (27, .aload_n 0, 1, (0, 0, 0, 0, 0), [], []), (28, .getfield 33, 3, (10, 5, 2, 359, 0), [], []), (31, .iconst 0, 1, (0, 0, 0, 0, 0), [], []), (32, .iload_n 1, 1, (0, 0, 0, 0, 0), [], []), (33, .invokevirtual 354, 3, (257, 3, 10, 9, 1110), [0, 1, 2, 3], [5])], 0, [])),
  (36, ([(36, .istore 4, 2, (0, 0, 0, 0, 0), [], []), (38, .iconst 1, 1, (0, 0, 0, 0, 0), [], []), (39, .istore 5, 2, (0, 0, 0, 0, 0), [], [])], 41, [0, 1, 2, 3, 4, 5])),
  (41, ([(41, .iload 5, 2, (0, 0, 0, 0, 0), [], []), (43, .aload_n 0, 1, (0, 0, 0, 0, 0), [], []), (44, .getfield 33, 3, (10, 5, 2, 359, 0), [], []), (47, .getfield 140, 3, (9, 5, 0, 137, 0), [], []), (50, .if_icmp .gt 35, 3, (85, 0, 0, 0, 0), [2, 3, 4], [0, 1, 2, 3, 4, 5])], 0, [])),
  (53, ([(53, .aload_n 0, 1, (0, 0, 0, 0, 0), [], []), (54, .getfield 33, 3, (10, 5, 2, 359, 0), [], []), (57, .iload 5, 2, (0, 0, 0, 0, 0), [], []), (59, .iload_n 1, 1, (0, 0, 0, 0, 0), [], []), (60, .invokevirtual 354, 3, (257, 3, 10, 9, 1110), [0, 1, 2, 3, 4, 5], [5])], 0, [])),
  (63, ([(63, .istore 6, 2, (0, 0, 0, 0, 0), [], []), (65, .iload 6, 2, (0, 0, 0, 0, 0), [], []), (67, .iload 4, 2, (0, 0, 0, 0, 0), [], []), (69, .if_icmp .le 10, 3, (79, 0, 0, 0, 0), [0, 1, 2, 3, 4, 5], [0, 1, 2, 5, 6])], 0, [])),
  (72, ([(72, .iload 6, 2, (0, 0, 0, 0, 0), [], []), (74, .istore 4, 2, (0, 0, 0, 0, 0), [], []), (76, .iload 5, 2, (0, 0, 0, 0, 0), [], []), (78, .istore_n 3, 1, (0, 0, 0, 0, 0), [], [])], 79, [0, 1, 2, 3, 4, 5])),
  (79, ([(79, .iinc 5 1, 3, (0, 0, 0, 0, 0), [], []), (82, .goto (-41), 3, (41, 0, 0, 0, 0), [0, 1, 2, 3, 4, 5], [])], 0, [])),
  (85, ([(85, .iload_n 2, 1, (0, 0, 0, 0, 0), [], []), (86, .ifCond .ne 7, 3, (93, 0, 0, 0, 0), [4], [3])], 0, [])),
  (89, ([(89, .iload_n 3, 1, (0, 0, 0, 0, 0), [], []), (90, .goto 5, 3, (95, 0, 0, 0, 0), [], [])], 0, [])),
  (93, ([(93, .iload 4, 2, (0, 0, 0, 0, 0), [], [])], 95, [])),
  (95, ([(95, .ireturn, 1, (0, 0, 0, 0, 0), [], [])], 0, []))]
def cd_Mod_out : List (Nat × AB) := [
  (0, ([(0, .aload_n 0, 1, (0, 0, 0, 0, 0), [], []), (1, .iconst 0, 1, (0, 0, 0, 0, 0), [], []), (2, .putfield 1, 3, (11, 0, 0, 1255, 0), [], [])], 5, [0, 1, 2])),
  (5, ([(5, .iload_n 2, 1, (0, 0, 0, 0, 0), [], []), (6, .i2l, 1, (0, 0, 0, 0, 0), [], []), (7, .lconst 0, 1, (0, 0, 0, 0, 0), [], []), (8, .lconst 1, 1, (0, 0, 0, 0, 0), [], []), (9, .invokestatic 136, 3, (71, 3, 0, 0, 1372), [0, 1, 2], [6])], 0, [])),
  (12, ([(12, .ifCond .ne 6, 3, (18, 0, 0, 0, 0), [0, 1, 2], [])], 0, [])),
  (15, ([(15, .bipush (-2), 2, (0, 0, 0, 0, 0), [], []), (17, .ireturn, 1, (0, 0, 0, 0, 0), [], [])], 0, [])),
  (18, ([(18, .iload_n 1, 1, (0, 0, 0, 0, 0), [], []), (19, .iconst 1, 1, (0, 0, 0, 0, 0), [], []), (20, .if_icmp .eq 11, 3, (31, 0, 0, 0, 0), [0, 1, 2], [0, 1, 2])], 0, [])),
  (23, ([(23, .iload_n 1, 1, (0, 0, 0, 0, 0), [], []), (24, .iconst (-1), 1, (0, 0, 0, 0, 0), [], []), (25, .if_icmp .eq 6, 3, (31, 0, 0, 0, 0), [0, 1, 2], [])], 0, [])),
  (28, ([(28, .bipush (-3), 2, (0, 0, 0, 0, 0), [], []), (30, .ireturn, 1, (0, 0, 0, 0, 0), [], [])], 0, [])),
  (31, ([(31, .iconst 0, 1, (0, 0, 0, 0, 0), [], []), (32, .istore_n 3, 1, (0, 0, 0, 0, 0), [], []), (33, .iconst 1, 1, (0, 0, 0, 0, 0), [], []), (34, .istore 4, 2, (0, 0, 0, 0, 0), [], [])], 36, [0, 1, 2, 3, 4])),
  (36, ([(36, .iload 4, 2, (0, 0, 0, 0, 0), [], []), (38, .aload_n 0, 1, (0, 0, 0, 0, 0), [], []), (39, .getfield 13, 3, (11, 1, 2, 1256, 0), [], []), (42, .iconst 1, 1, (0, 0, 0, 0, 0), [], []), (43, .iaload, 1, (20, 0, 0, 0, 0), [], []), (44, .if_icmp .gt 28, 3, (72, 0, 0, 0, 0), [0, 1, 2, 3], [0, 1, 2, 3, 4])], 0, [])),
  (47, ([(47, .aload_n 0, 1, (0, 0, 0, 0, 0), [], []), (48, .iload 4, 2, (0, 0, 0, 0, 0), [], []), (50, .iload_n 1, 1, (0, 0, 0, 0, 0), [], []), (51, .invokevirtual 439, 3, (259, 3, 10, 11, 1791), [0, 1, 2, 3, 4], [6])], 0, [])),
  (54, ([(54, .aload_n 0, 1, (0, 0, 0, 0, 0), [], []), (55, .iload_n 3, 1, (0, 0, 0, 0, 0), [], []), (56, .iload_n 1, 1, (0, 0, 0, 0, 0), [], []), (57, .invokevirtual 439, 3, (259, 3, 10, 11, 1791), [0, 1, 2, 3, 4], [6])], 0, [])),
  (60, ([(60, .if_icmp .le 6, 3, (66, 0, 0, 0, 0), [0, 1, 2, 3, 4], [0, 1, 2, 4])], 0, [])),
  (63, ([(63, .iload 4, 2, (0, 0, 0, 0, 0), [], []), (65, .istore_n 3, 1, (0, 0, 0, 0, 0), [], [])], 66, [0, 1, 2, 3, 4])),
  (66, ([(66, .iinc 4 1, 3, (0, 0, 0, 0, 0), [], []), (69, .goto (-33), 3, (36, 0, 0, 0, 0), [0, 1, 2, 3, 4], [])], 0, [])),
  (72, ([(72, .iload_n 2, 1, (0, 0, 0, 0, 0), [], []), (73, .ifCond .ne 7, 3, (80, 0, 0, 0, 0), [0, 1, 3], [3])], 0, [])),
  (76, ([(76, .iload_n 3, 1, (0, 0, 0, 0, 0), [], []), (77, .goto 9, 3, (86, 0, 0, 0, 0), [], [])], 0, [])),
  (80, ([(80, .aload_n 0, 1, (0, 0, 0, 0, 0), [], []), (81, .iload_n 3, 1, (0, 0, 0, 0, 0), [], []), (82, .iload_n 1, 1, (0, 0, 0, 0, 0), [], []), (83, .invokevirtual 439, 3, (259, 3, 10, 11, 1791), [], [6])], 0, [])),
  (86, ([(86, .ireturn, 1, (0, 0, 0, 0, 0), [], [])], 0, []))]
def cd_Window_gaps : List (Nat × AB) := [
  (0, ([(0, .aload_n 0, 1, (0, 0, 0, 0, 0), [], []), (1, .getfield 40, 3, (9, 6, 0, 141, 0), [], []), (4, .ifCond .le 12, 3, (16, 0, 0, 0, 0), [], [0])], 0, [])),
  (7, ([(7, .aload_n 0, 1, (0, 0, 0, 0, 0), [], []), (8, .getfield 40, 3, (9, 6, 0, 141, 0), [], []), (11, .iconst 1, 1, (0, 0, 0, 0, 0), [], []), (12, .isub, 1, (0, 0, 0, 0, 0), [], []), (13, .goto 4, 3, (17, 0, 0, 0, 0), [], [])], 0, [])),
  (16, ([(16, .iconst 0, 1, (0, 0, 0, 0, 0), [], [])], 17, [])),
  (17, ([(17, .ireturn, 1, (0, 0, 0, 0, 0), [], [])], 0, []))]
def cd_Tray_least : List (Nat × AB) := [
  (0, ([(0, .lconst 0, 1, (0, 0, 0, 0, 0), [], []), (1, .lstore_n 1, 1, (0, 0, 0, 0, 0), [], []), (2, .iconst 0, 1, (0, 0, 0, 0, 0), [], []), (3, .istore_n 3, 1, (0, 0, 0, 0, 0), [], [])], 4, [0, 1, 3])),
  (4, ([(4, .iload_n 3, 1, (0, 0, 0, 0, 0), [], []), (5, .aload_n 0, 1, (0, 0, 0, 0, 0), [], []), (6, .getfield 19, 3, (7, 2, 0, 262, 0), [], []), (9, .if_icmp .ge 20, 3, (29, 0, 0, 0, 0), [1], [0, 1, 3])], 0, [])),
  (12, ([(12, .lload_n 1, 1, (0, 0, 0, 0, 0), [], []), (13, .aload_n 0, 1, (0, 0, 0, 0, 0), [], []), (14, .getfield 9, 3, (7, 0, 2, 260, 0), [], []), (17, .iload_n 3, 1, (0, 0, 0, 0, 0), [], []), (18, .laload, 1, (0, 0, 0, 0, 0), [], []), (19, .invokestatic 32, 3, (58, 2, 0, 0, 1135), [0, 3], [4])], 0, [])),
  (22, ([(22, .lstore_n 1, 1, (0, 0, 0, 0, 0), [], []), (23, .iinc 3 1, 3, (0, 0, 0, 0, 0), [], []), (26, .goto (-22), 3, (4, 0, 0, 0, 0), [0, 1, 3], [])], 0, [])),
  (29, ([(29, .lload_n 1, 1, (0, 0, 0, 0, 0), [], []), (30, .lreturn, 1, (0, 0, 0, 0, 0), [], [])], 0, []))]
def cd_Hook_sightCode : List (Nat × AB) := [
  (0, ([(0, .aload_n 0, 1, (0, 0, 0, 0, 0), [], []), (1, .iload_n 1, 1, (0, 0, 0, 0, 0), [], []), (2, .invokevirtual 238, 3, (167, 2, 10, 10, 894), [0, 1], [2])], 0, [])),
  (5, ([(5, .istore_n 2, 1, (0, 0, 0, 0, 0), [], []), (6, .iload_n 2, 1, (0, 0, 0, 0, 0), [], []), (7, .ifCond .eq 5, 3, (12, 0, 0, 0, 0), [0, 1], [2])], 0, [])),
  (10, ([(10, .iload_n 2, 1, (0, 0, 0, 0, 0), [], []), (11, .ireturn, 1, (0, 0, 0, 0, 0), [], [])], 0, [])),
  (12, ([(12, .aload_n 0, 1, (0, 0, 0, 0, 0), [], []), (13, .getfield 59, 3, (10, 10, 2, 364, 0), [], []), (16, .iload_n 1, 1, (0, 0, 0, 0, 0), [], []), (17, .aaload, 1, (24, 7, 0, 0, 0), [], []), (18, .astore_n 3, 1, (0, 0, 0, 0, 0), [], []), (19, .aload_n 3, 1, (0, 0, 0, 0, 0), [], []), (20, .getfield 224, 3, (7, 2, 0, 264, 0), [], []), (23, .aload_n 0, 1, (0, 0, 0, 0, 0), [], []), (24, .getfield 33, 3, (10, 5, 2, 359, 0), [], []), (27, .invokevirtual 368, 3, (263, 1, 10, 9, 1127), [3], [1])], 0, [])),
  (30, ([(30, .if_icmp .eq 6, 3, (36, 0, 0, 0, 0), [3], [])], 0, [])),
  (33, ([(33, .bipush (-4), 2, (0, 0, 0, 0, 0), [], []), (35, .ireturn, 1, (0, 0, 0, 0, 0), [], [])], 0, [])),
  (36, ([(36, .aload_n 3, 1, (0, 0, 0, 0, 0), [], []), (37, .invokevirtual 371, 3, (264, 1, 10, 7, 1131), [], [4])], 0, [])),
  (40, ([(40, .ldc2_w 338, 3, (0, 0, 0, 1084, (-2)), [], []), (43, .lcmp, 1, (0, 0, 0, 0, 0), [], []), (44, .ifCond .ge 8, 3, (52, 0, 0, 0, 0), [], [])], 0, [])),
  (47, ([(47, .bipush (-3), 2, (0, 0, 0, 0, 0), [], []), (49, .goto 4, 3, (53, 0, 0, 0, 0), [], [])], 0, [])),
  (52, ([(52, .iconst 0, 1, (0, 0, 0, 0, 0), [], [])], 53, [])),
  (53, ([(53, .ireturn, 1, (0, 0, 0, 0, 0), [], [])], 0, []))]
def cd_Watcher_seenAt : List (Nat × AB) := [
  (0, ([(0, .aload_n 0, 1, (0, 0, 0, 0, 0), [], []), (1, .iload_n 1, 1, (0, 0, 0, 0, 0), [], []), (2, .invokevirtual 22, 3, (156, 2, 10, 7, 1147), [], [2])], 0, [])),
  (5, ([(5, .ldc2_w 28, 3, (0, 0, 0, 1148, 9999), [], []), (8, .invokestatic 30, 3, (58, 2, 0, 0, 1149), [], [4])], 0, [])),
  (11, ([(11, .l2i, 1, (0, 0, 0, 0, 0), [], []), (12, .ireturn, 1, (0, 0, 0, 0, 0), [], [])], 0, []))]
def cd_Watcher_narrowed : List (Nat × AB) := [
  (0, ([(0, .iload_n 1, 1, (0, 0, 0, 0, 0), [], []), (1, .iconst (-1), 1, (0, 0, 0, 0, 0), [], []), (2, .if_icmp .ne 5, 3, (7, 0, 0, 0, 0), [0, 1], [0])], 0, [])),
  (5, ([(5, .iload_n 0, 1, (0, 0, 0, 0, 0), [], []), (6, .ireturn, 1, (0, 0, 0, 0, 0), [], [])], 0, [])),
  (7, ([(7, .iload_n 1, 1, (0, 0, 0, 0, 0), [], []), (8, .bipush (-2), 2, (0, 0, 0, 0, 0), [], []), (10, .if_icmp .eq 13, 3, (23, 0, 0, 0, 0), [], [0, 1])], 0, [])),
  (13, ([(13, .iload_n 0, 1, (0, 0, 0, 0, 0), [], []), (14, .iconst (-1), 1, (0, 0, 0, 0, 0), [], []), (15, .if_icmp .eq 11, 3, (26, 0, 0, 0, 0), [1], [0, 1])], 0, [])),
  (18, ([(18, .iload_n 0, 1, (0, 0, 0, 0, 0), [], []), (19, .iload_n 1, 1, (0, 0, 0, 0, 0), [], []), (20, .if_icmp .eq 6, 3, (26, 0, 0, 0, 0), [1], [])], 0, [])),
  (23, ([(23, .bipush (-3), 2, (0, 0, 0, 0, 0), [], []), (25, .ireturn, 1, (0, 0, 0, 0, 0), [], [])], 0, [])),
  (26, ([(26, .iload_n 1, 1, (0, 0, 0, 0, 0), [], []), (27, .ireturn, 1, (0, 0, 0, 0, 0), [], [])], 0, []))]
def cd_Watcher_survey : List (Nat × AB) := [
  (0, ([(0, .aload_n 0, 1, (0, 0, 0, 0, 0), [], []), (1, .iconst 0, 1, (0, 0, 0, 0, 0), [], []), (2, .putfield 15, 3, (8, 1, 0, 345, 0), [], [])], 5, [0, 1, 2])),
  (5, ([(5, .aload_n 0, 1, (0, 0, 0, 0, 0), [], []), (6, .iconst 0, 1, (0, 0, 0, 0, 0), [], []), (7, .putfield 19, 3, (8, 2, 0, 346, 0), [], [])], 10, [0, 1, 2])),
  (10, ([(10, .iconst 1, 1, (0, 0, 0, 0, 0), [], []), (11, .istore_n 3, 1, (0, 0, 0, 0, 0), [], []), (12, .iconst 0, 1, (0, 0, 0, 0, 0), [], []), (13, .istore 4, 2, (0, 0, 0, 0, 0), [], [])], 15, [0, 1, 2, 3, 4])),
  (15, ([(15, .iload 4, 2, (0, 0, 0, 0, 0), [], []), (17, .aload_n 1, 1, (0, 0, 0, 0, 0), [], []), (18, .getfield 36, 3, (9, 6, 0, 144, 0), [], []), (21, .if_icmp .ge 110, 3, (131, 0, 0, 0, 0), [0, 1, 2], [0, 1, 2, 3, 4])], 0, [])),
  (24, ([(24, .iload_n 3, 1, (0, 0, 0, 0, 0), [], []), (25, .ifCond .eq 23, 3, (48, 0, 0, 0, 0), [0, 1, 2, 4], [0, 1, 2, 4])], 0, [])),
  (28, ([(28, .iload 4, 2, (0, 0, 0, 0, 0), [], []), (30, .ifCond .eq 14, 3, (44, 0, 0, 0, 0), [0, 1, 2, 4], [0, 1, 2, 4])], 0, [])),
  (33, ([(33, .aload_n 2, 1, (0, 0, 0, 0, 0), [], []), (34, .iload 4, 2, (0, 0, 0, 0, 0), [], []), (36, .iconst 1, 1, (0, 0, 0, 0, 0), [], []), (37, .isub, 1, (0, 0, 0, 0, 0), [], []), (38, .invokestatic 41, 3, (266, 2, 0, 0, 1144), [0, 1, 2, 4], [2])], 0, [])),
  (41, ([(41, .ifCond .ge 7, 3, (48, 0, 0, 0, 0), [0, 1, 2, 4], [0, 1, 2, 4])], 0, [])),
  (44, ([(44, .iconst 1, 1, (0, 0, 0, 0, 0), [], []), (45, .goto 4, 3, (49, 0, 0, 0, 0), [0, 1, 2, 4], [])], 0, [])),
  (48, ([(48, .iconst 0, 1, (0, 0, 0, 0, 0), [], [])], 49, [0, 1, 2, 4])),
  (49, ([(49, .istore_n 3, 1, (0, 0, 0, 0, 0), [], []), (50, .aload_n 0, 1, (0, 0, 0, 0, 0), [], []), (51, .dup, 1, (0, 0, 0, 0, 0), [], []), (52, .getfield 15, 3, (8, 1, 0, 345, 0), [], []), (55, .iload_n 3, 1, (0, 0, 0, 0, 0), [], []), (56, .ifCond .eq 10, 3, (66, 0, 0, 0, 0), [0, 1, 2, 3, 4], [0, 1, 2, 3, 4])], 0, [])),
  (59, ([(59, .iconst 1, 1, (0, 0, 0, 0, 0), [], []), (60, .iload 4, 2, (0, 0, 0, 0, 0), [], []), (62, .ishl, 1, (0, 0, 0, 0, 0), [], []), (63, .goto 4, 3, (67, 0, 0, 0, 0), [0, 1, 2, 3, 4], [])], 0, [])),
  (66, ([(66, .iconst 0, 1, (0, 0, 0, 0, 0), [], [])], 67, [0, 1, 2, 3, 4])),
  (67, ([(67, .ior, 1, (0, 0, 0, 0, 0), [], []), (68, .putfield 15, 3, (8, 1, 0, 345, 0), [], [])], 71, [0, 1, 2, 3, 4])),
  (71, ([(71, .iconst (-1), 1, (0, 0, 0, 0, 0), [], []), (72, .istore 5, 2, (0, 0, 0, 0, 0), [], []), (74, .iload 4, 2, (0, 0, 0, 0, 0), [], []), (76, .iconst 1, 1, (0, 0, 0, 0, 0), [], []), (77, .iadd, 1, (0, 0, 0, 0, 0), [], []), (78, .istore 6, 2, (0, 0, 0, 0, 0), [], [])], 80, [0, 1, 2, 3, 4, 5, 6])),
  (80, ([(80, .iload 6, 2, (0, 0, 0, 0, 0), [], []), (82, .aload_n 1, 1, (0, 0, 0, 0, 0), [], []), (83, .getfield 36, 3, (9, 6, 0, 144, 0), [], []), (86, .if_icmp .ge 39, 3, (125, 0, 0, 0, 0), [0, 1, 2, 3, 4], [0, 1, 2, 3, 4, 5, 6])], 0, [])),
  (89, ([(89, .iload 5, 2, (0, 0, 0, 0, 0), [], []), (91, .aload_n 2, 1, (0, 0, 0, 0, 0), [], []), (92, .iload 6, 2, (0, 0, 0, 0, 0), [], []), (94, .iconst 1, 1, (0, 0, 0, 0, 0), [], []), (95, .isub, 1, (0, 0, 0, 0, 0), [], []), (96, .invokestatic 41, 3, (266, 2, 0, 0, 1144), [0, 1, 2, 3, 4, 6], [2])], 0, [])),
  (99, ([(99, .invokestatic 45, 3, (267, 2, 0, 0, 1150), [0, 1, 2, 3, 4, 6], [2])], 0, [])),
  (102, ([(102, .istore 5, 2, (0, 0, 0, 0, 0), [], []), (104, .aload_n 0, 1, (0, 0, 0, 0, 0), [], []), (105, .getfield 9, 3, (8, 0, 2, 344, 0), [], []), (108, .iload 4, 2, (0, 0, 0, 0, 0), [], []), (110, .bipush 12, 2, (0, 0, 0, 0, 0), [], []), (112, .imul, 1, (0, 0, 0, 0, 0), [], []), (113, .iload 6, 2, (0, 0, 0, 0, 0), [], []), (115, .iadd, 1, (0, 0, 0, 0, 0), [], []), (116, .iload 5, 2, (0, 0, 0, 0, 0), [], []), (118, .iastore, 1, (0, 0, 0, 0, 0), [], [])], 119, [0, 1, 2, 3, 4, 5, 6])),
  (119, ([(119, .iinc 6 1, 3, (0, 0, 0, 0, 0), [], []), (122, .goto (-42), 3, (80, 0, 0, 0, 0), [0, 1, 2, 3, 4, 5, 6], [])], 0, [])),
  (125, ([(125, .iinc 4 1, 3, (0, 0, 0, 0, 0), [], []), (128, .goto (-113), 3, (15, 0, 0, 0, 0), [0, 1, 2, 3, 4], [])], 0, [])),
  (131, ([(131, .iconst 1, 1, (0, 0, 0, 0, 0), [], []), (132, .istore_n 3, 1, (0, 0, 0, 0, 0), [], []), (133, .aload_n 1, 1, (0, 0, 0, 0, 0), [], []), (134, .getfield 36, 3, (9, 6, 0, 144, 0), [], []), (137, .iconst 1, 1, (0, 0, 0, 0, 0), [], []), (138, .isub, 1, (0, 0, 0, 0, 0), [], []), (139, .istore 4, 2, (0, 0, 0, 0, 0), [], [])], 141, [0, 1, 2, 3, 4])),
  (141, ([(141, .iload 4, 2, (0, 0, 0, 0, 0), [], []), (143, .ifCond .lt 60, 3, (203, 0, 0, 0, 0), [], [0, 1, 2, 3, 4])], 0, [])),
  (146, ([(146, .iload_n 3, 1, (0, 0, 0, 0, 0), [], []), (147, .ifCond .eq 27, 3, (174, 0, 0, 0, 0), [0, 1, 2, 4], [0, 1, 2, 4])], 0, [])),
  (150, ([(150, .iload 4, 2, (0, 0, 0, 0, 0), [], []), (152, .aload_n 1, 1, (0, 0, 0, 0, 0), [], []), (153, .getfield 36, 3, (9, 6, 0, 144, 0), [], []), (156, .iconst 1, 1, (0, 0, 0, 0, 0), [], []), (157, .isub, 1, (0, 0, 0, 0, 0), [], []), (158, .if_icmp .eq 12, 3, (170, 0, 0, 0, 0), [0, 1, 2, 4], [0, 1, 2, 4])], 0, [])),
  (161, ([(161, .aload_n 2, 1, (0, 0, 0, 0, 0), [], []), (162, .iload 4, 2, (0, 0, 0, 0, 0), [], []), (164, .invokestatic 41, 3, (266, 2, 0, 0, 1144), [0, 1, 2, 4], [2])], 0, [])),
  (167, ([(167, .ifCond .ge 7, 3, (174, 0, 0, 0, 0), [0, 1, 2, 4], [0, 1, 2, 4])], 0, [])),
  (170, ([(170, .iconst 1, 1, (0, 0, 0, 0, 0), [], []), (171, .goto 4, 3, (175, 0, 0, 0, 0), [0, 1, 2, 4], [])], 0, [])),
  (174, ([(174, .iconst 0, 1, (0, 0, 0, 0, 0), [], [])], 175, [0, 1, 2, 4])),
  (175, ([(175, .istore_n 3, 1, (0, 0, 0, 0, 0), [], []), (176, .aload_n 0, 1, (0, 0, 0, 0, 0), [], []), (177, .dup, 1, (0, 0, 0, 0, 0), [], []), (178, .getfield 19, 3, (8, 2, 0, 346, 0), [], []), (181, .iload_n 3, 1, (0, 0, 0, 0, 0), [], []), (182, .ifCond .eq 10, 3, (192, 0, 0, 0, 0), [0, 1, 2, 3, 4], [0, 1, 2, 3, 4])], 0, [])),
  (185, ([(185, .iconst 1, 1, (0, 0, 0, 0, 0), [], []), (186, .iload 4, 2, (0, 0, 0, 0, 0), [], []), (188, .ishl, 1, (0, 0, 0, 0, 0), [], []), (189, .goto 4, 3, (193, 0, 0, 0, 0), [0, 1, 2, 3, 4], [])], 0, [])),
  (192, ([(192, .iconst 0, 1, (0, 0, 0, 0, 0), [], [])], 193, [0, 1, 2, 3, 4])),
  (193, ([(193, .ior, 1, (0, 0, 0, 0, 0), [], []), (194, .putfield 19, 3, (8, 2, 0, 346, 0), [], [])], 197, [0, 1, 2, 3, 4])),
  (197, ([(197, .iinc 4 (-1), 3, (0, 0, 0, 0, 0), [], []), (200, .goto (-59), 3, (141, 0, 0, 0, 0), [0, 1, 2, 3, 4], [])], 0, [])),
  (203, ([(203, .return_, 1, (0, 0, 0, 0, 0), [], [])], 0, []))]
def cd_Watcher_has : List (Nat × AB) := [
  (0, ([(0, .iload_n 0, 1, (0, 0, 0, 0, 0), [], []), (1, .iload_n 1, 1, (0, 0, 0, 0, 0), [], []), (2, .iushr, 1, (0, 0, 0, 0, 0), [], []), (3, .iconst 1, 1, (0, 0, 0, 0, 0), [], []), (4, .iand, 1, (0, 0, 0, 0, 0), [], []), (5, .ifCond .eq 7, 3, (12, 0, 0, 0, 0), [], [])], 0, [])),
  (8, ([(8, .iconst 1, 1, (0, 0, 0, 0, 0), [], []), (9, .goto 4, 3, (13, 0, 0, 0, 0), [], [])], 0, [])),
  (12, ([(12, .iconst 0, 1, (0, 0, 0, 0, 0), [], [])], 13, [])),
  (13, ([(13, .ireturn, 1, (1, 0, 0, 0, 0), [], [])], 0, []))]
def cd_Watcher_fits : List (Nat × AB) := [
  (0, ([(0, .aload_n 1, 1, (0, 0, 0, 0, 0), [], []), (1, .iload_n 2, 1, (0, 0, 0, 0, 0), [], []), (2, .iload_n 3, 1, (0, 0, 0, 0, 0), [], []), (3, .iload 4, 2, (0, 0, 0, 0, 0), [], []), (5, .iload 5, 2, (0, 0, 0, 0, 0), [], []), (7, .invokevirtual 49, 3, (42, 5, 10, 9, 1167), [0, 3, 5], [5])], 0, [])),
  (10, ([(10, .istore 6, 2, (0, 0, 0, 0, 0), [], []), (12, .aload_n 0, 1, (0, 0, 0, 0, 0), [], []), (13, .getfield 9, 3, (8, 0, 2, 344, 0), [], []), (16, .iload_n 3, 1, (0, 0, 0, 0, 0), [], []), (17, .bipush 12, 2, (0, 0, 0, 0, 0), [], []), (19, .imul, 1, (0, 0, 0, 0, 0), [], []), (20, .iload 5, 2, (0, 0, 0, 0, 0), [], []), (22, .iadd, 1, (0, 0, 0, 0, 0), [], []), (23, .iaload, 1, (20, 0, 0, 0, 0), [], []), (24, .istore 7, 2, (0, 0, 0, 0, 0), [], []), (26, .iload 6, 2, (0, 0, 0, 0, 0), [], []), (28, .ifCond .lt 20, 3, (48, 0, 0, 0, 0), [], [6, 7])], 0, [])),
  (31, ([(31, .iload 7, 2, (0, 0, 0, 0, 0), [], []), (33, .iconst (-1), 1, (0, 0, 0, 0, 0), [], []), (34, .if_icmp .eq 10, 3, (44, 0, 0, 0, 0), [], [6, 7])], 0, [])),
  (37, ([(37, .iload 7, 2, (0, 0, 0, 0, 0), [], []), (39, .iload 6, 2, (0, 0, 0, 0, 0), [], []), (41, .if_icmp .ne 7, 3, (48, 0, 0, 0, 0), [], [])], 0, [])),
  (44, ([(44, .iconst 1, 1, (0, 0, 0, 0, 0), [], []), (45, .goto 4, 3, (49, 0, 0, 0, 0), [], [])], 0, [])),
  (48, ([(48, .iconst 0, 1, (0, 0, 0, 0, 0), [], [])], 49, [])),
  (49, ([(49, .ireturn, 1, (1, 0, 0, 0, 0), [], [])], 0, []))]
def cd_Watcher_addMoved : List (Nat × AB) := [
  (0, ([(0, .iconst 1, 1, (0, 0, 0, 0, 0), [], []), (1, .istore 4, 2, (0, 0, 0, 0, 0), [], [])], 3, [0, 1, 2, 3, 4])),
  (3, ([(3, .iload 4, 2, (0, 0, 0, 0, 0), [], []), (5, .iload_n 3, 1, (0, 0, 0, 0, 0), [], []), (6, .if_icmp .gt 26, 3, (32, 0, 0, 0, 0), [], [0, 1, 2, 3, 4])], 0, [])),
  (9, ([(9, .aload_n 0, 1, (0, 0, 0, 0, 0), [], []), (10, .iload_n 2, 1, (0, 0, 0, 0, 0), [], []), (11, .iload 4, 2, (0, 0, 0, 0, 0), [], []), (13, .iadd, 1, (0, 0, 0, 0, 0), [], []), (14, .dup2, 1, (0, 0, 0, 0, 0), [], []), (15, .iaload, 1, (20, 0, 0, 0, 0), [], []), (16, .aload_n 0, 1, (0, 0, 0, 0, 0), [], []), (17, .iload_n 1, 1, (0, 0, 0, 0, 0), [], []), (18, .iload 4, 2, (0, 0, 0, 0, 0), [], []), (20, .iadd, 1, (0, 0, 0, 0, 0), [], []), (21, .iconst 1, 1, (0, 0, 0, 0, 0), [], []), (22, .isub, 1, (0, 0, 0, 0, 0), [], []), (23, .iaload, 1, (20, 0, 0, 0, 0), [], []), (24, .iadd, 1, (0, 0, 0, 0, 0), [], []), (25, .iastore, 1, (0, 0, 0, 0, 0), [], [])], 26, [0, 1, 2, 3, 4])),
  (26, ([(26, .iinc 4 1, 3, (0, 0, 0, 0, 0), [], []), (29, .goto (-26), 3, (3, 0, 0, 0, 0), [0, 1, 2, 3, 4], [])], 0, [])),
  (32, ([(32, .return_, 1, (0, 0, 0, 0, 0), [], [])], 0, []))]
def cd_Watcher_countBehind : List (Nat × AB) := [
  (0, ([(0, .iload_n 2, 1, (0, 0, 0, 0, 0), [], []), (1, .iload_n 3, 1, (0, 0, 0, 0, 0), [], []), (2, .invokestatic 78, 3, (178, 2, 0, 0, 1162), [0, 1, 2, 3, 4, 5], [2])], 0, [])),
  (5, ([(5, .istore 6, 2, (0, 0, 0, 0, 0), [], []), (7, .aload 5, 2, (0, 0, 0, 0, 0), [], []), (9, .iload 6, 2, (0, 0, 0, 0, 0), [], []), (11, .aload_n 0, 1, (0, 0, 0, 0, 0), [], []), (12, .getfield 19, 3, (8, 2, 0, 346, 0), [], []), (15, .iload_n 3, 1, (0, 0, 0, 0, 0), [], []), (16, .invokestatic 57, 3, (269, 2, 0, 0, 1153), [0, 1, 2, 3, 4, 5, 6], [2])], 0, [])),
  (19, ([(19, .ifCond .eq 7, 3, (26, 0, 0, 0, 0), [0, 1, 2, 3, 4, 5, 6], [0, 1, 2, 3, 4, 5, 6])], 0, [])),
  (22, ([(22, .iconst 1, 1, (0, 0, 0, 0, 0), [], []), (23, .goto 4, 3, (27, 0, 0, 0, 0), [0, 1, 2, 3, 4, 5, 6], [])], 0, [])),
  (26, ([(26, .iconst 0, 1, (0, 0, 0, 0, 0), [], [])], 27, [0, 1, 2, 3, 4, 5, 6])),
  (27, ([(27, .iastore, 1, (0, 0, 0, 0, 0), [], [])], 28, [0, 1, 2, 3, 4, 5, 6])),
  (28, ([(28, .iload_n 2, 1, (0, 0, 0, 0, 0), [], []), (29, .iconst 1, 1, (0, 0, 0, 0, 0), [], []), (30, .iadd, 1, (0, 0, 0, 0, 0), [], []), (31, .istore 7, 2, (0, 0, 0, 0, 0), [], [])], 33, [0, 1, 2, 3, 4, 5, 6, 7])),
  (33, ([(33, .iload 7, 2, (0, 0, 0, 0, 0), [], []), (35, .aload_n 1, 1, (0, 0, 0, 0, 0), [], []), (36, .getfield 67, 3, (9, 5, 0, 138, 0), [], []), (39, .if_icmp .ge 94, 3, (133, 0, 0, 0, 0), [], [0, 1, 2, 3, 4, 5, 6, 7])], 0, [])),
  (42, ([(42, .iload_n 3, 1, (0, 0, 0, 0, 0), [], []), (43, .iconst 1, 1, (0, 0, 0, 0, 0), [], []), (44, .iadd, 1, (0, 0, 0, 0, 0), [], []), (45, .istore 8, 2, (0, 0, 0, 0, 0), [], [])], 47, [0, 1, 2, 3, 4, 5, 6, 7, 8])),
  (47, ([(47, .iload 8, 2, (0, 0, 0, 0, 0), [], []), (49, .aload_n 1, 1, (0, 0, 0, 0, 0), [], []), (50, .getfield 36, 3, (9, 6, 0, 144, 0), [], []), (53, .if_icmp .ge 74, 3, (127, 0, 0, 0, 0), [0, 1, 2, 3, 4, 5, 6, 7], [0, 1, 2, 3, 4, 5, 6, 7, 8])], 0, [])),
  (56, ([(56, .aload_n 1, 1, (0, 0, 0, 0, 0), [], []), (57, .iload 8, 2, (0, 0, 0, 0, 0), [], []), (59, .invokevirtual 70, 3, (38, 2, 10, 9, 1157), [0, 1, 2, 3, 4, 5, 6, 7, 8], [2])], 0, [])),
  (62, ([(62, .ifCond .ne 59, 3, (121, 0, 0, 0, 0), [0, 1, 2, 3, 4, 5, 6, 7, 8], [0, 1, 2, 3, 4, 5, 6, 7, 8])], 0, [])),
  (65, ([(65, .aload_n 0, 1, (0, 0, 0, 0, 0), [], []), (66, .aload_n 1, 1, (0, 0, 0, 0, 0), [], []), (67, .iload_n 2, 1, (0, 0, 0, 0, 0), [], []), (68, .iload_n 3, 1, (0, 0, 0, 0, 0), [], []), (69, .iload 7, 2, (0, 0, 0, 0, 0), [], []), (71, .iload 8, 2, (0, 0, 0, 0, 0), [], []), (73, .invokevirtual 81, 3, (270, 6, 10, 8, 1163), [0, 1, 2, 3, 4, 5, 6, 7, 8], [8])], 0, [])),
  (76, ([(76, .ifCond .eq 45, 3, (121, 0, 0, 0, 0), [0, 1, 2, 3, 4, 5, 6, 7, 8], [0, 1, 2, 3, 4, 5, 6, 7, 8])], 0, [])),
  (79, ([(79, .aload_n 1, 1, (0, 0, 0, 0, 0), [], []), (80, .getfield 67, 3, (9, 5, 0, 138, 0), [], []), (83, .iload 7, 2, (0, 0, 0, 0, 0), [], []), (85, .isub, 1, (0, 0, 0, 0, 0), [], []), (86, .aload_n 1, 1, (0, 0, 0, 0, 0), [], []), (87, .getfield 36, 3, (9, 6, 0, 144, 0), [], []), (90, .iload 8, 2, (0, 0, 0, 0, 0), [], []), (92, .isub, 1, (0, 0, 0, 0, 0), [], []), (93, .invokestatic 85, 3, (20, 2, 0, 0, 1168), [0, 1, 2, 3, 4, 5, 6, 7, 8], [2])], 0, [])),
  (96, ([(96, .istore 9, 2, (0, 0, 0, 0, 0), [], []), (98, .aload 5, 2, (0, 0, 0, 0, 0), [], []), (100, .iload 7, 2, (0, 0, 0, 0, 0), [], []), (102, .iload 8, 2, (0, 0, 0, 0, 0), [], []), (104, .invokestatic 78, 3, (178, 2, 0, 0, 1162), [0, 1, 2, 3, 4, 5, 6, 7, 8, 9], [2])], 0, [])),
  (107, ([(107, .iload 6, 2, (0, 0, 0, 0, 0), [], []), (109, .iload 4, 2, (0, 0, 0, 0, 0), [], []), (111, .iconst 1, 1, (0, 0, 0, 0, 0), [], []), (112, .isub, 1, (0, 0, 0, 0, 0), [], []), (113, .iload 9, 2, (0, 0, 0, 0, 0), [], []), (115, .invokestatic 85, 3, (20, 2, 0, 0, 1168), [0, 1, 2, 3, 4, 5, 6, 7, 8], [2])], 0, [])),
  (118, ([(118, .invokestatic 87, 3, (271, 4, 1, 0, 1169), [0, 1, 2, 3, 4, 5, 6, 7, 8], [5])], 0, [])),
  (121, ([(121, .iinc 8 1, 3, (0, 0, 0, 0, 0), [], []), (124, .goto (-77), 3, (47, 0, 0, 0, 0), [0, 1, 2, 3, 4, 5, 6, 7, 8], [])], 0, [])),
  (127, ([(127, .iinc 7 1, 3, (0, 0, 0, 0, 0), [], []), (130, .goto (-97), 3, (33, 0, 0, 0, 0), [0, 1, 2, 3, 4, 5, 6, 7], [])], 0, [])),
  (133, ([(133, .return_, 1, (0, 0, 0, 0, 0), [], [])], 0, []))]
def cd_Watcher_countFits : List (Nat × AB) := [
  (0, ([(0, .aload_n 0, 1, (0, 0, 0, 0, 0), [], []), (1, .aload_n 1, 1, (0, 0, 0, 0, 0), [], []), (2, .aload_n 2, 1, (0, 0, 0, 0, 0), [], []), (3, .invokevirtual 53, 3, (268, 3, 11, 8, 1140), [0, 1, 3, 4], [7])], 0, [])),
  (6, ([(6, .iload_n 3, 1, (0, 0, 0, 0, 0), [], []), (7, .ifCond .ne 32, 3, (39, 0, 0, 0, 0), [0, 1, 3, 4], [0, 1])], 0, [])),
  (10, ([(10, .aload_n 1, 1, (0, 0, 0, 0, 0), [], []), (11, .getfield 36, 3, (9, 6, 0, 144, 0), [], []), (14, .ifCond .eq 19, 3, (33, 0, 0, 0, 0), [], [0, 1])], 0, [])),
  (17, ([(17, .aload_n 0, 1, (0, 0, 0, 0, 0), [], []), (18, .getfield 15, 3, (8, 1, 0, 345, 0), [], []), (21, .aload_n 1, 1, (0, 0, 0, 0, 0), [], []), (22, .getfield 36, 3, (9, 6, 0, 144, 0), [], []), (25, .iconst 1, 1, (0, 0, 0, 0, 0), [], []), (26, .isub, 1, (0, 0, 0, 0, 0), [], []), (27, .invokestatic 57, 3, (269, 2, 0, 0, 1153), [], [2])], 0, [])),
  (30, ([(30, .ifCond .eq 7, 3, (37, 0, 0, 0, 0), [], [])], 0, [])),
  (33, ([(33, .iconst 1, 1, (0, 0, 0, 0, 0), [], []), (34, .goto 4, 3, (38, 0, 0, 0, 0), [], [])], 0, [])),
  (37, ([(37, .iconst 0, 1, (0, 0, 0, 0, 0), [], [])], 38, [])),
  (38, ([(38, .ireturn, 1, (0, 0, 0, 0, 0), [], [])], 0, [])),
  (39, ([(39, .aload 4, 2, (0, 0, 0, 0, 0), [], []), (41, .iconst 0, 1, (0, 0, 0, 0, 0), [], []), (42, .invokestatic 61, 3, (3, 2, 1, 0, 1156), [0, 1, 3, 4], [4])], 0, [])),
  (45, ([(45, .iconst 0, 1, (0, 0, 0, 0, 0), [], []), (46, .istore 5, 2, (0, 0, 0, 0, 0), [], []), (48, .aload_n 1, 1, (0, 0, 0, 0, 0), [], []), (49, .getfield 67, 3, (9, 5, 0, 138, 0), [], []), (52, .iconst 1, 1, (0, 0, 0, 0, 0), [], []), (53, .isub, 1, (0, 0, 0, 0, 0), [], []), (54, .istore 6, 2, (0, 0, 0, 0, 0), [], [])], 56, [0, 1, 3, 4, 5, 6])),
  (56, ([(56, .iload 6, 2, (0, 0, 0, 0, 0), [], []), (58, .ifCond .lt 84, 3, (142, 0, 0, 0, 0), [5], [0, 1, 3, 4, 5, 6])], 0, [])),
  (61, ([(61, .aload_n 1, 1, (0, 0, 0, 0, 0), [], []), (62, .getfield 36, 3, (9, 6, 0, 144, 0), [], []), (65, .iconst 1, 1, (0, 0, 0, 0, 0), [], []), (66, .isub, 1, (0, 0, 0, 0, 0), [], []), (67, .istore 7, 2, (0, 0, 0, 0, 0), [], [])], 69, [0, 1, 3, 4, 5, 6, 7])),
  (69, ([(69, .iload 7, 2, (0, 0, 0, 0, 0), [], []), (71, .ifCond .lt 65, 3, (136, 0, 0, 0, 0), [0, 1, 3, 4, 5, 6], [0, 1, 3, 4, 5, 6, 7])], 0, [])),
  (74, ([(74, .aload_n 1, 1, (0, 0, 0, 0, 0), [], []), (75, .iload 7, 2, (0, 0, 0, 0, 0), [], []), (77, .invokevirtual 70, 3, (38, 2, 10, 9, 1157), [0, 1, 3, 4, 5, 6, 7], [2])], 0, [])),
  (80, ([(80, .ifCond .ne 50, 3, (130, 0, 0, 0, 0), [0, 1, 3, 4, 5, 6, 7], [0, 1, 3, 4, 5, 6, 7])], 0, [])),
  (83, ([(83, .aload_n 0, 1, (0, 0, 0, 0, 0), [], []), (84, .aload_n 1, 1, (0, 0, 0, 0, 0), [], []), (85, .iload 6, 2, (0, 0, 0, 0, 0), [], []), (87, .iload 7, 2, (0, 0, 0, 0, 0), [], []), (89, .iload_n 3, 1, (0, 0, 0, 0, 0), [], []), (90, .aload 4, 2, (0, 0, 0, 0, 0), [], []), (92, .invokevirtual 74, 3, (272, 6, 11, 8, 1158), [0, 1, 3, 4, 5, 6, 7], [10])], 0, [])),
  (95, ([(95, .iload 5, 2, (0, 0, 0, 0, 0), [], []), (97, .aload_n 0, 1, (0, 0, 0, 0, 0), [], []), (98, .getfield 15, 3, (8, 1, 0, 345, 0), [], []), (101, .iload 7, 2, (0, 0, 0, 0, 0), [], []), (103, .invokestatic 57, 3, (269, 2, 0, 0, 1153), [0, 1, 3, 4, 6, 7], [2])], 0, [])),
  (106, ([(106, .ifCond .eq 20, 3, (126, 0, 0, 0, 0), [0, 1, 3, 4, 6, 7], [0, 1, 3, 4, 6, 7])], 0, [])),
  (109, ([(109, .aload 4, 2, (0, 0, 0, 0, 0), [], []), (111, .iload 6, 2, (0, 0, 0, 0, 0), [], []), (113, .iload 7, 2, (0, 0, 0, 0, 0), [], []), (115, .invokestatic 78, 3, (178, 2, 0, 0, 1162), [0, 1, 3, 4, 6, 7], [2])], 0, [])),
  (118, ([(118, .iload_n 3, 1, (0, 0, 0, 0, 0), [], []), (119, .iadd, 1, (0, 0, 0, 0, 0), [], []), (120, .iconst 1, 1, (0, 0, 0, 0, 0), [], []), (121, .isub, 1, (0, 0, 0, 0, 0), [], []), (122, .iaload, 1, (20, 0, 0, 0, 0), [], []), (123, .goto 4, 3, (127, 0, 0, 0, 0), [0, 1, 3, 4, 6, 7], [])], 0, [])),
  (126, ([(126, .iconst 0, 1, (0, 0, 0, 0, 0), [], [])], 127, [0, 1, 3, 4, 6, 7])),
  (127, ([(127, .iadd, 1, (0, 0, 0, 0, 0), [], []), (128, .istore 5, 2, (0, 0, 0, 0, 0), [], [])], 130, [0, 1, 3, 4, 5, 6, 7])),
  (130, ([(130, .iinc 7 (-1), 3, (0, 0, 0, 0, 0), [], []), (133, .goto (-64), 3, (69, 0, 0, 0, 0), [0, 1, 3, 4, 5, 6, 7], [])], 0, [])),
  (136, ([(136, .iinc 6 (-1), 3, (0, 0, 0, 0, 0), [], []), (139, .goto (-83), 3, (56, 0, 0, 0, 0), [0, 1, 3, 4, 5, 6], [])], 0, [])),
  (142, ([(142, .iload 5, 2, (0, 0, 0, 0, 0), [], []), (144, .ireturn, 1, (0, 0, 0, 0, 0), [], [])], 0, []))]
def cd_Hook_seen : List (Nat × AB) := [
  (0, ([(0, .aload_n 0, 1, (0, 0, 0, 0, 0), [], []), (1, .iload_n 1, 1, (0, 0, 0, 0, 0), [], []), (2, .invokevirtual 357, 3, (265, 2, 10, 10, 1123), [0, 1], [4])], 0, [])),
  (5, ([(5, .istore_n 2, 1, (0, 0, 0, 0, 0), [], []), (6, .iload_n 2, 1, (0, 0, 0, 0, 0), [], []), (7, .ifCond .eq 6, 3, (13, 0, 0, 0, 0), [0, 1], [2])], 0, [])),
  (10, ([(10, .iload_n 2, 1, (0, 0, 0, 0, 0), [], []), (11, .i2l, 1, (0, 0, 0, 0, 0), [], []), (12, .lreturn, 1, (0, 0, 0, 0, 0), [], [])], 0, [])),
  (13, ([(13, .aload_n 0, 1, (0, 0, 0, 0, 0), [], []), (14, .getfield 79, 3, (10, 14, 2, 368, 0), [], []), (17, .aload_n 0, 1, (0, 0, 0, 0, 0), [], []), (18, .getfield 33, 3, (10, 5, 2, 359, 0), [], []), (21, .invokevirtual 260, 3, (181, 2, 11, 2, 925), [0, 1], [4])], 0, [])),
  (24, ([(24, .aload_n 0, 1, (0, 0, 0, 0, 0), [], []), (25, .getfield 93, 3, (10, 16, 2, 370, 0), [], []), (28, .aload_n 0, 1, (0, 0, 0, 0, 0), [], []), (29, .getfield 33, 3, (10, 5, 2, 359, 0), [], []), (32, .aload_n 0, 1, (0, 0, 0, 0, 0), [], []), (33, .getfield 59, 3, (10, 10, 2, 364, 0), [], []), (36, .iload_n 1, 1, (0, 0, 0, 0, 0), [], []), (37, .aaload, 1, (24, 7, 0, 0, 0), [], []), (38, .aload_n 0, 1, (0, 0, 0, 0, 0), [], []), (39, .getfield 79, 3, (10, 14, 2, 368, 0), [], []), (42, .getfield 267, 3, (2, 2, 0, 286, 0), [], []), (45, .aload_n 0, 1, (0, 0, 0, 0, 0), [], []), (46, .getfield 97, 3, (10, 17, 2, 371, 0), [], []), (49, .invokevirtual 360, 3, (273, 5, 10, 8, 1136), [], [8])], 0, [])),
  (52, ([(52, .i2l, 1, (0, 0, 0, 0, 0), [], []), (53, .lreturn, 1, (0, 0, 0, 0, 0), [], [])], 0, []))]
def cd_Mod_noSeen : List (Nat × AB) := [
  (0, ([(0, .aload_n 0, 1, (0, 0, 0, 0, 0), [], []), (1, .iload_n 1, 1, (0, 0, 0, 0, 0), [], []), (2, .invokevirtual 299, 3, (162, 2, 10, 11, 1604), [0, 1], [2])], 0, [])),
  (5, ([(5, .istore_n 2, 1, (0, 0, 0, 0, 0), [], []), (6, .iload_n 2, 1, (0, 0, 0, 0, 0), [], []), (7, .ifCond .eq 5, 3, (12, 0, 0, 0, 0), [0, 1], [2])], 0, [])),
  (10, ([(10, .iload_n 2, 1, (0, 0, 0, 0, 0), [], []), (11, .ireturn, 1, (0, 0, 0, 0, 0), [], [])], 0, [])),
  (12, ([(12, .aload_n 0, 1, (0, 0, 0, 0, 0), [], []), (13, .getfield 64, 3, (11, 34, 2, 1289, 0), [], []), (16, .iload_n 1, 1, (0, 0, 0, 0, 0), [], []), (17, .iaload, 1, (20, 0, 0, 0, 0), [], []), (18, .aload_n 0, 1, (0, 0, 0, 0, 0), [], []), (19, .getfield 13, 3, (11, 1, 2, 1256, 0), [], []), (22, .iconst 2, 1, (0, 0, 0, 0, 0), [], []), (23, .iaload, 1, (20, 0, 0, 0, 0), [], []), (24, .ifCond .ne 7, 3, (31, 0, 0, 0, 0), [0, 1], [0, 1])], 0, [])),
  (27, ([(27, .iconst 0, 1, (0, 0, 0, 0, 0), [], []), (28, .goto 11, 3, (39, 0, 0, 0, 0), [0, 1], [])], 0, [])),
  (31, ([(31, .aload_n 0, 1, (0, 0, 0, 0, 0), [], []), (32, .getfield 13, 3, (11, 1, 2, 1256, 0), [], []), (35, .iconst 2, 1, (0, 0, 0, 0, 0), [], []), (36, .iaload, 1, (20, 0, 0, 0, 0), [], []), (37, .iconst 1, 1, (0, 0, 0, 0, 0), [], []), (38, .isub, 1, (0, 0, 0, 0, 0), [], [])], 39, [0, 1])),
  (39, ([(39, .if_icmp .eq 6, 3, (45, 0, 0, 0, 0), [0, 1], [])], 0, [])),
  (42, ([(42, .bipush (-4), 2, (0, 0, 0, 0, 0), [], []), (44, .ireturn, 1, (0, 0, 0, 0, 0), [], [])], 0, [])),
  (45, ([(45, .iconst 0, 1, (0, 0, 0, 0, 0), [], []), (46, .istore_n 3, 1, (0, 0, 0, 0, 0), [], [])], 47, [0, 1, 3])),
  (47, ([(47, .iload_n 3, 1, (0, 0, 0, 0, 0), [], []), (48, .aload_n 0, 1, (0, 0, 0, 0, 0), [], []), (49, .getfield 64, 3, (11, 34, 2, 1289, 0), [], []), (52, .iload_n 1, 1, (0, 0, 0, 0, 0), [], []), (53, .iaload, 1, (20, 0, 0, 0, 0), [], []), (54, .if_icmp .ge 30, 3, (84, 0, 0, 0, 0), [], [0, 1, 3])], 0, [])),
  (57, ([(57, .aload_n 0, 1, (0, 0, 0, 0, 0), [], []), (58, .getfield 67, 3, (11, 35, 2, 1290, 0), [], []), (61, .bipush 40, 2, (0, 0, 0, 0, 0), [], []), (63, .iload_n 1, 1, (0, 0, 0, 0, 0), [], []), (64, .imul, 1, (0, 0, 0, 0, 0), [], []), (65, .iload_n 3, 1, (0, 0, 0, 0, 0), [], []), (66, .iadd, 1, (0, 0, 0, 0, 0), [], []), (67, .laload, 1, (0, 0, 0, 0, 0), [], []), (68, .ldc2_w 432, 3, (0, 0, 0, 1767, (-2)), [], []), (71, .lcmp, 1, (0, 0, 0, 0, 0), [], []), (72, .ifCond .ge 6, 3, (78, 0, 0, 0, 0), [0, 1, 3], [])], 0, [])),
  (75, ([(75, .bipush (-3), 2, (0, 0, 0, 0, 0), [], []), (77, .ireturn, 1, (0, 0, 0, 0, 0), [], [])], 0, [])),
  (78, ([(78, .iinc 3 1, 3, (0, 0, 0, 0, 0), [], []), (81, .goto (-34), 3, (47, 0, 0, 0, 0), [0, 1, 3], [])], 0, [])),
  (84, ([(84, .iconst 0, 1, (0, 0, 0, 0, 0), [], []), (85, .ireturn, 1, (0, 0, 0, 0, 0), [], [])], 0, []))]
def cd_Mod_seen : List (Nat × AB) := [
  (0, ([(0, .aload_n 0, 1, (0, 0, 0, 0, 0), [], []), (1, .iconst 0, 1, (0, 0, 0, 0, 0), [], []), (2, .putfield 1, 3, (11, 0, 0, 1255, 0), [], [])], 5, [0, 1])),
  (5, ([(5, .aload_n 0, 1, (0, 0, 0, 0, 0), [], []), (6, .iload_n 1, 1, (0, 0, 0, 0, 0), [], []), (7, .invokevirtual 442, 3, (275, 2, 10, 11, 1803), [0, 1], [4])], 0, [])),
  (10, ([(10, .istore_n 2, 1, (0, 0, 0, 0, 0), [], []), (11, .iload_n 2, 1, (0, 0, 0, 0, 0), [], []), (12, .ifCond .eq 6, 3, (18, 0, 0, 0, 0), [0, 1], [2])], 0, [])),
  (15, ([(15, .iload_n 2, 1, (0, 0, 0, 0, 0), [], []), (16, .i2l, 1, (0, 0, 0, 0, 0), [], []), (17, .lreturn, 1, (0, 0, 0, 0, 0), [], [])], 0, [])),
  (18, ([(18, .aload_n 0, 1, (0, 0, 0, 0, 0), [], []), (19, .invokevirtual 356, 3, (191, 1, 10, 11, 1676), [0, 1], [2])], 0, [])),
  (22, ([(22, .istore_n 3, 1, (0, 0, 0, 0, 0), [], []), (23, .aload_n 0, 1, (0, 0, 0, 0, 0), [], []), (24, .iconst (-1), 1, (0, 0, 0, 0, 0), [], []), (25, .iconst (-1), 1, (0, 0, 0, 0, 0), [], []), (26, .iload_n 1, 1, (0, 0, 0, 0, 0), [], []), (27, .invokevirtual 341, 3, (186, 4, 11, 11, 1652), [0, 3], [9])], 0, [])),
  (30, ([(30, .aload_n 0, 1, (0, 0, 0, 0, 0), [], []), (31, .iload_n 3, 1, (0, 0, 0, 0, 0), [], []), (32, .invokevirtual 348, 3, (188, 2, 10, 11, 1668), [], [2])], 0, [])),
  (35, ([(35, .lreturn, 1, (0, 0, 0, 0, 0), [], [])], 0, []))]
def cd_Watcher_countAheadOf : List (Nat × AB) := [
  (0, ([(0, .sipush 1728, 3, (0, 0, 0, 0, 0), [], []), (3, .iload_n 2, 1, (0, 0, 0, 0, 0), [], []), (4, .iload_n 3, 1, (0, 0, 0, 0, 0), [], []), (5, .invokestatic 78, 3, (178, 2, 0, 0, 1162), [0, 1, 2, 3, 4, 5], [2])], 0, [])),
  (8, ([(8, .iadd, 1, (0, 0, 0, 0, 0), [], []), (9, .istore 6, 2, (0, 0, 0, 0, 0), [], []), (11, .aload 5, 2, (0, 0, 0, 0, 0), [], []), (13, .iload 6, 2, (0, 0, 0, 0, 0), [], []), (15, .aload_n 0, 1, (0, 0, 0, 0, 0), [], []), (16, .getfield 15, 3, (8, 1, 0, 345, 0), [], []), (19, .iload_n 3, 1, (0, 0, 0, 0, 0), [], []), (20, .invokestatic 57, 3, (269, 2, 0, 0, 1153), [0, 1, 2, 3, 4, 5, 6], [2])], 0, [])),
  (23, ([(23, .ifCond .eq 7, 3, (30, 0, 0, 0, 0), [0, 1, 2, 3, 4, 5, 6], [0, 1, 2, 3, 4, 5, 6])], 0, [])),
  (26, ([(26, .iconst 1, 1, (0, 0, 0, 0, 0), [], []), (27, .goto 4, 3, (31, 0, 0, 0, 0), [0, 1, 2, 3, 4, 5, 6], [])], 0, [])),
  (30, ([(30, .iconst 0, 1, (0, 0, 0, 0, 0), [], [])], 31, [0, 1, 2, 3, 4, 5, 6])),
  (31, ([(31, .iastore, 1, (0, 0, 0, 0, 0), [], [])], 32, [0, 1, 2, 3, 4, 5, 6])),
  (32, ([(32, .iconst 0, 1, (0, 0, 0, 0, 0), [], []), (33, .istore 7, 2, (0, 0, 0, 0, 0), [], [])], 35, [0, 1, 2, 3, 4, 5, 6, 7])),
  (35, ([(35, .iload 7, 2, (0, 0, 0, 0, 0), [], []), (37, .iload_n 2, 1, (0, 0, 0, 0, 0), [], []), (38, .if_icmp .ge 85, 3, (123, 0, 0, 0, 0), [], [0, 1, 2, 3, 4, 5, 6, 7])], 0, [])),
  (41, ([(41, .iconst 0, 1, (0, 0, 0, 0, 0), [], []), (42, .istore 8, 2, (0, 0, 0, 0, 0), [], [])], 44, [0, 1, 2, 3, 4, 5, 6, 7, 8])),
  (44, ([(44, .iload 8, 2, (0, 0, 0, 0, 0), [], []), (46, .iload_n 3, 1, (0, 0, 0, 0, 0), [], []), (47, .if_icmp .ge 70, 3, (117, 0, 0, 0, 0), [0, 1, 2, 3, 4, 5, 6, 7], [0, 1, 2, 3, 4, 5, 6, 7, 8])], 0, [])),
  (50, ([(50, .aload_n 1, 1, (0, 0, 0, 0, 0), [], []), (51, .iload 8, 2, (0, 0, 0, 0, 0), [], []), (53, .invokevirtual 70, 3, (38, 2, 10, 9, 1157), [0, 1, 2, 3, 4, 5, 6, 7, 8], [2])], 0, [])),
  (56, ([(56, .ifCond .ne 55, 3, (111, 0, 0, 0, 0), [0, 1, 2, 3, 4, 5, 6, 7, 8], [0, 1, 2, 3, 4, 5, 6, 7, 8])], 0, [])),
  (59, ([(59, .aload_n 0, 1, (0, 0, 0, 0, 0), [], []), (60, .aload_n 1, 1, (0, 0, 0, 0, 0), [], []), (61, .iload 7, 2, (0, 0, 0, 0, 0), [], []), (63, .iload 8, 2, (0, 0, 0, 0, 0), [], []), (65, .iload_n 2, 1, (0, 0, 0, 0, 0), [], []), (66, .iload_n 3, 1, (0, 0, 0, 0, 0), [], []), (67, .invokevirtual 81, 3, (270, 6, 10, 8, 1163), [0, 1, 2, 3, 4, 5, 6, 7, 8], [8])], 0, [])),
  (70, ([(70, .ifCond .eq 41, 3, (111, 0, 0, 0, 0), [0, 1, 2, 3, 4, 5, 6, 7, 8], [0, 1, 2, 3, 4, 5, 6, 7, 8])], 0, [])),
  (73, ([(73, .iload 7, 2, (0, 0, 0, 0, 0), [], []), (75, .iload 8, 2, (0, 0, 0, 0, 0), [], []), (77, .invokestatic 85, 3, (20, 2, 0, 0, 1168), [0, 1, 2, 3, 4, 5, 6, 7, 8], [2])], 0, [])),
  (80, ([(80, .iconst 1, 1, (0, 0, 0, 0, 0), [], []), (81, .iadd, 1, (0, 0, 0, 0, 0), [], []), (82, .istore 9, 2, (0, 0, 0, 0, 0), [], []), (84, .aload 5, 2, (0, 0, 0, 0, 0), [], []), (86, .sipush 1728, 3, (0, 0, 0, 0, 0), [], []), (89, .iload 7, 2, (0, 0, 0, 0, 0), [], []), (91, .iload 8, 2, (0, 0, 0, 0, 0), [], []), (93, .invokestatic 78, 3, (178, 2, 0, 0, 1162), [0, 1, 2, 3, 4, 5, 6, 7, 8, 9], [2])], 0, [])),
  (96, ([(96, .iadd, 1, (0, 0, 0, 0, 0), [], []), (97, .iload 6, 2, (0, 0, 0, 0, 0), [], []), (99, .iload 4, 2, (0, 0, 0, 0, 0), [], []), (101, .iconst 1, 1, (0, 0, 0, 0, 0), [], []), (102, .isub, 1, (0, 0, 0, 0, 0), [], []), (103, .iload 9, 2, (0, 0, 0, 0, 0), [], []), (105, .invokestatic 85, 3, (20, 2, 0, 0, 1168), [0, 1, 2, 3, 4, 5, 6, 7, 8], [2])], 0, [])),
  (108, ([(108, .invokestatic 87, 3, (271, 4, 1, 0, 1169), [0, 1, 2, 3, 4, 5, 6, 7, 8], [5])], 0, [])),
  (111, ([(111, .iinc 8 1, 3, (0, 0, 0, 0, 0), [], []), (114, .goto (-70), 3, (44, 0, 0, 0, 0), [0, 1, 2, 3, 4, 5, 6, 7, 8], [])], 0, [])),
  (117, ([(117, .iinc 7 1, 3, (0, 0, 0, 0, 0), [], []), (120, .goto (-85), 3, (35, 0, 0, 0, 0), [0, 1, 2, 3, 4, 5, 6, 7], [])], 0, [])),
  (123, ([(123, .return_, 1, (0, 0, 0, 0, 0), [], [])], 0, []))]
def cd_Watcher_countAhead : List (Nat × AB) := [
  (0, ([(0, .iconst 0, 1, (0, 0, 0, 0, 0), [], []), (1, .istore 5, 2, (0, 0, 0, 0, 0), [], [])], 3, [0, 1, 2, 3, 4, 5])),
  (3, ([(3, .iload 5, 2, (0, 0, 0, 0, 0), [], []), (5, .iload_n 2, 1, (0, 0, 0, 0, 0), [], []), (6, .if_icmp .gt 48, 3, (54, 0, 0, 0, 0), [], [0, 1, 2, 3, 4, 5])], 0, [])),
  (9, ([(9, .iconst 0, 1, (0, 0, 0, 0, 0), [], []), (10, .istore 6, 2, (0, 0, 0, 0, 0), [], [])], 12, [0, 1, 2, 3, 4, 5, 6])),
  (12, ([(12, .iload 6, 2, (0, 0, 0, 0, 0), [], []), (14, .aload_n 1, 1, (0, 0, 0, 0, 0), [], []), (15, .getfield 36, 3, (9, 6, 0, 144, 0), [], []), (18, .if_icmp .ge 30, 3, (48, 0, 0, 0, 0), [0, 1, 2, 3, 4, 5], [0, 1, 2, 3, 4, 5, 6])], 0, [])),
  (21, ([(21, .aload_n 1, 1, (0, 0, 0, 0, 0), [], []), (22, .iload 6, 2, (0, 0, 0, 0, 0), [], []), (24, .invokevirtual 70, 3, (38, 2, 10, 9, 1157), [0, 1, 2, 3, 4, 5, 6], [2])], 0, [])),
  (27, ([(27, .ifCond .ne 15, 3, (42, 0, 0, 0, 0), [0, 1, 2, 3, 4, 5, 6], [0, 1, 2, 3, 4, 5, 6])], 0, [])),
  (30, ([(30, .aload_n 0, 1, (0, 0, 0, 0, 0), [], []), (31, .aload_n 1, 1, (0, 0, 0, 0, 0), [], []), (32, .iload 5, 2, (0, 0, 0, 0, 0), [], []), (34, .iload 6, 2, (0, 0, 0, 0, 0), [], []), (36, .iload_n 3, 1, (0, 0, 0, 0, 0), [], []), (37, .aload 4, 2, (0, 0, 0, 0, 0), [], []), (39, .invokevirtual 99, 3, (277, 6, 11, 8, 1184), [0, 1, 2, 3, 4, 5, 6], [10])], 0, [])),
  (42, ([(42, .iinc 6 1, 3, (0, 0, 0, 0, 0), [], []), (45, .goto (-33), 3, (12, 0, 0, 0, 0), [0, 1, 2, 3, 4, 5, 6], [])], 0, [])),
  (48, ([(48, .iinc 5 1, 3, (0, 0, 0, 0, 0), [], []), (51, .goto (-48), 3, (3, 0, 0, 0, 0), [0, 1, 2, 3, 4, 5], [])], 0, [])),
  (54, ([(54, .return_, 1, (0, 0, 0, 0, 0), [], [])], 0, []))]
def cd_Watcher_countThrough : List (Nat × AB) := [
  (0, ([(0, .iconst 0, 1, (0, 0, 0, 0, 0), [], []), (1, .istore_n 3, 1, (0, 0, 0, 0, 0), [], []), (2, .iconst 0, 1, (0, 0, 0, 0, 0), [], []), (3, .istore 4, 2, (0, 0, 0, 0, 0), [], [])], 5, [0, 1, 2, 3, 4])),
  (5, ([(5, .iload 4, 2, (0, 0, 0, 0, 0), [], []), (7, .iload_n 1, 1, (0, 0, 0, 0, 0), [], []), (8, .if_icmp .ge 33, 3, (41, 0, 0, 0, 0), [3], [0, 1, 2, 3, 4])], 0, [])),
  (11, ([(11, .iload_n 3, 1, (0, 0, 0, 0, 0), [], []), (12, .aload_n 2, 1, (0, 0, 0, 0, 0), [], []), (13, .sipush 1728, 3, (0, 0, 0, 0, 0), [], []), (16, .iload_n 0, 1, (0, 0, 0, 0, 0), [], []), (17, .iadd, 1, (0, 0, 0, 0, 0), [], []), (18, .iload 4, 2, (0, 0, 0, 0, 0), [], []), (20, .iadd, 1, (0, 0, 0, 0, 0), [], []), (21, .iaload, 1, (20, 0, 0, 0, 0), [], []), (22, .aload_n 2, 1, (0, 0, 0, 0, 0), [], []), (23, .iload_n 0, 1, (0, 0, 0, 0, 0), [], []), (24, .iload_n 1, 1, (0, 0, 0, 0, 0), [], []), (25, .iadd, 1, (0, 0, 0, 0, 0), [], []), (26, .iconst 1, 1, (0, 0, 0, 0, 0), [], []), (27, .isub, 1, (0, 0, 0, 0, 0), [], []), (28, .iload 4, 2, (0, 0, 0, 0, 0), [], []), (30, .isub, 1, (0, 0, 0, 0, 0), [], []), (31, .iaload, 1, (20, 0, 0, 0, 0), [], []), (32, .imul, 1, (0, 0, 0, 0, 0), [], []), (33, .iadd, 1, (0, 0, 0, 0, 0), [], []), (34, .istore_n 3, 1, (0, 0, 0, 0, 0), [], []), (35, .iinc 4 1, 3, (0, 0, 0, 0, 0), [], []), (38, .goto (-33), 3, (5, 0, 0, 0, 0), [0, 1, 2, 3, 4], [])], 0, [])),
  (41, ([(41, .iload_n 3, 1, (0, 0, 0, 0, 0), [], []), (42, .ireturn, 1, (0, 0, 0, 0, 0), [], [])], 0, []))]
def cd_Watcher_ringInAll : List (Nat × AB) := [
  (0, ([(0, .iload_n 3, 1, (0, 0, 0, 0, 0), [], []), (1, .ifCond .ne 6, 3, (7, 0, 0, 0, 0), [0, 1, 2, 3, 4, 5], [])], 0, [])),
  (4, ([(4, .bipush (-8), 2, (0, 0, 0, 0, 0), [], []), (6, .ireturn, 1, (0, 0, 0, 0, 0), [], [])], 0, [])),
  (7, ([(7, .iload 4, 2, (0, 0, 0, 0, 0), [], []), (9, .ifCond .ne 5, 3, (14, 0, 0, 0, 0), [0, 1, 2, 3, 4, 5], [])], 0, [])),
  (12, ([(12, .iconst (-1), 1, (0, 0, 0, 0, 0), [], []), (13, .ireturn, 1, (0, 0, 0, 0, 0), [], [])], 0, [])),
  (14, ([(14, .aload_n 0, 1, (0, 0, 0, 0, 0), [], []), (15, .aload_n 1, 1, (0, 0, 0, 0, 0), [], []), (16, .iload_n 2, 1, (0, 0, 0, 0, 0), [], []), (17, .iload 4, 2, (0, 0, 0, 0, 0), [], []), (19, .aload 5, 2, (0, 0, 0, 0, 0), [], []), (21, .invokevirtual 91, 3, (278, 5, 11, 8, 1180), [1, 2, 3, 4, 5], [7])], 0, [])),
  (24, ([(24, .iconst 0, 1, (0, 0, 0, 0, 0), [], []), (25, .istore 6, 2, (0, 0, 0, 0, 0), [], []), (27, .iconst 0, 1, (0, 0, 0, 0, 0), [], []), (28, .istore 7, 2, (0, 0, 0, 0, 0), [], [])], 30, [1, 2, 3, 4, 5, 6, 7])),
  (30, ([(30, .iload 7, 2, (0, 0, 0, 0, 0), [], []), (32, .aload_n 1, 1, (0, 0, 0, 0, 0), [], []), (33, .getfield 36, 3, (9, 6, 0, 144, 0), [], []), (36, .if_icmp .ge 40, 3, (76, 0, 0, 0, 0), [6], [1, 2, 3, 4, 5, 6, 7])], 0, [])),
  (39, ([(39, .iload_n 2, 1, (0, 0, 0, 0, 0), [], []), (40, .iload 7, 2, (0, 0, 0, 0, 0), [], []), (42, .invokestatic 78, 3, (178, 2, 0, 0, 1162), [1, 2, 3, 4, 5, 6, 7], [2])], 0, [])),
  (45, ([(45, .iload 4, 2, (0, 0, 0, 0, 0), [], []), (47, .aload 5, 2, (0, 0, 0, 0, 0), [], []), (49, .invokestatic 95, 3, (279, 3, 0, 0, 1188), [1, 2, 3, 4, 5, 6, 7], [5])], 0, [])),
  (52, ([(52, .istore 8, 2, (0, 0, 0, 0, 0), [], []), (54, .iload 8, 2, (0, 0, 0, 0, 0), [], []), (56, .iload_n 3, 1, (0, 0, 0, 0, 0), [], []), (57, .if_icmp .ne 6, 3, (63, 0, 0, 0, 0), [1, 2, 3, 4, 5, 6, 7, 8], [7])], 0, [])),
  (60, ([(60, .iload 7, 2, (0, 0, 0, 0, 0), [], []), (62, .ireturn, 1, (0, 0, 0, 0, 0), [], [])], 0, [])),
  (63, ([(63, .iload 6, 2, (0, 0, 0, 0, 0), [], []), (65, .iload 8, 2, (0, 0, 0, 0, 0), [], []), (67, .iadd, 1, (0, 0, 0, 0, 0), [], []), (68, .istore 6, 2, (0, 0, 0, 0, 0), [], []), (70, .iinc 7 1, 3, (0, 0, 0, 0, 0), [], []), (73, .goto (-43), 3, (30, 0, 0, 0, 0), [1, 2, 3, 4, 5, 6, 7], [])], 0, [])),
  (76, ([(76, .iload 6, 2, (0, 0, 0, 0, 0), [], []), (78, .ifCond .ne 7, 3, (85, 0, 0, 0, 0), [], [])], 0, [])),
  (81, ([(81, .iconst (-1), 1, (0, 0, 0, 0, 0), [], []), (82, .goto 5, 3, (87, 0, 0, 0, 0), [], [])], 0, [])),
  (85, ([(85, .bipush (-8), 2, (0, 0, 0, 0, 0), [], [])], 87, [])),
  (87, ([(87, .ireturn, 1, (0, 0, 0, 0, 0), [], [])], 0, []))]
def cd_Hook_sure : List (Nat × AB) := [
  (0, ([(0, .aload_n 0, 1, (0, 0, 0, 0, 0), [], []), (1, .getfield 33, 3, (10, 5, 2, 359, 0), [], []), (4, .iload_n 2, 1, (0, 0, 0, 0, 0), [], []), (5, .invokevirtual 130, 3, (35, 2, 10, 9, 744), [0, 1, 2], [2])], 0, [])),
  (8, ([(8, .ifCond .ne 6, 3, (14, 0, 0, 0, 0), [0, 1, 2], [])], 0, [])),
  (11, ([(11, .bipush (-2), 2, (0, 0, 0, 0, 0), [], []), (13, .ireturn, 1, (0, 0, 0, 0, 0), [], [])], 0, [])),
  (14, ([(14, .aload_n 0, 1, (0, 0, 0, 0, 0), [], []), (15, .iload_n 1, 1, (0, 0, 0, 0, 0), [], []), (16, .invokevirtual 357, 3, (265, 2, 10, 10, 1123), [0, 1, 2], [4])], 0, [])),
  (19, ([(19, .istore_n 3, 1, (0, 0, 0, 0, 0), [], []), (20, .iload_n 3, 1, (0, 0, 0, 0, 0), [], []), (21, .ifCond .eq 5, 3, (26, 0, 0, 0, 0), [0, 1, 2], [3])], 0, [])),
  (24, ([(24, .iload_n 3, 1, (0, 0, 0, 0, 0), [], []), (25, .ireturn, 1, (0, 0, 0, 0, 0), [], [])], 0, [])),
  (26, ([(26, .aload_n 0, 1, (0, 0, 0, 0, 0), [], []), (27, .getfield 79, 3, (10, 14, 2, 368, 0), [], []), (30, .aload_n 0, 1, (0, 0, 0, 0, 0), [], []), (31, .getfield 33, 3, (10, 5, 2, 359, 0), [], []), (34, .invokevirtual 260, 3, (181, 2, 11, 2, 925), [0, 1, 2], [4])], 0, [])),
  (37, ([(37, .aload_n 0, 1, (0, 0, 0, 0, 0), [], []), (38, .getfield 93, 3, (10, 16, 2, 370, 0), [], []), (41, .aload_n 0, 1, (0, 0, 0, 0, 0), [], []), (42, .getfield 33, 3, (10, 5, 2, 359, 0), [], []), (45, .aload_n 0, 1, (0, 0, 0, 0, 0), [], []), (46, .getfield 59, 3, (10, 10, 2, 364, 0), [], []), (49, .iload_n 1, 1, (0, 0, 0, 0, 0), [], []), (50, .aaload, 1, (24, 7, 0, 0, 0), [], []), (51, .aload_n 0, 1, (0, 0, 0, 0, 0), [], []), (52, .getfield 79, 3, (10, 14, 2, 368, 0), [], []), (55, .getfield 267, 3, (2, 2, 0, 286, 0), [], []), (58, .aload_n 0, 1, (0, 0, 0, 0, 0), [], []), (59, .getfield 97, 3, (10, 17, 2, 371, 0), [], []), (62, .invokevirtual 360, 3, (273, 5, 10, 8, 1136), [0, 2], [8])], 0, [])),
  (65, ([(65, .istore 4, 2, (0, 0, 0, 0, 0), [], []), (67, .aload_n 0, 1, (0, 0, 0, 0, 0), [], []), (68, .getfield 93, 3, (10, 16, 2, 370, 0), [], []), (71, .aload_n 0, 1, (0, 0, 0, 0, 0), [], []), (72, .getfield 33, 3, (10, 5, 2, 359, 0), [], []), (75, .iload_n 2, 1, (0, 0, 0, 0, 0), [], []), (76, .iload 4, 2, (0, 0, 0, 0, 0), [], []), (78, .aload_n 0, 1, (0, 0, 0, 0, 0), [], []), (79, .getfield 79, 3, (10, 14, 2, 368, 0), [], []), (82, .getfield 267, 3, (2, 2, 0, 286, 0), [], []), (85, .aload_n 0, 1, (0, 0, 0, 0, 0), [], []), (86, .getfield 97, 3, (10, 17, 2, 371, 0), [], []), (89, .invokevirtual 364, 3, (280, 6, 10, 8, 1176), [], [9])], 0, [])),
  (92, ([(92, .ireturn, 1, (0, 0, 0, 0, 0), [], [])], 0, []))]
def cd_Mod_sure : List (Nat × AB) := [
  (0, ([(0, .aload_n 0, 1, (0, 0, 0, 0, 0), [], []), (1, .iconst 0, 1, (0, 0, 0, 0, 0), [], []), (2, .putfield 1, 3, (11, 0, 0, 1255, 0), [], [])], 5, [0, 1, 2])),
  (5, ([(5, .iload_n 1, 1, (0, 0, 0, 0, 0), [], []), (6, .i2l, 1, (0, 0, 0, 0, 0), [], []), (7, .lconst 0, 1, (0, 0, 0, 0, 0), [], []), (8, .ldc2_w 297, 3, (0, 0, 0, 1603, 3), [], []), (11, .invokestatic 136, 3, (71, 3, 0, 0, 1372), [0, 1, 2], [6])], 0, [])),
  (14, ([(14, .ifCond .eq 11, 3, (25, 0, 0, 0, 0), [], [0, 1, 2])], 0, [])),
  (17, ([(17, .aload_n 0, 1, (0, 0, 0, 0, 0), [], []), (18, .iload_n 2, 1, (0, 0, 0, 0, 0), [], []), (19, .invokevirtual 240, 3, (108, 2, 10, 11, 1500), [0, 1, 2], [2])], 0, [])),
  (22, ([(22, .ifCond .ne 6, 3, (28, 0, 0, 0, 0), [0, 1, 2], [])], 0, [])),
  (25, ([(25, .bipush (-2), 2, (0, 0, 0, 0, 0), [], []), (27, .ireturn, 1, (0, 0, 0, 0, 0), [], [])], 0, [])),
  (28, ([(28, .aload_n 0, 1, (0, 0, 0, 0, 0), [], []), (29, .iload_n 1, 1, (0, 0, 0, 0, 0), [], []), (30, .invokevirtual 442, 3, (275, 2, 10, 11, 1803), [0, 1, 2], [4])], 0, [])),
  (33, ([(33, .istore_n 3, 1, (0, 0, 0, 0, 0), [], []), (34, .iload_n 3, 1, (0, 0, 0, 0, 0), [], []), (35, .ifCond .eq 5, 3, (40, 0, 0, 0, 0), [0, 1, 2], [3])], 0, [])),
  (38, ([(38, .iload_n 3, 1, (0, 0, 0, 0, 0), [], []), (39, .ireturn, 1, (0, 0, 0, 0, 0), [], [])], 0, [])),
  (40, ([(40, .aload_n 0, 1, (0, 0, 0, 0, 0), [], []), (41, .invokevirtual 356, 3, (191, 1, 10, 11, 1676), [0, 1, 2], [2])], 0, [])),
  (44, ([(44, .istore 4, 2, (0, 0, 0, 0, 0), [], []), (46, .aload_n 0, 1, (0, 0, 0, 0, 0), [], []), (47, .iconst (-1), 1, (0, 0, 0, 0, 0), [], []), (48, .iconst (-1), 1, (0, 0, 0, 0, 0), [], []), (49, .iload_n 1, 1, (0, 0, 0, 0, 0), [], []), (50, .invokevirtual 341, 3, (186, 4, 11, 11, 1652), [0, 1, 2, 4], [9])], 0, [])),
  (53, ([(53, .aload_n 0, 1, (0, 0, 0, 0, 0), [], []), (54, .iload 4, 2, (0, 0, 0, 0, 0), [], []), (56, .invokevirtual 348, 3, (188, 2, 10, 11, 1668), [0, 1, 2, 4], [2])], 0, [])),
  (59, ([(59, .lstore 5, 2, (0, 0, 0, 0, 0), [], []), (61, .lload 5, 2, (0, 0, 0, 0, 0), [], []), (63, .lconst 0, 1, (0, 0, 0, 0, 0), [], []), (64, .lcmp, 1, (0, 0, 0, 0, 0), [], []), (65, .ifCond .ne 6, 3, (71, 0, 0, 0, 0), [0, 1, 2, 4, 5], [])], 0, [])),
  (68, ([(68, .bipush (-8), 2, (0, 0, 0, 0, 0), [], []), (70, .ireturn, 1, (0, 0, 0, 0, 0), [], [])], 0, [])),
  (71, ([(71, .aload_n 0, 1, (0, 0, 0, 0, 0), [], []), (72, .iload_n 2, 1, (0, 0, 0, 0, 0), [], []), (73, .iconst (-1), 1, (0, 0, 0, 0, 0), [], []), (74, .iload_n 1, 1, (0, 0, 0, 0, 0), [], []), (75, .invokevirtual 341, 3, (186, 4, 11, 11, 1652), [0, 1, 2, 4, 5], [9])], 0, [])),
  (78, ([(78, .aload_n 0, 1, (0, 0, 0, 0, 0), [], []), (79, .iload 4, 2, (0, 0, 0, 0, 0), [], []), (81, .invokevirtual 348, 3, (188, 2, 10, 11, 1668), [0, 1, 2, 4, 5], [2])], 0, [])),
  (84, ([(84, .lload 5, 2, (0, 0, 0, 0, 0), [], []), (86, .lcmp, 1, (0, 0, 0, 0, 0), [], []), (87, .ifCond .ne 5, 3, (92, 0, 0, 0, 0), [0, 1, 2, 4], [])], 0, [])),
  (90, ([(90, .iconst (-1), 1, (0, 0, 0, 0, 0), [], []), (91, .ireturn, 1, (0, 0, 0, 0, 0), [], [])], 0, [])),
  (92, ([(92, .iconst 0, 1, (0, 0, 0, 0, 0), [], []), (93, .istore 7, 2, (0, 0, 0, 0, 0), [], [])], 95, [0, 1, 2, 4, 7])),
  (95, ([(95, .iload 7, 2, (0, 0, 0, 0, 0), [], []), (97, .aload_n 0, 1, (0, 0, 0, 0, 0), [], []), (98, .getfield 13, 3, (11, 1, 2, 1256, 0), [], []), (101, .iconst 2, 1, (0, 0, 0, 0, 0), [], []), (102, .iaload, 1, (20, 0, 0, 0, 0), [], []), (103, .if_icmp .ge 31, 3, (134, 0, 0, 0, 0), [], [0, 1, 2, 4, 7])], 0, [])),
  (106, ([(106, .aload_n 0, 1, (0, 0, 0, 0, 0), [], []), (107, .iload_n 2, 1, (0, 0, 0, 0, 0), [], []), (108, .iload 7, 2, (0, 0, 0, 0, 0), [], []), (110, .iload_n 1, 1, (0, 0, 0, 0, 0), [], []), (111, .invokevirtual 341, 3, (186, 4, 11, 11, 1652), [0, 1, 2, 4, 7], [9])], 0, [])),
  (114, ([(114, .aload_n 0, 1, (0, 0, 0, 0, 0), [], []), (115, .iload 4, 2, (0, 0, 0, 0, 0), [], []), (117, .invokevirtual 348, 3, (188, 2, 10, 11, 1668), [0, 1, 2, 4, 7], [2])], 0, [])),
  (120, ([(120, .lconst 0, 1, (0, 0, 0, 0, 0), [], []), (121, .lcmp, 1, (0, 0, 0, 0, 0), [], []), (122, .ifCond .ne 6, 3, (128, 0, 0, 0, 0), [0, 1, 2, 4, 7], [7])], 0, [])),
  (125, ([(125, .iload 7, 2, (0, 0, 0, 0, 0), [], []), (127, .ireturn, 1, (0, 0, 0, 0, 0), [], [])], 0, [])),
  (128, ([(128, .iinc 7 1, 3, (0, 0, 0, 0, 0), [], []), (131, .goto (-36), 3, (95, 0, 0, 0, 0), [0, 1, 2, 4, 7], [])], 0, [])),
  (134, ([(134, .bipush (-8), 2, (0, 0, 0, 0, 0), [], []), (136, .ireturn, 1, (0, 0, 0, 0, 0), [], [])], 0, []))]
def cd_Arr_fill_aJJ : List (Nat × AB) := [
  (0, ([(0, .iconst 0, 1, (0, 0, 0, 0, 0), [], []), (1, .istore_n 3, 1, (0, 0, 0, 0, 0), [], []), (2, .aload_n 0, 1, (0, 0, 0, 0, 0), [], []), (3, .arraylength, 1, (21, 0, 0, 0, 0), [], []), (4, .istore 4, 2, (0, 0, 0, 0, 0), [], [])], 6, [0, 1, 3, 4])),
  (6, ([(6, .iload_n 3, 1, (0, 0, 0, 0, 0), [], []), (7, .iload 4, 2, (0, 0, 0, 0, 0), [], []), (9, .if_icmp .ge 13, 3, (22, 0, 0, 0, 0), [], [0, 1, 3, 4])], 0, [])),
  (12, ([(12, .aload_n 0, 1, (0, 0, 0, 0, 0), [], []), (13, .iload_n 3, 1, (0, 0, 0, 0, 0), [], []), (14, .lload_n 1, 1, (0, 0, 0, 0, 0), [], []), (15, .lastore, 1, (0, 0, 0, 0, 0), [], [])], 16, [0, 1, 3, 4])),
  (16, ([(16, .iinc 3 1, 3, (0, 0, 0, 0, 0), [], []), (19, .goto (-13), 3, (6, 0, 0, 0, 0), [0, 1, 3, 4], [])], 0, [])),
  (22, ([(22, .return_, 1, (0, 0, 0, 0, 0), [], [])], 0, []))]
def cd_Tray_make : List (Nat × AB) := [
  (0, ([(0, .aload_n 0, 1, (0, 0, 0, 0, 0), [], []), (1, .getfield 9, 3, (7, 0, 2, 260, 0), [], []), (4, .lconst 0, 1, (0, 0, 0, 0, 0), [], []), (5, .invokestatic 22, 3, (283, 2, 1, 0, 1199), [0, 1, 2], [5])], 0, [])),
  (8, ([(8, .aload_n 0, 1, (0, 0, 0, 0, 0), [], []), (9, .iload_n 1, 1, (0, 0, 0, 0, 0), [], []), (10, .putfield 15, 3, (7, 1, 0, 261, 0), [], [])], 13, [0, 2])),
  (13, ([(13, .aload_n 0, 1, (0, 0, 0, 0, 0), [], []), (14, .iload_n 2, 1, (0, 0, 0, 0, 0), [], []), (15, .putfield 19, 3, (7, 2, 0, 262, 0), [], [])], 18, [])),
  (18, ([(18, .return_, 1, (0, 0, 0, 0, 0), [], [])], 0, []))]
def cd_Hook_numbers : List (Nat × AB) := [
  (0, ([(0, .iload_n 1, 1, (0, 0, 0, 0, 0), [], []), (1, .invokestatic 213, 3, (154, 1, 0, 0, 856), [0, 1, 2, 3], [1])], 0, [])),
  (4, ([(4, .ifCond .eq 12, 3, (16, 0, 0, 0, 0), [], [0, 1, 2, 3])], 0, [])),
  (7, ([(7, .iload_n 2, 1, (0, 0, 0, 0, 0), [], []), (8, .ifCond .lt 8, 3, (16, 0, 0, 0, 0), [], [0, 1, 2, 3])], 0, [])),
  (11, ([(11, .iload_n 2, 1, (0, 0, 0, 0, 0), [], []), (12, .iconst 3, 1, (0, 0, 0, 0, 0), [], []), (13, .if_icmp .le 6, 3, (19, 0, 0, 0, 0), [0, 1, 2, 3], [])], 0, [])),
  (16, ([(16, .bipush (-2), 2, (0, 0, 0, 0, 0), [], []), (18, .ireturn, 1, (0, 0, 0, 0, 0), [], [])], 0, [])),
  (19, ([(19, .iload_n 3, 1, (0, 0, 0, 0, 0), [], []), (20, .ifCond .lt 9, 3, (29, 0, 0, 0, 0), [], [0, 1, 2, 3])], 0, [])),
  (23, ([(23, .iload_n 3, 1, (0, 0, 0, 0, 0), [], []), (24, .bipush 40, 2, (0, 0, 0, 0, 0), [], []), (26, .if_icmp .le 6, 3, (32, 0, 0, 0, 0), [0, 1, 2, 3], [])], 0, [])),
  (29, ([(29, .bipush (-3), 2, (0, 0, 0, 0, 0), [], []), (31, .ireturn, 1, (0, 0, 0, 0, 0), [], [])], 0, [])),
  (32, ([(32, .aload_n 0, 1, (0, 0, 0, 0, 0), [], []), (33, .getfield 59, 3, (10, 10, 2, 364, 0), [], []), (36, .iload_n 1, 1, (0, 0, 0, 0, 0), [], []), (37, .aaload, 1, (24, 7, 0, 0, 0), [], []), (38, .iload_n 2, 1, (0, 0, 0, 0, 0), [], []), (39, .iload_n 3, 1, (0, 0, 0, 0, 0), [], []), (40, .invokevirtual 375, 3, (284, 3, 11, 7, 1195), [], [3])], 0, [])),
  (43, ([(43, .iconst 0, 1, (0, 0, 0, 0, 0), [], []), (44, .ireturn, 1, (0, 0, 0, 0, 0), [], [])], 0, []))]
def cd_Mod_numbers : List (Nat × AB) := [
  (0, ([(0, .aload_n 0, 1, (0, 0, 0, 0, 0), [], []), (1, .iconst 0, 1, (0, 0, 0, 0, 0), [], []), (2, .putfield 1, 3, (11, 0, 0, 1255, 0), [], [])], 5, [0, 1, 2, 3])),
  (5, ([(5, .iload_n 1, 1, (0, 0, 0, 0, 0), [], []), (6, .i2l, 1, (0, 0, 0, 0, 0), [], []), (7, .lconst 0, 1, (0, 0, 0, 0, 0), [], []), (8, .ldc2_w 297, 3, (0, 0, 0, 1603, 3), [], []), (11, .invokestatic 136, 3, (71, 3, 0, 0, 1372), [0, 1, 2, 3], [6])], 0, [])),
  (14, ([(14, .ifCond .eq 15, 3, (29, 0, 0, 0, 0), [], [0, 1, 2, 3])], 0, [])),
  (17, ([(17, .iload_n 2, 1, (0, 0, 0, 0, 0), [], []), (18, .i2l, 1, (0, 0, 0, 0, 0), [], []), (19, .lconst 0, 1, (0, 0, 0, 0, 0), [], []), (20, .ldc2_w 297, 3, (0, 0, 0, 1603, 3), [], []), (23, .invokestatic 136, 3, (71, 3, 0, 0, 1372), [0, 1, 2, 3], [6])], 0, [])),
  (26, ([(26, .ifCond .ne 6, 3, (32, 0, 0, 0, 0), [0, 1, 2, 3], [])], 0, [])),
  (29, ([(29, .bipush (-2), 2, (0, 0, 0, 0, 0), [], []), (31, .ireturn, 1, (0, 0, 0, 0, 0), [], [])], 0, [])),
  (32, ([(32, .iload_n 3, 1, (0, 0, 0, 0, 0), [], []), (33, .i2l, 1, (0, 0, 0, 0, 0), [], []), (34, .lconst 0, 1, (0, 0, 0, 0, 0), [], []), (35, .ldc2_w 445, 3, (0, 0, 0, 1815, 40), [], []), (38, .invokestatic 136, 3, (71, 3, 0, 0, 1372), [0, 1, 2, 3], [6])], 0, [])),
  (41, ([(41, .ifCond .ne 6, 3, (47, 0, 0, 0, 0), [0, 1, 2, 3], [])], 0, [])),
  (44, ([(44, .bipush (-3), 2, (0, 0, 0, 0, 0), [], []), (46, .ireturn, 1, (0, 0, 0, 0, 0), [], [])], 0, [])),
  (47, ([(47, .aload_n 0, 1, (0, 0, 0, 0, 0), [], []), (48, .getfield 61, 3, (11, 33, 2, 1288, 0), [], []), (51, .iload_n 1, 1, (0, 0, 0, 0, 0), [], []), (52, .iload_n 2, 1, (0, 0, 0, 0, 0), [], []), (53, .iastore, 1, (0, 0, 0, 0, 0), [], [])], 54, [0, 1, 3])),
  (54, ([(54, .aload_n 0, 1, (0, 0, 0, 0, 0), [], []), (55, .getfield 64, 3, (11, 34, 2, 1289, 0), [], []), (58, .iload_n 1, 1, (0, 0, 0, 0, 0), [], []), (59, .iload_n 3, 1, (0, 0, 0, 0, 0), [], []), (60, .iastore, 1, (0, 0, 0, 0, 0), [], [])], 61, [0, 1, 3])),
  (61, ([(61, .iconst 0, 1, (0, 0, 0, 0, 0), [], []), (62, .istore 4, 2, (0, 0, 0, 0, 0), [], [])], 64, [0, 1, 3, 4])),
  (64, ([(64, .iload 4, 2, (0, 0, 0, 0, 0), [], []), (66, .iload_n 3, 1, (0, 0, 0, 0, 0), [], []), (67, .if_icmp .ge 22, 3, (89, 0, 0, 0, 0), [], [0, 1, 3, 4])], 0, [])),
  (70, ([(70, .aload_n 0, 1, (0, 0, 0, 0, 0), [], []), (71, .getfield 67, 3, (11, 35, 2, 1290, 0), [], []), (74, .bipush 40, 2, (0, 0, 0, 0, 0), [], []), (76, .iload_n 1, 1, (0, 0, 0, 0, 0), [], []), (77, .imul, 1, (0, 0, 0, 0, 0), [], []), (78, .iload 4, 2, (0, 0, 0, 0, 0), [], []), (80, .iadd, 1, (0, 0, 0, 0, 0), [], []), (81, .lconst 0, 1, (0, 0, 0, 0, 0), [], []), (82, .lastore, 1, (0, 0, 0, 0, 0), [], [])], 83, [0, 1, 3, 4])),
  (83, ([(83, .iinc 4 1, 3, (0, 0, 0, 0, 0), [], []), (86, .goto (-22), 3, (64, 0, 0, 0, 0), [0, 1, 3, 4], [])], 0, [])),
  (89, ([(89, .iconst 0, 1, (0, 0, 0, 0, 0), [], []), (90, .ireturn, 1, (0, 0, 0, 0, 0), [], [])], 0, []))]
def cd_Tray_cut : List (Nat × AB) := [
  (0, ([(0, .aload_n 0, 1, (0, 0, 0, 0, 0), [], []), (1, .getfield 15, 3, (7, 1, 0, 261, 0), [], []), (4, .tableswitch 42 0 2 #[28, 33, 38], 28, (46, 0, 0, 0, 0), [0, 32, 1, 37, 2, 42], [1])], 0, [])),
  (32, ([(32, .lload_n 1, 1, (0, 0, 0, 0, 0), [], []), (33, .l2i, 1, (0, 0, 0, 0, 0), [], []), (34, .i2b, 1, (0, 0, 0, 0, 0), [], []), (35, .i2l, 1, (0, 0, 0, 0, 0), [], []), (36, .lreturn, 1, (0, 0, 0, 0, 0), [], [])], 0, [])),
  (37, ([(37, .lload_n 1, 1, (0, 0, 0, 0, 0), [], []), (38, .l2i, 1, (0, 0, 0, 0, 0), [], []), (39, .i2s, 1, (0, 0, 0, 0, 0), [], []), (40, .i2l, 1, (0, 0, 0, 0, 0), [], []), (41, .lreturn, 1, (0, 0, 0, 0, 0), [], [])], 0, [])),
  (42, ([(42, .lload_n 1, 1, (0, 0, 0, 0, 0), [], []), (43, .l2i, 1, (0, 0, 0, 0, 0), [], []), (44, .i2l, 1, (0, 0, 0, 0, 0), [], []), (45, .lreturn, 1, (0, 0, 0, 0, 0), [], [])], 0, [])),
  (46, ([(46, .lload_n 1, 1, (0, 0, 0, 0, 0), [], []), (47, .lreturn, 1, (0, 0, 0, 0, 0), [], [])], 0, []))]
def cd_Tray_put : List (Nat × AB) := [
  (0, ([(0, .iload_n 1, 1, (0, 0, 0, 0, 0), [], []), (1, .ifCond .lt 11, 3, (12, 0, 0, 0, 0), [], [0, 1, 2])], 0, [])),
  (4, ([(4, .iload_n 1, 1, (0, 0, 0, 0, 0), [], []), (5, .aload_n 0, 1, (0, 0, 0, 0, 0), [], []), (6, .getfield 19, 3, (7, 2, 0, 262, 0), [], []), (9, .if_icmp .lt 5, 3, (14, 0, 0, 0, 0), [0, 1, 2], [])], 0, [])),
  (12, ([(12, .lconst 0, 1, (0, 0, 0, 0, 0), [], []), (13, .lreturn, 1, (0, 0, 0, 0, 0), [], [])], 0, [])),
  (14, ([(14, .aload_n 0, 1, (0, 0, 0, 0, 0), [], []), (15, .getfield 9, 3, (7, 0, 2, 260, 0), [], []), (18, .iload_n 1, 1, (0, 0, 0, 0, 0), [], []), (19, .aload_n 0, 1, (0, 0, 0, 0, 0), [], []), (20, .lload_n 2, 1, (0, 0, 0, 0, 0), [], []), (21, .invokevirtual 28, 3, (287, 2, 10, 7, 1211), [0, 1], [3])], 0, [])),
  (24, ([(24, .lastore, 1, (0, 0, 0, 0, 0), [], [])], 25, [0, 1])),
  (25, ([(25, .aload_n 0, 1, (0, 0, 0, 0, 0), [], []), (26, .getfield 9, 3, (7, 0, 2, 260, 0), [], []), (29, .iload_n 1, 1, (0, 0, 0, 0, 0), [], []), (30, .laload, 1, (0, 0, 0, 0, 0), [], []), (31, .lreturn, 1, (0, 0, 0, 0, 0), [], [])], 0, []))]
def cd_Hook_write : List (Nat × AB) := [
  (0, ([(0, .aload_n 0, 1, (0, 0, 0, 0, 0), [], []), (1, .iload_n 1, 1, (0, 0, 0, 0, 0), [], []), (2, .invokevirtual 238, 3, (167, 2, 10, 10, 894), [0, 1, 2, 3], [2])], 0, [])),
  (5, ([(5, .istore 5, 2, (0, 0, 0, 0, 0), [], []), (7, .iload 5, 2, (0, 0, 0, 0, 0), [], []), (9, .ifCond .eq 7, 3, (16, 0, 0, 0, 0), [0, 1, 2, 3], [5])], 0, [])),
  (12, ([(12, .iload 5, 2, (0, 0, 0, 0, 0), [], []), (14, .i2l, 1, (0, 0, 0, 0, 0), [], []), (15, .lreturn, 1, (0, 0, 0, 0, 0), [], [])], 0, [])),
  (16, ([(16, .aload_n 0, 1, (0, 0, 0, 0, 0), [], []), (17, .getfield 59, 3, (10, 10, 2, 364, 0), [], []), (20, .iload_n 1, 1, (0, 0, 0, 0, 0), [], []), (21, .aaload, 1, (24, 7, 0, 0, 0), [], []), (22, .astore 6, 2, (0, 0, 0, 0, 0), [], []), (24, .iload_n 2, 1, (0, 0, 0, 0, 0), [], []), (25, .ifCond .lt 12, 3, (37, 0, 0, 0, 0), [], [2, 3, 6])], 0, [])),
  (28, ([(28, .iload_n 2, 1, (0, 0, 0, 0, 0), [], []), (29, .aload 6, 2, (0, 0, 0, 0, 0), [], []), (31, .getfield 224, 3, (7, 2, 0, 264, 0), [], []), (34, .if_icmp .lt 7, 3, (41, 0, 0, 0, 0), [2, 3, 6], [])], 0, [])),
  (37, ([(37, .ldc2_w 379, 3, (0, 0, 0, 1206, (-7)), [], []), (40, .lreturn, 1, (0, 0, 0, 0, 0), [], [])], 0, [])),
  (41, ([(41, .aload 6, 2, (0, 0, 0, 0, 0), [], []), (43, .iload_n 2, 1, (0, 0, 0, 0, 0), [], []), (44, .lload_n 3, 1, (0, 0, 0, 0, 0), [], []), (45, .invokevirtual 381, 3, (288, 3, 10, 7, 1207), [], [4])], 0, [])),
  (48, ([(48, .lreturn, 1, (0, 0, 0, 0, 0), [], [])], 0, []))]
def cd_Mod_cut : List (Nat × AB) := [
  (0, ([(0, .iload_n 2, 1, (0, 0, 0, 0, 0), [], []), (1, .ifCond .ne 10, 3, (11, 0, 0, 0, 0), [0, 2], [0])], 0, [])),
  (4, ([(4, .lload_n 0, 1, (0, 0, 0, 0, 0), [], []), (5, .l2i, 1, (0, 0, 0, 0, 0), [], []), (6, .i2b, 1, (0, 0, 0, 0, 0), [], []), (7, .i2l, 1, (0, 0, 0, 0, 0), [], []), (8, .goto 27, 3, (35, 0, 0, 0, 0), [], [])], 0, [])),
  (11, ([(11, .iload_n 2, 1, (0, 0, 0, 0, 0), [], []), (12, .iconst 1, 1, (0, 0, 0, 0, 0), [], []), (13, .if_icmp .ne 10, 3, (23, 0, 0, 0, 0), [0, 2], [0])], 0, [])),
  (16, ([(16, .lload_n 0, 1, (0, 0, 0, 0, 0), [], []), (17, .l2i, 1, (0, 0, 0, 0, 0), [], []), (18, .i2s, 1, (0, 0, 0, 0, 0), [], []), (19, .i2l, 1, (0, 0, 0, 0, 0), [], []), (20, .goto 15, 3, (35, 0, 0, 0, 0), [], [])], 0, [])),
  (23, ([(23, .iload_n 2, 1, (0, 0, 0, 0, 0), [], []), (24, .iconst 2, 1, (0, 0, 0, 0, 0), [], []), (25, .if_icmp .ne 9, 3, (34, 0, 0, 0, 0), [0], [0])], 0, [])),
  (28, ([(28, .lload_n 0, 1, (0, 0, 0, 0, 0), [], []), (29, .l2i, 1, (0, 0, 0, 0, 0), [], []), (30, .i2l, 1, (0, 0, 0, 0, 0), [], []), (31, .goto 4, 3, (35, 0, 0, 0, 0), [], [])], 0, [])),
  (34, ([(34, .lload_n 0, 1, (0, 0, 0, 0, 0), [], [])], 35, [])),
  (35, ([(35, .lreturn, 1, (0, 0, 0, 0, 0), [], [])], 0, []))]
def cd_Mod_write : List (Nat × AB) := [
  (0, ([(0, .aload_n 0, 1, (0, 0, 0, 0, 0), [], []), (1, .iconst 0, 1, (0, 0, 0, 0, 0), [], []), (2, .putfield 1, 3, (11, 0, 0, 1255, 0), [], [])], 5, [0, 1, 2, 3])),
  (5, ([(5, .aload_n 0, 1, (0, 0, 0, 0, 0), [], []), (6, .iload_n 1, 1, (0, 0, 0, 0, 0), [], []), (7, .invokevirtual 299, 3, (162, 2, 10, 11, 1604), [0, 1, 2, 3], [2])], 0, [])),
  (10, ([(10, .istore 5, 2, (0, 0, 0, 0, 0), [], []), (12, .iload 5, 2, (0, 0, 0, 0, 0), [], []), (14, .ifCond .eq 7, 3, (21, 0, 0, 0, 0), [0, 1, 2, 3], [5])], 0, [])),
  (17, ([(17, .iload 5, 2, (0, 0, 0, 0, 0), [], []), (19, .i2l, 1, (0, 0, 0, 0, 0), [], []), (20, .lreturn, 1, (0, 0, 0, 0, 0), [], [])], 0, [])),
  (21, ([(21, .iload_n 2, 1, (0, 0, 0, 0, 0), [], []), (22, .i2l, 1, (0, 0, 0, 0, 0), [], []), (23, .lconst 0, 1, (0, 0, 0, 0, 0), [], []), (24, .aload_n 0, 1, (0, 0, 0, 0, 0), [], []), (25, .getfield 64, 3, (11, 34, 2, 1289, 0), [], []), (28, .iload_n 1, 1, (0, 0, 0, 0, 0), [], []), (29, .iaload, 1, (20, 0, 0, 0, 0), [], []), (30, .iconst 1, 1, (0, 0, 0, 0, 0), [], []), (31, .isub, 1, (0, 0, 0, 0, 0), [], []), (32, .i2l, 1, (0, 0, 0, 0, 0), [], []), (33, .invokestatic 136, 3, (71, 3, 0, 0, 1372), [0, 1, 2, 3], [6])], 0, [])),
  (36, ([(36, .ifCond .ne 7, 3, (43, 0, 0, 0, 0), [0, 1, 2, 3], [])], 0, [])),
  (39, ([(39, .ldc2_w 447, 3, (0, 0, 0, 1820, (-7)), [], []), (42, .lreturn, 1, (0, 0, 0, 0, 0), [], [])], 0, [])),
  (43, ([(43, .aload_n 0, 1, (0, 0, 0, 0, 0), [], []), (44, .getfield 67, 3, (11, 35, 2, 1290, 0), [], []), (47, .bipush 40, 2, (0, 0, 0, 0, 0), [], []), (49, .iload_n 1, 1, (0, 0, 0, 0, 0), [], []), (50, .imul, 1, (0, 0, 0, 0, 0), [], []), (51, .iload_n 2, 1, (0, 0, 0, 0, 0), [], []), (52, .iadd, 1, (0, 0, 0, 0, 0), [], []), (53, .lload_n 3, 1, (0, 0, 0, 0, 0), [], []), (54, .aload_n 0, 1, (0, 0, 0, 0, 0), [], []), (55, .getfield 61, 3, (11, 33, 2, 1288, 0), [], []), (58, .iload_n 1, 1, (0, 0, 0, 0, 0), [], []), (59, .iaload, 1, (20, 0, 0, 0, 0), [], []), (60, .invokestatic 449, 3, (290, 2, 0, 0, 1821), [0, 1, 2], [3])], 0, [])),
  (63, ([(63, .lastore, 1, (0, 0, 0, 0, 0), [], [])], 64, [0, 1, 2])),
  (64, ([(64, .aload_n 0, 1, (0, 0, 0, 0, 0), [], []), (65, .getfield 67, 3, (11, 35, 2, 1290, 0), [], []), (68, .bipush 40, 2, (0, 0, 0, 0, 0), [], []), (70, .iload_n 1, 1, (0, 0, 0, 0, 0), [], []), (71, .imul, 1, (0, 0, 0, 0, 0), [], []), (72, .iload_n 2, 1, (0, 0, 0, 0, 0), [], []), (73, .iadd, 1, (0, 0, 0, 0, 0), [], []), (74, .laload, 1, (0, 0, 0, 0, 0), [], []), (75, .lreturn, 1, (0, 0, 0, 0, 0), [], [])], 0, []))]
def cd_Hanging_seenAt : List (Nat × AB) := [
  (0, ([(0, .iconst 0, 1, (0, 0, 0, 0, 0), [], []), (1, .istore_n 3, 1, (0, 0, 0, 0, 0), [], [])], 2, [0, 1, 2, 3])),
  (2, ([(2, .iload_n 3, 1, (0, 0, 0, 0, 0), [], []), (3, .aload_n 1, 1, (0, 0, 0, 0, 0), [], []), (4, .getfield 47, 3, (9, 5, 0, 136, 0), [], []), (7, .if_icmp .ge 59, 3, (66, 0, 0, 0, 0), [], [0, 1, 2, 3])], 0, [])),
  (10, ([(10, .aload_n 0, 1, (0, 0, 0, 0, 0), [], []), (11, .aload_n 1, 1, (0, 0, 0, 0, 0), [], []), (12, .iload_n 3, 1, (0, 0, 0, 0, 0), [], []), (13, .invokevirtual 54, 3, (41, 3, 10, 0, 634), [0, 1, 2, 3], [4])], 0, [])),
  (16, ([(16, .istore 4, 2, (0, 0, 0, 0, 0), [], []), (18, .aload_n 0, 1, (0, 0, 0, 0, 0), [], []), (19, .iload_n 3, 1, (0, 0, 0, 0, 0), [], []), (20, .invokevirtual 37, 3, (37, 2, 10, 0, 618), [0, 1, 2, 3, 4], [2])], 0, [])),
  (23, ([(23, .ifCond .eq 37, 3, (60, 0, 0, 0, 0), [0, 1, 2, 3], [0, 1, 2, 3, 4])], 0, [])),
  (26, ([(26, .iload 4, 2, (0, 0, 0, 0, 0), [], []), (28, .iconst (-1), 1, (0, 0, 0, 0, 0), [], []), (29, .if_icmp .eq 31, 3, (60, 0, 0, 0, 0), [0, 1, 2, 3], [0, 1, 2, 3, 4])], 0, [])),
  (32, ([(32, .aload_n 0, 1, (0, 0, 0, 0, 0), [], []), (33, .getfield 9, 3, (0, 0, 2, 218, 0), [], []), (36, .iload_n 3, 1, (0, 0, 0, 0, 0), [], []), (37, .iaload, 1, (20, 0, 0, 0, 0), [], []), (38, .iload_n 2, 1, (0, 0, 0, 0, 0), [], []), (39, .if_icmp .gt 21, 3, (60, 0, 0, 0, 0), [0, 1, 2, 3], [0, 1, 2, 3, 4])], 0, [])),
  (42, ([(42, .aload_n 0, 1, (0, 0, 0, 0, 0), [], []), (43, .getfield 9, 3, (0, 0, 2, 218, 0), [], []), (46, .iload 4, 2, (0, 0, 0, 0, 0), [], []), (48, .iaload, 1, (20, 0, 0, 0, 0), [], []), (49, .iload_n 2, 1, (0, 0, 0, 0, 0), [], []), (50, .if_icmp .le 10, 3, (60, 0, 0, 0, 0), [0, 1, 2, 3], [0, 1, 3])], 0, [])),
  (53, ([(53, .aload_n 0, 1, (0, 0, 0, 0, 0), [], []), (54, .aload_n 1, 1, (0, 0, 0, 0, 0), [], []), (55, .iload_n 3, 1, (0, 0, 0, 0, 0), [], []), (56, .invokevirtual 62, 3, (104, 3, 10, 0, 788), [], [4])], 0, [])),
  (59, ([(59, .ireturn, 1, (0, 0, 0, 0, 0), [], [])], 0, [])),
  (60, ([(60, .iinc 3 1, 3, (0, 0, 0, 0, 0), [], []), (63, .goto (-61), 3, (2, 0, 0, 0, 0), [0, 1, 2, 3], [])], 0, [])),
  (66, ([(66, .bipush (-2), 2, (0, 0, 0, 0, 0), [], []), (68, .ireturn, 1, (0, 0, 0, 0, 0), [], [])], 0, []))]
def cd_Hook_copy : List (Nat × AB) := [
  (0, ([(0, .aload_n 0, 1, (0, 0, 0, 0, 0), [], []), (1, .iload_n 1, 1, (0, 0, 0, 0, 0), [], []), (2, .invokevirtual 238, 3, (167, 2, 10, 10, 894), [0, 1], [2])], 0, [])),
  (5, ([(5, .istore_n 2, 1, (0, 0, 0, 0, 0), [], []), (6, .iload_n 2, 1, (0, 0, 0, 0, 0), [], []), (7, .ifCond .eq 5, 3, (12, 0, 0, 0, 0), [0, 1], [2])], 0, [])),
  (10, ([(10, .iload_n 2, 1, (0, 0, 0, 0, 0), [], []), (11, .ireturn, 1, (0, 0, 0, 0, 0), [], [])], 0, [])),
  (12, ([(12, .aload_n 0, 1, (0, 0, 0, 0, 0), [], []), (13, .getfield 59, 3, (10, 10, 2, 364, 0), [], []), (16, .iload_n 1, 1, (0, 0, 0, 0, 0), [], []), (17, .aaload, 1, (24, 7, 0, 0, 0), [], []), (18, .astore_n 3, 1, (0, 0, 0, 0, 0), [], []), (19, .aload_n 3, 1, (0, 0, 0, 0, 0), [], []), (20, .getfield 224, 3, (7, 2, 0, 264, 0), [], []), (23, .aload_n 0, 1, (0, 0, 0, 0, 0), [], []), (24, .getfield 33, 3, (10, 5, 2, 359, 0), [], []), (27, .invokevirtual 368, 3, (263, 1, 10, 9, 1127), [0, 3], [1])], 0, [])),
  (30, ([(30, .invokestatic 252, 3, (20, 2, 0, 0, 919), [0, 3], [2])], 0, [])),
  (33, ([(33, .istore 4, 2, (0, 0, 0, 0, 0), [], []), (35, .iconst 0, 1, (0, 0, 0, 0, 0), [], []), (36, .istore 5, 2, (0, 0, 0, 0, 0), [], [])], 38, [0, 3, 4, 5])),
  (38, ([(38, .iload 5, 2, (0, 0, 0, 0, 0), [], []), (40, .iload 4, 2, (0, 0, 0, 0, 0), [], []), (42, .if_icmp .ge 30, 3, (72, 0, 0, 0, 0), [4], [0, 3, 4, 5])], 0, [])),
  (45, ([(45, .aload_n 3, 1, (0, 0, 0, 0, 0), [], []), (46, .iload 5, 2, (0, 0, 0, 0, 0), [], []), (48, .aload_n 0, 1, (0, 0, 0, 0, 0), [], []), (49, .getfield 43, 3, (10, 7, 2, 361, 0), [], []), (52, .aload_n 0, 1, (0, 0, 0, 0, 0), [], []), (53, .getfield 33, 3, (10, 5, 2, 359, 0), [], []), (56, .iload 5, 2, (0, 0, 0, 0, 0), [], []), (58, .invokevirtual 385, 3, (292, 3, 10, 0, 1219), [0, 3, 4, 5], [5])], 0, [])),
  (61, ([(61, .i2l, 1, (0, 0, 0, 0, 0), [], []), (62, .invokevirtual 381, 3, (288, 3, 10, 7, 1207), [0, 3, 4, 5], [4])], 0, [])),
  (65, ([(65, .pop2, 1, (0, 0, 0, 0, 0), [], []), (66, .iinc 5 1, 3, (0, 0, 0, 0, 0), [], []), (69, .goto (-31), 3, (38, 0, 0, 0, 0), [0, 3, 4, 5], [])], 0, [])),
  (72, ([(72, .iload 4, 2, (0, 0, 0, 0, 0), [], []), (74, .ireturn, 1, (0, 0, 0, 0, 0), [], [])], 0, []))]
def cd_Mod_sagOver : List (Nat × AB) := [
  (0, ([(0, .iconst 0, 1, (0, 0, 0, 0, 0), [], []), (1, .istore_n 2, 1, (0, 0, 0, 0, 0), [], [])], 2, [0, 1, 2])),
  (2, ([(2, .iload_n 2, 1, (0, 0, 0, 0, 0), [], []), (3, .aload_n 0, 1, (0, 0, 0, 0, 0), [], []), (4, .getfield 13, 3, (11, 1, 2, 1256, 0), [], []), (7, .iconst 1, 1, (0, 0, 0, 0, 0), [], []), (8, .iaload, 1, (20, 0, 0, 0, 0), [], []), (9, .if_icmp .ge 65, 3, (74, 0, 0, 0, 0), [], [0, 1, 2])], 0, [])),
  (12, ([(12, .aload_n 0, 1, (0, 0, 0, 0, 0), [], []), (13, .iload_n 2, 1, (0, 0, 0, 0, 0), [], []), (14, .invokevirtual 222, 3, (109, 2, 10, 11, 1508), [0, 1, 2], [3])], 0, [])),
  (17, ([(17, .istore_n 3, 1, (0, 0, 0, 0, 0), [], []), (18, .aload_n 0, 1, (0, 0, 0, 0, 0), [], []), (19, .getfield 13, 3, (11, 1, 2, 1256, 0), [], []), (22, .bipush 61, 2, (0, 0, 0, 0, 0), [], []), (24, .iload_n 2, 1, (0, 0, 0, 0, 0), [], []), (25, .iadd, 1, (0, 0, 0, 0, 0), [], []), (26, .iaload, 1, (20, 0, 0, 0, 0), [], []), (27, .iconst (-1), 1, (0, 0, 0, 0, 0), [], []), (28, .if_icmp .eq 40, 3, (68, 0, 0, 0, 0), [0, 1, 2], [0, 1, 2, 3])], 0, [])),
  (31, ([(31, .aload_n 0, 1, (0, 0, 0, 0, 0), [], []), (32, .getfield 13, 3, (11, 1, 2, 1256, 0), [], []), (35, .bipush 61, 2, (0, 0, 0, 0, 0), [], []), (37, .iload_n 2, 1, (0, 0, 0, 0, 0), [], []), (38, .iadd, 1, (0, 0, 0, 0, 0), [], []), (39, .iaload, 1, (20, 0, 0, 0, 0), [], []), (40, .iload_n 1, 1, (0, 0, 0, 0, 0), [], []), (41, .if_icmp .gt 27, 3, (68, 0, 0, 0, 0), [0, 1, 2], [0, 1, 2, 3])], 0, [])),
  (44, ([(44, .iload_n 3, 1, (0, 0, 0, 0, 0), [], []), (45, .iconst (-1), 1, (0, 0, 0, 0, 0), [], []), (46, .if_icmp .eq 22, 3, (68, 0, 0, 0, 0), [0, 1, 2], [0, 1, 2, 3])], 0, [])),
  (49, ([(49, .aload_n 0, 1, (0, 0, 0, 0, 0), [], []), (50, .getfield 13, 3, (11, 1, 2, 1256, 0), [], []), (53, .bipush 61, 2, (0, 0, 0, 0, 0), [], []), (55, .iload_n 3, 1, (0, 0, 0, 0, 0), [], []), (56, .iadd, 1, (0, 0, 0, 0, 0), [], []), (57, .iaload, 1, (20, 0, 0, 0, 0), [], []), (58, .iload_n 1, 1, (0, 0, 0, 0, 0), [], []), (59, .if_icmp .le 9, 3, (68, 0, 0, 0, 0), [0, 1, 2], [0, 2])], 0, [])),
  (62, ([(62, .aload_n 0, 1, (0, 0, 0, 0, 0), [], []), (63, .iload_n 2, 1, (0, 0, 0, 0, 0), [], []), (64, .invokevirtual 243, 3, (110, 2, 10, 11, 1504), [], [3])], 0, [])),
  (67, ([(67, .ireturn, 1, (0, 0, 0, 0, 0), [], [])], 0, [])),
  (68, ([(68, .iinc 2 1, 3, (0, 0, 0, 0, 0), [], []), (71, .goto (-69), 3, (2, 0, 0, 0, 0), [0, 1, 2], [])], 0, [])),
  (74, ([(74, .bipush (-2), 2, (0, 0, 0, 0, 0), [], []), (76, .ireturn, 1, (0, 0, 0, 0, 0), [], [])], 0, []))]
def cd_Mod_copy : List (Nat × AB) := [
  (0, ([(0, .aload_n 0, 1, (0, 0, 0, 0, 0), [], []), (1, .iconst 0, 1, (0, 0, 0, 0, 0), [], []), (2, .putfield 1, 3, (11, 0, 0, 1255, 0), [], [])], 5, [0, 1])),
  (5, ([(5, .aload_n 0, 1, (0, 0, 0, 0, 0), [], []), (6, .iload_n 1, 1, (0, 0, 0, 0, 0), [], []), (7, .invokevirtual 299, 3, (162, 2, 10, 11, 1604), [0, 1], [2])], 0, [])),
  (10, ([(10, .istore_n 2, 1, (0, 0, 0, 0, 0), [], []), (11, .iload_n 2, 1, (0, 0, 0, 0, 0), [], []), (12, .ifCond .eq 5, 3, (17, 0, 0, 0, 0), [0, 1], [2])], 0, [])),
  (15, ([(15, .iload_n 2, 1, (0, 0, 0, 0, 0), [], []), (16, .ireturn, 1, (0, 0, 0, 0, 0), [], [])], 0, [])),
  (17, ([(17, .aload_n 0, 1, (0, 0, 0, 0, 0), [], []), (18, .getfield 13, 3, (11, 1, 2, 1256, 0), [], []), (21, .iconst 2, 1, (0, 0, 0, 0, 0), [], []), (22, .iaload, 1, (20, 0, 0, 0, 0), [], []), (23, .ifCond .ne 7, 3, (30, 0, 0, 0, 0), [0, 1], [0, 1])], 0, [])),
  (26, ([(26, .iconst 0, 1, (0, 0, 0, 0, 0), [], []), (27, .goto 11, 3, (38, 0, 0, 0, 0), [0, 1], [])], 0, [])),
  (30, ([(30, .aload_n 0, 1, (0, 0, 0, 0, 0), [], []), (31, .getfield 13, 3, (11, 1, 2, 1256, 0), [], []), (34, .iconst 2, 1, (0, 0, 0, 0, 0), [], []), (35, .iaload, 1, (20, 0, 0, 0, 0), [], []), (36, .iconst 1, 1, (0, 0, 0, 0, 0), [], []), (37, .isub, 1, (0, 0, 0, 0, 0), [], [])], 38, [0, 1])),
  (38, ([(38, .istore_n 3, 1, (0, 0, 0, 0, 0), [], []), (39, .iload_n 3, 1, (0, 0, 0, 0, 0), [], []), (40, .aload_n 0, 1, (0, 0, 0, 0, 0), [], []), (41, .getfield 64, 3, (11, 34, 2, 1289, 0), [], []), (44, .iload_n 1, 1, (0, 0, 0, 0, 0), [], []), (45, .iaload, 1, (20, 0, 0, 0, 0), [], []), (46, .if_icmp .ge 7, 3, (53, 0, 0, 0, 0), [0, 1], [0, 1, 3])], 0, [])),
  (49, ([(49, .iload_n 3, 1, (0, 0, 0, 0, 0), [], []), (50, .goto 9, 3, (59, 0, 0, 0, 0), [0, 1], [])], 0, [])),
  (53, ([(53, .aload_n 0, 1, (0, 0, 0, 0, 0), [], []), (54, .getfield 64, 3, (11, 34, 2, 1289, 0), [], []), (57, .iload_n 1, 1, (0, 0, 0, 0, 0), [], []), (58, .iaload, 1, (20, 0, 0, 0, 0), [], [])], 59, [0, 1])),
  (59, ([(59, .istore 4, 2, (0, 0, 0, 0, 0), [], []), (61, .iconst 0, 1, (0, 0, 0, 0, 0), [], []), (62, .istore 5, 2, (0, 0, 0, 0, 0), [], [])], 64, [0, 1, 4, 5])),
  (64, ([(64, .iload 5, 2, (0, 0, 0, 0, 0), [], []), (66, .iload 4, 2, (0, 0, 0, 0, 0), [], []), (68, .if_icmp .ge 37, 3, (105, 0, 0, 0, 0), [4], [0, 1, 4, 5])], 0, [])),
  (71, ([(71, .aload_n 0, 1, (0, 0, 0, 0, 0), [], []), (72, .getfield 67, 3, (11, 35, 2, 1290, 0), [], []), (75, .bipush 40, 2, (0, 0, 0, 0, 0), [], []), (77, .iload_n 1, 1, (0, 0, 0, 0, 0), [], []), (78, .imul, 1, (0, 0, 0, 0, 0), [], []), (79, .iload 5, 2, (0, 0, 0, 0, 0), [], []), (81, .iadd, 1, (0, 0, 0, 0, 0), [], []), (82, .aload_n 0, 1, (0, 0, 0, 0, 0), [], []), (83, .iload 5, 2, (0, 0, 0, 0, 0), [], []), (85, .invokevirtual 452, 3, (294, 2, 10, 11, 1828), [0, 1, 4, 5], [4])], 0, [])),
  (88, ([(88, .i2l, 1, (0, 0, 0, 0, 0), [], []), (89, .aload_n 0, 1, (0, 0, 0, 0, 0), [], []), (90, .getfield 61, 3, (11, 33, 2, 1288, 0), [], []), (93, .iload_n 1, 1, (0, 0, 0, 0, 0), [], []), (94, .iaload, 1, (20, 0, 0, 0, 0), [], []), (95, .invokestatic 449, 3, (290, 2, 0, 0, 1821), [0, 1, 4, 5], [3])], 0, [])),
  (98, ([(98, .lastore, 1, (0, 0, 0, 0, 0), [], [])], 99, [0, 1, 4, 5])),
  (99, ([(99, .iinc 5 1, 3, (0, 0, 0, 0, 0), [], []), (102, .goto (-38), 3, (64, 0, 0, 0, 0), [0, 1, 4, 5], [])], 0, [])),
  (105, ([(105, .iload 4, 2, (0, 0, 0, 0, 0), [], []), (107, .ireturn, 1, (0, 0, 0, 0, 0), [], [])], 0, []))]
def cd_Window_takeFrom : List (Nat × AB) := [
  (0, ([(0, .aload_n 1, 1, (0, 0, 0, 0, 0), [], []), (1, .getfield 9, 3, (9, 0, 2, 116, 0), [], []), (4, .iconst 0, 1, (0, 0, 0, 0, 0), [], []), (5, .aload_n 0, 1, (0, 0, 0, 0, 0), [], []), (6, .getfield 9, 3, (9, 0, 2, 116, 0), [], []), (9, .iconst 0, 1, (0, 0, 0, 0, 0), [], []), (10, .bipush 12, 2, (0, 0, 0, 0, 0), [], []), (12, .invokestatic 67, 3, (0, 5, 3, 0, 1231), [], [])], 15, [0, 1])),
  (15, ([(15, .aload_n 1, 1, (0, 0, 0, 0, 0), [], []), (16, .getfield 15, 3, (9, 1, 2, 119, 0), [], []), (19, .iconst 0, 1, (0, 0, 0, 0, 0), [], []), (20, .aload_n 0, 1, (0, 0, 0, 0, 0), [], []), (21, .getfield 15, 3, (9, 1, 2, 119, 0), [], []), (24, .iconst 0, 1, (0, 0, 0, 0, 0), [], []), (25, .bipush 12, 2, (0, 0, 0, 0, 0), [], []), (27, .invokestatic 67, 3, (0, 5, 3, 0, 1231), [], [])], 30, [0, 1])),
  (30, ([(30, .aload_n 1, 1, (0, 0, 0, 0, 0), [], []), (31, .getfield 18, 3, (9, 2, 2, 122, 0), [], []), (34, .iconst 0, 1, (0, 0, 0, 0, 0), [], []), (35, .aload_n 0, 1, (0, 0, 0, 0, 0), [], []), (36, .getfield 18, 3, (9, 2, 2, 122, 0), [], []), (39, .iconst 0, 1, (0, 0, 0, 0, 0), [], []), (40, .bipush 12, 2, (0, 0, 0, 0, 0), [], []), (42, .invokestatic 67, 3, (0, 5, 3, 0, 1231), [], [])], 45, [0, 1])),
  (45, ([(45, .aload_n 1, 1, (0, 0, 0, 0, 0), [], []), (46, .getfield 21, 3, (9, 3, 2, 126, 0), [], []), (49, .iconst 0, 1, (0, 0, 0, 0, 0), [], []), (50, .aload_n 0, 1, (0, 0, 0, 0, 0), [], []), (51, .getfield 21, 3, (9, 3, 2, 126, 0), [], []), (54, .iconst 0, 1, (0, 0, 0, 0, 0), [], []), (55, .bipush 12, 2, (0, 0, 0, 0, 0), [], []), (57, .invokestatic 67, 3, (0, 5, 3, 0, 1231), [], [])], 60, [0, 1])),
  (60, ([(60, .aload_n 1, 1, (0, 0, 0, 0, 0), [], []), (61, .getfield 24, 3, (9, 4, 2, 130, 0), [], []), (64, .iconst 0, 1, (0, 0, 0, 0, 0), [], []), (65, .aload_n 0, 1, (0, 0, 0, 0, 0), [], []), (66, .getfield 24, 3, (9, 4, 2, 130, 0), [], []), (69, .iconst 0, 1, (0, 0, 0, 0, 0), [], []), (70, .bipush 12, 2, (0, 0, 0, 0, 0), [], []), (72, .invokestatic 67, 3, (0, 5, 3, 0, 1231), [], [])], 75, [0, 1])),
  (75, ([(75, .aload_n 0, 1, (0, 0, 0, 0, 0), [], []), (76, .aload_n 1, 1, (0, 0, 0, 0, 0), [], []), (77, .getfield 36, 3, (9, 5, 0, 133, 0), [], []), (80, .putfield 36, 3, (9, 5, 0, 133, 0), [], [])], 83, [0, 1])),
  (83, ([(83, .aload_n 0, 1, (0, 0, 0, 0, 0), [], []), (84, .aload_n 1, 1, (0, 0, 0, 0, 0), [], []), (85, .getfield 40, 3, (9, 6, 0, 141, 0), [], []), (88, .putfield 40, 3, (9, 6, 0, 141, 0), [], [])], 91, [0, 1])),
  (91, ([(91, .aload_n 0, 1, (0, 0, 0, 0, 0), [], []), (92, .aload_n 1, 1, (0, 0, 0, 0, 0), [], []), (93, .getfield 43, 3, (9, 7, 0, 150, 0), [], []), (96, .putfield 43, 3, (9, 7, 0, 150, 0), [], [])], 99, [0, 1])),
  (99, ([(99, .aload_n 0, 1, (0, 0, 0, 0, 0), [], []), (100, .aload_n 1, 1, (0, 0, 0, 0, 0), [], []), (101, .getfield 46, 3, (9, 8, 0, 153, 0), [], []), (104, .putfield 46, 3, (9, 8, 0, 153, 0), [], [])], 107, [0, 1])),
  (107, ([(107, .aload_n 0, 1, (0, 0, 0, 0, 0), [], []), (108, .aload_n 1, 1, (0, 0, 0, 0, 0), [], []), (109, .getfield 49, 3, (9, 9, 0, 156, 0), [], []), (112, .putfield 49, 3, (9, 9, 0, 156, 0), [], [])], 115, [0, 1])),
  (115, ([(115, .aload_n 0, 1, (0, 0, 0, 0, 0), [], []), (116, .aload_n 1, 1, (0, 0, 0, 0, 0), [], []), (117, .getfield 52, 3, (9, 10, 0, 159, 0), [], []), (120, .putfield 52, 3, (9, 10, 0, 159, 0), [], [])], 123, [0, 1])),
  (123, ([(123, .aload_n 0, 1, (0, 0, 0, 0, 0), [], []), (124, .aload_n 1, 1, (0, 0, 0, 0, 0), [], []), (125, .getfield 55, 3, (9, 11, 0, 163, 0), [], []), (128, .putfield 55, 3, (9, 11, 0, 163, 0), [], [])], 131, [0, 1])),
  (131, ([(131, .aload_n 0, 1, (0, 0, 0, 0, 0), [], []), (132, .aload_n 1, 1, (0, 0, 0, 0, 0), [], []), (133, .getfield 58, 3, (9, 12, 0, 167, 0), [], []), (136, .putfield 58, 3, (9, 12, 0, 167, 0), [], [])], 139, [0, 1])),
  (139, ([(139, .aload_n 0, 1, (0, 0, 0, 0, 0), [], []), (140, .aload_n 1, 1, (0, 0, 0, 0, 0), [], []), (141, .getfield 61, 3, (9, 13, 0, 170, 0), [], []), (144, .putfield 61, 3, (9, 13, 0, 170, 0), [], [])], 147, [0, 1])),
  (147, ([(147, .aload_n 0, 1, (0, 0, 0, 0, 0), [], []), (148, .aload_n 1, 1, (0, 0, 0, 0, 0), [], []), (149, .getfield 64, 3, (9, 14, 0, 173, 0), [], []), (152, .putfield 64, 3, (9, 14, 0, 173, 0), [], [])], 155, [])),
  (155, ([(155, .return_, 1, (0, 0, 0, 0, 0), [], [])], 0, []))]
def cd_Hook_image : List (Nat × AB) := [
  (0, ([(0, .iload_n 1, 1, (0, 0, 0, 0, 0), [], []), (1, .ifCond .lt 8, 3, (9, 0, 0, 0, 0), [], [0, 1])], 0, [])),
  (4, ([(4, .iload_n 1, 1, (0, 0, 0, 0, 0), [], []), (5, .iconst 2, 1, (0, 0, 0, 0, 0), [], []), (6, .if_icmp .lt 6, 3, (12, 0, 0, 0, 0), [0, 1], [])], 0, [])),
  (9, ([(9, .bipush (-2), 2, (0, 0, 0, 0, 0), [], []), (11, .ireturn, 1, (0, 0, 0, 0, 0), [], [])], 0, [])),
  (12, ([(12, .aload_n 0, 1, (0, 0, 0, 0, 0), [], []), (13, .getfield 64, 3, (10, 11, 2, 365, 0), [], []), (16, .iload_n 1, 1, (0, 0, 0, 0, 0), [], []), (17, .aaload, 1, (25, 9, 0, 0, 0), [], []), (18, .aload_n 0, 1, (0, 0, 0, 0, 0), [], []), (19, .getfield 33, 3, (10, 5, 2, 359, 0), [], []), (22, .invokevirtual 388, 3, (296, 2, 11, 9, 1227), [0, 1], [2])], 0, [])),
  (25, ([(25, .aload_n 0, 1, (0, 0, 0, 0, 0), [], []), (26, .getfield 68, 3, (10, 12, 2, 366, 0), [], []), (29, .iload_n 1, 1, (0, 0, 0, 0, 0), [], []), (30, .aaload, 1, (26, 0, 0, 0, 0), [], []), (31, .aload_n 0, 1, (0, 0, 0, 0, 0), [], []), (32, .getfield 43, 3, (10, 7, 2, 361, 0), [], []), (35, .invokevirtual 119, 3, (67, 2, 11, 0, 721), [0, 1], [2])], 0, [])),
  (38, ([(38, .aload_n 0, 1, (0, 0, 0, 0, 0), [], []), (39, .getfield 72, 3, (10, 13, 2, 367, 0), [], []), (42, .iload_n 1, 1, (0, 0, 0, 0, 0), [], []), (43, .iconst 1, 1, (0, 0, 0, 0, 0), [], []), (44, .bastore, 1, (23, 0, 0, 0, 0), [], [])], 45, [])),
  (45, ([(45, .iconst 0, 1, (0, 0, 0, 0, 0), [], []), (46, .ireturn, 1, (0, 0, 0, 0, 0), [], [])], 0, []))]
def cd_Mod_image : List (Nat × AB) := [
  (0, ([(0, .aload_n 0, 1, (0, 0, 0, 0, 0), [], []), (1, .iconst 0, 1, (0, 0, 0, 0, 0), [], []), (2, .putfield 1, 3, (11, 0, 0, 1255, 0), [], [])], 5, [0, 1])),
  (5, ([(5, .iload_n 1, 1, (0, 0, 0, 0, 0), [], []), (6, .i2l, 1, (0, 0, 0, 0, 0), [], []), (7, .lconst 0, 1, (0, 0, 0, 0, 0), [], []), (8, .lconst 1, 1, (0, 0, 0, 0, 0), [], []), (9, .invokestatic 136, 3, (71, 3, 0, 0, 1372), [0, 1], [6])], 0, [])),
  (12, ([(12, .ifCond .ne 6, 3, (18, 0, 0, 0, 0), [0, 1], [])], 0, [])),
  (15, ([(15, .bipush (-2), 2, (0, 0, 0, 0, 0), [], []), (17, .ireturn, 1, (0, 0, 0, 0, 0), [], [])], 0, [])),
  (18, ([(18, .iconst 0, 1, (0, 0, 0, 0, 0), [], []), (19, .istore_n 2, 1, (0, 0, 0, 0, 0), [], [])], 20, [0, 1, 2])),
  (20, ([(20, .iload_n 2, 1, (0, 0, 0, 0, 0), [], []), (21, .sipush 1115, 3, (0, 0, 0, 0, 0), [], []), (24, .if_icmp .ge 29, 3, (53, 0, 0, 0, 0), [0, 1], [0, 1, 2])], 0, [])),
  (27, ([(27, .aload_n 0, 1, (0, 0, 0, 0, 0), [], []), (28, .getfield 13, 3, (11, 1, 2, 1256, 0), [], []), (31, .sipush 1115, 3, (0, 0, 0, 0, 0), [], []), (34, .iload_n 1, 1, (0, 0, 0, 0, 0), [], []), (35, .iconst 1, 1, (0, 0, 0, 0, 0), [], []), (36, .iadd, 1, (0, 0, 0, 0, 0), [], []), (37, .imul, 1, (0, 0, 0, 0, 0), [], []), (38, .iload_n 2, 1, (0, 0, 0, 0, 0), [], []), (39, .iadd, 1, (0, 0, 0, 0, 0), [], []), (40, .aload_n 0, 1, (0, 0, 0, 0, 0), [], []), (41, .getfield 13, 3, (11, 1, 2, 1256, 0), [], []), (44, .iload_n 2, 1, (0, 0, 0, 0, 0), [], []), (45, .iaload, 1, (20, 0, 0, 0, 0), [], []), (46, .iastore, 1, (0, 0, 0, 0, 0), [], [])], 47, [0, 1, 2])),
  (47, ([(47, .iinc 2 1, 3, (0, 0, 0, 0, 0), [], []), (50, .goto (-30), 3, (20, 0, 0, 0, 0), [0, 1, 2], [])], 0, [])),
  (53, ([(53, .aload_n 0, 1, (0, 0, 0, 0, 0), [], []), (54, .getfield 17, 3, (11, 2, 2, 1257, 0), [], []), (57, .iload_n 1, 1, (0, 0, 0, 0, 0), [], []), (58, .iconst 1, 1, (0, 0, 0, 0, 0), [], []), (59, .bastore, 1, (23, 0, 0, 0, 0), [], [])], 60, [])),
  (60, ([(60, .iconst 0, 1, (0, 0, 0, 0, 0), [], []), (61, .ireturn, 1, (0, 0, 0, 0, 0), [], [])], 0, []))]
def cd_Hook_restore : List (Nat × AB) := [
  (0, ([(0, .iload_n 1, 1, (0, 0, 0, 0, 0), [], []), (1, .ifCond .lt 8, 3, (9, 0, 0, 0, 0), [], [0, 1])], 0, [])),
  (4, ([(4, .iload_n 1, 1, (0, 0, 0, 0, 0), [], []), (5, .iconst 2, 1, (0, 0, 0, 0, 0), [], []), (6, .if_icmp .lt 6, 3, (12, 0, 0, 0, 0), [0, 1], [])], 0, [])),
  (9, ([(9, .bipush (-2), 2, (0, 0, 0, 0, 0), [], []), (11, .ireturn, 1, (0, 0, 0, 0, 0), [], [])], 0, [])),
  (12, ([(12, .aload_n 0, 1, (0, 0, 0, 0, 0), [], []), (13, .getfield 72, 3, (10, 13, 2, 367, 0), [], []), (16, .iload_n 1, 1, (0, 0, 0, 0, 0), [], []), (17, .baload, 1, (23, 0, 0, 0, 0), [], []), (18, .ifCond .ne 6, 3, (24, 0, 0, 0, 0), [0, 1], [])], 0, [])),
  (21, ([(21, .bipush (-5), 2, (0, 0, 0, 0, 0), [], []), (23, .ireturn, 1, (0, 0, 0, 0, 0), [], [])], 0, [])),
  (24, ([(24, .aload_n 0, 1, (0, 0, 0, 0, 0), [], []), (25, .getfield 33, 3, (10, 5, 2, 359, 0), [], []), (28, .aload_n 0, 1, (0, 0, 0, 0, 0), [], []), (29, .getfield 64, 3, (10, 11, 2, 365, 0), [], []), (32, .iload_n 1, 1, (0, 0, 0, 0, 0), [], []), (33, .aaload, 1, (25, 9, 0, 0, 0), [], []), (34, .invokevirtual 388, 3, (296, 2, 11, 9, 1227), [0, 1], [2])], 0, [])),
  (37, ([(37, .aload_n 0, 1, (0, 0, 0, 0, 0), [], []), (38, .getfield 43, 3, (10, 7, 2, 361, 0), [], []), (41, .aload_n 0, 1, (0, 0, 0, 0, 0), [], []), (42, .getfield 68, 3, (10, 12, 2, 366, 0), [], []), (45, .iload_n 1, 1, (0, 0, 0, 0, 0), [], []), (46, .aaload, 1, (26, 0, 0, 0, 0), [], []), (47, .invokevirtual 119, 3, (67, 2, 11, 0, 721), [0], [2])], 0, [])),
  (50, ([(50, .aload_n 0, 1, (0, 0, 0, 0, 0), [], []), (51, .getfield 53, 3, (10, 9, 2, 363, 0), [], []), (54, .invokevirtual 123, 3, (68, 1, 11, 1, 728), [0], [1])], 0, [])),
  (57, ([(57, .aload_n 0, 1, (0, 0, 0, 0, 0), [], []), (58, .getfield 79, 3, (10, 14, 2, 368, 0), [], []), (61, .invokevirtual 126, 3, (69, 1, 11, 2, 732), [], [1])], 0, [])),
  (64, ([(64, .iconst 0, 1, (0, 0, 0, 0, 0), [], []), (65, .ireturn, 1, (0, 0, 0, 0, 0), [], [])], 0, []))]
def cd_Mod_restore : List (Nat × AB) := [
  (0, ([(0, .aload_n 0, 1, (0, 0, 0, 0, 0), [], []), (1, .iconst 0, 1, (0, 0, 0, 0, 0), [], []), (2, .putfield 1, 3, (11, 0, 0, 1255, 0), [], [])], 5, [0, 1])),
  (5, ([(5, .iload_n 1, 1, (0, 0, 0, 0, 0), [], []), (6, .i2l, 1, (0, 0, 0, 0, 0), [], []), (7, .lconst 0, 1, (0, 0, 0, 0, 0), [], []), (8, .lconst 1, 1, (0, 0, 0, 0, 0), [], []), (9, .invokestatic 136, 3, (71, 3, 0, 0, 1372), [0, 1], [6])], 0, [])),
  (12, ([(12, .ifCond .ne 6, 3, (18, 0, 0, 0, 0), [0, 1], [])], 0, [])),
  (15, ([(15, .bipush (-2), 2, (0, 0, 0, 0, 0), [], []), (17, .ireturn, 1, (0, 0, 0, 0, 0), [], [])], 0, [])),
  (18, ([(18, .aload_n 0, 1, (0, 0, 0, 0, 0), [], []), (19, .getfield 17, 3, (11, 2, 2, 1257, 0), [], []), (22, .iload_n 1, 1, (0, 0, 0, 0, 0), [], []), (23, .baload, 1, (23, 0, 0, 0, 0), [], []), (24, .ifCond .ne 6, 3, (30, 0, 0, 0, 0), [0, 1], [])], 0, [])),
  (27, ([(27, .bipush (-5), 2, (0, 0, 0, 0, 0), [], []), (29, .ireturn, 1, (0, 0, 0, 0, 0), [], [])], 0, [])),
  (30, ([(30, .iconst 0, 1, (0, 0, 0, 0, 0), [], []), (31, .istore_n 2, 1, (0, 0, 0, 0, 0), [], [])], 32, [0, 1, 2])),
  (32, ([(32, .iload_n 2, 1, (0, 0, 0, 0, 0), [], []), (33, .sipush 1115, 3, (0, 0, 0, 0, 0), [], []), (36, .if_icmp .ge 29, 3, (65, 0, 0, 0, 0), [0], [0, 1, 2])], 0, [])),
  (39, ([(39, .aload_n 0, 1, (0, 0, 0, 0, 0), [], []), (40, .getfield 13, 3, (11, 1, 2, 1256, 0), [], []), (43, .iload_n 2, 1, (0, 0, 0, 0, 0), [], []), (44, .aload_n 0, 1, (0, 0, 0, 0, 0), [], []), (45, .getfield 13, 3, (11, 1, 2, 1256, 0), [], []), (48, .sipush 1115, 3, (0, 0, 0, 0, 0), [], []), (51, .iload_n 1, 1, (0, 0, 0, 0, 0), [], []), (52, .iconst 1, 1, (0, 0, 0, 0, 0), [], []), (53, .iadd, 1, (0, 0, 0, 0, 0), [], []), (54, .imul, 1, (0, 0, 0, 0, 0), [], []), (55, .iload_n 2, 1, (0, 0, 0, 0, 0), [], []), (56, .iadd, 1, (0, 0, 0, 0, 0), [], []), (57, .iaload, 1, (20, 0, 0, 0, 0), [], []), (58, .iastore, 1, (0, 0, 0, 0, 0), [], [])], 59, [0, 1, 2])),
  (59, ([(59, .iinc 2 1, 3, (0, 0, 0, 0, 0), [], []), (62, .goto (-30), 3, (32, 0, 0, 0, 0), [0, 1, 2], [])], 0, [])),
  (65, ([(65, .aload_n 0, 1, (0, 0, 0, 0, 0), [], []), (66, .getfield 13, 3, (11, 1, 2, 1256, 0), [], []), (69, .bipush 73, 2, (0, 0, 0, 0, 0), [], []), (71, .iconst 0, 1, (0, 0, 0, 0, 0), [], []), (72, .iastore, 1, (0, 0, 0, 0, 0), [], [])], 73, [])),
  (73, ([(73, .iconst 0, 1, (0, 0, 0, 0, 0), [], []), (74, .ireturn, 1, (0, 0, 0, 0, 0), [], [])], 0, []))]
def cd_Intg_bitCount : List (Nat × AB) := [
  (0, ([(0, .iload_n 0, 1, (0, 0, 0, 0, 0), [], []), (1, .iload_n 0, 1, (0, 0, 0, 0, 0), [], []), (2, .iconst 1, 1, (0, 0, 0, 0, 0), [], []), (3, .iushr, 1, (0, 0, 0, 0, 0), [], []), (4, .ldc_w 265, 3, (0, 0, 0, 1243, 1431655765), [], []), (7, .iand, 1, (0, 0, 0, 0, 0), [], []), (8, .isub, 1, (0, 0, 0, 0, 0), [], []), (9, .istore_n 0, 1, (0, 0, 0, 0, 0), [], []), (10, .iload_n 0, 1, (0, 0, 0, 0, 0), [], []), (11, .ldc_w 266, 3, (0, 0, 0, 1244, 858993459), [], []), (14, .iand, 1, (0, 0, 0, 0, 0), [], []), (15, .iload_n 0, 1, (0, 0, 0, 0, 0), [], []), (16, .iconst 2, 1, (0, 0, 0, 0, 0), [], []), (17, .iushr, 1, (0, 0, 0, 0, 0), [], []), (18, .ldc_w 266, 3, (0, 0, 0, 1244, 858993459), [], []), (21, .iand, 1, (0, 0, 0, 0, 0), [], []), (22, .iadd, 1, (0, 0, 0, 0, 0), [], []), (23, .istore_n 0, 1, (0, 0, 0, 0, 0), [], []), (24, .iload_n 0, 1, (0, 0, 0, 0, 0), [], []), (25, .iload_n 0, 1, (0, 0, 0, 0, 0), [], []), (26, .iconst 4, 1, (0, 0, 0, 0, 0), [], []), (27, .iushr, 1, (0, 0, 0, 0, 0), [], []), (28, .iadd, 1, (0, 0, 0, 0, 0), [], []), (29, .ldc_w 267, 3, (0, 0, 0, 1245, 252645135), [], []), (32, .iand, 1, (0, 0, 0, 0, 0), [], []), (33, .istore_n 0, 1, (0, 0, 0, 0, 0), [], []), (34, .iload_n 0, 1, (0, 0, 0, 0, 0), [], []), (35, .iload_n 0, 1, (0, 0, 0, 0, 0), [], []), (36, .bipush 8, 2, (0, 0, 0, 0, 0), [], []), (38, .iushr, 1, (0, 0, 0, 0, 0), [], []), (39, .iadd, 1, (0, 0, 0, 0, 0), [], []), (40, .istore_n 0, 1, (0, 0, 0, 0, 0), [], []), (41, .iload_n 0, 1, (0, 0, 0, 0, 0), [], []), (42, .iload_n 0, 1, (0, 0, 0, 0, 0), [], []), (43, .bipush 16, 2, (0, 0, 0, 0, 0), [], []), (45, .iushr, 1, (0, 0, 0, 0, 0), [], []), (46, .iadd, 1, (0, 0, 0, 0, 0), [], []), (47, .istore_n 0, 1, (0, 0, 0, 0, 0), [], []), (48, .iload_n 0, 1, (0, 0, 0, 0, 0), [], []), (49, .bipush 63, 2, (0, 0, 0, 0, 0), [], []), (51, .iand, 1, (0, 0, 0, 0, 0), [], []), (52, .ireturn, 1, (0, 0, 0, 0, 0), [], [])], 0, []))]
def cd_Hook_count : List (Nat × AB) := [
  (0, ([(0, .iload_n 1, 1, (0, 0, 0, 0, 0), [], []), (1, .tableswitch 159 0 11 #[63, 71, 79, 90, 98, 106, 114, 122, 130, 138, 146, 151], 63, (160, 0, 0, 0, 0), [0, 64, 1, 72, 2, 80, 3, 91, 4, 99, 5, 107, 6, 115, 7, 123, 8, 131, 9, 139, 10, 147, 11, 152], [0])], 0, [])),
  (64, ([(64, .aload_n 0, 1, (0, 0, 0, 0, 0), [], []), (65, .getfield 33, 3, (10, 5, 2, 359, 0), [], []), (68, .getfield 140, 3, (9, 5, 0, 137, 0), [], []), (71, .ireturn, 1, (0, 0, 0, 0, 0), [], [])], 0, [])),
  (72, ([(72, .aload_n 0, 1, (0, 0, 0, 0, 0), [], []), (73, .getfield 33, 3, (10, 5, 2, 359, 0), [], []), (76, .getfield 163, 3, (9, 6, 0, 147, 0), [], []), (79, .ireturn, 1, (0, 0, 0, 0, 0), [], [])], 0, [])),
  (80, ([(80, .aload_n 0, 1, (0, 0, 0, 0, 0), [], []), (81, .getfield 33, 3, (10, 5, 2, 359, 0), [], []), (84, .getfield 390, 3, (9, 7, 0, 152, 0), [], []), (87, .invokestatic 393, 3, (301, 1, 0, 0, 1240), [], [1])], 0, [])),
  (90, ([(90, .ireturn, 1, (0, 0, 0, 0, 0), [], [])], 0, [])),
  (91, ([(91, .aload_n 0, 1, (0, 0, 0, 0, 0), [], []), (92, .getfield 43, 3, (10, 7, 2, 361, 0), [], []), (95, .getfield 235, 3, (0, 2, 0, 228, 0), [], []), (98, .ireturn, 1, (0, 0, 0, 0, 0), [], [])], 0, [])),
  (99, ([(99, .aload_n 0, 1, (0, 0, 0, 0, 0), [], []), (100, .getfield 43, 3, (10, 7, 2, 361, 0), [], []), (103, .getfield 321, 3, (0, 1, 0, 225, 0), [], []), (106, .ireturn, 1, (0, 0, 0, 0, 0), [], [])], 0, [])),
  (107, ([(107, .aload_n 0, 1, (0, 0, 0, 0, 0), [], []), (108, .getfield 53, 3, (10, 9, 2, 363, 0), [], []), (111, .getfield 206, 3, (1, 2, 0, 245, 0), [], []), (114, .ireturn, 1, (0, 0, 0, 0, 0), [], [])], 0, [])),
  (115, ([(115, .aload_n 0, 1, (0, 0, 0, 0, 0), [], []), (116, .getfield 33, 3, (10, 5, 2, 359, 0), [], []), (119, .getfield 398, 3, (9, 8, 0, 155, 0), [], []), (122, .ireturn, 1, (0, 0, 0, 0, 0), [], [])], 0, [])),
  (123, ([(123, .aload_n 0, 1, (0, 0, 0, 0, 0), [], []), (124, .getfield 33, 3, (10, 5, 2, 359, 0), [], []), (127, .getfield 401, 3, (9, 9, 0, 158, 0), [], []), (130, .ireturn, 1, (0, 0, 0, 0, 0), [], [])], 0, [])),
  (131, ([(131, .aload_n 0, 1, (0, 0, 0, 0, 0), [], []), (132, .getfield 33, 3, (10, 5, 2, 359, 0), [], []), (135, .getfield 404, 3, (9, 10, 0, 162, 0), [], []), (138, .ireturn, 1, (0, 0, 0, 0, 0), [], [])], 0, [])),
  (139, ([(139, .aload_n 0, 1, (0, 0, 0, 0, 0), [], []), (140, .getfield 33, 3, (10, 5, 2, 359, 0), [], []), (143, .getfield 332, 3, (9, 11, 0, 166, 0), [], []), (146, .ireturn, 1, (0, 0, 0, 0, 0), [], [])], 0, [])),
  (147, ([(147, .aload_n 0, 1, (0, 0, 0, 0, 0), [], []), (148, .getfield 13, 3, (10, 1, 0, 355, 0), [], []), (151, .ireturn, 1, (0, 0, 0, 0, 0), [], [])], 0, [])),
  (152, ([(152, .aload_n 0, 1, (0, 0, 0, 0, 0), [], []), (153, .getfield 33, 3, (10, 5, 2, 359, 0), [], []), (156, .getfield 127, 3, (9, 14, 0, 175, 0), [], []), (159, .ireturn, 1, (0, 0, 0, 0, 0), [], [])], 0, [])),
  (160, ([(160, .iconst (-1), 1, (0, 0, 0, 0, 0), [], []), (161, .ireturn, 1, (0, 0, 0, 0, 0), [], [])], 0, []))]
def cd_Mod_brokenMany : List (Nat × AB) := [
  (0, ([(0, .iconst 0, 1, (0, 0, 0, 0, 0), [], []), (1, .istore_n 1, 1, (0, 0, 0, 0, 0), [], []), (2, .iconst 0, 1, (0, 0, 0, 0, 0), [], []), (3, .istore_n 2, 1, (0, 0, 0, 0, 0), [], [])], 4, [0, 1, 2])),
  (4, ([(4, .iload_n 2, 1, (0, 0, 0, 0, 0), [], []), (5, .aload_n 0, 1, (0, 0, 0, 0, 0), [], []), (6, .getfield 13, 3, (11, 1, 2, 1256, 0), [], []), (9, .iconst 2, 1, (0, 0, 0, 0, 0), [], []), (10, .iaload, 1, (20, 0, 0, 0, 0), [], []), (11, .if_icmp .ge 32, 3, (43, 0, 0, 0, 0), [1], [0, 1, 2])], 0, [])),
  (14, ([(14, .iload_n 1, 1, (0, 0, 0, 0, 0), [], []), (15, .aload_n 0, 1, (0, 0, 0, 0, 0), [], []), (16, .getfield 13, 3, (11, 1, 2, 1256, 0), [], []), (19, .bipush 10, 2, (0, 0, 0, 0, 0), [], []), (21, .iaload, 1, (20, 0, 0, 0, 0), [], []), (22, .i2l, 1, (0, 0, 0, 0, 0), [], []), (23, .iload_n 2, 1, (0, 0, 0, 0, 0), [], []), (24, .invokestatic 214, 3, (96, 2, 0, 0, 1486), [0, 2], [3])], 0, [])),
  (27, ([(27, .ifCond .eq 7, 3, (34, 0, 0, 0, 0), [0, 2], [0, 2])], 0, [])),
  (30, ([(30, .iconst 1, 1, (0, 0, 0, 0, 0), [], []), (31, .goto 4, 3, (35, 0, 0, 0, 0), [0, 2], [])], 0, [])),
  (34, ([(34, .iconst 0, 1, (0, 0, 0, 0, 0), [], [])], 35, [0, 2])),
  (35, ([(35, .iadd, 1, (0, 0, 0, 0, 0), [], []), (36, .istore_n 1, 1, (0, 0, 0, 0, 0), [], []), (37, .iinc 2 1, 3, (0, 0, 0, 0, 0), [], []), (40, .goto (-36), 3, (4, 0, 0, 0, 0), [0, 1, 2], [])], 0, [])),
  (43, ([(43, .iload_n 1, 1, (0, 0, 0, 0, 0), [], []), (44, .ireturn, 1, (0, 0, 0, 0, 0), [], [])], 0, []))]
def cd_Mod_count : List (Nat × AB) := [
  (0, ([(0, .aload_n 0, 1, (0, 0, 0, 0, 0), [], []), (1, .iconst 0, 1, (0, 0, 0, 0, 0), [], []), (2, .putfield 1, 3, (11, 0, 0, 1255, 0), [], [])], 5, [0, 1])),
  (5, ([(5, .iload_n 1, 1, (0, 0, 0, 0, 0), [], []), (6, .tableswitch 146 0 11 #[62, 69, 76, 81, 89, 97, 105, 112, 119, 126, 134, 139], 62, (152, 0, 0, 0, 0), [0, 68, 1, 75, 2, 82, 3, 87, 4, 95, 5, 103, 6, 111, 7, 118, 8, 125, 9, 132, 10, 140, 11, 145], [0])], 0, [])),
  (68, ([(68, .aload_n 0, 1, (0, 0, 0, 0, 0), [], []), (69, .getfield 13, 3, (11, 1, 2, 1256, 0), [], []), (72, .iconst 1, 1, (0, 0, 0, 0, 0), [], []), (73, .iaload, 1, (20, 0, 0, 0, 0), [], []), (74, .ireturn, 1, (0, 0, 0, 0, 0), [], [])], 0, [])),
  (75, ([(75, .aload_n 0, 1, (0, 0, 0, 0, 0), [], []), (76, .getfield 13, 3, (11, 1, 2, 1256, 0), [], []), (79, .iconst 2, 1, (0, 0, 0, 0, 0), [], []), (80, .iaload, 1, (20, 0, 0, 0, 0), [], []), (81, .ireturn, 1, (0, 0, 0, 0, 0), [], [])], 0, [])),
  (82, ([(82, .aload_n 0, 1, (0, 0, 0, 0, 0), [], []), (83, .invokevirtual 455, 3, (303, 1, 10, 11, 1844), [], [3])], 0, [])),
  (86, ([(86, .ireturn, 1, (0, 0, 0, 0, 0), [], [])], 0, [])),
  (87, ([(87, .aload_n 0, 1, (0, 0, 0, 0, 0), [], []), (88, .getfield 13, 3, (11, 1, 2, 1256, 0), [], []), (91, .bipush 60, 2, (0, 0, 0, 0, 0), [], []), (93, .iaload, 1, (20, 0, 0, 0, 0), [], []), (94, .ireturn, 1, (0, 0, 0, 0, 0), [], [])], 0, [])),
  (95, ([(95, .aload_n 0, 1, (0, 0, 0, 0, 0), [], []), (96, .getfield 13, 3, (11, 1, 2, 1256, 0), [], []), (99, .bipush 59, 2, (0, 0, 0, 0, 0), [], []), (101, .iaload, 1, (20, 0, 0, 0, 0), [], []), (102, .ireturn, 1, (0, 0, 0, 0, 0), [], [])], 0, [])),
  (103, ([(103, .aload_n 0, 1, (0, 0, 0, 0, 0), [], []), (104, .getfield 13, 3, (11, 1, 2, 1256, 0), [], []), (107, .bipush 73, 2, (0, 0, 0, 0, 0), [], []), (109, .iaload, 1, (20, 0, 0, 0, 0), [], []), (110, .ireturn, 1, (0, 0, 0, 0, 0), [], [])], 0, [])),
  (111, ([(111, .aload_n 0, 1, (0, 0, 0, 0, 0), [], []), (112, .getfield 13, 3, (11, 1, 2, 1256, 0), [], []), (115, .iconst 3, 1, (0, 0, 0, 0, 0), [], []), (116, .iaload, 1, (20, 0, 0, 0, 0), [], []), (117, .ireturn, 1, (0, 0, 0, 0, 0), [], [])], 0, [])),
  (118, ([(118, .aload_n 0, 1, (0, 0, 0, 0, 0), [], []), (119, .getfield 13, 3, (11, 1, 2, 1256, 0), [], []), (122, .iconst 4, 1, (0, 0, 0, 0, 0), [], []), (123, .iaload, 1, (20, 0, 0, 0, 0), [], []), (124, .ireturn, 1, (0, 0, 0, 0, 0), [], [])], 0, [])),
  (125, ([(125, .aload_n 0, 1, (0, 0, 0, 0, 0), [], []), (126, .getfield 13, 3, (11, 1, 2, 1256, 0), [], []), (129, .iconst 5, 1, (0, 0, 0, 0, 0), [], []), (130, .iaload, 1, (20, 0, 0, 0, 0), [], []), (131, .ireturn, 1, (0, 0, 0, 0, 0), [], [])], 0, [])),
  (132, ([(132, .aload_n 0, 1, (0, 0, 0, 0, 0), [], []), (133, .getfield 13, 3, (11, 1, 2, 1256, 0), [], []), (136, .bipush 6, 2, (0, 0, 0, 0, 0), [], []), (138, .iaload, 1, (20, 0, 0, 0, 0), [], []), (139, .ireturn, 1, (0, 0, 0, 0, 0), [], [])], 0, [])),
  (140, ([(140, .aload_n 0, 1, (0, 0, 0, 0, 0), [], []), (141, .getfield 74, 3, (11, 5, 0, 1260, 0), [], []), (144, .ireturn, 1, (0, 0, 0, 0, 0), [], [])], 0, [])),
  (145, ([(145, .aload_n 0, 1, (0, 0, 0, 0, 0), [], []), (146, .getfield 13, 3, (11, 1, 2, 1256, 0), [], []), (149, .iconst 0, 1, (0, 0, 0, 0, 0), [], []), (150, .iaload, 1, (20, 0, 0, 0, 0), [], []), (151, .ireturn, 1, (0, 0, 0, 0, 0), [], [])], 0, [])),
  (152, ([(152, .iconst (-1), 1, (0, 0, 0, 0, 0), [], []), (153, .ireturn, 1, (0, 0, 0, 0, 0), [], [])], 0, []))]
def cd_Lw_law : List (Nat × AB) := [
  (0, ([(0, .new 7, 3, (10, 19, 0, 23, 0), [], [])], 3, [0])),
  (3, ([(3, .dup, 1, (0, 0, 0, 0, 0), [], []), (4, .invokespecial 9, 3, (13, 1, 11, 10, 25), [0], [2])], 0, [])),
  (7, ([(7, .astore_n 1, 1, (0, 0, 0, 0, 0), [], []), (8, .new 10, 3, (11, 36, 0, 1246, 0), [], [])], 11, [0, 1])),
  (11, ([(11, .dup, 1, (0, 0, 0, 0, 0), [], []), (12, .invokespecial 12, 3, (15, 1, 11, 11, 1248), [0, 1], [1])], 0, [])),
  (15, ([(15, .astore_n 2, 1, (0, 0, 0, 0, 0), [], []), (16, .iconst 0, 1, (0, 0, 0, 0, 0), [], []), (17, .istore_n 3, 1, (0, 0, 0, 0, 0), [], [])], 18, [0, 1, 2, 3])),
  (18, ([(18, .iload_n 3, 1, (0, 0, 0, 0, 0), [], []), (19, .aload_n 0, 1, (0, 0, 0, 0, 0), [], []), (20, .arraylength, 1, (30, 0, 0, 0, 0), [], []), (21, .bipush 6, 2, (0, 0, 0, 0, 0), [], []), (23, .isub, 1, (0, 0, 0, 0, 0), [], []), (24, .if_icmp .gt 1226, 3, (1250, 0, 0, 0, 0), [], [0, 1, 2, 3])], 0, [])),
  (27, ([(27, .aload_n 0, 1, (0, 0, 0, 0, 0), [], []), (28, .iload_n 3, 1, (0, 0, 0, 0, 0), [], []), (29, .iaload, 1, (30, 0, 0, 0, 0), [], []), (30, .bipush 63, 2, (0, 0, 0, 0, 0), [], []), (32, .iand, 1, (0, 0, 0, 0, 0), [], []), (33, .tableswitch 1211 0 35 #[159, 222, 245, 268, 301, 334, 367, 390, 423, 456, 479, 502, 535, 558, 591, 614, 638, 651, 674, 697, 710, 743, 776, 809, 832, 866, 879, 912, 945, 969, 1002, 1045, 1119, 1142, 1165, 1188], 159, (1244, 0, 0, 0, 0), [0, 192, 1, 255, 2, 278, 3, 301, 4, 334, 5, 367, 6, 400, 7, 423, 8, 456, 9, 489, 10, 512, 11, 535, 12, 568, 13, 591, 14, 624, 15, 647, 16, 671, 17, 684, 18, 707, 19, 730, 20, 743, 21, 776, 22, 809, 23, 842, 24, 865, 25, 899, 26, 912, 27, 945, 28, 978, 29, 1002, 30, 1035, 31, 1078, 32, 1152, 33, 1175, 34, 1198, 35, 1221], [0, 1, 2, 3])], 0, [])),
  (192, ([(192, .aload_n 1, 1, (0, 0, 0, 0, 0), [], []), (193, .aload_n 0, 1, (0, 0, 0, 0, 0), [], []), (194, .iload_n 3, 1, (0, 0, 0, 0, 0), [], []), (195, .iconst 1, 1, (0, 0, 0, 0, 0), [], []), (196, .iadd, 1, (0, 0, 0, 0, 0), [], []), (197, .iaload, 1, (30, 0, 0, 0, 0), [], []), (198, .aload_n 0, 1, (0, 0, 0, 0, 0), [], []), (199, .iload_n 3, 1, (0, 0, 0, 0, 0), [], []), (200, .iconst 2, 1, (0, 0, 0, 0, 0), [], []), (201, .iadd, 1, (0, 0, 0, 0, 0), [], []), (202, .iaload, 1, (30, 0, 0, 0, 0), [], []), (203, .aload_n 0, 1, (0, 0, 0, 0, 0), [], []), (204, .iload_n 3, 1, (0, 0, 0, 0, 0), [], []), (205, .iconst 3, 1, (0, 0, 0, 0, 0), [], []), (206, .iadd, 1, (0, 0, 0, 0, 0), [], []), (207, .iaload, 1, (30, 0, 0, 0, 0), [], []), (208, .aload_n 0, 1, (0, 0, 0, 0, 0), [], []), (209, .iload_n 3, 1, (0, 0, 0, 0, 0), [], []), (210, .iconst 4, 1, (0, 0, 0, 0, 0), [], []), (211, .iadd, 1, (0, 0, 0, 0, 0), [], []), (212, .iaload, 1, (30, 0, 0, 0, 0), [], []), (213, .aload_n 0, 1, (0, 0, 0, 0, 0), [], []), (214, .iload_n 3, 1, (0, 0, 0, 0, 0), [], []), (215, .iconst 5, 1, (0, 0, 0, 0, 0), [], []), (216, .iadd, 1, (0, 0, 0, 0, 0), [], []), (217, .iaload, 1, (30, 0, 0, 0, 0), [], []), (218, .invokevirtual 13, 3, (17, 6, 10, 10, 412), [0, 1, 2, 3], [6])], 0, [])),
  (221, ([(221, .aload_n 2, 1, (0, 0, 0, 0, 0), [], []), (222, .aload_n 0, 1, (0, 0, 0, 0, 0), [], []), (223, .iload_n 3, 1, (0, 0, 0, 0, 0), [], []), (224, .iconst 1, 1, (0, 0, 0, 0, 0), [], []), (225, .iadd, 1, (0, 0, 0, 0, 0), [], []), (226, .iaload, 1, (30, 0, 0, 0, 0), [], []), (227, .aload_n 0, 1, (0, 0, 0, 0, 0), [], []), (228, .iload_n 3, 1, (0, 0, 0, 0, 0), [], []), (229, .iconst 2, 1, (0, 0, 0, 0, 0), [], []), (230, .iadd, 1, (0, 0, 0, 0, 0), [], []), (231, .iaload, 1, (30, 0, 0, 0, 0), [], []), (232, .aload_n 0, 1, (0, 0, 0, 0, 0), [], []), (233, .iload_n 3, 1, (0, 0, 0, 0, 0), [], []), (234, .iconst 3, 1, (0, 0, 0, 0, 0), [], []), (235, .iadd, 1, (0, 0, 0, 0, 0), [], []), (236, .iaload, 1, (30, 0, 0, 0, 0), [], []), (237, .aload_n 0, 1, (0, 0, 0, 0, 0), [], []), (238, .iload_n 3, 1, (0, 0, 0, 0, 0), [], []), (239, .iconst 4, 1, (0, 0, 0, 0, 0), [], []), (240, .iadd, 1, (0, 0, 0, 0, 0), [], []), (241, .iaload, 1, (30, 0, 0, 0, 0), [], []), (242, .aload_n 0, 1, (0, 0, 0, 0, 0), [], []), (243, .iload_n 3, 1, (0, 0, 0, 0, 0), [], []), (244, .iconst 5, 1, (0, 0, 0, 0, 0), [], []), (245, .iadd, 1, (0, 0, 0, 0, 0), [], []), (246, .iaload, 1, (30, 0, 0, 0, 0), [], []), (247, .invokevirtual 17, 3, (18, 6, 10, 11, 1364), [0, 1, 2, 3], [8])], 0, [])),
  (250, ([(250, .if_icmp .eq 994, 3, (1244, 0, 0, 0, 0), [0, 1, 2, 3], [])], 0, [])),
  (253, ([(253, .iconst 0, 1, (0, 0, 0, 0, 0), [], []), (254, .ireturn, 1, (1, 0, 0, 0, 0), [], [])], 0, [])),
  (255, ([(255, .aload_n 1, 1, (0, 0, 0, 0, 0), [], []), (256, .aload_n 0, 1, (0, 0, 0, 0, 0), [], []), (257, .iload_n 3, 1, (0, 0, 0, 0, 0), [], []), (258, .iconst 1, 1, (0, 0, 0, 0, 0), [], []), (259, .iadd, 1, (0, 0, 0, 0, 0), [], []), (260, .iaload, 1, (30, 0, 0, 0, 0), [], []), (261, .invokevirtual 18, 3, (70, 2, 10, 10, 420), [0, 1, 2, 3], [3])], 0, [])),
  (264, ([(264, .aload_n 2, 1, (0, 0, 0, 0, 0), [], []), (265, .aload_n 0, 1, (0, 0, 0, 0, 0), [], []), (266, .iload_n 3, 1, (0, 0, 0, 0, 0), [], []), (267, .iconst 1, 1, (0, 0, 0, 0, 0), [], []), (268, .iadd, 1, (0, 0, 0, 0, 0), [], []), (269, .iaload, 1, (30, 0, 0, 0, 0), [], []), (270, .invokevirtual 22, 3, (101, 2, 10, 11, 1368), [0, 1, 2, 3], [3])], 0, [])),
  (273, ([(273, .if_icmp .eq 971, 3, (1244, 0, 0, 0, 0), [0, 1, 2, 3], [])], 0, [])),
  (276, ([(276, .iconst 0, 1, (0, 0, 0, 0, 0), [], []), (277, .ireturn, 1, (1, 0, 0, 0, 0), [], [])], 0, [])),
  (278, ([(278, .aload_n 1, 1, (0, 0, 0, 0, 0), [], []), (279, .aload_n 0, 1, (0, 0, 0, 0, 0), [], []), (280, .iload_n 3, 1, (0, 0, 0, 0, 0), [], []), (281, .iconst 1, 1, (0, 0, 0, 0, 0), [], []), (282, .iadd, 1, (0, 0, 0, 0, 0), [], []), (283, .iaload, 1, (30, 0, 0, 0, 0), [], []), (284, .invokevirtual 23, 3, (102, 2, 10, 10, 736), [0, 1, 2, 3], [2])], 0, [])),
  (287, ([(287, .aload_n 2, 1, (0, 0, 0, 0, 0), [], []), (288, .aload_n 0, 1, (0, 0, 0, 0, 0), [], []), (289, .iload_n 3, 1, (0, 0, 0, 0, 0), [], []), (290, .iconst 1, 1, (0, 0, 0, 0, 0), [], []), (291, .iadd, 1, (0, 0, 0, 0, 0), [], []), (292, .iaload, 1, (30, 0, 0, 0, 0), [], []), (293, .invokevirtual 26, 3, (103, 2, 10, 11, 1492), [0, 1, 2, 3], [2])], 0, [])),
  (296, ([(296, .if_icmp .eq 948, 3, (1244, 0, 0, 0, 0), [0, 1, 2, 3], [])], 0, [])),
  (299, ([(299, .iconst 0, 1, (0, 0, 0, 0, 0), [], []), (300, .ireturn, 1, (1, 0, 0, 0, 0), [], [])], 0, [])),
  (301, ([(301, .aload_n 1, 1, (0, 0, 0, 0, 0), [], []), (302, .aload_n 0, 1, (0, 0, 0, 0, 0), [], []), (303, .iload_n 3, 1, (0, 0, 0, 0, 0), [], []), (304, .iconst 1, 1, (0, 0, 0, 0, 0), [], []), (305, .iadd, 1, (0, 0, 0, 0, 0), [], []), (306, .iaload, 1, (30, 0, 0, 0, 0), [], []), (307, .aload_n 0, 1, (0, 0, 0, 0, 0), [], []), (308, .iload_n 3, 1, (0, 0, 0, 0, 0), [], []), (309, .iconst 2, 1, (0, 0, 0, 0, 0), [], []), (310, .iadd, 1, (0, 0, 0, 0, 0), [], []), (311, .iaload, 1, (30, 0, 0, 0, 0), [], []), (312, .invokevirtual 27, 3, (107, 3, 10, 10, 740), [0, 1, 2, 3], [3])], 0, [])),
  (315, ([(315, .aload_n 2, 1, (0, 0, 0, 0, 0), [], []), (316, .aload_n 0, 1, (0, 0, 0, 0, 0), [], []), (317, .iload_n 3, 1, (0, 0, 0, 0, 0), [], []), (318, .iconst 1, 1, (0, 0, 0, 0, 0), [], []), (319, .iadd, 1, (0, 0, 0, 0, 0), [], []), (320, .iaload, 1, (30, 0, 0, 0, 0), [], []), (321, .aload_n 0, 1, (0, 0, 0, 0, 0), [], []), (322, .iload_n 3, 1, (0, 0, 0, 0, 0), [], []), (323, .iconst 2, 1, (0, 0, 0, 0, 0), [], []), (324, .iadd, 1, (0, 0, 0, 0, 0), [], []), (325, .iaload, 1, (30, 0, 0, 0, 0), [], []), (326, .invokevirtual 31, 3, (115, 3, 10, 11, 1496), [0, 1, 2, 3], [3])], 0, [])),
  (329, ([(329, .if_icmp .eq 915, 3, (1244, 0, 0, 0, 0), [0, 1, 2, 3], [])], 0, [])),
  (332, ([(332, .iconst 0, 1, (0, 0, 0, 0, 0), [], []), (333, .ireturn, 1, (1, 0, 0, 0, 0), [], [])], 0, [])),
  (334, ([(334, .aload_n 1, 1, (0, 0, 0, 0, 0), [], []), (335, .aload_n 0, 1, (0, 0, 0, 0, 0), [], []), (336, .iload_n 3, 1, (0, 0, 0, 0, 0), [], []), (337, .iconst 1, 1, (0, 0, 0, 0, 0), [], []), (338, .iadd, 1, (0, 0, 0, 0, 0), [], []), (339, .iaload, 1, (30, 0, 0, 0, 0), [], []), (340, .aload_n 0, 1, (0, 0, 0, 0, 0), [], []), (341, .iload_n 3, 1, (0, 0, 0, 0, 0), [], []), (342, .iconst 2, 1, (0, 0, 0, 0, 0), [], []), (343, .iadd, 1, (0, 0, 0, 0, 0), [], []), (344, .iaload, 1, (30, 0, 0, 0, 0), [], []), (345, .invokevirtual 32, 3, (116, 3, 10, 10, 759), [0, 1, 2, 3], [3])], 0, [])),
  (348, ([(348, .aload_n 2, 1, (0, 0, 0, 0, 0), [], []), (349, .aload_n 0, 1, (0, 0, 0, 0, 0), [], []), (350, .iload_n 3, 1, (0, 0, 0, 0, 0), [], []), (351, .iconst 1, 1, (0, 0, 0, 0, 0), [], []), (352, .iadd, 1, (0, 0, 0, 0, 0), [], []), (353, .iaload, 1, (30, 0, 0, 0, 0), [], []), (354, .aload_n 0, 1, (0, 0, 0, 0, 0), [], []), (355, .iload_n 3, 1, (0, 0, 0, 0, 0), [], []), (356, .iconst 2, 1, (0, 0, 0, 0, 0), [], []), (357, .iadd, 1, (0, 0, 0, 0, 0), [], []), (358, .iaload, 1, (30, 0, 0, 0, 0), [], []), (359, .invokevirtual 35, 3, (118, 3, 10, 11, 1529), [0, 1, 2, 3], [3])], 0, [])),
  (362, ([(362, .if_icmp .eq 882, 3, (1244, 0, 0, 0, 0), [0, 1, 2, 3], [])], 0, [])),
  (365, ([(365, .iconst 0, 1, (0, 0, 0, 0, 0), [], []), (366, .ireturn, 1, (1, 0, 0, 0, 0), [], [])], 0, [])),
  (367, ([(367, .aload_n 1, 1, (0, 0, 0, 0, 0), [], []), (368, .aload_n 0, 1, (0, 0, 0, 0, 0), [], []), (369, .iload_n 3, 1, (0, 0, 0, 0, 0), [], []), (370, .iconst 1, 1, (0, 0, 0, 0, 0), [], []), (371, .iadd, 1, (0, 0, 0, 0, 0), [], []), (372, .iaload, 1, (30, 0, 0, 0, 0), [], []), (373, .aload_n 0, 1, (0, 0, 0, 0, 0), [], []), (374, .iload_n 3, 1, (0, 0, 0, 0, 0), [], []), (375, .iconst 2, 1, (0, 0, 0, 0, 0), [], []), (376, .iadd, 1, (0, 0, 0, 0, 0), [], []), (377, .iaload, 1, (30, 0, 0, 0, 0), [], []), (378, .invokevirtual 36, 3, (119, 3, 10, 10, 766), [0, 1, 2, 3], [3])], 0, [])),
  (381, ([(381, .aload_n 2, 1, (0, 0, 0, 0, 0), [], []), (382, .aload_n 0, 1, (0, 0, 0, 0, 0), [], []), (383, .iload_n 3, 1, (0, 0, 0, 0, 0), [], []), (384, .iconst 1, 1, (0, 0, 0, 0, 0), [], []), (385, .iadd, 1, (0, 0, 0, 0, 0), [], []), (386, .iaload, 1, (30, 0, 0, 0, 0), [], []), (387, .aload_n 0, 1, (0, 0, 0, 0, 0), [], []), (388, .iload_n 3, 1, (0, 0, 0, 0, 0), [], []), (389, .iconst 2, 1, (0, 0, 0, 0, 0), [], []), (390, .iadd, 1, (0, 0, 0, 0, 0), [], []), (391, .iaload, 1, (30, 0, 0, 0, 0), [], []), (392, .invokevirtual 39, 3, (120, 3, 10, 11, 1537), [0, 1, 2, 3], [3])], 0, [])),
  (395, ([(395, .if_icmp .eq 849, 3, (1244, 0, 0, 0, 0), [0, 1, 2, 3], [])], 0, [])),
  (398, ([(398, .iconst 0, 1, (0, 0, 0, 0, 0), [], []), (399, .ireturn, 1, (1, 0, 0, 0, 0), [], [])], 0, [])),
  (400, ([(400, .aload_n 1, 1, (0, 0, 0, 0, 0), [], []), (401, .aload_n 0, 1, (0, 0, 0, 0, 0), [], []), (402, .iload_n 3, 1, (0, 0, 0, 0, 0), [], []), (403, .iconst 1, 1, (0, 0, 0, 0, 0), [], []), (404, .iadd, 1, (0, 0, 0, 0, 0), [], []), (405, .iaload, 1, (30, 0, 0, 0, 0), [], []), (406, .invokevirtual 40, 3, (125, 2, 10, 10, 771), [0, 1, 2, 3], [2])], 0, [])),
  (409, ([(409, .aload_n 2, 1, (0, 0, 0, 0, 0), [], []), (410, .aload_n 0, 1, (0, 0, 0, 0, 0), [], []), (411, .iload_n 3, 1, (0, 0, 0, 0, 0), [], []), (412, .iconst 1, 1, (0, 0, 0, 0, 0), [], []), (413, .iadd, 1, (0, 0, 0, 0, 0), [], []), (414, .iaload, 1, (30, 0, 0, 0, 0), [], []), (415, .invokevirtual 43, 3, (127, 2, 10, 11, 1541), [0, 1, 2, 3], [5])], 0, [])),
  (418, ([(418, .if_icmp .eq 826, 3, (1244, 0, 0, 0, 0), [0, 1, 2, 3], [])], 0, [])),
  (421, ([(421, .iconst 0, 1, (0, 0, 0, 0, 0), [], []), (422, .ireturn, 1, (1, 0, 0, 0, 0), [], [])], 0, [])),
  (423, ([(423, .aload_n 1, 1, (0, 0, 0, 0, 0), [], []), (424, .aload_n 0, 1, (0, 0, 0, 0, 0), [], []), (425, .iload_n 3, 1, (0, 0, 0, 0, 0), [], []), (426, .iconst 1, 1, (0, 0, 0, 0, 0), [], []), (427, .iadd, 1, (0, 0, 0, 0, 0), [], []), (428, .iaload, 1, (30, 0, 0, 0, 0), [], []), (429, .aload_n 0, 1, (0, 0, 0, 0, 0), [], []), (430, .iload_n 3, 1, (0, 0, 0, 0, 0), [], []), (431, .iconst 2, 1, (0, 0, 0, 0, 0), [], []), (432, .iadd, 1, (0, 0, 0, 0, 0), [], []), (433, .iaload, 1, (30, 0, 0, 0, 0), [], []), (434, .invokevirtual 44, 3, (128, 3, 10, 10, 794), [0, 1, 2, 3], [3])], 0, [])),
  (437, ([(437, .aload_n 2, 1, (0, 0, 0, 0, 0), [], []), (438, .aload_n 0, 1, (0, 0, 0, 0, 0), [], []), (439, .iload_n 3, 1, (0, 0, 0, 0, 0), [], []), (440, .iconst 1, 1, (0, 0, 0, 0, 0), [], []), (441, .iadd, 1, (0, 0, 0, 0, 0), [], []), (442, .iaload, 1, (30, 0, 0, 0, 0), [], []), (443, .aload_n 0, 1, (0, 0, 0, 0, 0), [], []), (444, .iload_n 3, 1, (0, 0, 0, 0, 0), [], []), (445, .iconst 2, 1, (0, 0, 0, 0, 0), [], []), (446, .iadd, 1, (0, 0, 0, 0, 0), [], []), (447, .iaload, 1, (30, 0, 0, 0, 0), [], []), (448, .invokevirtual 47, 3, (129, 3, 10, 11, 1550), [0, 1, 2, 3], [3])], 0, [])),
  (451, ([(451, .if_icmp .eq 793, 3, (1244, 0, 0, 0, 0), [0, 1, 2, 3], [])], 0, [])),
  (454, ([(454, .iconst 0, 1, (0, 0, 0, 0, 0), [], []), (455, .ireturn, 1, (1, 0, 0, 0, 0), [], [])], 0, [])),
  (456, ([(456, .aload_n 1, 1, (0, 0, 0, 0, 0), [], []), (457, .aload_n 0, 1, (0, 0, 0, 0, 0), [], []), (458, .iload_n 3, 1, (0, 0, 0, 0, 0), [], []), (459, .iconst 1, 1, (0, 0, 0, 0, 0), [], []), (460, .iadd, 1, (0, 0, 0, 0, 0), [], []), (461, .iaload, 1, (30, 0, 0, 0, 0), [], []), (462, .aload_n 0, 1, (0, 0, 0, 0, 0), [], []), (463, .iload_n 3, 1, (0, 0, 0, 0, 0), [], []), (464, .iconst 2, 1, (0, 0, 0, 0, 0), [], []), (465, .iadd, 1, (0, 0, 0, 0, 0), [], []), (466, .iaload, 1, (30, 0, 0, 0, 0), [], []), (467, .invokevirtual 48, 3, (136, 3, 10, 10, 799), [0, 1, 2, 3], [4])], 0, [])),
  (470, ([(470, .aload_n 2, 1, (0, 0, 0, 0, 0), [], []), (471, .aload_n 0, 1, (0, 0, 0, 0, 0), [], []), (472, .iload_n 3, 1, (0, 0, 0, 0, 0), [], []), (473, .iconst 1, 1, (0, 0, 0, 0, 0), [], []), (474, .iadd, 1, (0, 0, 0, 0, 0), [], []), (475, .iaload, 1, (30, 0, 0, 0, 0), [], []), (476, .aload_n 0, 1, (0, 0, 0, 0, 0), [], []), (477, .iload_n 3, 1, (0, 0, 0, 0, 0), [], []), (478, .iconst 2, 1, (0, 0, 0, 0, 0), [], []), (479, .iadd, 1, (0, 0, 0, 0, 0), [], []), (480, .iaload, 1, (30, 0, 0, 0, 0), [], []), (481, .invokevirtual 51, 3, (143, 3, 10, 11, 1554), [0, 1, 2, 3], [4])], 0, [])),
  (484, ([(484, .if_icmp .eq 760, 3, (1244, 0, 0, 0, 0), [0, 1, 2, 3], [])], 0, [])),
  (487, ([(487, .iconst 0, 1, (0, 0, 0, 0, 0), [], []), (488, .ireturn, 1, (1, 0, 0, 0, 0), [], [])], 0, [])),
  (489, ([(489, .aload_n 1, 1, (0, 0, 0, 0, 0), [], []), (490, .aload_n 0, 1, (0, 0, 0, 0, 0), [], []), (491, .iload_n 3, 1, (0, 0, 0, 0, 0), [], []), (492, .iconst 1, 1, (0, 0, 0, 0, 0), [], []), (493, .iadd, 1, (0, 0, 0, 0, 0), [], []), (494, .iaload, 1, (30, 0, 0, 0, 0), [], []), (495, .invokevirtual 52, 3, (146, 2, 10, 10, 829), [0, 1, 2, 3], [3])], 0, [])),
  (498, ([(498, .aload_n 2, 1, (0, 0, 0, 0, 0), [], []), (499, .aload_n 0, 1, (0, 0, 0, 0, 0), [], []), (500, .iload_n 3, 1, (0, 0, 0, 0, 0), [], []), (501, .iconst 1, 1, (0, 0, 0, 0, 0), [], []), (502, .iadd, 1, (0, 0, 0, 0, 0), [], []), (503, .iaload, 1, (30, 0, 0, 0, 0), [], []), (504, .invokevirtual 55, 3, (149, 2, 10, 11, 1582), [0, 1, 2, 3], [3])], 0, [])),
  (507, ([(507, .if_icmp .eq 737, 3, (1244, 0, 0, 0, 0), [0, 1, 2, 3], [])], 0, [])),
  (510, ([(510, .iconst 0, 1, (0, 0, 0, 0, 0), [], []), (511, .ireturn, 1, (1, 0, 0, 0, 0), [], [])], 0, [])),
  (512, ([(512, .aload_n 1, 1, (0, 0, 0, 0, 0), [], []), (513, .aload_n 0, 1, (0, 0, 0, 0, 0), [], []), (514, .iload_n 3, 1, (0, 0, 0, 0, 0), [], []), (515, .iconst 1, 1, (0, 0, 0, 0, 0), [], []), (516, .iadd, 1, (0, 0, 0, 0, 0), [], []), (517, .iaload, 1, (30, 0, 0, 0, 0), [], []), (518, .invokevirtual 56, 3, (152, 2, 10, 10, 841), [0, 1, 2, 3], [2])], 0, [])),
  (521, ([(521, .aload_n 2, 1, (0, 0, 0, 0, 0), [], []), (522, .aload_n 0, 1, (0, 0, 0, 0, 0), [], []), (523, .iload_n 3, 1, (0, 0, 0, 0, 0), [], []), (524, .iconst 1, 1, (0, 0, 0, 0, 0), [], []), (525, .iadd, 1, (0, 0, 0, 0, 0), [], []), (526, .iaload, 1, (30, 0, 0, 0, 0), [], []), (527, .invokevirtual 59, 3, (153, 2, 10, 11, 1594), [0, 1, 2, 3], [3])], 0, [])),
  (530, ([(530, .if_icmp .eq 714, 3, (1244, 0, 0, 0, 0), [0, 1, 2, 3], [])], 0, [])),
  (533, ([(533, .iconst 0, 1, (0, 0, 0, 0, 0), [], []), (534, .ireturn, 1, (1, 0, 0, 0, 0), [], [])], 0, [])),
  (535, ([(535, .aload_n 1, 1, (0, 0, 0, 0, 0), [], []), (536, .aload_n 0, 1, (0, 0, 0, 0, 0), [], []), (537, .iload_n 3, 1, (0, 0, 0, 0, 0), [], []), (538, .iconst 1, 1, (0, 0, 0, 0, 0), [], []), (539, .iadd, 1, (0, 0, 0, 0, 0), [], []), (540, .iaload, 1, (30, 0, 0, 0, 0), [], []), (541, .aload_n 0, 1, (0, 0, 0, 0, 0), [], []), (542, .iload_n 3, 1, (0, 0, 0, 0, 0), [], []), (543, .iconst 2, 1, (0, 0, 0, 0, 0), [], []), (544, .iadd, 1, (0, 0, 0, 0, 0), [], []), (545, .iaload, 1, (30, 0, 0, 0, 0), [], []), (546, .invokevirtual 60, 3, (161, 3, 10, 10, 852), [0, 1, 2, 3], [6])], 0, [])),
  (549, ([(549, .aload_n 2, 1, (0, 0, 0, 0, 0), [], []), (550, .aload_n 0, 1, (0, 0, 0, 0, 0), [], []), (551, .iload_n 3, 1, (0, 0, 0, 0, 0), [], []), (552, .iconst 1, 1, (0, 0, 0, 0, 0), [], []), (553, .iadd, 1, (0, 0, 0, 0, 0), [], []), (554, .iaload, 1, (30, 0, 0, 0, 0), [], []), (555, .aload_n 0, 1, (0, 0, 0, 0, 0), [], []), (556, .iload_n 3, 1, (0, 0, 0, 0, 0), [], []), (557, .iconst 2, 1, (0, 0, 0, 0, 0), [], []), (558, .iadd, 1, (0, 0, 0, 0, 0), [], []), (559, .iaload, 1, (30, 0, 0, 0, 0), [], []), (560, .invokevirtual 63, 3, (166, 3, 10, 11, 1599), [0, 1, 2, 3], [7])], 0, [])),
  (563, ([(563, .if_icmp .eq 681, 3, (1244, 0, 0, 0, 0), [0, 1, 2, 3], [])], 0, [])),
  (566, ([(566, .iconst 0, 1, (0, 0, 0, 0, 0), [], []), (567, .ireturn, 1, (1, 0, 0, 0, 0), [], [])], 0, [])),
  (568, ([(568, .aload_n 1, 1, (0, 0, 0, 0, 0), [], []), (569, .aload_n 0, 1, (0, 0, 0, 0, 0), [], []), (570, .iload_n 3, 1, (0, 0, 0, 0, 0), [], []), (571, .iconst 1, 1, (0, 0, 0, 0, 0), [], []), (572, .iadd, 1, (0, 0, 0, 0, 0), [], []), (573, .iaload, 1, (30, 0, 0, 0, 0), [], []), (574, .invokevirtual 64, 3, (168, 2, 10, 10, 890), [0, 1, 2, 3], [4])], 0, [])),
  (577, ([(577, .aload_n 2, 1, (0, 0, 0, 0, 0), [], []), (578, .aload_n 0, 1, (0, 0, 0, 0, 0), [], []), (579, .iload_n 3, 1, (0, 0, 0, 0, 0), [], []), (580, .iconst 1, 1, (0, 0, 0, 0, 0), [], []), (581, .iadd, 1, (0, 0, 0, 0, 0), [], []), (582, .iaload, 1, (30, 0, 0, 0, 0), [], []), (583, .invokevirtual 67, 3, (169, 2, 10, 11, 1623), [0, 1, 2, 3], [4])], 0, [])),
  (586, ([(586, .if_icmp .eq 658, 3, (1244, 0, 0, 0, 0), [0, 1, 2, 3], [])], 0, [])),
  (589, ([(589, .iconst 0, 1, (0, 0, 0, 0, 0), [], []), (590, .ireturn, 1, (1, 0, 0, 0, 0), [], [])], 0, [])),
  (591, ([(591, .aload_n 1, 1, (0, 0, 0, 0, 0), [], []), (592, .aload_n 0, 1, (0, 0, 0, 0, 0), [], []), (593, .iload_n 3, 1, (0, 0, 0, 0, 0), [], []), (594, .iconst 1, 1, (0, 0, 0, 0, 0), [], []), (595, .iadd, 1, (0, 0, 0, 0, 0), [], []), (596, .iaload, 1, (30, 0, 0, 0, 0), [], []), (597, .aload_n 0, 1, (0, 0, 0, 0, 0), [], []), (598, .iload_n 3, 1, (0, 0, 0, 0, 0), [], []), (599, .iconst 2, 1, (0, 0, 0, 0, 0), [], []), (600, .iadd, 1, (0, 0, 0, 0, 0), [], []), (601, .iaload, 1, (30, 0, 0, 0, 0), [], []), (602, .invokevirtual 68, 3, (172, 3, 10, 10, 898), [0, 1, 2, 3], [4])], 0, [])),
  (605, ([(605, .aload_n 2, 1, (0, 0, 0, 0, 0), [], []), (606, .aload_n 0, 1, (0, 0, 0, 0, 0), [], []), (607, .iload_n 3, 1, (0, 0, 0, 0, 0), [], []), (608, .iconst 1, 1, (0, 0, 0, 0, 0), [], []), (609, .iadd, 1, (0, 0, 0, 0, 0), [], []), (610, .iaload, 1, (30, 0, 0, 0, 0), [], []), (611, .aload_n 0, 1, (0, 0, 0, 0, 0), [], []), (612, .iload_n 3, 1, (0, 0, 0, 0, 0), [], []), (613, .iconst 2, 1, (0, 0, 0, 0, 0), [], []), (614, .iadd, 1, (0, 0, 0, 0, 0), [], []), (615, .iaload, 1, (30, 0, 0, 0, 0), [], []), (616, .invokevirtual 71, 3, (174, 3, 10, 11, 1627), [0, 1, 2, 3], [7])], 0, [])),
  (619, ([(619, .if_icmp .eq 625, 3, (1244, 0, 0, 0, 0), [0, 1, 2, 3], [])], 0, [])),
  (622, ([(622, .iconst 0, 1, (0, 0, 0, 0, 0), [], []), (623, .ireturn, 1, (1, 0, 0, 0, 0), [], [])], 0, [])),
  (624, ([(624, .aload_n 1, 1, (0, 0, 0, 0, 0), [], []), (625, .aload_n 0, 1, (0, 0, 0, 0, 0), [], []), (626, .iload_n 3, 1, (0, 0, 0, 0, 0), [], []), (627, .iconst 1, 1, (0, 0, 0, 0, 0), [], []), (628, .iadd, 1, (0, 0, 0, 0, 0), [], []), (629, .iaload, 1, (30, 0, 0, 0, 0), [], []), (630, .invokevirtual 72, 3, (176, 2, 10, 10, 910), [0, 1, 2, 3], [4])], 0, [])),
  (633, ([(633, .aload_n 2, 1, (0, 0, 0, 0, 0), [], []), (634, .aload_n 0, 1, (0, 0, 0, 0, 0), [], []), (635, .iload_n 3, 1, (0, 0, 0, 0, 0), [], []), (636, .iconst 1, 1, (0, 0, 0, 0, 0), [], []), (637, .iadd, 1, (0, 0, 0, 0, 0), [], []), (638, .iaload, 1, (30, 0, 0, 0, 0), [], []), (639, .invokevirtual 75, 3, (177, 2, 10, 11, 1637), [0, 1, 2, 3], [6])], 0, [])),
  (642, ([(642, .if_icmp .eq 602, 3, (1244, 0, 0, 0, 0), [0, 1, 2, 3], [])], 0, [])),
  (645, ([(645, .iconst 0, 1, (0, 0, 0, 0, 0), [], []), (646, .ireturn, 1, (1, 0, 0, 0, 0), [], [])], 0, [])),
  (647, ([(647, .aload_n 1, 1, (0, 0, 0, 0, 0), [], []), (648, .aload_n 0, 1, (0, 0, 0, 0, 0), [], []), (649, .iload_n 3, 1, (0, 0, 0, 0, 0), [], []), (650, .iconst 1, 1, (0, 0, 0, 0, 0), [], []), (651, .iadd, 1, (0, 0, 0, 0, 0), [], []), (652, .iaload, 1, (30, 0, 0, 0, 0), [], []), (653, .invokevirtual 76, 3, (182, 2, 10, 10, 920), [0, 1, 2, 3], [2])], 0, [])),
  (656, ([(656, .aload_n 2, 1, (0, 0, 0, 0, 0), [], []), (657, .aload_n 0, 1, (0, 0, 0, 0, 0), [], []), (658, .iload_n 3, 1, (0, 0, 0, 0, 0), [], []), (659, .iconst 1, 1, (0, 0, 0, 0, 0), [], []), (660, .iadd, 1, (0, 0, 0, 0, 0), [], []), (661, .iaload, 1, (30, 0, 0, 0, 0), [], []), (662, .invokevirtual 80, 3, (189, 2, 10, 11, 1642), [0, 1, 2, 3], [2])], 0, [])),
  (665, ([(665, .lcmp, 1, (0, 0, 0, 0, 0), [], []), (666, .ifCond .eq 578, 3, (1244, 0, 0, 0, 0), [0, 1, 2, 3], [])], 0, [])),
  (669, ([(669, .iconst 0, 1, (0, 0, 0, 0, 0), [], []), (670, .ireturn, 1, (1, 0, 0, 0, 0), [], [])], 0, [])),
  (671, ([(671, .aload_n 1, 1, (0, 0, 0, 0, 0), [], []), (672, .invokevirtual 81, 3, (190, 1, 10, 10, 943), [0, 1, 2, 3], [1])], 0, [])),
  (675, ([(675, .aload_n 2, 1, (0, 0, 0, 0, 0), [], []), (676, .invokevirtual 85, 3, (192, 1, 10, 11, 1672), [0, 1, 2, 3], [1])], 0, [])),
  (679, ([(679, .if_icmp .eq 565, 3, (1244, 0, 0, 0, 0), [0, 1, 2, 3], [])], 0, [])),
  (682, ([(682, .iconst 0, 1, (0, 0, 0, 0, 0), [], []), (683, .ireturn, 1, (1, 0, 0, 0, 0), [], [])], 0, [])),
  (684, ([(684, .aload_n 1, 1, (0, 0, 0, 0, 0), [], []), (685, .aload_n 0, 1, (0, 0, 0, 0, 0), [], []), (686, .iload_n 3, 1, (0, 0, 0, 0, 0), [], []), (687, .iconst 1, 1, (0, 0, 0, 0, 0), [], []), (688, .iadd, 1, (0, 0, 0, 0, 0), [], []), (689, .iaload, 1, (30, 0, 0, 0, 0), [], []), (690, .invokevirtual 86, 3, (201, 2, 10, 10, 947), [0, 1, 2, 3], [3])], 0, [])),
  (693, ([(693, .aload_n 2, 1, (0, 0, 0, 0, 0), [], []), (694, .aload_n 0, 1, (0, 0, 0, 0, 0), [], []), (695, .iload_n 3, 1, (0, 0, 0, 0, 0), [], []), (696, .iconst 1, 1, (0, 0, 0, 0, 0), [], []), (697, .iadd, 1, (0, 0, 0, 0, 0), [], []), (698, .iaload, 1, (30, 0, 0, 0, 0), [], []), (699, .invokevirtual 89, 3, (207, 2, 10, 11, 1688), [0, 1, 2, 3], [3])], 0, [])),
  (702, ([(702, .if_icmp .eq 542, 3, (1244, 0, 0, 0, 0), [0, 1, 2, 3], [])], 0, [])),
  (705, ([(705, .iconst 0, 1, (0, 0, 0, 0, 0), [], []), (706, .ireturn, 1, (1, 0, 0, 0, 0), [], [])], 0, [])),
  (707, ([(707, .aload_n 1, 1, (0, 0, 0, 0, 0), [], []), (708, .aload_n 0, 1, (0, 0, 0, 0, 0), [], []), (709, .iload_n 3, 1, (0, 0, 0, 0, 0), [], []), (710, .iconst 1, 1, (0, 0, 0, 0, 0), [], []), (711, .iadd, 1, (0, 0, 0, 0, 0), [], []), (712, .iaload, 1, (30, 0, 0, 0, 0), [], []), (713, .invokevirtual 90, 3, (212, 2, 10, 10, 987), [0, 1, 2, 3], [3])], 0, [])),
  (716, ([(716, .aload_n 2, 1, (0, 0, 0, 0, 0), [], []), (717, .aload_n 0, 1, (0, 0, 0, 0, 0), [], []), (718, .iload_n 3, 1, (0, 0, 0, 0, 0), [], []), (719, .iconst 1, 1, (0, 0, 0, 0, 0), [], []), (720, .iadd, 1, (0, 0, 0, 0, 0), [], []), (721, .iaload, 1, (30, 0, 0, 0, 0), [], []), (722, .invokevirtual 93, 3, (218, 2, 10, 11, 1708), [0, 1, 2, 3], [2])], 0, [])),
  (725, ([(725, .if_icmp .eq 519, 3, (1244, 0, 0, 0, 0), [0, 1, 2, 3], [])], 0, [])),
  (728, ([(728, .iconst 0, 1, (0, 0, 0, 0, 0), [], []), (729, .ireturn, 1, (1, 0, 0, 0, 0), [], [])], 0, [])),
  (730, ([(730, .aload_n 1, 1, (0, 0, 0, 0, 0), [], []), (731, .invokevirtual 94, 3, (219, 1, 10, 10, 1011), [0, 1, 2, 3], [3])], 0, [])),
  (734, ([(734, .aload_n 2, 1, (0, 0, 0, 0, 0), [], []), (735, .invokevirtual 97, 3, (220, 1, 10, 11, 1731), [0, 1, 2, 3], [3])], 0, [])),
  (738, ([(738, .if_icmp .eq 506, 3, (1244, 0, 0, 0, 0), [0, 1, 2, 3], [])], 0, [])),
  (741, ([(741, .iconst 0, 1, (0, 0, 0, 0, 0), [], []), (742, .ireturn, 1, (1, 0, 0, 0, 0), [], [])], 0, [])),
  (743, ([(743, .aload_n 1, 1, (0, 0, 0, 0, 0), [], []), (744, .aload_n 0, 1, (0, 0, 0, 0, 0), [], []), (745, .iload_n 3, 1, (0, 0, 0, 0, 0), [], []), (746, .iconst 1, 1, (0, 0, 0, 0, 0), [], []), (747, .iadd, 1, (0, 0, 0, 0, 0), [], []), (748, .iaload, 1, (30, 0, 0, 0, 0), [], []), (749, .aload_n 0, 1, (0, 0, 0, 0, 0), [], []), (750, .iload_n 3, 1, (0, 0, 0, 0, 0), [], []), (751, .iconst 2, 1, (0, 0, 0, 0, 0), [], []), (752, .iadd, 1, (0, 0, 0, 0, 0), [], []), (753, .iaload, 1, (30, 0, 0, 0, 0), [], []), (754, .invokevirtual 98, 3, (222, 3, 10, 10, 1015), [0, 1, 2, 3], [3])], 0, [])),
  (757, ([(757, .aload_n 2, 1, (0, 0, 0, 0, 0), [], []), (758, .aload_n 0, 1, (0, 0, 0, 0, 0), [], []), (759, .iload_n 3, 1, (0, 0, 0, 0, 0), [], []), (760, .iconst 1, 1, (0, 0, 0, 0, 0), [], []), (761, .iadd, 1, (0, 0, 0, 0, 0), [], []), (762, .iaload, 1, (30, 0, 0, 0, 0), [], []), (763, .aload_n 0, 1, (0, 0, 0, 0, 0), [], []), (764, .iload_n 3, 1, (0, 0, 0, 0, 0), [], []), (765, .iconst 2, 1, (0, 0, 0, 0, 0), [], []), (766, .iadd, 1, (0, 0, 0, 0, 0), [], []), (767, .iaload, 1, (30, 0, 0, 0, 0), [], []), (768, .invokevirtual 101, 3, (223, 3, 10, 11, 1680), [0, 1, 2, 3], [12])], 0, [])),
  (771, ([(771, .if_icmp .eq 473, 3, (1244, 0, 0, 0, 0), [0, 1, 2, 3], [])], 0, [])),
  (774, ([(774, .iconst 0, 1, (0, 0, 0, 0, 0), [], []), (775, .ireturn, 1, (1, 0, 0, 0, 0), [], [])], 0, [])),
  (776, ([(776, .aload_n 1, 1, (0, 0, 0, 0, 0), [], []), (777, .aload_n 0, 1, (0, 0, 0, 0, 0), [], []), (778, .iload_n 3, 1, (0, 0, 0, 0, 0), [], []), (779, .iconst 1, 1, (0, 0, 0, 0, 0), [], []), (780, .iadd, 1, (0, 0, 0, 0, 0), [], []), (781, .iaload, 1, (30, 0, 0, 0, 0), [], []), (782, .aload_n 0, 1, (0, 0, 0, 0, 0), [], []), (783, .iload_n 3, 1, (0, 0, 0, 0, 0), [], []), (784, .iconst 2, 1, (0, 0, 0, 0, 0), [], []), (785, .iadd, 1, (0, 0, 0, 0, 0), [], []), (786, .iaload, 1, (30, 0, 0, 0, 0), [], []), (787, .invokevirtual 102, 3, (229, 3, 10, 10, 1024), [0, 1, 2, 3], [5])], 0, [])),
  (790, ([(790, .aload_n 2, 1, (0, 0, 0, 0, 0), [], []), (791, .aload_n 0, 1, (0, 0, 0, 0, 0), [], []), (792, .iload_n 3, 1, (0, 0, 0, 0, 0), [], []), (793, .iconst 1, 1, (0, 0, 0, 0, 0), [], []), (794, .iadd, 1, (0, 0, 0, 0, 0), [], []), (795, .iaload, 1, (30, 0, 0, 0, 0), [], []), (796, .aload_n 0, 1, (0, 0, 0, 0, 0), [], []), (797, .iload_n 3, 1, (0, 0, 0, 0, 0), [], []), (798, .iconst 2, 1, (0, 0, 0, 0, 0), [], []), (799, .iadd, 1, (0, 0, 0, 0, 0), [], []), (800, .iaload, 1, (30, 0, 0, 0, 0), [], []), (801, .invokevirtual 105, 3, (232, 3, 10, 11, 1735), [0, 1, 2, 3], [7])], 0, [])),
  (804, ([(804, .if_icmp .eq 440, 3, (1244, 0, 0, 0, 0), [0, 1, 2, 3], [])], 0, [])),
  (807, ([(807, .iconst 0, 1, (0, 0, 0, 0, 0), [], []), (808, .ireturn, 1, (1, 0, 0, 0, 0), [], [])], 0, [])),
  (809, ([(809, .aload_n 1, 1, (0, 0, 0, 0, 0), [], []), (810, .aload_n 0, 1, (0, 0, 0, 0, 0), [], []), (811, .iload_n 3, 1, (0, 0, 0, 0, 0), [], []), (812, .iconst 1, 1, (0, 0, 0, 0, 0), [], []), (813, .iadd, 1, (0, 0, 0, 0, 0), [], []), (814, .iaload, 1, (30, 0, 0, 0, 0), [], []), (815, .aload_n 0, 1, (0, 0, 0, 0, 0), [], []), (816, .iload_n 3, 1, (0, 0, 0, 0, 0), [], []), (817, .iconst 2, 1, (0, 0, 0, 0, 0), [], []), (818, .iadd, 1, (0, 0, 0, 0, 0), [], []), (819, .iaload, 1, (30, 0, 0, 0, 0), [], []), (820, .invokevirtual 106, 3, (238, 3, 10, 10, 1049), [0, 1, 2, 3], [5])], 0, [])),
  (823, ([(823, .aload_n 2, 1, (0, 0, 0, 0, 0), [], []), (824, .aload_n 0, 1, (0, 0, 0, 0, 0), [], []), (825, .iload_n 3, 1, (0, 0, 0, 0, 0), [], []), (826, .iconst 1, 1, (0, 0, 0, 0, 0), [], []), (827, .iadd, 1, (0, 0, 0, 0, 0), [], []), (828, .iaload, 1, (30, 0, 0, 0, 0), [], []), (829, .aload_n 0, 1, (0, 0, 0, 0, 0), [], []), (830, .iload_n 3, 1, (0, 0, 0, 0, 0), [], []), (831, .iconst 2, 1, (0, 0, 0, 0, 0), [], []), (832, .iadd, 1, (0, 0, 0, 0, 0), [], []), (833, .iaload, 1, (30, 0, 0, 0, 0), [], []), (834, .invokevirtual 109, 3, (240, 3, 10, 11, 1750), [0, 1, 2, 3], [6])], 0, [])),
  (837, ([(837, .if_icmp .eq 407, 3, (1244, 0, 0, 0, 0), [0, 1, 2, 3], [])], 0, [])),
  (840, ([(840, .iconst 0, 1, (0, 0, 0, 0, 0), [], []), (841, .ireturn, 1, (1, 0, 0, 0, 0), [], [])], 0, [])),
  (842, ([(842, .aload_n 1, 1, (0, 0, 0, 0, 0), [], []), (843, .aload_n 0, 1, (0, 0, 0, 0, 0), [], []), (844, .iload_n 3, 1, (0, 0, 0, 0, 0), [], []), (845, .iconst 1, 1, (0, 0, 0, 0, 0), [], []), (846, .iadd, 1, (0, 0, 0, 0, 0), [], []), (847, .iaload, 1, (30, 0, 0, 0, 0), [], []), (848, .invokevirtual 110, 3, (242, 2, 10, 10, 1071), [0, 1, 2, 3], [6])], 0, [])),
  (851, ([(851, .aload_n 2, 1, (0, 0, 0, 0, 0), [], []), (852, .aload_n 0, 1, (0, 0, 0, 0, 0), [], []), (853, .iload_n 3, 1, (0, 0, 0, 0, 0), [], []), (854, .iconst 1, 1, (0, 0, 0, 0, 0), [], []), (855, .iadd, 1, (0, 0, 0, 0, 0), [], []), (856, .iaload, 1, (30, 0, 0, 0, 0), [], []), (857, .invokevirtual 113, 3, (243, 2, 10, 11, 1759), [0, 1, 2, 3], [7])], 0, [])),
  (860, ([(860, .if_icmp .eq 384, 3, (1244, 0, 0, 0, 0), [0, 1, 2, 3], [])], 0, [])),
  (863, ([(863, .iconst 0, 1, (0, 0, 0, 0, 0), [], []), (864, .ireturn, 1, (1, 0, 0, 0, 0), [], [])], 0, [])),
  (865, ([(865, .aload_n 1, 1, (0, 0, 0, 0, 0), [], []), (866, .aload_n 0, 1, (0, 0, 0, 0, 0), [], []), (867, .iload_n 3, 1, (0, 0, 0, 0, 0), [], []), (868, .iconst 1, 1, (0, 0, 0, 0, 0), [], []), (869, .iadd, 1, (0, 0, 0, 0, 0), [], []), (870, .iaload, 1, (30, 0, 0, 0, 0), [], []), (871, .aload_n 0, 1, (0, 0, 0, 0, 0), [], []), (872, .iload_n 3, 1, (0, 0, 0, 0, 0), [], []), (873, .iconst 2, 1, (0, 0, 0, 0, 0), [], []), (874, .iadd, 1, (0, 0, 0, 0, 0), [], []), (875, .iaload, 1, (30, 0, 0, 0, 0), [], []), (876, .invokevirtual 114, 3, (249, 3, 10, 10, 1080), [0, 1, 2, 3], [9])], 0, [])),
  (879, ([(879, .aload_n 2, 1, (0, 0, 0, 0, 0), [], []), (880, .aload_n 0, 1, (0, 0, 0, 0, 0), [], []), (881, .iload_n 3, 1, (0, 0, 0, 0, 0), [], []), (882, .iconst 1, 1, (0, 0, 0, 0, 0), [], []), (883, .iadd, 1, (0, 0, 0, 0, 0), [], []), (884, .iaload, 1, (30, 0, 0, 0, 0), [], []), (885, .aload_n 0, 1, (0, 0, 0, 0, 0), [], []), (886, .iload_n 3, 1, (0, 0, 0, 0, 0), [], []), (887, .iconst 2, 1, (0, 0, 0, 0, 0), [], []), (888, .iadd, 1, (0, 0, 0, 0, 0), [], []), (889, .iaload, 1, (30, 0, 0, 0, 0), [], []), (890, .invokevirtual 118, 3, (254, 3, 10, 11, 1763), [0, 1, 2, 3], [10])], 0, [])),
  (893, ([(893, .lcmp, 1, (0, 0, 0, 0, 0), [], []), (894, .ifCond .eq 350, 3, (1244, 0, 0, 0, 0), [0, 1, 2, 3], [])], 0, [])),
  (897, ([(897, .iconst 0, 1, (0, 0, 0, 0, 0), [], []), (898, .ireturn, 1, (1, 0, 0, 0, 0), [], [])], 0, [])),
  (899, ([(899, .aload_n 1, 1, (0, 0, 0, 0, 0), [], []), (900, .invokevirtual 119, 3, (255, 1, 10, 10, 1102), [0, 1, 2, 3], [7])], 0, [])),
  (903, ([(903, .aload_n 2, 1, (0, 0, 0, 0, 0), [], []), (904, .invokevirtual 122, 3, (256, 1, 10, 11, 1783), [0, 1, 2, 3], [3])], 0, [])),
  (907, ([(907, .if_icmp .eq 337, 3, (1244, 0, 0, 0, 0), [0, 1, 2, 3], [])], 0, [])),
  (910, ([(910, .iconst 0, 1, (0, 0, 0, 0, 0), [], []), (911, .ireturn, 1, (1, 0, 0, 0, 0), [], [])], 0, [])),
  (912, ([(912, .aload_n 1, 1, (0, 0, 0, 0, 0), [], []), (913, .aload_n 0, 1, (0, 0, 0, 0, 0), [], []), (914, .iload_n 3, 1, (0, 0, 0, 0, 0), [], []), (915, .iconst 1, 1, (0, 0, 0, 0, 0), [], []), (916, .iadd, 1, (0, 0, 0, 0, 0), [], []), (917, .iaload, 1, (30, 0, 0, 0, 0), [], []), (918, .aload_n 0, 1, (0, 0, 0, 0, 0), [], []), (919, .iload_n 3, 1, (0, 0, 0, 0, 0), [], []), (920, .iconst 2, 1, (0, 0, 0, 0, 0), [], []), (921, .iadd, 1, (0, 0, 0, 0, 0), [], []), (922, .iaload, 1, (30, 0, 0, 0, 0), [], []), (923, .invokevirtual 123, 3, (258, 3, 10, 10, 1106), [0, 1, 2, 3], [3])], 0, [])),
  (926, ([(926, .aload_n 2, 1, (0, 0, 0, 0, 0), [], []), (927, .aload_n 0, 1, (0, 0, 0, 0, 0), [], []), (928, .iload_n 3, 1, (0, 0, 0, 0, 0), [], []), (929, .iconst 1, 1, (0, 0, 0, 0, 0), [], []), (930, .iadd, 1, (0, 0, 0, 0, 0), [], []), (931, .iaload, 1, (30, 0, 0, 0, 0), [], []), (932, .aload_n 0, 1, (0, 0, 0, 0, 0), [], []), (933, .iload_n 3, 1, (0, 0, 0, 0, 0), [], []), (934, .iconst 2, 1, (0, 0, 0, 0, 0), [], []), (935, .iadd, 1, (0, 0, 0, 0, 0), [], []), (936, .iaload, 1, (30, 0, 0, 0, 0), [], []), (937, .invokevirtual 126, 3, (260, 3, 10, 11, 1787), [0, 1, 2, 3], [3])], 0, [])),
  (940, ([(940, .if_icmp .eq 304, 3, (1244, 0, 0, 0, 0), [0, 1, 2, 3], [])], 0, [])),
  (943, ([(943, .iconst 0, 1, (0, 0, 0, 0, 0), [], []), (944, .ireturn, 1, (1, 0, 0, 0, 0), [], [])], 0, [])),
  (945, ([(945, .aload_n 1, 1, (0, 0, 0, 0, 0), [], []), (946, .aload_n 0, 1, (0, 0, 0, 0, 0), [], []), (947, .iload_n 3, 1, (0, 0, 0, 0, 0), [], []), (948, .iconst 1, 1, (0, 0, 0, 0, 0), [], []), (949, .iadd, 1, (0, 0, 0, 0, 0), [], []), (950, .iaload, 1, (30, 0, 0, 0, 0), [], []), (951, .aload_n 0, 1, (0, 0, 0, 0, 0), [], []), (952, .iload_n 3, 1, (0, 0, 0, 0, 0), [], []), (953, .iconst 2, 1, (0, 0, 0, 0, 0), [], []), (954, .iadd, 1, (0, 0, 0, 0, 0), [], []), (955, .iaload, 1, (30, 0, 0, 0, 0), [], []), (956, .invokevirtual 127, 3, (261, 3, 10, 10, 1115), [0, 1, 2, 3], [7])], 0, [])),
  (959, ([(959, .aload_n 2, 1, (0, 0, 0, 0, 0), [], []), (960, .aload_n 0, 1, (0, 0, 0, 0, 0), [], []), (961, .iload_n 3, 1, (0, 0, 0, 0, 0), [], []), (962, .iconst 1, 1, (0, 0, 0, 0, 0), [], []), (963, .iadd, 1, (0, 0, 0, 0, 0), [], []), (964, .iaload, 1, (30, 0, 0, 0, 0), [], []), (965, .aload_n 0, 1, (0, 0, 0, 0, 0), [], []), (966, .iload_n 3, 1, (0, 0, 0, 0, 0), [], []), (967, .iconst 2, 1, (0, 0, 0, 0, 0), [], []), (968, .iadd, 1, (0, 0, 0, 0, 0), [], []), (969, .iaload, 1, (30, 0, 0, 0, 0), [], []), (970, .invokevirtual 130, 3, (262, 3, 10, 11, 1795), [0, 1, 2, 3], [5])], 0, [])),
  (973, ([(973, .if_icmp .eq 271, 3, (1244, 0, 0, 0, 0), [0, 1, 2, 3], [])], 0, [])),
  (976, ([(976, .iconst 0, 1, (0, 0, 0, 0, 0), [], []), (977, .ireturn, 1, (1, 0, 0, 0, 0), [], [])], 0, [])),
  (978, ([(978, .aload_n 1, 1, (0, 0, 0, 0, 0), [], []), (979, .aload_n 0, 1, (0, 0, 0, 0, 0), [], []), (980, .iload_n 3, 1, (0, 0, 0, 0, 0), [], []), (981, .iconst 1, 1, (0, 0, 0, 0, 0), [], []), (982, .iadd, 1, (0, 0, 0, 0, 0), [], []), (983, .iaload, 1, (30, 0, 0, 0, 0), [], []), (984, .invokevirtual 131, 3, (274, 2, 10, 10, 1119), [0, 1, 2, 3], [3])], 0, [])),
  (987, ([(987, .aload_n 2, 1, (0, 0, 0, 0, 0), [], []), (988, .aload_n 0, 1, (0, 0, 0, 0, 0), [], []), (989, .iload_n 3, 1, (0, 0, 0, 0, 0), [], []), (990, .iconst 1, 1, (0, 0, 0, 0, 0), [], []), (991, .iadd, 1, (0, 0, 0, 0, 0), [], []), (992, .iaload, 1, (30, 0, 0, 0, 0), [], []), (993, .invokevirtual 134, 3, (276, 2, 10, 11, 1799), [0, 1, 2, 3], [4])], 0, [])),
  (996, ([(996, .lcmp, 1, (0, 0, 0, 0, 0), [], []), (997, .ifCond .eq 247, 3, (1244, 0, 0, 0, 0), [0, 1, 2, 3], [])], 0, [])),
  (1000, ([(1000, .iconst 0, 1, (0, 0, 0, 0, 0), [], []), (1001, .ireturn, 1, (1, 0, 0, 0, 0), [], [])], 0, [])),
  (1002, ([(1002, .aload_n 1, 1, (0, 0, 0, 0, 0), [], []), (1003, .aload_n 0, 1, (0, 0, 0, 0, 0), [], []), (1004, .iload_n 3, 1, (0, 0, 0, 0, 0), [], []), (1005, .iconst 1, 1, (0, 0, 0, 0, 0), [], []), (1006, .iadd, 1, (0, 0, 0, 0, 0), [], []), (1007, .iaload, 1, (30, 0, 0, 0, 0), [], []), (1008, .aload_n 0, 1, (0, 0, 0, 0, 0), [], []), (1009, .iload_n 3, 1, (0, 0, 0, 0, 0), [], []), (1010, .iconst 2, 1, (0, 0, 0, 0, 0), [], []), (1011, .iadd, 1, (0, 0, 0, 0, 0), [], []), (1012, .iaload, 1, (30, 0, 0, 0, 0), [], []), (1013, .invokevirtual 135, 3, (281, 3, 10, 10, 1172), [0, 1, 2, 3], [5])], 0, [])),
  (1016, ([(1016, .aload_n 2, 1, (0, 0, 0, 0, 0), [], []), (1017, .aload_n 0, 1, (0, 0, 0, 0, 0), [], []), (1018, .iload_n 3, 1, (0, 0, 0, 0, 0), [], []), (1019, .iconst 1, 1, (0, 0, 0, 0, 0), [], []), (1020, .iadd, 1, (0, 0, 0, 0, 0), [], []), (1021, .iaload, 1, (30, 0, 0, 0, 0), [], []), (1022, .aload_n 0, 1, (0, 0, 0, 0, 0), [], []), (1023, .iload_n 3, 1, (0, 0, 0, 0, 0), [], []), (1024, .iconst 2, 1, (0, 0, 0, 0, 0), [], []), (1025, .iadd, 1, (0, 0, 0, 0, 0), [], []), (1026, .iaload, 1, (30, 0, 0, 0, 0), [], []), (1027, .invokevirtual 138, 3, (282, 3, 10, 11, 1807), [0, 1, 2, 3], [8])], 0, [])),
  (1030, ([(1030, .if_icmp .eq 214, 3, (1244, 0, 0, 0, 0), [0, 1, 2, 3], [])], 0, [])),
  (1033, ([(1033, .iconst 0, 1, (0, 0, 0, 0, 0), [], []), (1034, .ireturn, 1, (1, 0, 0, 0, 0), [], [])], 0, [])),
  (1035, ([(1035, .aload_n 1, 1, (0, 0, 0, 0, 0), [], []), (1036, .aload_n 0, 1, (0, 0, 0, 0, 0), [], []), (1037, .iload_n 3, 1, (0, 0, 0, 0, 0), [], []), (1038, .iconst 1, 1, (0, 0, 0, 0, 0), [], []), (1039, .iadd, 1, (0, 0, 0, 0, 0), [], []), (1040, .iaload, 1, (30, 0, 0, 0, 0), [], []), (1041, .aload_n 0, 1, (0, 0, 0, 0, 0), [], []), (1042, .iload_n 3, 1, (0, 0, 0, 0, 0), [], []), (1043, .iconst 2, 1, (0, 0, 0, 0, 0), [], []), (1044, .iadd, 1, (0, 0, 0, 0, 0), [], []), (1045, .iaload, 1, (30, 0, 0, 0, 0), [], []), (1046, .aload_n 0, 1, (0, 0, 0, 0, 0), [], []), (1047, .iload_n 3, 1, (0, 0, 0, 0, 0), [], []), (1048, .iconst 3, 1, (0, 0, 0, 0, 0), [], []), (1049, .iadd, 1, (0, 0, 0, 0, 0), [], []), (1050, .iaload, 1, (30, 0, 0, 0, 0), [], []), (1051, .invokevirtual 139, 3, (285, 4, 10, 10, 1191), [0, 1, 2, 3], [4])], 0, [])),
  (1054, ([(1054, .aload_n 2, 1, (0, 0, 0, 0, 0), [], []), (1055, .aload_n 0, 1, (0, 0, 0, 0, 0), [], []), (1056, .iload_n 3, 1, (0, 0, 0, 0, 0), [], []), (1057, .iconst 1, 1, (0, 0, 0, 0, 0), [], []), (1058, .iadd, 1, (0, 0, 0, 0, 0), [], []), (1059, .iaload, 1, (30, 0, 0, 0, 0), [], []), (1060, .aload_n 0, 1, (0, 0, 0, 0, 0), [], []), (1061, .iload_n 3, 1, (0, 0, 0, 0, 0), [], []), (1062, .iconst 2, 1, (0, 0, 0, 0, 0), [], []), (1063, .iadd, 1, (0, 0, 0, 0, 0), [], []), (1064, .iaload, 1, (30, 0, 0, 0, 0), [], []), (1065, .aload_n 0, 1, (0, 0, 0, 0, 0), [], []), (1066, .iload_n 3, 1, (0, 0, 0, 0, 0), [], []), (1067, .iconst 3, 1, (0, 0, 0, 0, 0), [], []), (1068, .iadd, 1, (0, 0, 0, 0, 0), [], []), (1069, .iaload, 1, (30, 0, 0, 0, 0), [], []), (1070, .invokevirtual 143, 3, (286, 4, 10, 11, 1811), [0, 1, 2, 3], [5])], 0, [])),
  (1073, ([(1073, .if_icmp .eq 171, 3, (1244, 0, 0, 0, 0), [0, 1, 2, 3], [])], 0, [])),
  (1076, ([(1076, .iconst 0, 1, (0, 0, 0, 0, 0), [], []), (1077, .ireturn, 1, (1, 0, 0, 0, 0), [], [])], 0, [])),
  (1078, ([(1078, .aload_n 1, 1, (0, 0, 0, 0, 0), [], []), (1079, .aload_n 0, 1, (0, 0, 0, 0, 0), [], []), (1080, .iload_n 3, 1, (0, 0, 0, 0, 0), [], []), (1081, .iconst 1, 1, (0, 0, 0, 0, 0), [], []), (1082, .iadd, 1, (0, 0, 0, 0, 0), [], []), (1083, .iaload, 1, (30, 0, 0, 0, 0), [], []), (1084, .aload_n 0, 1, (0, 0, 0, 0, 0), [], []), (1085, .iload_n 3, 1, (0, 0, 0, 0, 0), [], []), (1086, .iconst 2, 1, (0, 0, 0, 0, 0), [], []), (1087, .iadd, 1, (0, 0, 0, 0, 0), [], []), (1088, .iaload, 1, (30, 0, 0, 0, 0), [], []), (1089, .aload_n 0, 1, (0, 0, 0, 0, 0), [], []), (1090, .iload_n 3, 1, (0, 0, 0, 0, 0), [], []), (1091, .iconst 3, 1, (0, 0, 0, 0, 0), [], []), (1092, .iadd, 1, (0, 0, 0, 0, 0), [], []), (1093, .iaload, 1, (30, 0, 0, 0, 0), [], []), (1094, .i2l, 1, (0, 0, 0, 0, 0), [], []), (1095, .bipush 32, 2, (0, 0, 0, 0, 0), [], []), (1097, .lshl, 1, (0, 0, 0, 0, 0), [], []), (1098, .aload_n 0, 1, (0, 0, 0, 0, 0), [], []), (1099, .iload_n 3, 1, (0, 0, 0, 0, 0), [], []), (1100, .iconst 4, 1, (0, 0, 0, 0, 0), [], []), (1101, .iadd, 1, (0, 0, 0, 0, 0), [], []), (1102, .iaload, 1, (30, 0, 0, 0, 0), [], []), (1103, .i2l, 1, (0, 0, 0, 0, 0), [], []), (1104, .ldc2_w 144, 3, (0, 0, 0, 1848, 4294967295), [], []), (1107, .land, 1, (0, 0, 0, 0, 0), [], []), (1108, .lor, 1, (0, 0, 0, 0, 0), [], []), (1109, .invokevirtual 146, 3, (289, 4, 10, 10, 1202), [0, 1, 2, 3], [7])], 0, [])),
  (1112, ([(1112, .aload_n 2, 1, (0, 0, 0, 0, 0), [], []), (1113, .aload_n 0, 1, (0, 0, 0, 0, 0), [], []), (1114, .iload_n 3, 1, (0, 0, 0, 0, 0), [], []), (1115, .iconst 1, 1, (0, 0, 0, 0, 0), [], []), (1116, .iadd, 1, (0, 0, 0, 0, 0), [], []), (1117, .iaload, 1, (30, 0, 0, 0, 0), [], []), (1118, .aload_n 0, 1, (0, 0, 0, 0, 0), [], []), (1119, .iload_n 3, 1, (0, 0, 0, 0, 0), [], []), (1120, .iconst 2, 1, (0, 0, 0, 0, 0), [], []), (1121, .iadd, 1, (0, 0, 0, 0, 0), [], []), (1122, .iaload, 1, (30, 0, 0, 0, 0), [], []), (1123, .aload_n 0, 1, (0, 0, 0, 0, 0), [], []), (1124, .iload_n 3, 1, (0, 0, 0, 0, 0), [], []), (1125, .iconst 3, 1, (0, 0, 0, 0, 0), [], []), (1126, .iadd, 1, (0, 0, 0, 0, 0), [], []), (1127, .iaload, 1, (30, 0, 0, 0, 0), [], []), (1128, .i2l, 1, (0, 0, 0, 0, 0), [], []), (1129, .bipush 32, 2, (0, 0, 0, 0, 0), [], []), (1131, .lshl, 1, (0, 0, 0, 0, 0), [], []), (1132, .aload_n 0, 1, (0, 0, 0, 0, 0), [], []), (1133, .iload_n 3, 1, (0, 0, 0, 0, 0), [], []), (1134, .iconst 4, 1, (0, 0, 0, 0, 0), [], []), (1135, .iadd, 1, (0, 0, 0, 0, 0), [], []), (1136, .iaload, 1, (30, 0, 0, 0, 0), [], []), (1137, .i2l, 1, (0, 0, 0, 0, 0), [], []), (1138, .ldc2_w 144, 3, (0, 0, 0, 1848, 4294967295), [], []), (1141, .land, 1, (0, 0, 0, 0, 0), [], []), (1142, .lor, 1, (0, 0, 0, 0, 0), [], []), (1143, .invokevirtual 150, 3, (291, 4, 10, 11, 1816), [0, 1, 2, 3], [6])], 0, [])),
  (1146, ([(1146, .lcmp, 1, (0, 0, 0, 0, 0), [], []), (1147, .ifCond .eq 97, 3, (1244, 0, 0, 0, 0), [0, 1, 2, 3], [])], 0, [])),
  (1150, ([(1150, .iconst 0, 1, (0, 0, 0, 0, 0), [], []), (1151, .ireturn, 1, (1, 0, 0, 0, 0), [], [])], 0, [])),
  (1152, ([(1152, .aload_n 1, 1, (0, 0, 0, 0, 0), [], []), (1153, .aload_n 0, 1, (0, 0, 0, 0, 0), [], []), (1154, .iload_n 3, 1, (0, 0, 0, 0, 0), [], []), (1155, .iconst 1, 1, (0, 0, 0, 0, 0), [], []), (1156, .iadd, 1, (0, 0, 0, 0, 0), [], []), (1157, .iaload, 1, (30, 0, 0, 0, 0), [], []), (1158, .invokevirtual 151, 3, (293, 2, 10, 10, 1215), [0, 1, 2, 3], [6])], 0, [])),
  (1161, ([(1161, .aload_n 2, 1, (0, 0, 0, 0, 0), [], []), (1162, .aload_n 0, 1, (0, 0, 0, 0, 0), [], []), (1163, .iload_n 3, 1, (0, 0, 0, 0, 0), [], []), (1164, .iconst 1, 1, (0, 0, 0, 0, 0), [], []), (1165, .iadd, 1, (0, 0, 0, 0, 0), [], []), (1166, .iaload, 1, (30, 0, 0, 0, 0), [], []), (1167, .invokevirtual 154, 3, (295, 2, 10, 11, 1824), [0, 1, 2, 3], [6])], 0, [])),
  (1170, ([(1170, .if_icmp .eq 74, 3, (1244, 0, 0, 0, 0), [0, 1, 2, 3], [])], 0, [])),
  (1173, ([(1173, .iconst 0, 1, (0, 0, 0, 0, 0), [], []), (1174, .ireturn, 1, (1, 0, 0, 0, 0), [], [])], 0, [])),
  (1175, ([(1175, .aload_n 1, 1, (0, 0, 0, 0, 0), [], []), (1176, .aload_n 0, 1, (0, 0, 0, 0, 0), [], []), (1177, .iload_n 3, 1, (0, 0, 0, 0, 0), [], []), (1178, .iconst 1, 1, (0, 0, 0, 0, 0), [], []), (1179, .iadd, 1, (0, 0, 0, 0, 0), [], []), (1180, .iaload, 1, (30, 0, 0, 0, 0), [], []), (1181, .invokevirtual 155, 3, (297, 2, 10, 10, 1223), [0, 1, 2, 3], [2])], 0, [])),
  (1184, ([(1184, .aload_n 2, 1, (0, 0, 0, 0, 0), [], []), (1185, .aload_n 0, 1, (0, 0, 0, 0, 0), [], []), (1186, .iload_n 3, 1, (0, 0, 0, 0, 0), [], []), (1187, .iconst 1, 1, (0, 0, 0, 0, 0), [], []), (1188, .iadd, 1, (0, 0, 0, 0, 0), [], []), (1189, .iaload, 1, (30, 0, 0, 0, 0), [], []), (1190, .invokevirtual 158, 3, (298, 2, 10, 11, 1832), [0, 1, 2, 3], [3])], 0, [])),
  (1193, ([(1193, .if_icmp .eq 51, 3, (1244, 0, 0, 0, 0), [0, 1, 2, 3], [])], 0, [])),
  (1196, ([(1196, .iconst 0, 1, (0, 0, 0, 0, 0), [], []), (1197, .ireturn, 1, (1, 0, 0, 0, 0), [], [])], 0, [])),
  (1198, ([(1198, .aload_n 1, 1, (0, 0, 0, 0, 0), [], []), (1199, .aload_n 0, 1, (0, 0, 0, 0, 0), [], []), (1200, .iload_n 3, 1, (0, 0, 0, 0, 0), [], []), (1201, .iconst 1, 1, (0, 0, 0, 0, 0), [], []), (1202, .iadd, 1, (0, 0, 0, 0, 0), [], []), (1203, .iaload, 1, (30, 0, 0, 0, 0), [], []), (1204, .invokevirtual 159, 3, (299, 2, 10, 10, 1232), [0, 1, 2, 3], [2])], 0, [])),
  (1207, ([(1207, .aload_n 2, 1, (0, 0, 0, 0, 0), [], []), (1208, .aload_n 0, 1, (0, 0, 0, 0, 0), [], []), (1209, .iload_n 3, 1, (0, 0, 0, 0, 0), [], []), (1210, .iconst 1, 1, (0, 0, 0, 0, 0), [], []), (1211, .iadd, 1, (0, 0, 0, 0, 0), [], []), (1212, .iaload, 1, (30, 0, 0, 0, 0), [], []), (1213, .invokevirtual 162, 3, (300, 2, 10, 11, 1836), [0, 1, 2, 3], [3])], 0, [])),
  (1216, ([(1216, .if_icmp .eq 28, 3, (1244, 0, 0, 0, 0), [0, 1, 2, 3], [])], 0, [])),
  (1219, ([(1219, .iconst 0, 1, (0, 0, 0, 0, 0), [], []), (1220, .ireturn, 1, (1, 0, 0, 0, 0), [], [])], 0, [])),
  (1221, ([(1221, .aload_n 1, 1, (0, 0, 0, 0, 0), [], []), (1222, .aload_n 0, 1, (0, 0, 0, 0, 0), [], []), (1223, .iload_n 3, 1, (0, 0, 0, 0, 0), [], []), (1224, .iconst 1, 1, (0, 0, 0, 0, 0), [], []), (1225, .iadd, 1, (0, 0, 0, 0, 0), [], []), (1226, .iaload, 1, (30, 0, 0, 0, 0), [], []), (1227, .invokevirtual 163, 3, (302, 2, 10, 10, 1236), [0, 1, 2, 3], [2])], 0, [])),
  (1230, ([(1230, .aload_n 2, 1, (0, 0, 0, 0, 0), [], []), (1231, .aload_n 0, 1, (0, 0, 0, 0, 0), [], []), (1232, .iload_n 3, 1, (0, 0, 0, 0, 0), [], []), (1233, .iconst 1, 1, (0, 0, 0, 0, 0), [], []), (1234, .iadd, 1, (0, 0, 0, 0, 0), [], []), (1235, .iaload, 1, (30, 0, 0, 0, 0), [], []), (1236, .invokevirtual 166, 3, (304, 2, 10, 11, 1840), [0, 1, 2, 3], [2])], 0, [])),
  (1239, ([(1239, .if_icmp .eq 5, 3, (1244, 0, 0, 0, 0), [0, 1, 2, 3], [])], 0, [])),
  (1242, ([(1242, .iconst 0, 1, (0, 0, 0, 0, 0), [], []), (1243, .ireturn, 1, (1, 0, 0, 0, 0), [], [])], 0, [])),
  (1244, ([(1244, .iinc 3 6, 3, (0, 0, 0, 0, 0), [], []), (1247, .goto (-1229), 3, (18, 0, 0, 0, 0), [0, 1, 2, 3], [])], 0, [])),
  (1250, ([(1250, .iconst 1, 1, (0, 0, 0, 0, 0), [], []), (1251, .ireturn, 1, (1, 0, 0, 0, 0), [], [])], 0, []))]
def codeOf (md : Nat) : List (Nat × AB) := (if md < 153 then (if md < 76 then (if md < 38 then (if md < 19 then (if md < 9 then (if md < 4 then (if md < 2 then (if md < 1 then cd_Tokens_init else cd_Law_init) else (if md < 3 then cd_Reader_init else cd_Arr_fill_aII)) else (if md < 6 then (if md < 5 then cd_Window_empty else cd_Window_init) else (if md < 7 then cd_Hanging_empty else (if md < 8 then cd_Hanging_init else cd_History_init)))) else (if md < 14 then (if md < 11 then (if md < 10 then cd_Tray_init else cd_Joinings_init) else (if md < 12 then cd_Mender_init else (if md < 13 then cd_Watcher_init else cd_Hook_init))) else (if md < 16 then (if md < 15 then cd_Mod_plain else cd_Mod_init) else (if md < 17 then cd_Hook_putOnTape else (if md < 18 then cd_Hook_feed else cd_Mod_feed))))) else (if md < 28 then (if md < 23 then (if md < 21 then (if md < 20 then cd_Law_strike else cd_Math_min_II) else (if md < 22 then cd_Math_max_II else cd_Tokens_kindOf)) else (if md < 25 then (if md < 24 then cd_Tokens_readNumber else cd_Tokens_findWord) else (if md < 26 then cd_Tokens_step else (if md < 27 then cd_Tokens_open else cd_Tokens_isSound)))) else (if md < 33 then (if md < 30 then (if md < 29 then cd_Reader_mayBegin else cd_Tokens_failAt) else (if md < 31 then cd_Tokens_refuse else (if md < 32 then cd_Tokens_passNumber else cd_Reader_readRow))) else (if md < 35 then (if md < 34 then cd_Tokens_pass else cd_Reader_readMark) else (if md < 36 then cd_Window_isHook else (if md < 37 then cd_Window_isRing else cd_Hanging_isJoined)))))) else (if md < 57 then (if md < 47 then (if md < 42 then (if md < 40 then (if md < 39 then cd_Window_isBroken else cd_Hanging_hookOn) else (if md < 41 then cd_Hanging_joinedAhead else cd_Hanging_joinedBehind)) else (if md < 44 then (if md < 43 then cd_Window_sagBetween else cd_Hanging_whyNotJoin) else (if md < 45 then cd_Reader_readJoin else (if md < 46 then cd_Law_mayEnter else cd_Law_emit)))) else (if md < 52 then (if md < 49 then (if md < 48 then cd_Law_readUnit else cd_Law_isName) else (if md < 50 then cd_Law_readAtom else (if md < 51 then cd_Law_isBetween else cd_Law_readPart))) else (if md < 54 then (if md < 53 then cd_Law_readTruth else cd_Reader_readSetting) else (if md < 55 then cd_Reader_readLine else (if md < 56 then cd_Law_push else cd_Law_valueOf))))) else (if md < 66 then (if md < 61 then (if md < 59 then (if md < 58 then cd_Law_pull else cd_Math_min_JJ) else (if md < 60 then cd_Math_max_JJ else cd_Law_kept)) else (if md < 63 then (if md < 62 then cd_Law_combine else cd_Law_holds) else (if md < 64 then cd_Law_settle else (if md < 65 then cd_Reader_readText else cd_Reader_foundFault)))) else (if md < 71 then (if md < 68 then (if md < 67 then cd_Reader_foundPlace else cd_Hanging_takeFrom) else (if md < 69 then cd_History_forget else (if md < 70 then cd_Joinings_forget else cd_Hook_window))) else (if md < 73 then (if md < 72 then cd_Mod_within else cd_Mod_see) else (if md < 74 then cd_Mod_isSmall else (if md < 75 then cd_Mod_keyAt else cd_Mod_isDigit))))))) else (if md < 114 then (if md < 95 then (if md < 85 then (if md < 80 then (if md < 78 then (if md < 77 then cd_Mod_next else cd_Mod_is) else (if md < 79 then cd_Mod_fails else cd_Mod_takes)) else (if md < 82 then (if md < 81 then cd_Mod_takesRow else cd_Mod_eats) else (if md < 83 then cd_Mod_goesIn else (if md < 84 then cd_Mod_codes else cd_Mod_readAtom)))) else (if md < 90 then (if md < 87 then (if md < 86 then cd_Mod_readTerm else cd_Mod_readSum) else (if md < 88 then cd_Mod_readUnit else (if md < 89 then cd_Mod_readBoth else cd_Mod_readTruth))) else (if md < 92 then (if md < 91 then cd_Mod_readLaw else cd_Mod_readChair) else (if md < 93 then cd_Mod_readSlip else (if md < 94 then cd_Mod_isHung else cd_Mod_readMark))))) else (if md < 104 then (if md < 99 then (if md < 97 then (if md < 96 then cd_Mod_hookAt else cd_Mod_isIn) else (if md < 98 then cd_Mod_sag else cd_Mod_whyNot)) else (if md < 101 then (if md < 100 then cd_Mod_readJoin else cd_Mod_readLine) else (if md < 102 then cd_Mod_window else (if md < 103 then cd_Hook_fault else cd_Mod_fault)))) else (if md < 109 then (if md < 106 then (if md < 105 then cd_Hanging_sagOf else cd_Window_isRight) else (if md < 107 then cd_Hanging_isRightlyJoined else (if md < 108 then cd_Hook_hook else cd_Mod_isHook))) else (if md < 111 then (if md < 110 then cd_Mod_nextJoined else cd_Mod_sagOf) else (if md < 112 then cd_Mod_wordOf else (if md < 113 then cd_Mod_between else cd_Mod_isRight)))))) else (if md < 133 then (if md < 123 then (if md < 118 then (if md < 116 then (if md < 115 then cd_Mod_isRightNow else cd_Mod_hook) else (if md < 117 then cd_Hook_ring else cd_Mod_isRing)) else (if md < 120 then (if md < 119 then cd_Mod_ring else cd_Hook_belongs) else (if md < 121 then cd_Mod_belongs else (if md < 122 then cd_Hanging_joinedIn else cd_Hanging_rightIn)))) else (if md < 128 then (if md < 125 then (if md < 124 then cd_Hanging_greatestSag else cd_Hanging_sagSum) else (if md < 126 then cd_Hook_sags else (if md < 127 then cd_Mod_joinedMany else cd_Mod_sags))) else (if md < 130 then (if md < 129 then cd_Hook_why else cd_Mod_why) else (if md < 131 then cd_History_push else (if md < 132 then cd_Window_chairFor else cd_Math_abs))))) else (if md < 143 then (if md < 138 then (if md < 135 then (if md < 134 then cd_Window_secondsAt else cd_Hanging_workAt) else (if md < 136 then cd_Hanging_attach else (if md < 137 then cd_Hook_join else cd_Mod_keeps))) else (if md < 140 then (if md < 139 then cd_Mod_standsFor else cd_Mod_works) else (if md < 141 then cd_Mod_goesTo else (if md < 142 then cd_Mod_joins else cd_Mod_notes)))) else (if md < 148 then (if md < 145 then (if md < 144 then cd_Mod_join else cd_Hanging_whyNotUnhook) else (if md < 146 then cd_Hanging_detach else (if md < 147 then cd_Hook_unhook else cd_Mod_whyNotOff))) else (if md < 150 then (if md < 149 then cd_Mod_unhooks else cd_Mod_unhook) else (if md < 151 then cd_Math_floorMod else (if md < 152 then cd_History_pop else cd_Hook_undo)))))))) else (if md < 229 then (if md < 191 then (if md < 172 then (if md < 162 then (if md < 157 then (if md < 155 then (if md < 154 then cd_Mod_undo else cd_Hook_isTray) else (if md < 156 then cd_Tray_isMissing else cd_Tray_at)) else (if md < 159 then (if md < 158 then cd_Hanging_isJoinDeed else cd_Hanging_isUnhookDeed) else (if md < 160 then cd_Hanging_whyNotDeed else (if md < 161 then cd_Hanging_doDeeds else cd_Hook_judge)))) else (if md < 167 then (if md < 164 then (if md < 163 then cd_Mod_noTray else cd_Mod_whyNotTold) else (if md < 165 then cd_Mod_tells else (if md < 166 then cd_Mod_isAgain else cd_Mod_judge))) else (if md < 169 then (if md < 168 then cd_Hook_trayCode else cd_Hook_perform) else (if md < 170 then cd_Mod_perform else (if md < 171 then cd_Hanging_nextDraw else cd_Hanging_spendDay))))) else (if md < 181 then (if md < 176 then (if md < 174 then (if md < 173 then cd_Hook_day else cd_Mod_draw) else (if md < 175 then cd_Mod_day else cd_Hanging_secondsToUnhook)) else (if md < 178 then (if md < 177 then cd_Hook_undoing else cd_Mod_undoing) else (if md < 179 then cd_Hook_rowOf else (if md < 180 then cd_Joinings_addMoved else cd_Joinings_countBehind)))) else (if md < 186 then (if md < 183 then (if md < 182 then cd_Joinings_countFor else cd_Hook_joinings) else (if md < 184 then cd_Mod_spot else (if md < 185 then cd_Mod_shows else cd_Mod_follows))) else (if md < 188 then (if md < 187 then cd_Mod_laysWays else cd_Mod_laysAll) else (if md < 189 then cd_Mod_waysOf else (if md < 190 then cd_Mod_joinings else cd_Hook_full)))))) else (if md < 210 then (if md < 200 then (if md < 195 then (if md < 193 then (if md < 192 then cd_Mod_fullOf else cd_Mod_full) else (if md < 194 then cd_Mender_canStand else cd_Window_canFollow)) else (if md < 197 then (if md < 196 then cd_Mender_canCome else cd_Mender_worthOf) else (if md < 198 then cd_Mender_bestBehind else (if md < 199 then cd_Mender_choose else cd_Mender_tell)))) else (if md < 205 then (if md < 202 then (if md < 201 then cd_Mender_mend else cd_Hook_mended) else (if md < 203 then cd_Mod_asksHook else (if md < 204 then cd_Mod_keptBy else cd_Mod_laysRight))) else (if md < 207 then (if md < 206 then cd_Mod_foundNone else cd_Mod_findsRight) else (if md < 208 then cd_Mod_mended else (if md < 209 then cd_Joinings_measureBehind else cd_Joinings_leastOfFull))))) else (if md < 219 then (if md < 214 then (if md < 212 then (if md < 211 then cd_Joinings_chooseEven else cd_Joinings_evenFor) else (if md < 213 then cd_Hook_evenest else cd_Mod_worse)) else (if md < 216 then (if md < 215 then cd_Mod_leastBy else cd_Mod_laysLeast) else (if md < 217 then cd_Mod_laysEvenest else (if md < 218 then cd_Mod_findsEvenest else cd_Mod_evenest)))) else (if md < 224 then (if md < 221 then (if md < 220 then cd_Hook_spread else cd_Mod_spread) else (if md < 222 then cd_Joinings_ringInFull else (if md < 223 then cd_Hook_fullAt else cd_Mod_fullAt))) else (if md < 226 then (if md < 225 then cd_Tray_isWithin else cd_Reckoner_costAt) else (if md < 227 then cd_Reckoner_worstWith else (if md < 228 then cd_Reckoner_worstOfLooks else cd_Reckoner_firstLook))))))) else (if md < 267 then (if md < 248 then (if md < 238 then (if md < 233 then (if md < 231 then (if md < 230 then cd_Hook_looks else cd_Mod_lookAt) else (if md < 232 then cd_Mod_laysLooks else cd_Mod_looks)) else (if md < 235 then (if md < 234 then cd_Tray_hasTwins else cd_Reckoner_secondsBy) else (if md < 236 then cd_Reckoner_fillRounds else (if md < 237 then cd_Reckoner_secondsOfRound else cd_Reckoner_orderRound)))) else (if md < 243 then (if md < 240 then (if md < 239 then cd_Hook_rounds else cd_Mod_goesRound) else (if md < 241 then cd_Mod_rounds else (if md < 242 then cd_Hanging_joinedWithRemainder else cd_Hook_pleats))) else (if md < 245 then (if md < 244 then cd_Mod_pleats else cd_Reckoner_power) else (if md < 246 then cd_Reckoner_upperOfGroup else (if md < 247 then cd_Reckoner_averageUpper else cd_Reckoner_averageLower))))) else (if md < 257 then (if md < 252 then (if md < 250 then (if md < 249 then cd_Reckoner_commonDivisor else cd_Hook_average) else (if md < 251 then cd_Mod_power else cd_Mod_hungAtOnce)) else (if md < 254 then (if md < 253 then cd_Mod_averageBy else cd_Mod_common) else (if md < 255 then cd_Mod_average else (if md < 256 then cd_Hook_bestLook else cd_Mod_bestLook)))) else (if md < 262 then (if md < 259 then (if md < 258 then cd_Window_rightOneOut else cd_Hook_oneOut) else (if md < 260 then cd_Mod_rightOut else (if md < 261 then cd_Mod_oneOut else cd_Hook_out))) else (if md < 264 then (if md < 263 then cd_Mod_out else cd_Window_gaps) else (if md < 265 then cd_Tray_least else (if md < 266 then cd_Hook_sightCode else cd_Watcher_seenAt)))))) else (if md < 286 then (if md < 276 then (if md < 271 then (if md < 269 then (if md < 268 then cd_Watcher_narrowed else cd_Watcher_survey) else (if md < 270 then cd_Watcher_has else cd_Watcher_fits)) else (if md < 273 then (if md < 272 then cd_Watcher_addMoved else cd_Watcher_countBehind) else (if md < 274 then cd_Watcher_countFits else (if md < 275 then cd_Hook_seen else cd_Mod_noSeen)))) else (if md < 281 then (if md < 278 then (if md < 277 then cd_Mod_seen else cd_Watcher_countAheadOf) else (if md < 279 then cd_Watcher_countAhead else (if md < 280 then cd_Watcher_countThrough else cd_Watcher_ringInAll))) else (if md < 283 then (if md < 282 then cd_Hook_sure else cd_Mod_sure) else (if md < 284 then cd_Arr_fill_aJJ else (if md < 285 then cd_Tray_make else cd_Hook_numbers))))) else (if md < 296 then (if md < 291 then (if md < 288 then (if md < 287 then cd_Mod_numbers else cd_Tray_cut) else (if md < 289 then cd_Tray_put else (if md < 290 then cd_Hook_write else cd_Mod_cut))) else (if md < 293 then (if md < 292 then cd_Mod_write else cd_Hanging_seenAt) else (if md < 294 then cd_Hook_copy else (if md < 295 then cd_Mod_sagOver else cd_Mod_copy)))) else (if md < 301 then (if md < 298 then (if md < 297 then cd_Window_takeFrom else cd_Hook_image) else (if md < 299 then cd_Mod_image else (if md < 300 then cd_Hook_restore else cd_Mod_restore))) else (if md < 303 then (if md < 302 then cd_Intg_bitCount else cd_Hook_count) else (if md < 304 then cd_Mod_brokenMany else (if md < 305 then cd_Mod_count else cd_Lw_law)))))))))
def blk (md pc : Nat) : Option AB := (codeOf md).lookup pc
