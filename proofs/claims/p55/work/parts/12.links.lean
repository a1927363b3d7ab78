theorem lk_L_107 : LkV RL 107 mX9_erase 9 3 := ⟨ml_L_107, mfX9_erase, rfl, by decide, rfl, by decide⟩
theorem lk_L_111 : LkV RL 111 mX11_erase 11 4 := ⟨ml_L_111, mfX11_erase, rfl, by decide, rfl, by decide⟩
theorem lk_L_114 : LkS RL 114 mL_judges 3 := ⟨ml_L_114, mfL_judges, rfl, by decide⟩
theorem lk_L_118 : LkV RL 118 mX9_setTracking 9 1 := ⟨ml_L_118, mfX9_setTracking, rfl, by decide, rfl, by decide⟩
theorem lk_L_122 : LkX RL 122 mL_redoes 2 := ⟨ml_L_122, mfL_redoes, by decide, by decide⟩
theorem lk_L_126 : LkX RL 126 mL_undoes 2 := ⟨ml_L_126, mfL_undoes, by decide, by decide⟩
theorem lk_L_129 : LkV RL 129 mX9_length 9 0 := ⟨ml_L_129, mfX9_length, rfl, by decide, rfl, by decide⟩
theorem lk_L_145 : LkV RL 145 mX9_unitAt 9 1 := ⟨ml_L_145, mfX9_unitAt, rfl, by decide, rfl, by decide⟩
theorem lk_L_152 : LkV RL 152 mX9_paragraphOf 9 1 := ⟨ml_L_152, mfX9_paragraphOf, rfl, by decide, rfl, by decide⟩
theorem lk_L_155 : LkX RL 155 mL_changeAt 2 := ⟨ml_L_155, mfL_changeAt, by decide, by decide⟩
theorem lk_L_159 : LkV RL 159 mX9_oldAt 9 1 := ⟨ml_L_159, mfX9_oldAt, rfl, by decide, rfl, by decide⟩
theorem lk_L_162 : LkV RL 162 mX9_authorOf 9 1 := ⟨ml_L_162, mfX9_authorOf, rfl, by decide, rfl, by decide⟩
theorem lk_L_165 : LkV RL 165 mX9_unitsOf 9 1 := ⟨ml_L_165, mfX9_unitsOf, rfl, by decide, rfl, by decide⟩
theorem lk_L_168 : LkV RL 168 mX11_units 11 1 := ⟨ml_L_168, mfX11_units, rfl, by decide, rfl, by decide⟩
theorem lk_L_171 : LkV RL 171 mX9_oldLength 9 0 := ⟨ml_L_171, mfX9_oldLength, rfl, by decide, rfl, by decide⟩
theorem lk_L_174 : LkV RL 174 mX9_paragraphs 9 0 := ⟨ml_L_174, mfX9_paragraphs, rfl, by decide, rfl, by decide⟩
theorem lk_L_177 : LkV RL 177 mX9_pages 9 0 := ⟨ml_L_177, mfX9_pages, rfl, by decide, rfl, by decide⟩
theorem lk_L_180 : LkV RL 180 mX9_waitingShare 9 0 := ⟨ml_L_180, mfX9_waitingShare, rfl, by decide, rfl, by decide⟩
theorem lk_L_184 : LkV RL 184 mX9_changeAt 9 1 := ⟨ml_L_184, mfX9_changeAt, rfl, by decide, rfl, by decide⟩
theorem lk_L_186 : LkV RL 186 mX9_isSound 9 0 := ⟨ml_L_186, mfX9_isSound, rfl, by decide, rfl, by decide⟩
theorem lk_L_190 : LkI RL 190 mX9_init 0 := ⟨ml_L_190, mfX9_init, rfl, by decide, rfl⟩
theorem lk_L_191 : LkJ RL 191 mX10_init 0 := ⟨ml_L_191, mfX10_init, rfl, by decide, rfl⟩
theorem lk_L_192 : LkS RL 192 mL_cell 2 := ⟨ml_L_192, mfL_cell, rfl, by decide⟩
theorem lk_L_196 : LkS RL 196 mL_acts 3 := ⟨ml_L_196, mfL_acts, rfl, by decide⟩
theorem lk_L_199 : LkS RL 199 mL_agrees 2 := ⟨ml_L_199, mfL_agrees, rfl, by decide⟩
theorem lk_L_202 : LkS RL 202 mL_isLeft 3 := ⟨ml_L_202, mfL_isLeft, rfl, by decide⟩
theorem lk_L_37 : LkV RL 37 mX9_redo 9 0 := ⟨ml_L_37, mfX9_redo, rfl, by decide, rfl, by decide⟩
theorem lk_L_40 : LkS RL 40 mL_low 2 := ⟨ml_L_40, mfL_low, rfl, by decide⟩
theorem lk_L_46 : LkV RL 46 mX10_edit 10 0 := ⟨ml_L_46, mfX10_edit, rfl, by decide, rfl, by decide⟩
theorem lk_L_62 : LkV RL 62 mX11_judge 11 2 := ⟨ml_L_62, mfX11_judge, rfl, by decide, rfl, by decide⟩
theorem lk_L_66 : LkV RL 66 mX9_judge 9 2 := ⟨ml_L_66, mfX9_judge, rfl, by decide, rfl, by decide⟩
theorem lk_L_67 : LkV RL 67 mX9_changes 9 0 := ⟨ml_L_67, mfX9_changes, rfl, by decide, rfl, by decide⟩
theorem lk_L_69 : LkV RL 69 mX9_stateOf 9 1 := ⟨ml_L_69, mfX9_stateOf, rfl, by decide, rfl, by decide⟩
theorem lk_L_73 : LkV RL 73 mX9_accept 9 1 := ⟨ml_L_73, mfX9_accept, rfl, by decide, rfl, by decide⟩
theorem lk_L_77 : LkV RL 77 mX9_refuse 9 1 := ⟨ml_L_77, mfX9_refuse, rfl, by decide, rfl, by decide⟩
theorem lk_L_80 : LkV RL 80 mX11_length 11 0 := ⟨ml_L_80, mfX11_length, rfl, by decide, rfl, by decide⟩
theorem lk_L_9 : LkV RL 9 mX9_undo 9 0 := ⟨ml_L_9, mfX9_undo, rfl, by decide, rfl, by decide⟩
theorem lk_L_90 : LkV RL 90 mX9_insert 9 3 := ⟨ml_L_90, mfX9_insert, rfl, by decide, rfl, by decide⟩
theorem lk_L_98 : LkV RL 98 mX11_write 11 4 := ⟨ml_L_98, mfX11_write, rfl, by decide, rfl, by decide⟩
theorem lk_X10_31 : LkV RX10 31 mX11_copy 11 0 := ⟨ml_X10_31, mfX11_copy, rfl, by decide, rfl, by decide⟩
theorem lk_X10_9 : LkJ RX10 9 mX11_init 0 := ⟨ml_X10_9, mfX11_init, rfl, by decide, rfl⟩
theorem lk_X11_23 : LkI RX11 23 mX11_init 0 := ⟨ml_X11_23, mfX11_init, rfl, by decide, rfl⟩
theorem lk_X11_28 : LkV RX11 28 mX12_copy 12 0 := ⟨ml_X11_28, mfX12_copy, rfl, by decide, rfl, by decide⟩
theorem lk_X11_38 : LkV RX11 38 mX11_at 11 1 := ⟨ml_X11_38, mfX11_at, rfl, by decide, rfl, by decide⟩
theorem lk_X11_45 : LkV RX11 45 mX11_change 11 1 := ⟨ml_X11_45, mfX11_change, rfl, by decide, rfl, by decide⟩
theorem lk_X11_48 : LkI RX11 48 mX12_init 2 := ⟨ml_X11_48, mfX12_init, rfl, by decide, rfl⟩
theorem lk_X11_51 : LkV RX11 51 mX11_drop 11 1 := ⟨ml_X11_51, mfX11_drop, rfl, by decide, rfl, by decide⟩
theorem lk_X11_55 : LkV RX11 55 mX11_units 11 1 := ⟨ml_X11_55, mfX11_units, rfl, by decide, rfl, by decide⟩
theorem lk_X12_20 : LkI RX12 20 mX12_init 2 := ⟨ml_X12_20, mfX12_init, rfl, by decide, rfl⟩
theorem lk_X1_103 : LkV RX1 103 mX1_closeParagraph 1 1 := ⟨ml_X1_103, mfX1_closeParagraph, rfl, by decide, rfl, by decide⟩
theorem lk_X1_107 : LkV RX1 107 mX1_addSigns 1 3 := ⟨ml_X1_107, mfX1_addSigns, rfl, by decide, rfl, by decide⟩
theorem lk_X1_111 : LkN RX1 111 mX9_isWithin 2 := ⟨ml_X1_111, mfX9_isWithin, rfl, by decide⟩
theorem lk_X1_115 : LkV RX1 115 mX1_addSign 1 1 := ⟨ml_X1_115, mfX1_addSign, rfl, by decide, rfl, by decide⟩
theorem lk_X1_118 : LkV RX1 118 mX1_breakParagraph 1 2 := ⟨ml_X1_118, mfX1_breakParagraph, rfl, by decide, rfl, by decide⟩
theorem lk_X1_122 : LkV RX1 122 mX1_endOfLine 1 2 := ⟨ml_X1_122, mfX1_endOfLine, rfl, by decide, rfl, by decide⟩
theorem lk_X1_125 : LkV RX1 125 mX1_keepsAt 1 1 := ⟨ml_X1_125, mfX1_keepsAt, rfl, by decide, rfl, by decide⟩
theorem lk_X1_128 : LkV RX1 128 mX1_linesTogether 1 1 := ⟨ml_X1_128, mfX1_linesTogether, rfl, by decide, rfl, by decide⟩
theorem lk_X1_131 : LkV RX1 131 mX1_turnPageFor 1 1 := ⟨ml_X1_131, mfX1_turnPageFor, rfl, by decide, rfl, by decide⟩
theorem lk_X1_135 : LkV RX1 135 mX1_placeLine 1 1 := ⟨ml_X1_135, mfX1_placeLine, rfl, by decide, rfl, by decide⟩
theorem lk_X1_62 : LkV RX1 62 mX1_readSigns 1 3 := ⟨ml_X1_62, mfX1_readSigns, rfl, by decide, rfl, by decide⟩
theorem lk_X1_66 : LkV RX1 66 mX1_breakLines 1 0 := ⟨ml_X1_66, mfX1_breakLines, rfl, by decide, rfl, by decide⟩
theorem lk_X1_69 : LkV RX1 69 mX1_fillPages 1 0 := ⟨ml_X1_69, mfX1_fillPages, rfl, by decide, rfl, by decide⟩
theorem lk_X1_72 : LkV RX1 72 mX1_lineNumber 1 1 := ⟨ml_X1_72, mfX1_lineNumber, rfl, by decide, rfl, by decide⟩
theorem lk_X1_76 : LkN RX1 76 mX9_cell 2 := ⟨ml_X1_76, mfX9_cell, rfl, by decide⟩
theorem lk_X1_80 : LkN RX1 80 mX9_setCell 3 := ⟨ml_X1_80, mfX9_setCell, rfl, by decide⟩
theorem lk_X1_84 : LkV RX1 84 mX7_allUnits 7 0 := ⟨ml_X1_84, mfX7_allUnits, rfl, by decide, rfl, by decide⟩
theorem lk_X1_90 : LkV RX1 90 mX7_isSeen 7 1 := ⟨ml_X1_90, mfX7_isSeen, rfl, by decide, rfl, by decide⟩
theorem lk_X1_94 : LkV RX1 94 mX7_fact 7 2 := ⟨ml_X1_94, mfX7_fact, rfl, by decide, rfl, by decide⟩
theorem lk_X1_98 : LkV RX1 98 mX8_keepsWithNext 8 1 := ⟨ml_X1_98, mfX8_keepsWithNext, rfl, by decide, rfl, by decide⟩
theorem lk_X2_31 : LkV RX2 31 mX2_isFull 2 0 := ⟨ml_X2_31, mfX2_isFull, rfl, by decide, rfl, by decide⟩
theorem lk_X2_35 : LkN RX2 35 mX9_setCell 3 := ⟨ml_X2_35, mfX9_setCell, rfl, by decide⟩
theorem lk_X2_39 : LkN RX2 39 mX9_cell 2 := ⟨ml_X2_39, mfX9_cell, rfl, by decide⟩
theorem lk_X2_43 : LkN RX2 43 mX9_isWithin 2 := ⟨ml_X2_43, mfX9_isWithin, rfl, by decide⟩
theorem lk_X2_47 : LkV RX2 47 mX2_state 2 1 := ⟨ml_X2_47, mfX2_state, rfl, by decide, rfl, by decide⟩
theorem lk_X2_51 : LkV RX2 51 mX2_author 2 1 := ⟨ml_X2_51, mfX2_author, rfl, by decide, rfl, by decide⟩
theorem lk_X4_102 : LkV RX4 102 mX7_releaseAll 7 2 := ⟨ml_X4_102, mfX7_releaseAll, rfl, by decide, rfl, by decide⟩
theorem lk_X4_106 : LkV RX4 106 mX7_dropAll 7 2 := ⟨ml_X4_106, mfX7_dropAll, rfl, by decide, rfl, by decide⟩
theorem lk_X4_109 : LkV RX4 109 mX2_many 2 0 := ⟨ml_X4_109, mfX2_many, rfl, by decide, rfl, by decide⟩
theorem lk_X4_11 : LkI RX4 11 mX7_init 0 := ⟨ml_X4_11, mfX7_init, rfl, by decide, rfl⟩
theorem lk_X4_113 : LkV RX4 113 mX2_state 2 1 := ⟨ml_X4_113, mfX2_state, rfl, by decide, rfl, by decide⟩
theorem lk_X4_116 : LkV RX4 116 mX2_author 2 1 := ⟨ml_X4_116, mfX2_author, rfl, by decide, rfl, by decide⟩
theorem lk_X4_20 : LkJ RX4 20 mX2_init 0 := ⟨ml_X4_20, mfX2_init, rfl, by decide, rfl⟩
theorem lk_X4_29 : LkV RX4 29 mX7_takeRow 7 1 := ⟨ml_X4_29, mfX7_takeRow, rfl, by decide, rfl, by decide⟩
theorem lk_X4_33 : LkV RX4 33 mX2_takeLog 2 1 := ⟨ml_X4_33, mfX2_takeLog, rfl, by decide, rfl, by decide⟩
theorem lk_X4_47 : LkV RX4 47 mX7_fact 7 2 := ⟨ml_X4_47, mfX7_fact, rfl, by decide, rfl, by decide⟩
theorem lk_X4_51 : LkV RX4 51 mX2_isWaitingOf 2 2 := ⟨ml_X4_51, mfX2_isWaitingOf, rfl, by decide, rfl, by decide⟩
theorem lk_X4_55 : LkV RX4 55 mX7_isSeen 7 1 := ⟨ml_X4_55, mfX7_isSeen, rfl, by decide, rfl, by decide⟩
theorem lk_X4_59 : LkV RX4 59 mX4_isOwn 4 2 := ⟨ml_X4_59, mfX4_isOwn, rfl, by decide, rfl, by decide⟩
theorem lk_X4_62 : LkV RX4 62 mX4_hasOthers 4 3 := ⟨ml_X4_62, mfX4_hasOthers, rfl, by decide, rfl, by decide⟩
theorem lk_X4_66 : LkV RX4 66 mX2_enroll 2 2 := ⟨ml_X4_66, mfX2_enroll, rfl, by decide, rfl, by decide⟩
theorem lk_X4_70 : LkV RX4 70 mX7_drop 7 1 := ⟨ml_X4_70, mfX7_drop, rfl, by decide, rfl, by decide⟩
theorem lk_X4_74 : LkV RX4 74 mX7_setFact 7 3 := ⟨ml_X4_74, mfX7_setFact, rfl, by decide, rfl, by decide⟩
theorem lk_X4_78 : LkV RX4 78 mX4_settle 4 2 := ⟨ml_X4_78, mfX4_settle, rfl, by decide, rfl, by decide⟩
theorem lk_X4_82 : LkV RX4 82 mX7_concerned 7 1 := ⟨ml_X4_82, mfX7_concerned, rfl, by decide, rfl, by decide⟩
theorem lk_X4_86 : LkV RX4 86 mX2_kind 2 1 := ⟨ml_X4_86, mfX2_kind, rfl, by decide, rfl, by decide⟩
theorem lk_X4_90 : LkV RX4 90 mX4_settleUnits 4 3 := ⟨ml_X4_90, mfX4_settleUnits, rfl, by decide, rfl, by decide⟩
theorem lk_X4_94 : LkV RX4 94 mX7_settleStyle 7 2 := ⟨ml_X4_94, mfX7_settleStyle, rfl, by decide, rfl, by decide⟩
theorem lk_X4_98 : LkV RX4 98 mX2_setState 2 2 := ⟨ml_X4_98, mfX2_setState, rfl, by decide, rfl, by decide⟩
theorem lk_X5_24 : LkJ RX5 24 mX4_init 0 := ⟨ml_X5_24, mfX4_init, rfl, by decide, rfl⟩
theorem lk_X5_25 : LkN RX5 25 mX9_isWithin 2 := ⟨ml_X5_25, mfX9_isWithin, rfl, by decide⟩
theorem lk_X5_29 : LkV RX5 29 mX5_now 5 0 := ⟨ml_X5_29, mfX5_now, rfl, by decide, rfl, by decide⟩
theorem lk_X5_33 : LkV RX5 33 mX5_forgetFirst 5 0 := ⟨ml_X5_33, mfX5_forgetFirst, rfl, by decide, rfl, by decide⟩
theorem lk_X5_36 : LkV RX5 36 mX4_takeFrom 4 1 := ⟨ml_X5_36, mfX4_takeFrom, rfl, by decide, rfl, by decide⟩
theorem lk_X7_31 : LkV RX7 31 mX7_fact 7 2 := ⟨ml_X7_31, mfX7_fact, rfl, by decide, rfl, by decide⟩
theorem lk_X7_35 : LkV RX7 35 mX7_isSeen 7 1 := ⟨ml_X7_35, mfX7_isSeen, rfl, by decide, rfl, by decide⟩
theorem lk_X7_39 : LkV RX7 39 mX7_isOld 7 1 := ⟨ml_X7_39, mfX7_isOld, rfl, by decide, rfl, by decide⟩
theorem lk_X7_42 : LkV RX7 42 mX7_isSeenEnd 7 1 := ⟨ml_X7_42, mfX7_isSeenEnd, rfl, by decide, rfl, by decide⟩
theorem lk_X7_49 : LkV RX7 49 mX7_placeOf 7 1 := ⟨ml_X7_49, mfX7_placeOf, rfl, by decide, rfl, by decide⟩
theorem lk_X7_52 : LkV RX7 52 mX7_endsAhead 7 1 := ⟨ml_X7_52, mfX7_endsAhead, rfl, by decide, rfl, by decide⟩
theorem lk_X7_55 : LkV RX7 55 mX7_endFrom 7 1 := ⟨ml_X7_55, mfX7_endFrom, rfl, by decide, rfl, by decide⟩
theorem lk_X7_58 : LkV RX7 58 mX7_makeRoom 7 1 := ⟨ml_X7_58, mfX7_makeRoom, rfl, by decide, rfl, by decide⟩
theorem lk_X7_62 : LkV RX7 62 mX7_setFact 7 3 := ⟨ml_X7_62, mfX7_setFact, rfl, by decide, rfl, by decide⟩
theorem lk_X7_66 : LkV RX7 66 mX7_drop 7 1 := ⟨ml_X7_66, mfX7_drop, rfl, by decide, rfl, by decide⟩
theorem lk_X7_73 : LkN RX7 73 mX9_cell 2 := ⟨ml_X7_73, mfX9_cell, rfl, by decide⟩
theorem lk_X7_77 : LkV RX7 77 mX7_bookmarkBegin 7 1 := ⟨ml_X7_77, mfX7_bookmarkBegin, rfl, by decide, rfl, by decide⟩
theorem lk_X7_80 : LkV RX7 80 mX7_hasBookmark 7 1 := ⟨ml_X7_80, mfX7_hasBookmark, rfl, by decide, rfl, by decide⟩
theorem lk_X7_83 : LkV RX7 83 mX7_bookmarkEnd 7 1 := ⟨ml_X7_83, mfX7_bookmarkEnd, rfl, by decide, rfl, by decide⟩
theorem lk_X8_33 : LkN RX8 33 mX9_cell 2 := ⟨ml_X8_33, mfX9_cell, rfl, by decide⟩
theorem lk_X9_114 : LkV RX9 114 mX5_now 5 0 := ⟨ml_X9_114, mfX5_now, rfl, by decide, rfl, by decide⟩
theorem lk_X9_122 : LkV RX9 122 mX2_isFull 2 0 := ⟨ml_X9_122, mfX2_isFull, rfl, by decide, rfl, by decide⟩
theorem lk_X9_125 : LkV RX9 125 mX4_hasOthers 4 3 := ⟨ml_X9_125, mfX4_hasOthers, rfl, by decide, rfl, by decide⟩
theorem lk_X9_135 : LkV RX9 135 mX7_isGuarded 7 2 := ⟨ml_X9_135, mfX7_isGuarded, rfl, by decide, rfl, by decide⟩
theorem lk_X9_146 : LkV RX9 146 mX5_begin 5 0 := ⟨ml_X9_146, mfX5_begin, rfl, by decide, rfl, by decide⟩
theorem lk_X9_149 : LkV RX9 149 mX4_strike 4 3 := ⟨ml_X9_149, mfX4_strike, rfl, by decide, rfl, by decide⟩
theorem lk_X9_15 : LkI RX9 15 mX5_init 0 := ⟨ml_X9_15, mfX5_init, rfl, by decide, rfl⟩
theorem lk_X9_153 : LkV RX9 153 mX7_dropSeen 7 2 := ⟨ml_X9_153, mfX7_dropSeen, rfl, by decide, rfl, by decide⟩
theorem lk_X9_168 : LkV RX9 168 mX7_fact 7 2 := ⟨ml_X9_168, mfX7_fact, rfl, by decide, rfl, by decide⟩
theorem lk_X9_172 : LkV RX9 172 mX9_checkUnguarded 9 1 := ⟨ml_X9_172, mfX9_checkUnguarded, rfl, by decide, rfl, by decide⟩
theorem lk_X9_185 : LkV RX9 185 mX5_canGoBack 5 0 := ⟨ml_X9_185, mfX5_canGoBack, rfl, by decide, rfl, by decide⟩
theorem lk_X9_193 : LkV RX9 193 mX5_goBack 5 0 := ⟨ml_X9_193, mfX5_goBack, rfl, by decide, rfl, by decide⟩
theorem lk_X9_197 : LkV RX9 197 mX5_canGoOn 5 0 := ⟨ml_X9_197, mfX5_canGoOn, rfl, by decide, rfl, by decide⟩
theorem lk_X9_202 : LkV RX9 202 mX5_goOn 5 0 := ⟨ml_X9_202, mfX5_goOn, rfl, by decide, rfl, by decide⟩
theorem lk_X9_205 : LkV RX9 205 mX7_seenUnits 7 0 := ⟨ml_X9_205, mfX7_seenUnits, rfl, by decide, rfl, by decide⟩
theorem lk_X9_208 : LkV RX9 208 mX9_indexOfUnit 9 1 := ⟨ml_X9_208, mfX9_indexOfUnit, rfl, by decide, rfl, by decide⟩
theorem lk_X9_211 : LkV RX9 211 mX7_oldUnits 7 0 := ⟨ml_X9_211, mfX7_oldUnits, rfl, by decide, rfl, by decide⟩
theorem lk_X9_214 : LkV RX9 214 mX7_indexOfOld 7 1 := ⟨ml_X9_214, mfX7_indexOfOld, rfl, by decide, rfl, by decide⟩
theorem lk_X9_219 : LkV RX9 219 mX7_seenParagraphs 7 0 := ⟨ml_X9_219, mfX7_seenParagraphs, rfl, by decide, rfl, by decide⟩
theorem lk_X9_22 : LkJ RX9 22 mX4_init 0 := ⟨ml_X9_22, mfX4_init, rfl, by decide, rfl⟩
theorem lk_X9_222 : LkV RX9 222 mX7_endsAhead 7 1 := ⟨ml_X9_222, mfX7_endsAhead, rfl, by decide, rfl, by decide⟩
theorem lk_X9_228 : LkV RX9 228 mX2_many 2 0 := ⟨ml_X9_228, mfX2_many, rfl, by decide, rfl, by decide⟩
theorem lk_X9_231 : LkV RX9 231 mX9_checkChange 9 1 := ⟨ml_X9_231, mfX9_checkChange, rfl, by decide, rfl, by decide⟩
theorem lk_X9_238 : LkV RX9 238 mX2_author 2 1 := ⟨ml_X9_238, mfX2_author, rfl, by decide, rfl, by decide⟩
theorem lk_X9_241 : LkV RX9 241 mX2_state 2 1 := ⟨ml_X9_241, mfX2_state, rfl, by decide, rfl, by decide⟩
theorem lk_X9_244 : LkV RX9 244 mX7_concerned 7 1 := ⟨ml_X9_244, mfX7_concerned, rfl, by decide, rfl, by decide⟩
theorem lk_X9_249 : LkV RX9 249 mX9_checkWaiting 9 1 := ⟨ml_X9_249, mfX9_checkWaiting, rfl, by decide, rfl, by decide⟩
theorem lk_X9_252 : LkV RX9 252 mX4_settle 4 2 := ⟨ml_X9_252, mfX4_settle, rfl, by decide, rfl, by decide⟩
theorem lk_X9_256 : LkV RX9 256 mX4_settleAll 4 2 := ⟨ml_X9_256, mfX4_settleAll, rfl, by decide, rfl, by decide⟩
theorem lk_X9_270 : LkS RX9 270 mX9_isWithin 2 := ⟨ml_X9_270, mfX9_isWithin, rfl, by decide⟩
theorem lk_X9_29 : LkI RX9 29 mX8_init 0 := ⟨ml_X9_29, mfX8_init, rfl, by decide, rfl⟩
theorem lk_X9_36 : LkI RX9 36 mX3_init 0 := ⟨ml_X9_36, mfX3_init, rfl, by decide, rfl⟩
theorem lk_X9_366 : LkV RX9 366 mX9_arrange 9 0 := ⟨ml_X9_366, mfX9_arrange, rfl, by decide, rfl, by decide⟩
theorem lk_X9_369 : LkV RX9 369 mX1_manyPages 1 0 := ⟨ml_X9_369, mfX1_manyPages, rfl, by decide, rfl, by decide⟩
theorem lk_X9_372 : LkV RX9 372 mX1_pageAt 1 1 := ⟨ml_X9_372, mfX1_pageAt, rfl, by decide, rfl, by decide⟩
theorem lk_X9_378 : LkV RX9 378 mX7_allUnits 7 0 := ⟨ml_X9_378, mfX7_allUnits, rfl, by decide, rfl, by decide⟩
theorem lk_X9_386 : LkV RX9 386 mX7_waitingUnits 7 0 := ⟨ml_X9_386, mfX7_waitingUnits, rfl, by decide, rfl, by decide⟩
theorem lk_X9_405 : LkV RX9 405 mX9_isJudgedSoundly 9 2 := ⟨ml_X9_405, mfX9_isJudgedSoundly, rfl, by decide, rfl, by decide⟩
theorem lk_X9_409 : LkV RX9 409 mX2_isAuthored 2 0 := ⟨ml_X9_409, mfX2_isAuthored, rfl, by decide, rfl, by decide⟩
theorem lk_X9_412 : LkV RX9 412 mX7_areBookmarksOrdered 7 0 := ⟨ml_X9_412, mfX7_areBookmarksOrdered, rfl, by decide, rfl, by decide⟩
theorem lk_X9_415 : LkV RX9 415 mX9_isEachPlaceOnPage 9 0 := ⟨ml_X9_415, mfX9_isEachPlaceOnPage, rfl, by decide, rfl, by decide⟩
theorem lk_X9_43 : LkJ RX9 43 mX0_init 0 := ⟨ml_X9_43, mfX0_init, rfl, by decide, rfl⟩
theorem lk_X9_438 : LkV RX9 438 mX4_changeAhead 4 2 := ⟨ml_X9_438, mfX4_changeAhead, rfl, by decide, rfl, by decide⟩
theorem lk_X9_441 : LkV RX9 441 mX7_endFrom 7 1 := ⟨ml_X9_441, mfX7_endFrom, rfl, by decide, rfl, by decide⟩
theorem lk_X9_444 : LkV RX9 444 mX7_indexOf 7 1 := ⟨ml_X9_444, mfX7_indexOf, rfl, by decide, rfl, by decide⟩
theorem lk_X9_454 : LkV RX9 454 mX2_enroll 2 2 := ⟨ml_X9_454, mfX2_enroll, rfl, by decide, rfl, by decide⟩
theorem lk_X9_455 : LkV RX9 455 mX7_putUnit 7 4 := ⟨ml_X9_455, mfX7_putUnit, rfl, by decide, rfl, by decide⟩
theorem lk_X9_459 : LkV RX9 459 mX1_layOut 1 3 := ⟨ml_X9_459, mfX1_layOut, rfl, by decide, rfl, by decide⟩
theorem lk_X9_488 : LkV RX9 488 mX4_takeFrom 4 1 := ⟨ml_X9_488, mfX4_takeFrom, rfl, by decide, rfl, by decide⟩
theorem lk_X9_492 : LkV RX9 492 mX7_isTextOf 7 2 := ⟨ml_X9_492, mfX7_isTextOf, rfl, by decide, rfl, by decide⟩
theorem lk_X9_50 : LkJ RX9 50 mX6_init 0 := ⟨ml_X9_50, mfX6_init, rfl, by decide, rfl⟩
theorem lk_X9_57 : LkJ RX9 57 mX1_init 0 := ⟨ml_X9_57, mfX1_init, rfl, by decide, rfl⟩
theorem lk_X9_66 : LkS RX9 66 mX9_checkAuthor 1 := ⟨ml_X9_66, mfX9_checkAuthor, rfl, by decide⟩
theorem lk_X9_70 : LkV RX9 70 mX9_indexOfPlace 9 1 := ⟨ml_X9_70, mfX9_indexOfPlace, rfl, by decide, rfl, by decide⟩
theorem lk_X9_74 : LkS RX9 74 mX9_isLetter 1 := ⟨ml_X9_74, mfX9_isLetter, rfl, by decide⟩
theorem lk_X9_85 : LkV RX9 85 mX9_checkWriting 9 2 := ⟨ml_X9_85, mfX9_checkWriting, rfl, by decide, rfl, by decide⟩
theorem lk_X9_89 : LkV RX9 89 mX9_write 9 4 := ⟨ml_X9_89, mfX9_write, rfl, by decide, rfl, by decide⟩
theorem fp_L_130 : FLP RL 130 11 0 := fl_L_130
theorem fp_L_133 : FLP RL 133 11 1 := fl_L_133
theorem fp_L_137 : FLP RL 137 12 1 := fl_L_137
theorem fp_L_142 : FLP RL 142 12 2 := fl_L_142
theorem fp_L_148 : FLP RL 148 12 0 := fl_L_148
theorem fp_L_15 : FLP RL 15 10 3 := fl_L_15
theorem fp_L_21 : FLP RL 21 10 4 := fl_L_21
theorem fp_L_25 : FLP RL 25 10 0 := fl_L_25
theorem fp_L_29 : FLP RL 29 10 2 := fl_L_29
theorem fp_L_32 : FLP RL 32 10 1 := fl_L_32
theorem fp_L_49 : FLP RL 49 11 2 := fl_L_49
theorem fp_L_54 : FLP RL 54 11 4 := fl_L_54
theorem fp_L_58 : FLP RL 58 11 3 := fl_L_58
theorem fp_L_94 : FLP RL 94 10 5 := fl_L_94
theorem fp_X0_15 : FLP RX0 15 0 1 := fl_X0_15
theorem fp_X0_18 : FLP RX0 18 0 2 := fl_X0_18
theorem fp_X0_22 : FLP RX0 22 0 3 := fl_X0_22
theorem fp_X0_9 : FLP RX0 9 0 0 := fl_X0_9
theorem fp_X10_10 : FLP RX10 10 10 0 := fl_X10_10
theorem fp_X10_16 : FLP RX10 16 10 1 := fl_X10_16
theorem fp_X10_20 : FLP RX10 20 10 3 := fl_X10_20
theorem fp_X10_23 : FLP RX10 23 10 5 := fl_X10_23
theorem fp_X10_27 : FLP RX10 27 10 2 := fl_X10_27
theorem fp_X10_35 : FLP RX10 35 10 4 := fl_X10_35
theorem fp_X11_15 : FLP RX11 15 11 3 := fl_X11_15
theorem fp_X11_19 : FLP RX11 19 11 4 := fl_X11_19
theorem fp_X11_24 : FLP RX11 24 11 0 := fl_X11_24
theorem fp_X11_32 : FLP RX11 32 11 2 := fl_X11_32
theorem fp_X11_35 : FLP RX11 35 12 2 := fl_X11_35
theorem fp_X11_42 : FLP RX11 42 12 1 := fl_X11_42
theorem fp_X11_9 : FLP RX11 9 11 1 := fl_X11_9
theorem fp_X12_13 : FLP RX12 13 12 0 := fl_X12_13
theorem fp_X12_17 : FLP RX12 17 12 1 := fl_X12_17
theorem fp_X12_7 : FLP RX12 7 12 2 := fl_X12_7
theorem fp_X1_15 : FLP RX1 15 1 1 := fl_X1_15
theorem fp_X1_18 : FLP RX1 18 1 2 := fl_X1_18
theorem fp_X1_22 : FLP RX1 22 1 3 := fl_X1_22
theorem fp_X1_26 : FLP RX1 26 1 4 := fl_X1_26
theorem fp_X1_29 : FLP RX1 29 1 5 := fl_X1_29
theorem fp_X1_32 : FLP RX1 32 1 6 := fl_X1_32
theorem fp_X1_35 : FLP RX1 35 1 7 := fl_X1_35
theorem fp_X1_38 : FLP RX1 38 1 8 := fl_X1_38
theorem fp_X1_41 : FLP RX1 41 1 9 := fl_X1_41
theorem fp_X1_44 : FLP RX1 44 1 10 := fl_X1_44
theorem fp_X1_47 : FLP RX1 47 1 11 := fl_X1_47
theorem fp_X1_50 : FLP RX1 50 1 12 := fl_X1_50
theorem fp_X1_53 : FLP RX1 53 1 13 := fl_X1_53
theorem fp_X1_56 : FLP RX1 56 1 14 := fl_X1_56
theorem fp_X1_59 : FLP RX1 59 1 15 := fl_X1_59
theorem fp_X1_9 : FLP RX1 9 1 0 := fl_X1_9
theorem fp_X2_15 : FLP RX2 15 2 1 := fl_X2_15
theorem fp_X2_18 : FLP RX2 18 2 2 := fl_X2_18
theorem fp_X2_21 : FLP RX2 21 2 3 := fl_X2_21
theorem fp_X2_9 : FLP RX2 9 2 0 := fl_X2_9
theorem fp_X3_15 : FLP RX3 15 3 1 := fl_X3_15
theorem fp_X3_19 : FLP RX3 19 3 2 := fl_X3_19
theorem fp_X3_22 : FLP RX3 22 3 3 := fl_X3_22
theorem fp_X3_26 : FLP RX3 26 3 4 := fl_X3_26
theorem fp_X3_9 : FLP RX3 9 3 0 := fl_X3_9
theorem fp_X4_12 : FLP RX4 12 4 0 := fl_X4_12
theorem fp_X4_21 : FLP RX4 21 4 1 := fl_X4_21
theorem fp_X4_25 : FLP RX4 25 4 2 := fl_X4_25
theorem fp_X5_11 : FLP RX5 11 5 0 := fl_X5_11
theorem fp_X5_17 : FLP RX5 17 5 1 := fl_X5_17
theorem fp_X5_21 : FLP RX5 21 5 2 := fl_X5_21
theorem fp_X6_15 : FLP RX6 15 6 1 := fl_X6_15
theorem fp_X6_9 : FLP RX6 9 6 0 := fl_X6_9
theorem fp_X7_11 : FLP RX7 11 7 0 := fl_X7_11
theorem fp_X7_15 : FLP RX7 15 7 1 := fl_X7_15
theorem fp_X7_18 : FLP RX7 18 7 2 := fl_X7_18
theorem fp_X7_21 : FLP RX7 21 7 3 := fl_X7_21
theorem fp_X8_15 : FLP RX8 15 8 1 := fl_X8_15
theorem fp_X8_18 : FLP RX8 18 8 2 := fl_X8_18
theorem fp_X8_21 : FLP RX8 21 8 3 := fl_X8_21
theorem fp_X8_9 : FLP RX8 9 8 0 := fl_X8_9
theorem fp_X9_118 : FLP RX9 118 4 1 := fl_X9_118
theorem fp_X9_131 : FLP RX9 131 4 0 := fl_X9_131
theorem fp_X9_16 : FLP RX9 16 9 1 := fl_X9_16
theorem fp_X9_23 : FLP RX9 23 9 2 := fl_X9_23
theorem fp_X9_30 : FLP RX9 30 9 3 := fl_X9_30
theorem fp_X9_348 : FLP RX9 348 4 2 := fl_X9_348
theorem fp_X9_37 : FLP RX9 37 9 4 := fl_X9_37
theorem fp_X9_44 : FLP RX9 44 9 5 := fl_X9_44
theorem fp_X9_51 : FLP RX9 51 9 6 := fl_X9_51
theorem fp_X9_58 : FLP RX9 58 9 7 := fl_X9_58
theorem fp_X9_62 : FLP RX9 62 9 8 := fl_X9_62
theorem fp_X9_7 : FLP RX9 7 9 0 := fl_X9_7
section GoLinks
variable {xs : Nat → Int} {d : Nat} {m m' : MI} {b : Nat × Nat} {pc : Nat} {ls st : List MV} {σ : St} {out : MV × St}
def rets : MV → Bool
  | .inr (.inr (t, _)) => decide (t < 20)
  | _ => true
theorem rets_no {v : MV} (h : rets v = true) : ∀ i, v ≠ vT (20 + i) 0 := by
  intro i e
  subst e
  have : 20 + i < 20 := of_decide_eq_true h
  omega
theorem go_cVD {d' mc ms n ix ci r : Nat} {as' stk : List MV} {v1 : MV} {σ1 : St} (hc : Con d' m' mc ms (vA r :: as') σ (v1, σ1)) (hk : LkV m.1.cls ix m' ci n) (hn : as'.length = n) (hg : GamD σ r = (10 + ci, 0)) (hd : At m pc (.invokevirtual ix) 3) (hno : rets v1 = true) (hd' : d' < d) (hs : stk = (vA r :: as').reverse ++ st) (hsum : (st.map cat).sum ≤ 8) (hns : (vA r :: as').all nos = true) (hbm : mc ≤ b.1 ∧ ms ≤ b.2)
    (K : Go xs d m (b.1 - mc, b.2 - ms) (pc + 3) ls (push v1 st) σ1 out) : Go xs d m b pc ls stk σ out := go_call (as := vA r :: as') (Or.inl ⟨ci, r, as', rfl, hn, hg, hk, hd⟩) hc (rets_no hno) hd' hs hsum hns hbm K
theorem go_cV {d' mc ms n ix ci r : Nat} {as' stk : List MV} {v1 : MV} {σ1 : St} (hc : Con d' m' mc ms (vA r :: as') σ (v1, σ1)) (hk : LkV m.1.cls ix m' ci n) (hn : as'.length = n) (hg : Gam r = (10 + ci, 0)) (hd : At m pc (.invokevirtual ix) 3) (hno : rets v1 = true) (hd' : d' < d) (hs : stk = (vA r :: as').reverse ++ st) (hsum : (st.map cat).sum ≤ 8) (hns : (vA r :: as').all nos = true) (hbm : mc ≤ b.1 ∧ ms ≤ b.2)
    (K : Go xs d m (b.1 - mc, b.2 - ms) (pc + 3) ls (push v1 st) σ1 out) : Go xs d m b pc ls stk σ out := go_cVD hc hk hn (gs hg (by have := hk.2.2.2.2.2; omega)) hd hno hd' hs hsum hns hbm K
theorem go_tVD {d' mc ms n ix ci r : Nat} {as' stk : List MV} (hc : Con d' m' mc ms (vA r :: as') σ out) (hk : LkV m.1.cls ix m' ci n) (hn : as'.length = n) (hg : GamD σ r = (10 + ci, 0)) (hd : At m pc (.invokevirtual ix) 3) {i : Nat} (hi : out.1 = vT (20 + i) 0) (hh : m.2.2.2.2.1 = []) (hd' : d' < d) (hs : stk = (vA r :: as').reverse ++ st) (hsum : (st.map cat).sum ≤ 8) (hns : (vA r :: as').all nos = true) (hbm : mc ≤ b.1 ∧ ms ≤ b.2) : Go xs d m b pc ls stk σ out := go_callT (as := vA r :: as') (Or.inl ⟨ci, r, as', rfl, hn, hg, hk, hd⟩) hc hi hh hd' hs hsum hns hbm
theorem go_tV {d' mc ms n ix ci r : Nat} {as' stk : List MV} (hc : Con d' m' mc ms (vA r :: as') σ out) (hk : LkV m.1.cls ix m' ci n) (hn : as'.length = n) (hg : Gam r = (10 + ci, 0)) (hd : At m pc (.invokevirtual ix) 3) {i : Nat} (hi : out.1 = vT (20 + i) 0) (hh : m.2.2.2.2.1 = []) (hd' : d' < d) (hs : stk = (vA r :: as').reverse ++ st) (hsum : (st.map cat).sum ≤ 8) (hns : (vA r :: as').all nos = true) (hbm : mc ≤ b.1 ∧ ms ≤ b.2) : Go xs d m b pc ls stk σ out := go_tVD hc hk hn (gs hg (by have := hk.2.2.2.2.2; omega)) hd hi hh hd' hs hsum hns hbm
theorem go_cS {d' mc ms n ix : Nat} {as stk : List MV} {v1 : MV} {σ1 : St} (hc : Con d' m' mc ms as σ (v1, σ1)) (hk : LkS m.1.cls ix m' n) (hn : as.length = n) (hd : At m pc (.invokestatic ix) 3) (hno : rets v1 = true) (hd' : d' < d) (hs : stk = (as).reverse ++ st) (hsum : (st.map cat).sum ≤ 8) (hns : (as).all nos = true) (hbm : mc ≤ b.1 ∧ ms ≤ b.2)
    (K : Go xs d m (b.1 - mc, b.2 - ms) (pc + 3) ls (push v1 st) σ1 out) : Go xs d m b pc ls stk σ out := go_call (as := as) (Or.inr (Or.inl ⟨hn, hk, hd⟩)) hc (rets_no hno) hd' hs hsum hns hbm K
theorem go_tS {d' mc ms n ix : Nat} {as stk : List MV} (hc : Con d' m' mc ms as σ out) (hk : LkS m.1.cls ix m' n) (hn : as.length = n) (hd : At m pc (.invokestatic ix) 3) {i : Nat} (hi : out.1 = vT (20 + i) 0) (hh : m.2.2.2.2.1 = []) (hd' : d' < d) (hs : stk = (as).reverse ++ st) (hsum : (st.map cat).sum ≤ 8) (hns : (as).all nos = true) (hbm : mc ≤ b.1 ∧ ms ≤ b.2) : Go xs d m b pc ls stk σ out := go_callT (as := as) (Or.inr (Or.inl ⟨hn, hk, hd⟩)) hc hi hh hd' hs hsum hns hbm
theorem go_cX {d' mc ms n ix : Nat} {as stk : List MV} {v1 : MV} {σ1 : St} (hc : Con d' m' mc ms as σ (v1, σ1)) (hk : LkX m.1.cls ix m' n) (hn : as.length = n) (hd : At m pc (.invokestatic ix) 3) (hno : rets v1 = true) (hd' : d' < d) (hs : stk = (as).reverse ++ st) (hsum : (st.map cat).sum ≤ 8) (hns : (as).all nos = true) (hbm : mc ≤ b.1 ∧ ms ≤ b.2)
    (K : Go xs d m (b.1 - mc, b.2 - ms) (pc + 3) ls (push v1 st) σ1 out) : Go xs d m b pc ls stk σ out := go_call (as := as) (Or.inr (Or.inr (Or.inl ⟨hn, hk, hd⟩))) hc (rets_no hno) hd' hs hsum hns hbm K
theorem go_cN {d' mc ms n ix : Nat} {as stk : List MV} {v1 : MV} {σ1 : St} (hc : Con d' m' mc ms as σ (v1, σ1)) (hk : LkN m.1.cls ix m' n) (hn : as.length = n) (hd : At m pc (.invokestatic ix) 3) (hno : rets v1 = true) (hd' : d' < d) (hs : stk = (as).reverse ++ st) (hsum : (st.map cat).sum ≤ 8) (hns : (as).all nos = true) (hbm : mc ≤ b.1 ∧ ms ≤ b.2)
    (K : Go xs d m (b.1 - mc, b.2 - ms) (pc + 3) ls (push v1 st) σ1 out) : Go xs d m b pc ls stk σ out := go_call (as := as) (Or.inr (Or.inr (Or.inr (Or.inl ⟨hn, hk, hd⟩)))) hc (rets_no hno) hd' hs hsum hns hbm K
theorem go_tN {d' mc ms n ix : Nat} {as stk : List MV} (hc : Con d' m' mc ms as σ out) (hk : LkN m.1.cls ix m' n) (hn : as.length = n) (hd : At m pc (.invokestatic ix) 3) {i : Nat} (hi : out.1 = vT (20 + i) 0) (hh : m.2.2.2.2.1 = []) (hd' : d' < d) (hs : stk = (as).reverse ++ st) (hsum : (st.map cat).sum ≤ 8) (hns : (as).all nos = true) (hbm : mc ≤ b.1 ∧ ms ≤ b.2) : Go xs d m b pc ls stk σ out := go_callT (as := as) (Or.inr (Or.inr (Or.inr (Or.inl ⟨hn, hk, hd⟩)))) hc hi hh hd' hs hsum hns hbm
theorem go_cI {d' mc ms n ix r : Nat} {as' stk : List MV} {v1 : MV} {σ1 : St} (hc : Con d' m' mc ms (vA r :: as') σ (v1, σ1)) (hk : LkI m.1.cls ix m' n) (hn : as'.length = n) (hd : At m pc (.invokespecial ix) 3) (hno : rets v1 = true) (hd' : d' < d) (hs : stk = (vA r :: as').reverse ++ st) (hsum : (st.map cat).sum ≤ 8) (hns : (vA r :: as').all nos = true) (hbm : mc ≤ b.1 ∧ ms ≤ b.2)
    (K : Go xs d m (b.1 - mc, b.2 - ms) (pc + 3) ls (push v1 st) σ1 out) : Go xs d m b pc ls stk σ out := go_call (as := vA r :: as') (Or.inr (Or.inr (Or.inr (Or.inr (Or.inl ⟨r, as', rfl, hn, hk, hd⟩))))) hc (rets_no hno) hd' hs hsum hns hbm K
theorem go_cJ {d' mc ms n ix r : Nat} {as' stk : List MV} {v1 : MV} {σ1 : St} (hc : Con d' m' mc ms (vA r :: as') σ (v1, σ1)) (hk : LkJ m.1.cls ix m' n) (hn : as'.length = n) (hd : At m pc (.invokespecial ix) 3) (hno : rets v1 = true) (hd' : d' < d) (hs : stk = (vA r :: as').reverse ++ st) (hsum : (st.map cat).sum ≤ 8) (hns : (vA r :: as').all nos = true) (hbm : mc ≤ b.1 ∧ ms ≤ b.2)
    (K : Go xs d m (b.1 - mc, b.2 - ms) (pc + 3) ls (push v1 st) σ1 out) : Go xs d m b pc ls stk σ out := go_call (as := vA r :: as') (Or.inr (Or.inr (Or.inr (Or.inr (Or.inr ⟨r, as', rfl, hn, hk, hd⟩))))) hc (rets_no hno) hd' hs hsum hns hbm K
theorem sysw : Cond.native arraycopyName ∈ L0 ∧ Cond.static arraycopyName ∈ L0 ∧ Cond.initialized "java/lang/System" ∈ L0 := by
  have h : ∀ w ∈ [Cond.native arraycopyName, Cond.static arraycopyName, Cond.initialized "java/lang/System"], (goodWord w && decide (w ∈ lw_tbl)) = true := by decide +kernel
  have g : ∀ w, (goodWord w && decide (w ∈ lw_tbl)) = true → w ∈ L0 := fun w hw => by
    rw [Bool.and_eq_true] at hw
    exact List.mem_filter.mpr ⟨of_decide_eq_true hw.2, hw.1⟩
  exact ⟨g _ (h _ List.mem_cons_self), g _ (h _ (List.mem_cons_of_mem _ List.mem_cons_self)), g _ (h _ (List.mem_cons_of_mem _ (List.mem_cons_of_mem _ List.mem_cons_self)))⟩
/-- arraycopy's answer -/
def cpM (M : Nat → Nat → Int) (a0 sp a1 dp n : Nat) : Nat → Nat → Int := fun a k => if a = a1 ∧ dp ≤ k ∧ k < dp + n then M a0 (sp + (k - dp)) else M a k
theorem go_copy {a0 a1 n0 n1 ix : Nat} {sp dp n : Int} (hl : Cond.methodLink m.1.cls ix arraycopyName ∈ L0) (hd : At m pc (.invokestatic ix) 3) (hg0 : Gam a0 = (0, n0)) (hg1 : Gam a1 = (0, n1)) (h1 : 0 ≤ sp) (h2 : 0 ≤ dp) (h3 : 0 ≤ n) (h4 : sp + n ≤ n0) (h5 : dp + n ≤ n1) (hsum : (st.map cat).sum ≤ 8)
    (K : Go xs d m b (pc + 3) ls st (cpM σ.1 a0 sp.toNat a1 dp.toNat n.toNat, σ.2.1, σ.2.2) out) : Go xs d m b pc ls (vI n :: vI dp :: vA a1 :: vI sp :: vA a0 :: st) σ out := by
  intro p l e R s mid args below meth c Q dC dI dA N0 bs ρ0 c0 X hS hF H locs cells slots ρ LS hD hL ho
  obtain ⟨hx, hb, hml, hown, hts, hlk, hst, hK, hN, hXW, hZW, hRf, hRl, hnm, htb, hX⟩ := id hS
  obtain ⟨⟨hP, hDD, hM0⟩, hSS, hx1, hx2, hx3, hx4⟩ := id hD
  have hn : in32 n := okh ho
  have hdp : in32 dp := okh (okt ho)
  have ha1 : a1 < σ.2.2 := okh (okt (okt ho))
  have hsp : in32 sp := okh (okt (okt (okt ho)))
  have ha0 : a0 < σ.2.2 := okh (okt (okt (okt (okt ho))))
  have he0 := wsOf_get (dA := dA) (ρ := ρ) ha0
  have he1 := wsOf_get (dA := dA) (ρ := ρ) ha1
  rw [ent_i (gs hg0 (by decide)) (by decide)] at he0
  rw [ent_i (gs hg1 (by decide)) (by decide)] at he1
  have en : (Int32.ofInt n).toNatClampNeg = n.toNat := of_clamp hn h3
  have es : (Int32.ofInt sp).toNatClampNeg = sp.toNat := of_clamp hsp h1
  have ed : (Int32.ofInt dp).toNatClampNeg = dp.toNat := of_clamp hdp h2
  have neg : ∀ z : Int, in32 z → 0 ≤ z → ¬ Int32.ofInt z < 0 := fun z hz h0 h => by
    have := (of_lt (y := 0) hz z32).mp h
    omega
  have hset : (wsOf dA ρ σ).set a1 (ρ a1, .inl (dA 0, n1, .inl (va_cpy (fun j => Int32.ofInt (vl σ a0 j)) (fun j => Int32.ofInt (vl σ a1 j)) (Int32.ofInt sp).toNatClampNeg (Int32.ofInt dp).toNatClampNeg (Int32.ofInt n).toNatClampNeg))) = wsOf dA ρ (cpM σ.1 a0 sp.toNat a1 dp.toNat n.toNat, σ.2.1, σ.2.2) := by
    refine wsOf_set rfl ha1 (fun i hi => ent_congr (fun j => ?_) (fun j => rfl)) ?_
    · show cpM σ.1 a0 sp.toNat a1 dp.toNat n.toNat i j = _
      unfold cpM
      rw [if_neg (fun q => hi q.1)]
    · rw [ent_i (gs hg1 (by decide)) (by decide), en, es, ed]
      congr 4
      funext j
      show Int32.ofInt (vl (cpM σ.1 a0 sp.toNat a1 dp.toNat n.toNat, σ.2.1, σ.2.2) a1 j) = _
      unfold in32 at hn hdp hsp
      unfold cpM va_cpy
      by_cases h : dp.toNat ≤ j ∧ j < dp.toNat + n.toNat
      · rw [if_pos h]
        refine congrArg Int32.ofInt ?_
        show vl _ a1 j = vl σ a0 (sp.toNat + (j - dp.toNat))
        rw [vl_ne (show sp.toNat + (j - dp.toNat) ≠ TY by unfold TY; omega), vl_ne (show j ≠ TY by unfold TY; omega)]
        show (if a1 = a1 ∧ _ then _ else _) = _
        rw [if_pos ⟨rfl, h⟩]
      · rw [if_neg h]
        refine congrArg Int32.ofInt ?_
        show vl _ a1 j = vl σ a1 j
        by_cases h9 : j = TY
        · subst h9; rfl
        · rw [vl_ne h9, vl_ne h9]
          show (if a1 = a1 ∧ _ then _ else _) = _
          rw [if_neg (fun q => h q.2)]
  refine va_copyi hx hb (hml.trans hL.size.symm) hown (hts _ hl) (hts _ sysw.1) (hts _ sysw.2.1) (hts _ sysw.2.2) hK hP hDD hSS a0 a1 0 0 he0 he1 rfl rfl rfl (neg _ hsp h1) (neg _ hdp h2) (neg _ hn h3) (by rw [es, en]; omega) (by rw [ed, en]; omega) (fun i _ => rfl) (by omega) (by
    have e9 : nativeFrameWords "java/lang/System" "arraycopy" 5 + 11 ≤ 100 := by decide
    rw [cats]; omega) hd (fun H1 locs1 q1 q2 q3 => ?_)
  rw [hset] at q1 q2
  refine K p l e R s mid args below meth c Q dC dI dA N0 bs ρ0 c0 X hS hF H1 locs1 cells slots ρ LS ⟨⟨q1, q2, ?_⟩, q3, hx1, hx2, hx3, hx4⟩ hL (okt (okt (okt (okt (okt ho)))))
  obtain ⟨o1, o2, o3, o4, o5⟩ := hM0
  refine ⟨fun a' k' => ?_, trivial, trivial, o4, fun a' k' q => ?_⟩
  · show in32 (cpM σ.1 a0 sp.toNat a1 dp.toNat n.toNat a' k')
    unfold cpM; split
    · exact o1 _ _
    · exact o1 a' k'
  · show cpM σ.1 a0 sp.toNat a1 dp.toNat n.toNat a' k' = 0 ∧ _
    unfold cpM; split
    · rename_i e; rw [e.1] at q; exact absurd ha1 (Nat.not_lt.mpr q)
    · exact o5 a' k' q
/-- a number put into a field; into an array -/
def P1 (σ : St) (a j : Nat) (z : Int) : St := (upd2 σ.1 a j z, σ.2.1, σ.2.2)
def M1 (σ : St) (a : Nat) (j z : Int) : St := (upd2 σ.1 a j.toNat z, σ.2.1, σ.2.2)
/-- numbers copied -/
def C1 (σ : St) (a0 : Nat) (sp : Int) (a1 : Nat) (dp n : Int) : St := (cpM σ.1 a0 sp.toNat a1 dp.toNat n.toNat, σ.2.1, σ.2.2)
theorem go_put1 {a ix ci k : Nat} {z : Int} (hf : FLP m.1.cls ix ci k) (hr : fref ci k = false) (hw : Wri m ci k) (hg : Gam a = (10 + ci, 0)) (hz : cty ci k = .int ∨ z = 0 ∨ z = 1) (hd : At m pc (.putfield ix) 3) (K : Go xs d m b (pc + 3) ls st (P1 σ a k z) out) : Go xs d m b pc ls (vI z :: vA a :: st) σ out := go_putf hf hr hw hg hz hd K
theorem go_iast1 {a n : Nat} {j z : Int} (hg : Gam a = (0, n)) (hj : 0 ≤ j) (hjn : j < n) (hd : At m pc .iastore 1) (K : Go xs d m b (pc + 1) ls st (M1 σ a j z) out) : Go xs d m b pc ls (vI z :: vI j :: vA a :: st) σ out := go_iast hg hj hjn hd K
theorem go_bast1 {a n : Nat} {j z : Int} (hg : Gam a = (1, n)) (hj : 0 ≤ j) (hjn : j < n) (hz : z = 0 ∨ z = 1) (hd : At m pc .bastore 1) (K : Go xs d m b (pc + 1) ls st (M1 σ a j z) out) : Go xs d m b pc ls (vI z :: vI j :: vA a :: st) σ out := go_bast hg hj hjn hz hd K
theorem go_cast1 {a n : Nat} {j z : Int} (hg : Gam a = (2, n)) (hj : 0 ≤ j) (hjn : j < n) (hz : 0 ≤ z ∧ z < 65536) (hd : At m pc .castore 1) (K : Go xs d m b (pc + 1) ls st (M1 σ a j z) out) : Go xs d m b pc ls (vI z :: vI j :: vA a :: st) σ out := go_cast hg hj hjn hz hd K
theorem go_copy1 {a0 a1 n0 n1 ix : Nat} {sp dp n : Int} (hl : Cond.methodLink m.1.cls ix arraycopyName ∈ L0) (hd : At m pc (.invokestatic ix) 3) (hg0 : Gam a0 = (0, n0)) (hg1 : Gam a1 = (0, n1)) (h1 : 0 ≤ sp) (h2 : 0 ≤ dp) (h3 : 0 ≤ n) (h4 : sp + n ≤ n0) (h5 : dp + n ≤ n1) (hsum : (st.map cat).sum ≤ 8)
    (K : Go xs d m b (pc + 3) ls st (C1 σ a0 sp a1 dp n) out) : Go xs d m b pc ls (vI n :: vI dp :: vA a1 :: vI sp :: vA a0 :: st) σ out := go_copy hl hd hg0 hg1 h1 h2 h3 h4 h5 hsum K
theorem P1_ne {a a' j' j : Nat} {z : Int} (h : a' ≠ a) : (P1 σ a j z).1 a' j' = σ.1 a' j' := if_neg (fun q => h q.1)
theorem P1_nj {a a' j' j : Nat} {z : Int} (h : j' ≠ j) : (P1 σ a j z).1 a' j' = σ.1 a' j' := if_neg (fun q => h q.2)
theorem P1_eq {a j : Nat} {z : Int} : (P1 σ a j z).1 a j = z := if_pos ⟨rfl, rfl⟩
theorem M1_ne {a a' j' : Nat} {j z : Int} (h : a' ≠ a) : (M1 σ a j z).1 a' j' = σ.1 a' j' := if_neg (fun q => h q.1)
theorem M1_nj {a a' j' : Nat} {j z : Int} (h : j' ≠ j.toNat) : (M1 σ a j z).1 a' j' = σ.1 a' j' := if_neg (fun q => h q.2)
theorem M1_eq {a j' : Nat} {j z : Int} (h : j' = j.toNat) : (M1 σ a j z).1 a j' = z := if_pos ⟨rfl, h⟩
theorem C1_ne {a0 a1 a' j' : Nat} {sp dp n : Int} (h : a' ≠ a1) : (C1 σ a0 sp a1 dp n).1 a' j' = σ.1 a' j' := if_neg (fun q => h q.1)
theorem M1_2 {a : Nat} {j z : Int} : (M1 σ a j z).2 = σ.2 := rfl
theorem P1_2 {a j : Nat} {z : Int} : (P1 σ a j z).2 = σ.2 := rfl
theorem go_put1D {a ix ci k : Nat} {z : Int} (hf : FLP m.1.cls ix ci k) (hr : fref ci k = false) (hw : Wri m ci k) (hg : GamD σ a = (10 + ci, 0)) (hz : fits1 ci k z) (hd : At m pc (.putfield ix) 3) (K : Go xs d m b (pc + 3) ls st (P1 σ a k z) out) : Go xs d m b pc ls (vI z :: vA a :: st) σ out := go_putg hf hr hw hg hz hd K
theorem go_iast1D {a n : Nat} {j z : Int} (hg : GamD σ a = (0, n)) (hj : 0 ≤ j) (hjn : j < n) (hd : At m pc .iastore 1) (K : Go xs d m b (pc + 1) ls st (M1 σ a j z) out) : Go xs d m b pc ls (vI z :: vI j :: vA a :: st) σ out := go_iastD hg hj hjn hd K
theorem go_cast1D {a n : Nat} {j z : Int} (hg : GamD σ a = (2, n)) (hj : 0 ≤ j) (hjn : j < n) (hz : 0 ≤ z ∧ z < 65536) (hd : At m pc .castore 1) (K : Go xs d m b (pc + 1) ls st (M1 σ a j z) out) : Go xs d m b pc ls (vI z :: vI j :: vA a :: st) σ out := go_castD hg hj hjn hz hd K
/-- a reference put into a field; into a row -/
def R1 (σ : St) (a k q : Nat) : St := (σ.1, updP σ.2.1 a k (some q), σ.2.2)
theorem go_putr1D {a ix ci k q : Nat} (hf : FLP m.1.cls ix ci k) (hr : fref ci k = true) (hw : Wri m ci k) (hg : GamD σ a = (10 + ci, 0)) (hd : At m pc (.putfield ix) 3) (K : Go xs d m b (pc + 3) ls st (R1 σ a k q) out) : Go xs d m b pc ls (vA q :: vA a :: st) σ out := go_putrD hf hr hw hg hd K
theorem go_aast1D {a n q tq : Nat} {j : Int} (hg : GamD σ a = (tq, n)) (h3 : tq = 3 ∨ tq = 4 ∨ tq = 5) (hj : 0 ≤ j) (hjn : j < n) (hq : GamD σ q = (10 + arC tq, 0)) (hd : At m pc .aastore 1) (K : Go xs d m b (pc + 1) ls st (R1 σ a j.toNat q) out) : Go xs d m b pc ls (vA q :: vI j :: vA a :: st) σ out := go_aastD hg h3 hj hjn hq hd K
theorem R1_1 {a k q : Nat} : (R1 σ a k q).1 = σ.1 := rfl
theorem R1_c {a k q : Nat} : (R1 σ a k q).2.2 = σ.2.2 := rfl
theorem R1_ne {a a' j k q : Nat} (h : a' ≠ a) : (R1 σ a k q).2.1 a' j = σ.2.1 a' j := if_neg (fun q => h q.1)
theorem R1_nj {a a' j k q : Nat} (h : j ≠ k) : (R1 σ a k q).2.1 a' j = σ.2.1 a' j := if_neg (fun q => h q.2)
theorem R1_eq {a k q : Nat} : (R1 σ a k q).2.1 a k = some q := if_pos ⟨rfl, rfl⟩
theorem GamD_P1 {a j x : Nat} {z : Int} (h : j < 1000) : GamD (P1 σ a j z) x = GamD σ x := GamD_congr (P1_nj (by unfold TY; omega))
theorem GamD_M1 {a x : Nat} {j z : Int} (h : j < 1000000) : GamD (M1 σ a j z) x = GamD σ x := GamD_congr (M1_nj (by unfold TY; omega))
theorem GamD_R1 {a k q x : Nat} : GamD (R1 σ a k q) x = GamD σ x := GamD_congr rfl
end GoLinks
