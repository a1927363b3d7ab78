theorem lk_L_102 : LkV RL 102 mX9_setKind 9 3 := ⟨ml_L_102, mfX9_setKind, rfl, by decide, rfl, by decide⟩
theorem lk_L_106 : LkV RL 106 mX9_setLegal 9 2 := ⟨ml_L_106, mfX9_setLegal, rfl, by decide, rfl, by decide⟩
theorem lk_L_109 : LkV RL 109 mX9_numberOf 9 1 := ⟨ml_L_109, mfX9_numberOf, rfl, by decide, rfl, by decide⟩
theorem lk_L_112 : LkV RL 112 mX9_writeNumber 9 1 := ⟨ml_L_112, mfX9_writeNumber, rfl, by decide, rfl, by decide⟩
theorem lk_L_115 : LkV RL 115 mX9_lineAt 9 1 := ⟨ml_L_115, mfX9_lineAt, rfl, by decide, rfl, by decide⟩
theorem lk_L_118 : LkV RL 118 mX9_setBookmark 9 3 := ⟨ml_L_118, mfX9_setBookmark, rfl, by decide, rfl, by decide⟩
theorem lk_L_121 : LkV RL 121 mX9_bookmarkFrom 9 1 := ⟨ml_L_121, mfX9_bookmarkFrom, rfl, by decide, rfl, by decide⟩
theorem lk_L_124 : LkV RL 124 mX9_bookmarkTo 9 1 := ⟨ml_L_124, mfX9_bookmarkTo, rfl, by decide, rfl, by decide⟩
theorem lk_L_127 : LkV RL 127 mX9_lock 9 2 := ⟨ml_L_127, mfX9_lock, rfl, by decide, rfl, by decide⟩
theorem lk_L_130 : LkV RL 130 mX9_result 9 1 := ⟨ml_L_130, mfX9_result, rfl, by decide, rfl, by decide⟩
theorem lk_L_133 : LkV RL 133 mX9_setRecord 9 3 := ⟨ml_L_133, mfX9_setRecord, rfl, by decide, rfl, by decide⟩
theorem lk_L_136 : LkV RL 136 mX9_choose 9 1 := ⟨ml_L_136, mfX9_choose, rfl, by decide, rfl, by decide⟩
theorem lk_L_139 : LkV RL 139 mX9_merge 9 2 := ⟨ml_L_139, mfX9_merge, rfl, by decide, rfl, by decide⟩
theorem lk_L_142 : LkV RL 142 mX9_setPage 9 2 := ⟨ml_L_142, mfX9_setPage, rfl, by decide, rfl, by decide⟩
theorem lk_L_145 : LkV RL 145 mX9_pageOf 9 1 := ⟨ml_L_145, mfX9_pageOf, rfl, by decide, rfl, by decide⟩
theorem lk_L_148 : LkV RL 148 mX9_lineOf 9 1 := ⟨ml_L_148, mfX9_lineOf, rfl, by decide, rfl, by decide⟩
theorem lk_L_151 : LkV RL 151 mX9_waitingShare 9 0 := ⟨ml_L_151, mfX9_waitingShare, rfl, by decide, rfl, by decide⟩
theorem lk_L_157 : LkV RL 157 mX9_shareBits 9 0 := ⟨ml_L_157, mfX9_shareBits, rfl, by decide, rfl, by decide⟩
theorem lk_L_160 : LkI RL 160 mX9_init 0 := ⟨ml_L_160, mfX9_init, rfl, by decide, rfl⟩
theorem lk_L_163 : LkI RL 163 mX10_init 0 := ⟨ml_L_163, mfX10_init, rfl, by decide, rfl⟩
theorem lk_L_164 : LkV RL 164 mX9_setTracking 9 1 := ⟨ml_L_164, mfX9_setTracking, rfl, by decide, rfl, by decide⟩
theorem lk_L_168 : LkV RL 168 mX10_setTracking 10 1 := ⟨ml_L_168, mfX10_setTracking, rfl, by decide, rfl, by decide⟩
theorem lk_L_169 : LkX RL 169 mL_insert 5 := ⟨ml_L_169, mfL_insert, by decide, by decide⟩
theorem lk_L_174 : LkV RL 174 mX10_insert 10 3 := ⟨ml_L_174, mfX10_insert, rfl, by decide, rfl, by decide⟩
theorem lk_L_175 : LkV RL 175 mX10_thrown 10 0 := ⟨ml_L_175, mfX10_thrown, rfl, by decide, rfl, by decide⟩
theorem lk_L_178 : LkX RL 178 mL_addField 6 := ⟨ml_L_178, mfL_addField, by decide, by decide⟩
theorem lk_L_181 : LkV RL 181 mX10_addField 10 4 := ⟨ml_L_181, mfX10_addField, rfl, by decide, rfl, by decide⟩
theorem lk_L_182 : LkX RL 182 mL_erase 5 := ⟨ml_L_182, mfL_erase, by decide, by decide⟩
theorem lk_L_185 : LkV RL 185 mX10_erase 10 3 := ⟨ml_L_185, mfX10_erase, rfl, by decide, rfl, by decide⟩
theorem lk_L_186 : LkX RL 186 mL_setStyle 5 := ⟨ml_L_186, mfL_setStyle, by decide, by decide⟩
theorem lk_L_188 : LkV RL 188 mX10_setStyle 10 3 := ⟨ml_L_188, mfX10_setStyle, rfl, by decide, rfl, by decide⟩
theorem lk_L_189 : LkX RL 189 mL_protect 4 := ⟨ml_L_189, mfL_protect, by decide, by decide⟩
theorem lk_L_192 : LkV RL 192 mX10_protect 10 2 := ⟨ml_L_192, mfX10_protect, rfl, by decide, rfl, by decide⟩
theorem lk_L_193 : LkX RL 193 mL_undo 2 := ⟨ml_L_193, mfL_undo, by decide, by decide⟩
theorem lk_L_196 : LkV RL 196 mX10_undo 10 0 := ⟨ml_L_196, mfX10_undo, rfl, by decide, rfl, by decide⟩
theorem lk_L_197 : LkX RL 197 mL_redo 2 := ⟨ml_L_197, mfL_redo, by decide, by decide⟩
theorem lk_L_199 : LkV RL 199 mX10_redo 10 0 := ⟨ml_L_199, mfX10_redo, rfl, by decide, rfl, by decide⟩
theorem lk_L_200 : LkV RL 200 mX9_length 9 0 := ⟨ml_L_200, mfX9_length, rfl, by decide, rfl, by decide⟩
theorem lk_L_203 : LkV RL 203 mX10_length 10 0 := ⟨ml_L_203, mfX10_length, rfl, by decide, rfl, by decide⟩
theorem lk_L_204 : LkX RL 204 mL_unitAt 3 := ⟨ml_L_204, mfL_unitAt, by decide, by decide⟩
theorem lk_L_207 : LkV RL 207 mX10_unitAt 10 1 := ⟨ml_L_207, mfX10_unitAt, rfl, by decide, rfl, by decide⟩
theorem lk_L_208 : LkV RL 208 mX9_oldLength 9 0 := ⟨ml_L_208, mfX9_oldLength, rfl, by decide, rfl, by decide⟩
theorem lk_L_21 : LkV RL 21 mX9_addField 9 4 := ⟨ml_L_21, mfX9_addField, rfl, by decide, rfl, by decide⟩
theorem lk_L_211 : LkV RL 211 mX10_oldLength 10 0 := ⟨ml_L_211, mfX10_oldLength, rfl, by decide, rfl, by decide⟩
theorem lk_L_212 : LkX RL 212 mL_oldAt 3 := ⟨ml_L_212, mfL_oldAt, by decide, by decide⟩
theorem lk_L_214 : LkV RL 214 mX10_oldAt 10 1 := ⟨ml_L_214, mfX10_oldAt, rfl, by decide, rfl, by decide⟩
theorem lk_L_215 : LkV RL 215 mX9_paragraphs 9 0 := ⟨ml_L_215, mfX9_paragraphs, rfl, by decide, rfl, by decide⟩
theorem lk_L_218 : LkV RL 218 mX10_paragraphs 10 0 := ⟨ml_L_218, mfX10_paragraphs, rfl, by decide, rfl, by decide⟩
theorem lk_L_219 : LkX RL 219 mL_paragraphOf 3 := ⟨ml_L_219, mfL_paragraphOf, by decide, by decide⟩
theorem lk_L_221 : LkV RL 221 mX10_paragraphOf 10 1 := ⟨ml_L_221, mfX10_paragraphOf, rfl, by decide, rfl, by decide⟩
theorem lk_L_222 : LkX RL 222 mL_startOf 3 := ⟨ml_L_222, mfL_startOf, by decide, by decide⟩
theorem lk_L_224 : LkV RL 224 mX10_startOf 10 1 := ⟨ml_L_224, mfX10_startOf, rfl, by decide, rfl, by decide⟩
theorem lk_L_225 : LkV RL 225 mX9_changes 9 0 := ⟨ml_L_225, mfX9_changes, rfl, by decide, rfl, by decide⟩
theorem lk_L_228 : LkV RL 228 mX10_changes 10 0 := ⟨ml_L_228, mfX10_changes, rfl, by decide, rfl, by decide⟩
theorem lk_L_229 : LkX RL 229 mL_kindOf 3 := ⟨ml_L_229, mfL_kindOf, by decide, by decide⟩
theorem lk_L_231 : LkV RL 231 mX10_kindOf 10 1 := ⟨ml_L_231, mfX10_kindOf, rfl, by decide, rfl, by decide⟩
theorem lk_L_232 : LkX RL 232 mL_authorOf 3 := ⟨ml_L_232, mfL_authorOf, by decide, by decide⟩
theorem lk_L_234 : LkV RL 234 mX10_authorOf 10 1 := ⟨ml_L_234, mfX10_authorOf, rfl, by decide, rfl, by decide⟩
theorem lk_L_235 : LkX RL 235 mL_stateOf 3 := ⟨ml_L_235, mfL_stateOf, by decide, by decide⟩
theorem lk_L_237 : LkV RL 237 mX10_stateOf 10 1 := ⟨ml_L_237, mfX10_stateOf, rfl, by decide, rfl, by decide⟩
theorem lk_L_238 : LkX RL 238 mL_unitsOf 3 := ⟨ml_L_238, mfL_unitsOf, by decide, by decide⟩
theorem lk_L_240 : LkV RL 240 mX10_unitsOf 10 1 := ⟨ml_L_240, mfX10_unitsOf, rfl, by decide, rfl, by decide⟩
theorem lk_L_241 : LkX RL 241 mL_changeAt 3 := ⟨ml_L_241, mfL_changeAt, by decide, by decide⟩
theorem lk_L_243 : LkV RL 243 mX10_changeAt 10 1 := ⟨ml_L_243, mfX10_changeAt, rfl, by decide, rfl, by decide⟩
theorem lk_L_244 : LkX RL 244 mL_accept 3 := ⟨ml_L_244, mfL_accept, by decide, by decide⟩
theorem lk_L_246 : LkV RL 246 mX10_accept 10 1 := ⟨ml_L_246, mfX10_accept, rfl, by decide, rfl, by decide⟩
theorem lk_L_247 : LkX RL 247 mL_refuse 3 := ⟨ml_L_247, mfL_refuse, by decide, by decide⟩
theorem lk_L_249 : LkV RL 249 mX10_refuse 10 1 := ⟨ml_L_249, mfX10_refuse, rfl, by decide, rfl, by decide⟩
theorem lk_L_25 : LkV RL 25 mX9_erase 9 3 := ⟨ml_L_25, mfX9_erase, rfl, by decide, rfl, by decide⟩
theorem lk_L_250 : LkX RL 250 mL_judge 4 := ⟨ml_L_250, mfL_judge, by decide, by decide⟩
theorem lk_L_252 : LkV RL 252 mX10_judge 10 2 := ⟨ml_L_252, mfX10_judge, rfl, by decide, rfl, by decide⟩
theorem lk_L_253 : LkX RL 253 mL_addStyle 5 := ⟨ml_L_253, mfL_addStyle, by decide, by decide⟩
theorem lk_L_256 : LkV RL 256 mX10_addStyle 10 3 := ⟨ml_L_256, mfX10_addStyle, rfl, by decide, rfl, by decide⟩
theorem lk_L_257 : LkX RL 257 mL_styleOf 3 := ⟨ml_L_257, mfL_styleOf, by decide, by decide⟩
theorem lk_L_259 : LkV RL 259 mX10_styleOf 10 1 := ⟨ml_L_259, mfX10_styleOf, rfl, by decide, rfl, by decide⟩
theorem lk_L_260 : LkX RL 260 mL_isBold 3 := ⟨ml_L_260, mfL_isBold, by decide, by decide⟩
theorem lk_L_262 : LkV RL 262 mX10_isBold 10 1 := ⟨ml_L_262, mfX10_isBold, rfl, by decide, rfl, by decide⟩
theorem lk_L_263 : LkX RL 263 mL_setList 5 := ⟨ml_L_263, mfL_setList, by decide, by decide⟩
theorem lk_L_265 : LkV RL 265 mX10_setList 10 3 := ⟨ml_L_265, mfX10_setList, rfl, by decide, rfl, by decide⟩
theorem lk_L_266 : LkX RL 266 mL_restart 4 := ⟨ml_L_266, mfL_restart, by decide, by decide⟩
theorem lk_L_269 : LkV RL 269 mX10_restart 10 2 := ⟨ml_L_269, mfX10_restart, rfl, by decide, rfl, by decide⟩
theorem lk_L_270 : LkX RL 270 mL_setKind 5 := ⟨ml_L_270, mfL_setKind, by decide, by decide⟩
theorem lk_L_272 : LkV RL 272 mX10_setKind 10 3 := ⟨ml_L_272, mfX10_setKind, rfl, by decide, rfl, by decide⟩
theorem lk_L_273 : LkX RL 273 mL_setLegal 4 := ⟨ml_L_273, mfL_setLegal, by decide, by decide⟩
theorem lk_L_275 : LkV RL 275 mX10_setLegal 10 2 := ⟨ml_L_275, mfX10_setLegal, rfl, by decide, rfl, by decide⟩
theorem lk_L_276 : LkX RL 276 mL_numberOf 3 := ⟨ml_L_276, mfL_numberOf, by decide, by decide⟩
theorem lk_L_278 : LkV RL 278 mX10_numberOf 10 1 := ⟨ml_L_278, mfX10_numberOf, rfl, by decide, rfl, by decide⟩
theorem lk_L_279 : LkX RL 279 mL_writeNumber 3 := ⟨ml_L_279, mfL_writeNumber, by decide, by decide⟩
theorem lk_L_281 : LkV RL 281 mX10_writeNumber 10 1 := ⟨ml_L_281, mfX10_writeNumber, rfl, by decide, rfl, by decide⟩
theorem lk_L_282 : LkX RL 282 mL_lineAt 3 := ⟨ml_L_282, mfL_lineAt, by decide, by decide⟩
theorem lk_L_284 : LkV RL 284 mX10_lineAt 10 1 := ⟨ml_L_284, mfX10_lineAt, rfl, by decide, rfl, by decide⟩
theorem lk_L_285 : LkX RL 285 mL_setBookmark 5 := ⟨ml_L_285, mfL_setBookmark, by decide, by decide⟩
theorem lk_L_287 : LkV RL 287 mX10_setBookmark 10 3 := ⟨ml_L_287, mfX10_setBookmark, rfl, by decide, rfl, by decide⟩
theorem lk_L_288 : LkX RL 288 mL_bookmarkFrom 3 := ⟨ml_L_288, mfL_bookmarkFrom, by decide, by decide⟩
theorem lk_L_29 : LkV RL 29 mX9_setStyle 9 3 := ⟨ml_L_29, mfX9_setStyle, rfl, by decide, rfl, by decide⟩
theorem lk_L_290 : LkV RL 290 mX10_bookmarkFrom 10 1 := ⟨ml_L_290, mfX10_bookmarkFrom, rfl, by decide, rfl, by decide⟩
theorem lk_L_291 : LkX RL 291 mL_bookmarkTo 3 := ⟨ml_L_291, mfL_bookmarkTo, by decide, by decide⟩
theorem lk_L_293 : LkV RL 293 mX10_bookmarkTo 10 1 := ⟨ml_L_293, mfX10_bookmarkTo, rfl, by decide, rfl, by decide⟩
theorem lk_L_294 : LkX RL 294 mL_lock 4 := ⟨ml_L_294, mfL_lock, by decide, by decide⟩
theorem lk_L_296 : LkV RL 296 mX10_lock 10 2 := ⟨ml_L_296, mfX10_lock, rfl, by decide, rfl, by decide⟩
theorem lk_L_297 : LkX RL 297 mL_result 3 := ⟨ml_L_297, mfL_result, by decide, by decide⟩
theorem lk_L_299 : LkV RL 299 mX10_result 10 1 := ⟨ml_L_299, mfX10_result, rfl, by decide, rfl, by decide⟩
theorem lk_L_300 : LkV RL 300 mX9_update 9 0 := ⟨ml_L_300, mfX9_update, rfl, by decide, rfl, by decide⟩
theorem lk_L_303 : LkV RL 303 mX10_update 10 0 := ⟨ml_L_303, mfX10_update, rfl, by decide, rfl, by decide⟩
theorem lk_L_304 : LkX RL 304 mL_setRecord 5 := ⟨ml_L_304, mfL_setRecord, by decide, by decide⟩
theorem lk_L_306 : LkV RL 306 mX10_setRecord 10 3 := ⟨ml_L_306, mfX10_setRecord, rfl, by decide, rfl, by decide⟩
theorem lk_L_307 : LkX RL 307 mL_choose 3 := ⟨ml_L_307, mfL_choose, by decide, by decide⟩
theorem lk_L_309 : LkV RL 309 mX10_choose 10 1 := ⟨ml_L_309, mfX10_choose, rfl, by decide, rfl, by decide⟩
theorem lk_L_310 : LkX RL 310 mL_merge 4 := ⟨ml_L_310, mfL_merge, by decide, by decide⟩
theorem lk_L_312 : LkV RL 312 mX10_merge 10 2 := ⟨ml_L_312, mfX10_merge, rfl, by decide, rfl, by decide⟩
theorem lk_L_313 : LkX RL 313 mL_setPage 4 := ⟨ml_L_313, mfL_setPage, by decide, by decide⟩
theorem lk_L_315 : LkV RL 315 mX10_setPage 10 2 := ⟨ml_L_315, mfX10_setPage, rfl, by decide, rfl, by decide⟩
theorem lk_L_316 : LkV RL 316 mX9_pages 9 0 := ⟨ml_L_316, mfX9_pages, rfl, by decide, rfl, by decide⟩
theorem lk_L_319 : LkV RL 319 mX10_pages 10 0 := ⟨ml_L_319, mfX10_pages, rfl, by decide, rfl, by decide⟩
theorem lk_L_32 : LkV RL 32 mX9_protect 9 2 := ⟨ml_L_32, mfX9_protect, rfl, by decide, rfl, by decide⟩
theorem lk_L_320 : LkX RL 320 mL_pageOf 3 := ⟨ml_L_320, mfL_pageOf, by decide, by decide⟩
theorem lk_L_322 : LkV RL 322 mX10_pageOf 10 1 := ⟨ml_L_322, mfX10_pageOf, rfl, by decide, rfl, by decide⟩
theorem lk_L_323 : LkX RL 323 mL_lineOf 3 := ⟨ml_L_323, mfL_lineOf, by decide, by decide⟩
theorem lk_L_325 : LkV RL 325 mX10_lineOf 10 1 := ⟨ml_L_325, mfX10_lineOf, rfl, by decide, rfl, by decide⟩
theorem lk_L_326 : LkX RL 326 mL_waitingShare 2 := ⟨ml_L_326, mfL_waitingShare, by decide, by decide⟩
theorem lk_L_329 : LkV RL 329 mX10_waitingShare 10 0 := ⟨ml_L_329, mfX10_waitingShare, rfl, by decide, rfl, by decide⟩
theorem lk_L_330 : LkX RL 330 mL_shareBits 2 := ⟨ml_L_330, mfL_shareBits, by decide, by decide⟩
theorem lk_L_332 : LkV RL 332 mX10_shareBits 10 0 := ⟨ml_L_332, mfX10_shareBits, rfl, by decide, rfl, by decide⟩
theorem lk_L_333 : LkV RL 333 mX9_meanParagraph 9 0 := ⟨ml_L_333, mfX9_meanParagraph, rfl, by decide, rfl, by decide⟩
theorem lk_L_337 : LkV RL 337 mX10_meanParagraph 10 0 := ⟨ml_L_337, mfX10_meanParagraph, rfl, by decide, rfl, by decide⟩
theorem lk_L_338 : LkV RL 338 mX9_meanBits 9 0 := ⟨ml_L_338, mfX9_meanBits, rfl, by decide, rfl, by decide⟩
theorem lk_L_342 : LkV RL 342 mX10_meanBits 10 0 := ⟨ml_L_342, mfX10_meanBits, rfl, by decide, rfl, by decide⟩
theorem lk_L_343 : LkV RL 343 mX9_isSound 9 0 := ⟨ml_L_343, mfX9_isSound, rfl, by decide, rfl, by decide⟩
theorem lk_L_347 : LkV RL 347 mX10_isSound 10 0 := ⟨ml_L_347, mfX10_isSound, rfl, by decide, rfl, by decide⟩
theorem lk_L_36 : LkV RL 36 mX9_undo 9 0 := ⟨ml_L_36, mfX9_undo, rfl, by decide, rfl, by decide⟩
theorem lk_L_42 : LkV RL 42 mX9_redo 9 0 := ⟨ml_L_42, mfX9_redo, rfl, by decide, rfl, by decide⟩
theorem lk_L_45 : LkV RL 45 mX9_unitAt 9 1 := ⟨ml_L_45, mfX9_unitAt, rfl, by decide, rfl, by decide⟩
theorem lk_L_49 : LkV RL 49 mX9_oldAt 9 1 := ⟨ml_L_49, mfX9_oldAt, rfl, by decide, rfl, by decide⟩
theorem lk_L_52 : LkV RL 52 mX9_paragraphOf 9 1 := ⟨ml_L_52, mfX9_paragraphOf, rfl, by decide, rfl, by decide⟩
theorem lk_L_56 : LkV RL 56 mX9_startOf 9 1 := ⟨ml_L_56, mfX9_startOf, rfl, by decide, rfl, by decide⟩
theorem lk_L_59 : LkV RL 59 mX9_kindOf 9 1 := ⟨ml_L_59, mfX9_kindOf, rfl, by decide, rfl, by decide⟩
theorem lk_L_62 : LkV RL 62 mX9_authorOf 9 1 := ⟨ml_L_62, mfX9_authorOf, rfl, by decide, rfl, by decide⟩
theorem lk_L_65 : LkV RL 65 mX9_stateOf 9 1 := ⟨ml_L_65, mfX9_stateOf, rfl, by decide, rfl, by decide⟩
theorem lk_L_68 : LkV RL 68 mX9_unitsOf 9 1 := ⟨ml_L_68, mfX9_unitsOf, rfl, by decide, rfl, by decide⟩
theorem lk_L_7 : LkV RL 7 mX9_insert 9 3 := ⟨ml_L_7, mfX9_insert, rfl, by decide, rfl, by decide⟩
theorem lk_L_71 : LkV RL 71 mX9_changeAt 9 1 := ⟨ml_L_71, mfX9_changeAt, rfl, by decide, rfl, by decide⟩
theorem lk_L_74 : LkV RL 74 mX9_accept 9 1 := ⟨ml_L_74, mfX9_accept, rfl, by decide, rfl, by decide⟩
theorem lk_L_77 : LkV RL 77 mX9_refuse 9 1 := ⟨ml_L_77, mfX9_refuse, rfl, by decide, rfl, by decide⟩
theorem lk_L_80 : LkV RL 80 mX9_judge 9 2 := ⟨ml_L_80, mfX9_judge, rfl, by decide, rfl, by decide⟩
theorem lk_L_84 : LkV RL 84 mX9_addStyle 9 3 := ⟨ml_L_84, mfX9_addStyle, rfl, by decide, rfl, by decide⟩
theorem lk_L_88 : LkV RL 88 mX9_styleOf 9 1 := ⟨ml_L_88, mfX9_styleOf, rfl, by decide, rfl, by decide⟩
theorem lk_L_91 : LkV RL 91 mX9_isBold 9 1 := ⟨ml_L_91, mfX9_isBold, rfl, by decide, rfl, by decide⟩
theorem lk_L_95 : LkV RL 95 mX9_setList 9 3 := ⟨ml_L_95, mfX9_setList, rfl, by decide, rfl, by decide⟩
theorem lk_L_98 : LkV RL 98 mX9_restart 9 2 := ⟨ml_L_98, mfX9_restart, rfl, by decide, rfl, by decide⟩
theorem lk_X0_26 : LkN RX0 26 mX9_isWithin 2 := ⟨ml_X0_26, mfX9_isWithin, rfl, by decide⟩
theorem lk_X0_30 : LkN RX0 30 mX9_setCell 3 := ⟨ml_X0_30, mfX9_setCell, rfl, by decide⟩
theorem lk_X0_34 : LkN RX0 34 mX9_cell 2 := ⟨ml_X0_34, mfX9_cell, rfl, by decide⟩
theorem lk_X0_38 : LkV RX0 38 mX0_isHeld 0 1 := ⟨ml_X0_38, mfX0_isHeld, rfl, by decide, rfl, by decide⟩
theorem lk_X10_106 : LkV RX10 106 mX10_at 10 2 := ⟨ml_X10_106, mfX10_at, rfl, by decide, rfl, by decide⟩
theorem lk_X10_110 : LkV RX10 110 mX10_many 10 0 := ⟨ml_X10_110, mfX10_many, rfl, by decide, rfl, by decide⟩
theorem lk_X10_114 : LkV RX10 114 mX10_isSeen 10 1 := ⟨ml_X10_114, mfX10_isSeen, rfl, by decide, rfl, by decide⟩
theorem lk_X10_118 : LkV RX10 118 mX10_isEnd 10 1 := ⟨ml_X10_118, mfX10_isEnd, rfl, by decide, rfl, by decide⟩
theorem lk_X10_121 : LkV RX10 121 mX10_paragraphsNow 10 0 := ⟨ml_X10_121, mfX10_paragraphsNow, rfl, by decide, rfl, by decide⟩
theorem lk_X10_124 : LkS RX10 124 mX10_in 3 := ⟨ml_X10_124, mfX10_in, rfl, by decide⟩
theorem lk_X10_128 : LkV RX10 128 mX10_seen 10 0 := ⟨ml_X10_128, mfX10_seen, rfl, by decide, rfl, by decide⟩
theorem lk_X10_134 : LkV RX10 134 mX10_copies 10 4 := ⟨ml_X10_134, mfX10_copies, rfl, by decide, rfl, by decide⟩
theorem lk_X10_141 : LkV RX10 141 mX10_goesOn 10 1 := ⟨ml_X10_141, mfX10_goesOn, rfl, by decide, rfl, by decide⟩
theorem lk_X10_144 : LkV RX10 144 mX10_waits 10 1 := ⟨ml_X10_144, mfX10_waits, rfl, by decide, rfl, by decide⟩
theorem lk_X10_147 : LkV RX10 147 mX10_endOf 10 1 := ⟨ml_X10_147, mfX10_endOf, rfl, by decide, rfl, by decide⟩
theorem lk_X10_151 : LkS RX10 151 mX10_isAuthor 1 := ⟨ml_X10_151, mfX10_isAuthor, rfl, by decide⟩
theorem lk_X10_154 : LkV RX10 154 mX10_isPlace 10 1 := ⟨ml_X10_154, mfX10_isPlace, rfl, by decide, rfl, by decide⟩
theorem lk_X10_157 : LkV RX10 157 mX10_unitOf 10 1 := ⟨ml_X10_157, mfX10_unitOf, rfl, by decide, rfl, by decide⟩
theorem lk_X10_160 : LkV RX10 160 mX10_changeAhead 10 2 := ⟨ml_X10_160, mfX10_changeAhead, rfl, by decide, rfl, by decide⟩
theorem lk_X10_163 : LkV RX10 163 mX10_isGuarded 10 1 := ⟨ml_X10_163, mfX10_isGuarded, rfl, by decide, rfl, by decide⟩
theorem lk_X10_166 : LkV RX10 166 mX10_edits 10 0 := ⟨ml_X10_166, mfX10_edits, rfl, by decide, rfl, by decide⟩
theorem lk_X10_169 : LkV RX10 169 mX10_newChange 10 2 := ⟨ml_X10_169, mfX10_newChange, rfl, by decide, rfl, by decide⟩
theorem lk_X10_173 : LkV RX10 173 mX10_opens 10 1 := ⟨ml_X10_173, mfX10_opens, rfl, by decide, rfl, by decide⟩
theorem lk_X10_176 : LkV RX10 176 mX10_writeFault 10 4 := ⟨ml_X10_176, mfX10_writeFault, rfl, by decide, rfl, by decide⟩
theorem lk_X10_180 : LkV RX10 180 mX10_writes 10 3 := ⟨ml_X10_180, mfX10_writes, rfl, by decide, rfl, by decide⟩
theorem lk_X10_184 : LkS RX10 184 mX10_isBookmark 1 := ⟨ml_X10_184, mfX10_isBookmark, rfl, by decide⟩
theorem lk_X10_190 : LkV RX10 190 mX10_isOwn 10 2 := ⟨ml_X10_190, mfX10_isOwn, rfl, by decide, rfl, by decide⟩
theorem lk_X10_194 : LkV RX10 194 mX10_paragraphAt 10 1 := ⟨ml_X10_194, mfX10_paragraphAt, rfl, by decide, rfl, by decide⟩
theorem lk_X10_197 : LkV RX10 197 mX10_endOfParagraph 10 1 := ⟨ml_X10_197, mfX10_endOfParagraph, rfl, by decide, rfl, by decide⟩
theorem lk_X10_200 : LkV RX10 200 mX10_closes 10 1 := ⟨ml_X10_200, mfX10_closes, rfl, by decide, rfl, by decide⟩
theorem lk_X10_203 : LkV RX10 203 mX10_isParagraph 10 1 := ⟨ml_X10_203, mfX10_isParagraph, rfl, by decide, rfl, by decide⟩
theorem lk_X10_206 : LkS RX10 206 mX10_told 1 := ⟨ml_X10_206, mfX10_told, rfl, by decide⟩
theorem lk_X10_210 : LkV RX10 210 mX10_old 10 1 := ⟨ml_X10_210, mfX10_old, rfl, by decide, rfl, by decide⟩
theorem lk_X10_213 : LkV RX10 213 mX10_placeOf 10 1 := ⟨ml_X10_213, mfX10_placeOf, rfl, by decide, rfl, by decide⟩
theorem lk_X10_216 : LkV RX10 216 mX10_startAt 10 1 := ⟨ml_X10_216, mfX10_startAt, rfl, by decide, rfl, by decide⟩
theorem lk_X10_219 : LkV RX10 219 mX10_isChange 10 1 := ⟨ml_X10_219, mfX10_isChange, rfl, by decide, rfl, by decide⟩
theorem lk_X10_222 : LkV RX10 222 mX10_concerns 10 1 := ⟨ml_X10_222, mfX10_concerns, rfl, by decide, rfl, by decide⟩
theorem lk_X10_225 : LkV RX10 225 mX10_judges 10 2 := ⟨ml_X10_225, mfX10_judges, rfl, by decide, rfl, by decide⟩
theorem lk_X10_229 : LkV RX10 229 mX10_judged 10 2 := ⟨ml_X10_229, mfX10_judged, rfl, by decide, rfl, by decide⟩
theorem lk_X10_232 : LkV RX10 232 mX10_listFault 10 2 := ⟨ml_X10_232, mfX10_listFault, rfl, by decide, rfl, by decide⟩
theorem lk_X10_235 : LkS RX10 235 mX10_isList 1 := ⟨ml_X10_235, mfX10_isList, rfl, by decide⟩
theorem lk_X10_238 : LkV RX10 238 mX10_counts 10 1 := ⟨ml_X10_238, mfX10_counts, rfl, by decide, rfl, by decide⟩
theorem lk_X10_244 : LkV RX10 244 mX10_putsDigits 10 1 := ⟨ml_X10_244, mfX10_putsDigits, rfl, by decide, rfl, by decide⟩
theorem lk_X10_247 : LkV RX10 247 mX10_puts 10 1 := ⟨ml_X10_247, mfX10_puts, rfl, by decide, rfl, by decide⟩
theorem lk_X10_251 : LkV RX10 251 mX10_putsLetters 10 1 := ⟨ml_X10_251, mfX10_putsLetters, rfl, by decide, rfl, by decide⟩
theorem lk_X10_254 : LkV RX10 254 mX10_putsRoman 10 1 := ⟨ml_X10_254, mfX10_putsRoman, rfl, by decide, rfl, by decide⟩
theorem lk_X10_257 : LkV RX10 257 mX10_fromPlace 10 1 := ⟨ml_X10_257, mfX10_fromPlace, rfl, by decide, rfl, by decide⟩
theorem lk_X10_260 : LkV RX10 260 mX10_bookmarkFault 10 1 := ⟨ml_X10_260, mfX10_bookmarkFault, rfl, by decide, rfl, by decide⟩
theorem lk_X10_263 : LkV RX10 263 mX10_toPlace 10 1 := ⟨ml_X10_263, mfX10_toPlace, rfl, by decide, rfl, by decide⟩
theorem lk_X10_266 : LkV RX10 266 mX10_isField 10 1 := ⟨ml_X10_266, mfX10_isField, rfl, by decide, rfl, by decide⟩
theorem lk_X10_272 : LkV RX10 272 mX10_pageAt 10 1 := ⟨ml_X10_272, mfX10_pageAt, rfl, by decide, rfl, by decide⟩
theorem lk_X10_275 : LkV RX10 275 mX10_lays 10 0 := ⟨ml_X10_275, mfX10_lays, rfl, by decide, rfl, by decide⟩
theorem lk_X10_278 : LkV RX10 278 mX10_isThere 10 1 := ⟨ml_X10_278, mfX10_isThere, rfl, by decide, rfl, by decide⟩
theorem lk_X10_281 : LkV RX10 281 mX10_found 10 1 := ⟨ml_X10_281, mfX10_found, rfl, by decide, rfl, by decide⟩
theorem lk_X10_284 : LkV RX10 284 mX10_updates 10 0 := ⟨ml_X10_284, mfX10_updates, rfl, by decide, rfl, by decide⟩
theorem lk_X10_288 : LkV RX10 288 mX10_updatesAll 10 0 := ⟨ml_X10_288, mfX10_updatesAll, rfl, by decide, rfl, by decide⟩
theorem lk_X10_291 : LkS RX10 291 mX10_isRecord 1 := ⟨ml_X10_291, mfX10_isRecord, rfl, by decide⟩
theorem lk_X10_300 : LkS RX10 300 mX10_digits 1 := ⟨ml_X10_300, mfX10_digits, rfl, by decide⟩
theorem lk_X10_306 : LkV RX10 306 mX10_finds 10 2 := ⟨ml_X10_306, mfX10_finds, rfl, by decide, rfl, by decide⟩
theorem lk_X10_310 : LkV RX10 310 mX10_cutsLines 10 0 := ⟨ml_X10_310, mfX10_cutsLines, rfl, by decide, rfl, by decide⟩
theorem lk_X10_313 : LkV RX10 313 mX10_isKept 10 1 := ⟨ml_X10_313, mfX10_isKept, rfl, by decide, rfl, by decide⟩
theorem lk_X10_316 : LkV RX10 316 mX10_lineNow 10 1 := ⟨ml_X10_316, mfX10_lineNow, rfl, by decide, rfl, by decide⟩
theorem lk_X10_319 : LkV RX10 319 mX10_concerned 10 0 := ⟨ml_X10_319, mfX10_concerned, rfl, by decide, rfl, by decide⟩
theorem lk_X10_328 : LkV RX10 328 mX10_mean 10 0 := ⟨ml_X10_328, mfX10_mean, rfl, by decide, rfl, by decide⟩
theorem lk_X10_95 : LkV RX10 95 mX10_bares 10 1 := ⟨ml_X10_95, mfX10_bares, rfl, by decide, rfl, by decide⟩
theorem lk_X10_99 : LkV RX10 99 mX10_setAt 10 3 := ⟨ml_X10_99, mfX10_setAt, rfl, by decide, rfl, by decide⟩
theorem lk_X1_103 : LkV RX1 103 mX1_closeParagraph 1 1 := ⟨ml_X1_103, mfX1_closeParagraph, rfl, by decide, rfl, by decide⟩
theorem lk_X1_107 : LkV RX1 107 mX1_addSigns 1 3 := ⟨ml_X1_107, mfX1_addSigns, rfl, by decide, rfl, by decide⟩
theorem lk_X1_111 : LkN RX1 111 mX9_isWithin 2 := ⟨ml_X1_111, mfX9_isWithin, rfl, by decide⟩
theorem lk_X1_115 : LkV RX1 115 mX1_addSign 1 1 := ⟨ml_X1_115, mfX1_addSign, rfl, by decide, rfl, by decide⟩
theorem lk_X1_118 : LkV RX1 118 mX1_breakParagraph 1 2 := ⟨ml_X1_118, mfX1_breakParagraph, rfl, by decide, rfl, by decide⟩
theorem lk_X1_122 : LkV RX1 122 mX1_endOfLine 1 2 := ⟨ml_X1_122, mfX1_endOfLine, rfl, by decide, rfl, by decide⟩
theorem lk_X1_125 : LkV RX1 125 mX1_keepsAt 1 1 := ⟨ml_X1_125, mfX1_keepsAt, rfl, by decide, rfl, by decide⟩
theorem lk_X1_128 : LkV RX1 128 mX1_linesTogether 1 1 := ⟨ml_X1_128, mfX1_linesTogether, rfl, by decide, rfl, by decide⟩
theorem lk_X1_131 : LkV RX1 131 mX1_turnPageFor 1 1 := ⟨ml_X1_131, mfX1_turnPageFor, rfl, by decide, rfl, by decide⟩
theorem lk_X1_135 : LkV RX1 135 mX1_placeLine 1 1 := ⟨ml_X1_135, mfX1_placeLine, rfl, by decide, rfl, by decide⟩
theorem lk_X1_62 : LkV RX1 62 mX1_readSigns 1 3 := ⟨ml_X1_62, mfX1_readSigns, rfl, by decide, rfl, by decide⟩
theorem lk_X1_66 : LkV RX1 66 mX1_breakLines 1 0 := ⟨ml_X1_66, mfX1_breakLines, rfl, by decide, rfl, by decide⟩
theorem lk_X1_69 : LkV RX1 69 mX1_fillPages 1 0 := ⟨ml_X1_69, mfX1_fillPages, rfl, by decide, rfl, by decide⟩
theorem lk_X1_72 : LkV RX1 72 mX1_lineNumber 1 1 := ⟨ml_X1_72, mfX1_lineNumber, rfl, by decide, rfl, by decide⟩
theorem lk_X1_76 : LkN RX1 76 mX9_cell 2 := ⟨ml_X1_76, mfX9_cell, rfl, by decide⟩
theorem lk_X1_80 : LkN RX1 80 mX9_setCell 3 := ⟨ml_X1_80, mfX9_setCell, rfl, by decide⟩
theorem lk_X1_84 : LkV RX1 84 mX7_allUnits 7 0 := ⟨ml_X1_84, mfX7_allUnits, rfl, by decide, rfl, by decide⟩
theorem lk_X1_90 : LkV RX1 90 mX7_isSeen 7 1 := ⟨ml_X1_90, mfX7_isSeen, rfl, by decide, rfl, by decide⟩
theorem lk_X1_94 : LkV RX1 94 mX7_fact 7 2 := ⟨ml_X1_94, mfX7_fact, rfl, by decide, rfl, by decide⟩
theorem lk_X1_98 : LkV RX1 98 mX8_keepsWithNext 8 1 := ⟨ml_X1_98, mfX8_keepsWithNext, rfl, by decide, rfl, by decide⟩
theorem lk_X2_31 : LkV RX2 31 mX2_isFull 2 0 := ⟨ml_X2_31, mfX2_isFull, rfl, by decide, rfl, by decide⟩
theorem lk_X2_35 : LkN RX2 35 mX9_setCell 3 := ⟨ml_X2_35, mfX9_setCell, rfl, by decide⟩
theorem lk_X2_39 : LkN RX2 39 mX9_cell 2 := ⟨ml_X2_39, mfX9_cell, rfl, by decide⟩
theorem lk_X2_43 : LkN RX2 43 mX9_isWithin 2 := ⟨ml_X2_43, mfX9_isWithin, rfl, by decide⟩
theorem lk_X2_47 : LkV RX2 47 mX2_state 2 1 := ⟨ml_X2_47, mfX2_state, rfl, by decide, rfl, by decide⟩
theorem lk_X2_51 : LkV RX2 51 mX2_author 2 1 := ⟨ml_X2_51, mfX2_author, rfl, by decide, rfl, by decide⟩
theorem lk_X3_30 : LkN RX3 30 mX9_cell 2 := ⟨ml_X3_30, mfX9_cell, rfl, by decide⟩
theorem lk_X3_34 : LkN RX3 34 mX9_setCell 3 := ⟨ml_X3_34, mfX9_setCell, rfl, by decide⟩
theorem lk_X3_38 : LkN RX3 38 mX9_isWithin 2 := ⟨ml_X3_38, mfX9_isWithin, rfl, by decide⟩
theorem lk_X3_44 : LkV RX3 44 mX7_fact 7 2 := ⟨ml_X3_44, mfX7_fact, rfl, by decide, rfl, by decide⟩
theorem lk_X3_48 : LkV RX3 48 mX3_countTo 3 2 := ⟨ml_X3_48, mfX3_countTo, rfl, by decide, rfl, by decide⟩
theorem lk_X3_52 : LkV RX3 52 mX7_isSeenEnd 7 1 := ⟨ml_X3_52, mfX7_isSeenEnd, rfl, by decide, rfl, by decide⟩
theorem lk_X3_56 : LkV RX3 56 mX3_countOne 3 2 := ⟨ml_X3_56, mfX3_countOne, rfl, by decide, rfl, by decide⟩
theorem lk_X3_60 : LkV RX3 60 mX3_addSign 3 1 := ⟨ml_X3_60, mfX3_addSign, rfl, by decide, rfl, by decide⟩
theorem lk_X3_69 : LkV RX3 69 mX3_addNumber 3 3 := ⟨ml_X3_69, mfX3_addNumber, rfl, by decide, rfl, by decide⟩
theorem lk_X3_73 : LkV RX3 73 mX3_addLetters 3 1 := ⟨ml_X3_73, mfX3_addLetters, rfl, by decide, rfl, by decide⟩
theorem lk_X3_77 : LkV RX3 77 mX3_addRoman 3 1 := ⟨ml_X3_77, mfX3_addRoman, rfl, by decide, rfl, by decide⟩
theorem lk_X3_80 : LkV RX3 80 mX3_addDigits 3 1 := ⟨ml_X3_80, mfX3_addDigits, rfl, by decide, rfl, by decide⟩
theorem lk_X3_83 : LkV RX3 83 mX3_addRomanDigit 3 4 := ⟨ml_X3_83, mfX3_addRomanDigit, rfl, by decide, rfl, by decide⟩
theorem lk_X4_102 : LkV RX4 102 mX7_releaseAll 7 2 := ⟨ml_X4_102, mfX7_releaseAll, rfl, by decide, rfl, by decide⟩
theorem lk_X4_106 : LkV RX4 106 mX7_dropAll 7 2 := ⟨ml_X4_106, mfX7_dropAll, rfl, by decide, rfl, by decide⟩
theorem lk_X4_109 : LkV RX4 109 mX2_many 2 0 := ⟨ml_X4_109, mfX2_many, rfl, by decide, rfl, by decide⟩
theorem lk_X4_11 : LkI RX4 11 mX7_init 0 := ⟨ml_X4_11, mfX7_init, rfl, by decide, rfl⟩
theorem lk_X4_113 : LkV RX4 113 mX2_state 2 1 := ⟨ml_X4_113, mfX2_state, rfl, by decide, rfl, by decide⟩
theorem lk_X4_116 : LkV RX4 116 mX2_author 2 1 := ⟨ml_X4_116, mfX2_author, rfl, by decide, rfl, by decide⟩
theorem lk_X4_20 : LkJ RX4 20 mX2_init 0 := ⟨ml_X4_20, mfX2_init, rfl, by decide, rfl⟩
theorem lk_X4_29 : LkV RX4 29 mX7_takeRow 7 1 := ⟨ml_X4_29, mfX7_takeRow, rfl, by decide, rfl, by decide⟩
theorem lk_X4_33 : LkV RX4 33 mX2_takeLog 2 1 := ⟨ml_X4_33, mfX2_takeLog, rfl, by decide, rfl, by decide⟩
theorem lk_X4_43 : LkN RX4 43 mX9_cell 2 := ⟨ml_X4_43, mfX9_cell, rfl, by decide⟩
theorem lk_X4_47 : LkV RX4 47 mX7_fact 7 2 := ⟨ml_X4_47, mfX7_fact, rfl, by decide, rfl, by decide⟩
theorem lk_X4_51 : LkV RX4 51 mX2_isWaitingOf 2 2 := ⟨ml_X4_51, mfX2_isWaitingOf, rfl, by decide, rfl, by decide⟩
theorem lk_X4_55 : LkV RX4 55 mX7_isSeen 7 1 := ⟨ml_X4_55, mfX7_isSeen, rfl, by decide, rfl, by decide⟩
theorem lk_X4_59 : LkV RX4 59 mX4_isOwn 4 2 := ⟨ml_X4_59, mfX4_isOwn, rfl, by decide, rfl, by decide⟩
theorem lk_X4_62 : LkV RX4 62 mX4_hasOthers 4 3 := ⟨ml_X4_62, mfX4_hasOthers, rfl, by decide, rfl, by decide⟩
theorem lk_X4_66 : LkV RX4 66 mX2_enroll 2 2 := ⟨ml_X4_66, mfX2_enroll, rfl, by decide, rfl, by decide⟩
theorem lk_X4_70 : LkV RX4 70 mX7_drop 7 1 := ⟨ml_X4_70, mfX7_drop, rfl, by decide, rfl, by decide⟩
theorem lk_X4_74 : LkV RX4 74 mX7_setFact 7 3 := ⟨ml_X4_74, mfX7_setFact, rfl, by decide, rfl, by decide⟩
theorem lk_X4_78 : LkV RX4 78 mX4_settle 4 2 := ⟨ml_X4_78, mfX4_settle, rfl, by decide, rfl, by decide⟩
theorem lk_X4_82 : LkV RX4 82 mX7_concerned 7 1 := ⟨ml_X4_82, mfX7_concerned, rfl, by decide, rfl, by decide⟩
theorem lk_X4_86 : LkV RX4 86 mX2_kind 2 1 := ⟨ml_X4_86, mfX2_kind, rfl, by decide, rfl, by decide⟩
theorem lk_X4_90 : LkV RX4 90 mX4_settleUnits 4 3 := ⟨ml_X4_90, mfX4_settleUnits, rfl, by decide, rfl, by decide⟩
theorem lk_X4_94 : LkV RX4 94 mX7_settleStyle 7 2 := ⟨ml_X4_94, mfX7_settleStyle, rfl, by decide, rfl, by decide⟩
theorem lk_X4_98 : LkV RX4 98 mX2_setState 2 2 := ⟨ml_X4_98, mfX2_setState, rfl, by decide, rfl, by decide⟩
theorem lk_X5_24 : LkJ RX5 24 mX4_init 0 := ⟨ml_X5_24, mfX4_init, rfl, by decide, rfl⟩
theorem lk_X5_25 : LkN RX5 25 mX9_isWithin 2 := ⟨ml_X5_25, mfX9_isWithin, rfl, by decide⟩
theorem lk_X5_29 : LkV RX5 29 mX5_now 5 0 := ⟨ml_X5_29, mfX5_now, rfl, by decide, rfl, by decide⟩
theorem lk_X5_33 : LkV RX5 33 mX5_forgetFirst 5 0 := ⟨ml_X5_33, mfX5_forgetFirst, rfl, by decide, rfl, by decide⟩
theorem lk_X5_36 : LkV RX5 36 mX4_takeFrom 4 1 := ⟨ml_X5_36, mfX4_takeFrom, rfl, by decide, rfl, by decide⟩
theorem lk_X6_19 : LkN RX6 19 mX9_cell 2 := ⟨ml_X6_19, mfX9_cell, rfl, by decide⟩
theorem lk_X6_23 : LkV RX6 23 mX6_value 6 2 := ⟨ml_X6_23, mfX6_value, rfl, by decide, rfl, by decide⟩
theorem lk_X6_27 : LkN RX6 27 mX9_setCell 3 := ⟨ml_X6_27, mfX9_setCell, rfl, by decide⟩
theorem lk_X7_31 : LkV RX7 31 mX7_fact 7 2 := ⟨ml_X7_31, mfX7_fact, rfl, by decide, rfl, by decide⟩
theorem lk_X7_35 : LkV RX7 35 mX7_isSeen 7 1 := ⟨ml_X7_35, mfX7_isSeen, rfl, by decide, rfl, by decide⟩
theorem lk_X7_39 : LkV RX7 39 mX7_isOld 7 1 := ⟨ml_X7_39, mfX7_isOld, rfl, by decide, rfl, by decide⟩
theorem lk_X7_42 : LkV RX7 42 mX7_isSeenEnd 7 1 := ⟨ml_X7_42, mfX7_isSeenEnd, rfl, by decide, rfl, by decide⟩
theorem lk_X7_45 : LkV RX7 45 mX7_indexOfEnd 7 1 := ⟨ml_X7_45, mfX7_indexOfEnd, rfl, by decide, rfl, by decide⟩
theorem lk_X7_49 : LkV RX7 49 mX7_placeOf 7 1 := ⟨ml_X7_49, mfX7_placeOf, rfl, by decide, rfl, by decide⟩
theorem lk_X7_52 : LkV RX7 52 mX7_endsAhead 7 1 := ⟨ml_X7_52, mfX7_endsAhead, rfl, by decide, rfl, by decide⟩
theorem lk_X7_55 : LkV RX7 55 mX7_endFrom 7 1 := ⟨ml_X7_55, mfX7_endFrom, rfl, by decide, rfl, by decide⟩
theorem lk_X7_58 : LkV RX7 58 mX7_makeRoom 7 1 := ⟨ml_X7_58, mfX7_makeRoom, rfl, by decide, rfl, by decide⟩
theorem lk_X7_62 : LkV RX7 62 mX7_setFact 7 3 := ⟨ml_X7_62, mfX7_setFact, rfl, by decide, rfl, by decide⟩
theorem lk_X7_66 : LkV RX7 66 mX7_drop 7 1 := ⟨ml_X7_66, mfX7_drop, rfl, by decide, rfl, by decide⟩
theorem lk_X7_69 : LkN RX7 69 mX9_setCell 3 := ⟨ml_X7_69, mfX9_setCell, rfl, by decide⟩
theorem lk_X7_73 : LkN RX7 73 mX9_cell 2 := ⟨ml_X7_73, mfX9_cell, rfl, by decide⟩
theorem lk_X7_77 : LkV RX7 77 mX7_bookmarkBegin 7 1 := ⟨ml_X7_77, mfX7_bookmarkBegin, rfl, by decide, rfl, by decide⟩
theorem lk_X7_80 : LkV RX7 80 mX7_hasBookmark 7 1 := ⟨ml_X7_80, mfX7_hasBookmark, rfl, by decide, rfl, by decide⟩
theorem lk_X7_83 : LkV RX7 83 mX7_bookmarkEnd 7 1 := ⟨ml_X7_83, mfX7_bookmarkEnd, rfl, by decide, rfl, by decide⟩
theorem lk_X8_25 : LkN RX8 25 mX9_isWithin 2 := ⟨ml_X8_25, mfX9_isWithin, rfl, by decide⟩
theorem lk_X8_29 : LkN RX8 29 mX9_setCell 3 := ⟨ml_X8_29, mfX9_setCell, rfl, by decide⟩
theorem lk_X8_33 : LkN RX8 33 mX9_cell 2 := ⟨ml_X8_33, mfX9_cell, rfl, by decide⟩
theorem lk_X9_108 : LkV RX9 108 mX0_enroll 0 2 := ⟨ml_X9_108, mfX0_enroll, rfl, by decide, rfl, by decide⟩
theorem lk_X9_114 : LkV RX9 114 mX5_now 5 0 := ⟨ml_X9_114, mfX5_now, rfl, by decide, rfl, by decide⟩
theorem lk_X9_122 : LkV RX9 122 mX2_isFull 2 0 := ⟨ml_X9_122, mfX2_isFull, rfl, by decide, rfl, by decide⟩
theorem lk_X9_125 : LkV RX9 125 mX4_hasOthers 4 3 := ⟨ml_X9_125, mfX4_hasOthers, rfl, by decide, rfl, by decide⟩
theorem lk_X9_135 : LkV RX9 135 mX7_isGuarded 7 2 := ⟨ml_X9_135, mfX7_isGuarded, rfl, by decide, rfl, by decide⟩
theorem lk_X9_146 : LkV RX9 146 mX5_begin 5 0 := ⟨ml_X9_146, mfX5_begin, rfl, by decide, rfl, by decide⟩
theorem lk_X9_149 : LkV RX9 149 mX4_strike 4 3 := ⟨ml_X9_149, mfX4_strike, rfl, by decide, rfl, by decide⟩
theorem lk_X9_15 : LkI RX9 15 mX5_init 0 := ⟨ml_X9_15, mfX5_init, rfl, by decide, rfl⟩
theorem lk_X9_153 : LkV RX9 153 mX7_dropSeen 7 2 := ⟨ml_X9_153, mfX7_dropSeen, rfl, by decide, rfl, by decide⟩
theorem lk_X9_156 : LkV RX9 156 mX9_endOfParagraph 9 1 := ⟨ml_X9_156, mfX9_endOfParagraph, rfl, by decide, rfl, by decide⟩
theorem lk_X9_159 : LkV RX9 159 mX8_has 8 1 := ⟨ml_X9_159, mfX8_has, rfl, by decide, rfl, by decide⟩
theorem lk_X9_168 : LkV RX9 168 mX7_fact 7 2 := ⟨ml_X9_168, mfX7_fact, rfl, by decide, rfl, by decide⟩
theorem lk_X9_172 : LkV RX9 172 mX9_checkUnguarded 9 1 := ⟨ml_X9_172, mfX9_checkUnguarded, rfl, by decide, rfl, by decide⟩
theorem lk_X9_175 : LkV RX9 175 mX4_restyle 4 3 := ⟨ml_X9_175, mfX4_restyle, rfl, by decide, rfl, by decide⟩
theorem lk_X9_178 : LkV RX9 178 mX4_restyleAtOnce 4 2 := ⟨ml_X9_178, mfX4_restyleAtOnce, rfl, by decide, rfl, by decide⟩
theorem lk_X9_181 : LkV RX9 181 mX7_setFact 7 3 := ⟨ml_X9_181, mfX7_setFact, rfl, by decide, rfl, by decide⟩
theorem lk_X9_185 : LkV RX9 185 mX5_canGoBack 5 0 := ⟨ml_X9_185, mfX5_canGoBack, rfl, by decide, rfl, by decide⟩
theorem lk_X9_193 : LkV RX9 193 mX5_goBack 5 0 := ⟨ml_X9_193, mfX5_goBack, rfl, by decide, rfl, by decide⟩
theorem lk_X9_197 : LkV RX9 197 mX5_canGoOn 5 0 := ⟨ml_X9_197, mfX5_canGoOn, rfl, by decide, rfl, by decide⟩
theorem lk_X9_202 : LkV RX9 202 mX5_goOn 5 0 := ⟨ml_X9_202, mfX5_goOn, rfl, by decide, rfl, by decide⟩
theorem lk_X9_205 : LkV RX9 205 mX7_seenUnits 7 0 := ⟨ml_X9_205, mfX7_seenUnits, rfl, by decide, rfl, by decide⟩
theorem lk_X9_208 : LkV RX9 208 mX9_indexOfUnit 9 1 := ⟨ml_X9_208, mfX9_indexOfUnit, rfl, by decide, rfl, by decide⟩
theorem lk_X9_211 : LkV RX9 211 mX7_oldUnits 7 0 := ⟨ml_X9_211, mfX7_oldUnits, rfl, by decide, rfl, by decide⟩
theorem lk_X9_214 : LkV RX9 214 mX7_indexOfOld 7 1 := ⟨ml_X9_214, mfX7_indexOfOld, rfl, by decide, rfl, by decide⟩
theorem lk_X9_219 : LkV RX9 219 mX7_seenParagraphs 7 0 := ⟨ml_X9_219, mfX7_seenParagraphs, rfl, by decide, rfl, by decide⟩
theorem lk_X9_22 : LkJ RX9 22 mX4_init 0 := ⟨ml_X9_22, mfX4_init, rfl, by decide, rfl⟩
theorem lk_X9_222 : LkV RX9 222 mX7_endsAhead 7 1 := ⟨ml_X9_222, mfX7_endsAhead, rfl, by decide, rfl, by decide⟩
theorem lk_X9_225 : LkV RX9 225 mX7_placeOfParagraph 7 1 := ⟨ml_X9_225, mfX7_placeOfParagraph, rfl, by decide, rfl, by decide⟩
theorem lk_X9_228 : LkV RX9 228 mX2_many 2 0 := ⟨ml_X9_228, mfX2_many, rfl, by decide, rfl, by decide⟩
theorem lk_X9_231 : LkV RX9 231 mX9_checkChange 9 1 := ⟨ml_X9_231, mfX9_checkChange, rfl, by decide, rfl, by decide⟩
theorem lk_X9_234 : LkV RX9 234 mX2_kind 2 1 := ⟨ml_X9_234, mfX2_kind, rfl, by decide, rfl, by decide⟩
theorem lk_X9_238 : LkV RX9 238 mX2_author 2 1 := ⟨ml_X9_238, mfX2_author, rfl, by decide, rfl, by decide⟩
theorem lk_X9_241 : LkV RX9 241 mX2_state 2 1 := ⟨ml_X9_241, mfX2_state, rfl, by decide, rfl, by decide⟩
theorem lk_X9_244 : LkV RX9 244 mX7_concerned 7 1 := ⟨ml_X9_244, mfX7_concerned, rfl, by decide, rfl, by decide⟩
theorem lk_X9_249 : LkV RX9 249 mX9_checkWaiting 9 1 := ⟨ml_X9_249, mfX9_checkWaiting, rfl, by decide, rfl, by decide⟩
theorem lk_X9_252 : LkV RX9 252 mX4_settle 4 2 := ⟨ml_X9_252, mfX4_settle, rfl, by decide, rfl, by decide⟩
theorem lk_X9_256 : LkV RX9 256 mX4_settleAll 4 2 := ⟨ml_X9_256, mfX4_settleAll, rfl, by decide, rfl, by decide⟩
theorem lk_X9_261 : LkV RX9 261 mX8_isFull 8 0 := ⟨ml_X9_261, mfX8_isFull, rfl, by decide, rfl, by decide⟩
theorem lk_X9_264 : LkV RX9 264 mX8_enroll 8 3 := ⟨ml_X9_264, mfX8_enroll, rfl, by decide, rfl, by decide⟩
theorem lk_X9_267 : LkV RX9 267 mX8_turnsBold 8 1 := ⟨ml_X9_267, mfX8_turnsBold, rfl, by decide, rfl, by decide⟩
theorem lk_X9_270 : LkS RX9 270 mX9_isWithin 2 := ⟨ml_X9_270, mfX9_isWithin, rfl, by decide⟩
theorem lk_X9_277 : LkV RX9 277 mX3_swapKind 3 3 := ⟨ml_X9_277, mfX3_swapKind, rfl, by decide, rfl, by decide⟩
theorem lk_X9_283 : LkV RX9 283 mX3_swapLegal 3 2 := ⟨ml_X9_283, mfX3_swapLegal, rfl, by decide, rfl, by decide⟩
theorem lk_X9_287 : LkV RX9 287 mX3_ownNumber 3 2 := ⟨ml_X9_287, mfX3_ownNumber, rfl, by decide, rfl, by decide⟩
theorem lk_X9_29 : LkI RX9 29 mX8_init 0 := ⟨ml_X9_29, mfX8_init, rfl, by decide, rfl⟩
theorem lk_X9_293 : LkV RX9 293 mX3_writeLine 3 2 := ⟨ml_X9_293, mfX3_writeLine, rfl, by decide, rfl, by decide⟩
theorem lk_X9_296 : LkV RX9 296 mX3_lineLength 3 0 := ⟨ml_X9_296, mfX3_lineLength, rfl, by decide, rfl, by decide⟩
theorem lk_X9_301 : LkV RX9 301 mX3_lineSign 3 1 := ⟨ml_X9_301, mfX3_lineSign, rfl, by decide, rfl, by decide⟩
theorem lk_X9_304 : LkS RX9 304 mX9_checkBookmark 1 := ⟨ml_X9_304, mfX9_checkBookmark, rfl, by decide⟩
theorem lk_X9_309 : LkV RX9 309 mX7_putBookmark 7 3 := ⟨ml_X9_309, mfX7_putBookmark, rfl, by decide, rfl, by decide⟩
theorem lk_X9_312 : LkV RX9 312 mX9_checkSetBookmark 9 1 := ⟨ml_X9_312, mfX9_checkSetBookmark, rfl, by decide, rfl, by decide⟩
theorem lk_X9_315 : LkV RX9 315 mX7_bookmarkBegin 7 1 := ⟨ml_X9_315, mfX7_bookmarkBegin, rfl, by decide, rfl, by decide⟩
theorem lk_X9_318 : LkV RX9 318 mX7_bookmarkEnd 7 1 := ⟨ml_X9_318, mfX7_bookmarkEnd, rfl, by decide, rfl, by decide⟩
theorem lk_X9_321 : LkV RX9 321 mX9_checkField 9 1 := ⟨ml_X9_321, mfX9_checkField, rfl, by decide, rfl, by decide⟩
theorem lk_X9_324 : LkV RX9 324 mX0_swapLocked 0 2 := ⟨ml_X9_324, mfX0_swapLocked, rfl, by decide, rfl, by decide⟩
theorem lk_X9_327 : LkV RX9 327 mX4_found 4 1 := ⟨ml_X9_327, mfX4_found, rfl, by decide, rfl, by decide⟩
theorem lk_X9_330 : LkV RX9 330 mX6_chosenOne 6 0 := ⟨ml_X9_330, mfX6_chosenOne, rfl, by decide, rfl, by decide⟩
theorem lk_X9_333 : LkV RX9 333 mX9_workOut 9 1 := ⟨ml_X9_333, mfX9_workOut, rfl, by decide, rfl, by decide⟩
theorem lk_X9_338 : LkV RX9 338 mX6_swap 6 3 := ⟨ml_X9_338, mfX6_swap, rfl, by decide, rfl, by decide⟩
theorem lk_X9_343 : LkV RX9 343 mX6_swapChosen 6 1 := ⟨ml_X9_343, mfX6_swapChosen, rfl, by decide, rfl, by decide⟩
theorem lk_X9_351 : LkV RX9 351 mX6_value 6 2 := ⟨ml_X9_351, mfX6_value, rfl, by decide, rfl, by decide⟩
theorem lk_X9_36 : LkI RX9 36 mX3_init 0 := ⟨ml_X9_36, mfX3_init, rfl, by decide, rfl⟩
theorem lk_X9_360 : LkV RX9 360 mX9_pages 9 0 := ⟨ml_X9_360, mfX9_pages, rfl, by decide, rfl, by decide⟩
theorem lk_X9_363 : LkV RX9 363 mX1_swapSize 1 2 := ⟨ml_X9_363, mfX1_swapSize, rfl, by decide, rfl, by decide⟩
theorem lk_X9_366 : LkV RX9 366 mX9_arrange 9 0 := ⟨ml_X9_366, mfX9_arrange, rfl, by decide, rfl, by decide⟩
theorem lk_X9_369 : LkV RX9 369 mX1_manyPages 1 0 := ⟨ml_X9_369, mfX1_manyPages, rfl, by decide, rfl, by decide⟩
theorem lk_X9_372 : LkV RX9 372 mX1_pageAt 1 1 := ⟨ml_X9_372, mfX1_pageAt, rfl, by decide, rfl, by decide⟩
theorem lk_X9_375 : LkV RX9 375 mX1_lineAtPlace 1 1 := ⟨ml_X9_375, mfX1_lineAtPlace, rfl, by decide, rfl, by decide⟩
theorem lk_X9_378 : LkV RX9 378 mX7_allUnits 7 0 := ⟨ml_X9_378, mfX7_allUnits, rfl, by decide, rfl, by decide⟩
theorem lk_X9_386 : LkV RX9 386 mX7_waitingUnits 7 0 := ⟨ml_X9_386, mfX7_waitingUnits, rfl, by decide, rfl, by decide⟩
theorem lk_X9_389 : LkV RX9 389 mX9_waitingShare 9 0 := ⟨ml_X9_389, mfX9_waitingShare, rfl, by decide, rfl, by decide⟩
theorem lk_X9_393 : LkS RX9 393 mX9_bitsOfShare 1 := ⟨ml_X9_393, mfX9_bitsOfShare, rfl, by decide⟩
theorem lk_X9_397 : LkV RX9 397 mX9_meanParagraph 9 0 := ⟨ml_X9_397, mfX9_meanParagraph, rfl, by decide, rfl, by decide⟩
theorem lk_X9_401 : LkS RX9 401 mX9_bitsOfMean 1 := ⟨ml_X9_401, mfX9_bitsOfMean, rfl, by decide⟩
theorem lk_X9_405 : LkV RX9 405 mX9_isJudgedSoundly 9 2 := ⟨ml_X9_405, mfX9_isJudgedSoundly, rfl, by decide, rfl, by decide⟩
theorem lk_X9_409 : LkV RX9 409 mX2_isAuthored 2 0 := ⟨ml_X9_409, mfX2_isAuthored, rfl, by decide, rfl, by decide⟩
theorem lk_X9_412 : LkV RX9 412 mX7_areBookmarksOrdered 7 0 := ⟨ml_X9_412, mfX7_areBookmarksOrdered, rfl, by decide, rfl, by decide⟩
theorem lk_X9_415 : LkV RX9 415 mX9_isEachPlaceOnPage 9 0 := ⟨ml_X9_415, mfX9_isEachPlaceOnPage, rfl, by decide, rfl, by decide⟩
theorem lk_X9_422 : LkV RX9 422 mX7_hasBookmark 7 1 := ⟨ml_X9_422, mfX7_hasBookmark, rfl, by decide, rfl, by decide⟩
theorem lk_X9_427 : LkV RX9 427 mX0_has 0 1 := ⟨ml_X9_427, mfX0_has, rfl, by decide, rfl, by decide⟩
theorem lk_X9_43 : LkJ RX9 43 mX0_init 0 := ⟨ml_X9_43, mfX0_init, rfl, by decide, rfl⟩
theorem lk_X9_438 : LkV RX9 438 mX4_changeAhead 4 2 := ⟨ml_X9_438, mfX4_changeAhead, rfl, by decide, rfl, by decide⟩
theorem lk_X9_441 : LkV RX9 441 mX7_endFrom 7 1 := ⟨ml_X9_441, mfX7_endFrom, rfl, by decide, rfl, by decide⟩
theorem lk_X9_444 : LkV RX9 444 mX7_indexOf 7 1 := ⟨ml_X9_444, mfX7_indexOf, rfl, by decide, rfl, by decide⟩
theorem lk_X9_449 : LkV RX9 449 mX7_indexOfEnd 7 1 := ⟨ml_X9_449, mfX7_indexOfEnd, rfl, by decide, rfl, by decide⟩
theorem lk_X9_454 : LkV RX9 454 mX2_enroll 2 2 := ⟨ml_X9_454, mfX2_enroll, rfl, by decide, rfl, by decide⟩
theorem lk_X9_455 : LkV RX9 455 mX7_putUnit 7 4 := ⟨ml_X9_455, mfX7_putUnit, rfl, by decide, rfl, by decide⟩
theorem lk_X9_459 : LkV RX9 459 mX1_layOut 1 3 := ⟨ml_X9_459, mfX1_layOut, rfl, by decide, rfl, by decide⟩
theorem lk_X9_463 : LkV RX9 463 mX9_workRound 9 1 := ⟨ml_X9_463, mfX9_workRound, rfl, by decide, rfl, by decide⟩
theorem lk_X9_466 : LkV RX9 466 mX0_isHeld 0 1 := ⟨ml_X9_466, mfX0_isHeld, rfl, by decide, rfl, by decide⟩
theorem lk_X9_469 : LkV RX9 469 mX9_resultNow 9 3 := ⟨ml_X9_469, mfX9_resultNow, rfl, by decide, rfl, by decide⟩
theorem lk_X9_473 : LkS RX9 473 mX9_setCell 3 := ⟨ml_X9_473, mfX9_setCell, rfl, by decide⟩
theorem lk_X9_477 : LkV RX9 477 mX0_kind 0 1 := ⟨ml_X9_477, mfX0_kind, rfl, by decide, rfl, by decide⟩
theorem lk_X9_478 : LkV RX9 478 mX0_of 0 1 := ⟨ml_X9_478, mfX0_of, rfl, by decide, rfl, by decide⟩
theorem lk_X9_488 : LkV RX9 488 mX4_takeFrom 4 1 := ⟨ml_X9_488, mfX4_takeFrom, rfl, by decide, rfl, by decide⟩
theorem lk_X9_492 : LkV RX9 492 mX7_isTextOf 7 2 := ⟨ml_X9_492, mfX7_isTextOf, rfl, by decide, rfl, by decide⟩
theorem lk_X9_50 : LkJ RX9 50 mX6_init 0 := ⟨ml_X9_50, mfX6_init, rfl, by decide, rfl⟩
theorem lk_X9_57 : LkJ RX9 57 mX1_init 0 := ⟨ml_X9_57, mfX1_init, rfl, by decide, rfl⟩
theorem lk_X9_66 : LkS RX9 66 mX9_checkAuthor 1 := ⟨ml_X9_66, mfX9_checkAuthor, rfl, by decide⟩
theorem lk_X9_70 : LkV RX9 70 mX9_indexOfPlace 9 1 := ⟨ml_X9_70, mfX9_indexOfPlace, rfl, by decide, rfl, by decide⟩
theorem lk_X9_74 : LkS RX9 74 mX9_isLetter 1 := ⟨ml_X9_74, mfX9_isLetter, rfl, by decide⟩
theorem lk_X9_85 : LkV RX9 85 mX9_checkWriting 9 2 := ⟨ml_X9_85, mfX9_checkWriting, rfl, by decide, rfl, by decide⟩
theorem lk_X9_89 : LkV RX9 89 mX9_write 9 4 := ⟨ml_X9_89, mfX9_write, rfl, by decide, rfl, by decide⟩
theorem lk_X9_93 : LkS RX9 93 mX9_isFieldKind 2 := ⟨ml_X9_93, mfX9_isFieldKind, rfl, by decide⟩
theorem lk_X9_99 : LkV RX9 99 mX0_isFull 0 0 := ⟨ml_X9_99, mfX0_isFull, rfl, by decide, rfl, by decide⟩
theorem fp_X9_7 : FLP RX9 7 9 0 := ⟨by decide, by decide, inL 340 (by decide +kernel) (by decide +kernel)⟩
theorem fp_X9_16 : FLP RX9 16 9 1 := ⟨by decide, by decide, inL 341 (by decide +kernel) (by decide +kernel)⟩
theorem fp_X9_23 : FLP RX9 23 9 2 := ⟨by decide, by decide, inL 342 (by decide +kernel) (by decide +kernel)⟩
theorem fp_X9_30 : FLP RX9 30 9 3 := ⟨by decide, by decide, inL 343 (by decide +kernel) (by decide +kernel)⟩
theorem fp_X9_37 : FLP RX9 37 9 4 := ⟨by decide, by decide, inL 344 (by decide +kernel) (by decide +kernel)⟩
theorem fp_X9_44 : FLP RX9 44 9 5 := ⟨by decide, by decide, inL 345 (by decide +kernel) (by decide +kernel)⟩
theorem fp_X9_51 : FLP RX9 51 9 6 := ⟨by decide, by decide, inL 346 (by decide +kernel) (by decide +kernel)⟩
theorem fp_X9_58 : FLP RX9 58 9 7 := ⟨by decide, by decide, inL 347 (by decide +kernel) (by decide +kernel)⟩
theorem fp_X9_62 : FLP RX9 62 9 8 := ⟨by decide, by decide, inL 348 (by decide +kernel) (by decide +kernel)⟩
theorem fp_X0_9 : FLP RX0 9 0 0 := ⟨by decide, by decide, inL 259 (by decide +kernel) (by decide +kernel)⟩
theorem fp_X0_15 : FLP RX0 15 0 1 := ⟨by decide, by decide, inL 260 (by decide +kernel) (by decide +kernel)⟩
theorem fp_X0_18 : FLP RX0 18 0 2 := ⟨by decide, by decide, inL 261 (by decide +kernel) (by decide +kernel)⟩
theorem fp_X0_22 : FLP RX0 22 0 3 := ⟨by decide, by decide, inL 262 (by decide +kernel) (by decide +kernel)⟩
theorem fp_X1_9 : FLP RX1 9 1 0 := ⟨by decide, by decide, inL 291 (by decide +kernel) (by decide +kernel)⟩
theorem fp_X1_15 : FLP RX1 15 1 1 := ⟨by decide, by decide, inL 292 (by decide +kernel) (by decide +kernel)⟩
theorem fp_X1_18 : FLP RX1 18 1 2 := ⟨by decide, by decide, inL 293 (by decide +kernel) (by decide +kernel)⟩
theorem fp_X1_22 : FLP RX1 22 1 3 := ⟨by decide, by decide, inL 294 (by decide +kernel) (by decide +kernel)⟩
theorem fp_X1_26 : FLP RX1 26 1 4 := ⟨by decide, by decide, inL 295 (by decide +kernel) (by decide +kernel)⟩
theorem fp_X1_29 : FLP RX1 29 1 5 := ⟨by decide, by decide, inL 296 (by decide +kernel) (by decide +kernel)⟩
theorem fp_X1_32 : FLP RX1 32 1 6 := ⟨by decide, by decide, inL 297 (by decide +kernel) (by decide +kernel)⟩
theorem fp_X1_35 : FLP RX1 35 1 7 := ⟨by decide, by decide, inL 298 (by decide +kernel) (by decide +kernel)⟩
theorem fp_X1_38 : FLP RX1 38 1 8 := ⟨by decide, by decide, inL 299 (by decide +kernel) (by decide +kernel)⟩
theorem fp_X1_41 : FLP RX1 41 1 9 := ⟨by decide, by decide, inL 300 (by decide +kernel) (by decide +kernel)⟩
theorem fp_X1_44 : FLP RX1 44 1 10 := ⟨by decide, by decide, inL 301 (by decide +kernel) (by decide +kernel)⟩
theorem fp_X1_47 : FLP RX1 47 1 11 := ⟨by decide, by decide, inL 302 (by decide +kernel) (by decide +kernel)⟩
theorem fp_X1_50 : FLP RX1 50 1 12 := ⟨by decide, by decide, inL 303 (by decide +kernel) (by decide +kernel)⟩
theorem fp_X1_53 : FLP RX1 53 1 13 := ⟨by decide, by decide, inL 304 (by decide +kernel) (by decide +kernel)⟩
theorem fp_X1_56 : FLP RX1 56 1 14 := ⟨by decide, by decide, inL 305 (by decide +kernel) (by decide +kernel)⟩
theorem fp_X1_59 : FLP RX1 59 1 15 := ⟨by decide, by decide, inL 306 (by decide +kernel) (by decide +kernel)⟩
theorem fp_X2_9 : FLP RX2 9 2 0 := ⟨by decide, by decide, inL 172 (by decide +kernel) (by decide +kernel)⟩
theorem fp_X2_15 : FLP RX2 15 2 1 := ⟨by decide, by decide, inL 173 (by decide +kernel) (by decide +kernel)⟩
theorem fp_X2_18 : FLP RX2 18 2 2 := ⟨by decide, by decide, inL 174 (by decide +kernel) (by decide +kernel)⟩
theorem fp_X2_21 : FLP RX2 21 2 3 := ⟨by decide, by decide, inL 175 (by decide +kernel) (by decide +kernel)⟩
theorem fp_X3_9 : FLP RX3 9 3 0 := ⟨by decide, by decide, inL 235 (by decide +kernel) (by decide +kernel)⟩
theorem fp_X3_15 : FLP RX3 15 3 1 := ⟨by decide, by decide, inL 236 (by decide +kernel) (by decide +kernel)⟩
theorem fp_X3_19 : FLP RX3 19 3 2 := ⟨by decide, by decide, inL 237 (by decide +kernel) (by decide +kernel)⟩
theorem fp_X3_22 : FLP RX3 22 3 3 := ⟨by decide, by decide, inL 238 (by decide +kernel) (by decide +kernel)⟩
theorem fp_X3_26 : FLP RX3 26 3 4 := ⟨by decide, by decide, inL 239 (by decide +kernel) (by decide +kernel)⟩
theorem fp_X4_12 : FLP RX4 12 4 0 := ⟨by decide, by decide, inL 185 (by decide +kernel) (by decide +kernel)⟩
theorem fp_X4_21 : FLP RX4 21 4 1 := ⟨by decide, by decide, inL 187 (by decide +kernel) (by decide +kernel)⟩
theorem fp_X4_25 : FLP RX4 25 4 2 := ⟨by decide, by decide, inL 189 (by decide +kernel) (by decide +kernel)⟩
theorem fp_X5_11 : FLP RX5 11 5 0 := ⟨by decide, by decide, inL 198 (by decide +kernel) (by decide +kernel)⟩
theorem fp_X5_17 : FLP RX5 17 5 1 := ⟨by decide, by decide, inL 199 (by decide +kernel) (by decide +kernel)⟩
theorem fp_X5_21 : FLP RX5 21 5 2 := ⟨by decide, by decide, inL 200 (by decide +kernel) (by decide +kernel)⟩
theorem fp_X6_9 : FLP RX6 9 6 0 := ⟨by decide, by decide, inL 278 (by decide +kernel) (by decide +kernel)⟩
theorem fp_X6_15 : FLP RX6 15 6 1 := ⟨by decide, by decide, inL 279 (by decide +kernel) (by decide +kernel)⟩
theorem fp_X7_11 : FLP RX7 11 7 0 := ⟨by decide, by decide, inL 152 (by decide +kernel) (by decide +kernel)⟩
theorem fp_X7_15 : FLP RX7 15 7 1 := ⟨by decide, by decide, inL 153 (by decide +kernel) (by decide +kernel)⟩
theorem fp_X7_18 : FLP RX7 18 7 2 := ⟨by decide, by decide, inL 154 (by decide +kernel) (by decide +kernel)⟩
theorem fp_X7_21 : FLP RX7 21 7 3 := ⟨by decide, by decide, inL 155 (by decide +kernel) (by decide +kernel)⟩
theorem fp_X8_9 : FLP RX8 9 8 0 := ⟨by decide, by decide, inL 216 (by decide +kernel) (by decide +kernel)⟩
theorem fp_X8_15 : FLP RX8 15 8 1 := ⟨by decide, by decide, inL 217 (by decide +kernel) (by decide +kernel)⟩
theorem fp_X8_18 : FLP RX8 18 8 2 := ⟨by decide, by decide, inL 218 (by decide +kernel) (by decide +kernel)⟩
theorem fp_X8_21 : FLP RX8 21 8 3 := ⟨by decide, by decide, inL 219 (by decide +kernel) (by decide +kernel)⟩
theorem fp_X10_7 : FLP RX10 7 10 1 := ⟨by decide, by decide, inL 1517 (by decide +kernel) (by decide +kernel)⟩
theorem fp_X10_13 : FLP RX10 13 10 2 := ⟨by decide, by decide, inL 1518 (by decide +kernel) (by decide +kernel)⟩
theorem fp_X10_16 : FLP RX10 16 10 3 := ⟨by decide, by decide, inL 1519 (by decide +kernel) (by decide +kernel)⟩
theorem fp_X10_19 : FLP RX10 19 10 6 := ⟨by decide, by decide, inL 1522 (by decide +kernel) (by decide +kernel)⟩
theorem fp_X10_23 : FLP RX10 23 10 7 := ⟨by decide, by decide, inL 1523 (by decide +kernel) (by decide +kernel)⟩
theorem fp_X10_27 : FLP RX10 27 10 8 := ⟨by decide, by decide, inL 1524 (by decide +kernel) (by decide +kernel)⟩
theorem fp_X10_30 : FLP RX10 30 10 9 := ⟨by decide, by decide, inL 1525 (by decide +kernel) (by decide +kernel)⟩
theorem fp_X10_34 : FLP RX10 34 10 10 := ⟨by decide, by decide, inL 1526 (by decide +kernel) (by decide +kernel)⟩
theorem fp_X10_37 : FLP RX10 37 10 11 := ⟨by decide, by decide, inL 1527 (by decide +kernel) (by decide +kernel)⟩
theorem fp_X10_41 : FLP RX10 41 10 12 := ⟨by decide, by decide, inL 1528 (by decide +kernel) (by decide +kernel)⟩
theorem fp_X10_44 : FLP RX10 44 10 14 := ⟨by decide, by decide, inL 1530 (by decide +kernel) (by decide +kernel)⟩
theorem fp_X10_47 : FLP RX10 47 10 15 := ⟨by decide, by decide, inL 1531 (by decide +kernel) (by decide +kernel)⟩
theorem fp_X10_50 : FLP RX10 50 10 16 := ⟨by decide, by decide, inL 1532 (by decide +kernel) (by decide +kernel)⟩
theorem fp_X10_53 : FLP RX10 53 10 17 := ⟨by decide, by decide, inL 1533 (by decide +kernel) (by decide +kernel)⟩
theorem fp_X10_56 : FLP RX10 56 10 19 := ⟨by decide, by decide, inL 1535 (by decide +kernel) (by decide +kernel)⟩
theorem fp_X10_59 : FLP RX10 59 10 20 := ⟨by decide, by decide, inL 1536 (by decide +kernel) (by decide +kernel)⟩
theorem fp_X10_62 : FLP RX10 62 10 22 := ⟨by decide, by decide, inL 1538 (by decide +kernel) (by decide +kernel)⟩
theorem fp_X10_65 : FLP RX10 65 10 23 := ⟨by decide, by decide, inL 1539 (by decide +kernel) (by decide +kernel)⟩
theorem fp_X10_68 : FLP RX10 68 10 24 := ⟨by decide, by decide, inL 1540 (by decide +kernel) (by decide +kernel)⟩
theorem fp_X10_71 : FLP RX10 71 10 25 := ⟨by decide, by decide, inL 1541 (by decide +kernel) (by decide +kernel)⟩
theorem fp_X10_74 : FLP RX10 74 10 26 := ⟨by decide, by decide, inL 1542 (by decide +kernel) (by decide +kernel)⟩
theorem fp_X10_77 : FLP RX10 77 10 27 := ⟨by decide, by decide, inL 1543 (by decide +kernel) (by decide +kernel)⟩
theorem fp_X10_80 : FLP RX10 80 10 29 := ⟨by decide, by decide, inL 1545 (by decide +kernel) (by decide +kernel)⟩
theorem fp_X10_83 : FLP RX10 83 10 30 := ⟨by decide, by decide, inL 1546 (by decide +kernel) (by decide +kernel)⟩
theorem fp_X10_86 : FLP RX10 86 10 31 := ⟨by decide, by decide, inL 1547 (by decide +kernel) (by decide +kernel)⟩
theorem fp_X10_89 : FLP RX10 89 10 34 := ⟨by decide, by decide, inL 1550 (by decide +kernel) (by decide +kernel)⟩
theorem fp_X10_92 : FLP RX10 92 10 35 := ⟨by decide, by decide, inL 1551 (by decide +kernel) (by decide +kernel)⟩
theorem fp_X10_103 : FLP RX10 103 10 0 := ⟨by decide, by decide, inL 1516 (by decide +kernel) (by decide +kernel)⟩
theorem fp_X10_131 : FLP RX10 131 10 4 := ⟨by decide, by decide, inL 1520 (by decide +kernel) (by decide +kernel)⟩
theorem fp_X10_138 : FLP RX10 138 10 5 := ⟨by decide, by decide, inL 1521 (by decide +kernel) (by decide +kernel)⟩
theorem fp_X10_187 : FLP RX10 187 10 13 := ⟨by decide, by decide, inL 1529 (by decide +kernel) (by decide +kernel)⟩
theorem fp_X10_241 : FLP RX10 241 10 21 := ⟨by decide, by decide, inL 1537 (by decide +kernel) (by decide +kernel)⟩
theorem fp_X10_269 : FLP RX10 269 10 18 := ⟨by decide, by decide, inL 1534 (by decide +kernel) (by decide +kernel)⟩
theorem fp_X10_294 : FLP RX10 294 10 32 := ⟨by decide, by decide, inL 1548 (by decide +kernel) (by decide +kernel)⟩
theorem fp_X10_297 : FLP RX10 297 10 33 := ⟨by decide, by decide, inL 1549 (by decide +kernel) (by decide +kernel)⟩
theorem fp_X10_303 : FLP RX10 303 10 28 := ⟨by decide, by decide, inL 1544 (by decide +kernel) (by decide +kernel)⟩
section GoLinks
variable {xs : Nat → Int} {d : Nat} {m m' : MI} {b : Nat × Nat} {pc : Nat} {ls st : List MV} {σ : St} {out : MV × St}
def rets : MV → Bool
  | .inr (.inr (t, _)) => decide (t < 20)
  | _ => true
theorem rets_no {v : MV} (h : rets v = true) : ∀ i, v ≠ vT (20 + i) 0 := by
  intro i e
  subst e
  have : 20 + i < 20 := of_decide_eq_true h
  omega
theorem go_cV {d' mc ms n ix ci r : Nat} {as' stk : List MV} {v1 : MV} {σ1 : St} (hc : Con d' m' mc ms (vA r :: as') σ (v1, σ1)) (hk : LkV m.1.cls ix m' ci n) (hn : as'.length = n) (hg : Gam r = (10 + ci, 0)) (hd : At m pc (.invokevirtual ix) 3) (hno : rets v1 = true) (hd' : d' < d) (hs : stk = (vA r :: as').reverse ++ st) (hsum : (st.map cat).sum ≤ 8) (hns : (vA r :: as').all nos = true) (hbm : mc ≤ b.1 ∧ ms ≤ b.2)
    (K : Go xs d m (b.1 - mc, b.2 - ms) (pc + 3) ls (push v1 st) σ1 out) : Go xs d m b pc ls stk σ out := go_call (as := vA r :: as') (Or.inl ⟨ci, r, as', rfl, hn, hg, hk, hd⟩) hc (rets_no hno) hd' hs hsum hns hbm K
theorem go_tV {d' mc ms n ix ci r : Nat} {as' stk : List MV} (hc : Con d' m' mc ms (vA r :: as') σ out) (hk : LkV m.1.cls ix m' ci n) (hn : as'.length = n) (hg : Gam r = (10 + ci, 0)) (hd : At m pc (.invokevirtual ix) 3) {i : Nat} (hi : out.1 = vT (20 + i) 0) (hh : m.2.2.2.2.1 = []) (hd' : d' < d) (hs : stk = (vA r :: as').reverse ++ st) (hsum : (st.map cat).sum ≤ 8) (hns : (vA r :: as').all nos = true) (hbm : mc ≤ b.1 ∧ ms ≤ b.2) : Go xs d m b pc ls stk σ out := go_callT (as := vA r :: as') (Or.inl ⟨ci, r, as', rfl, hn, hg, hk, hd⟩) hc hi hh hd' hs hsum hns hbm
theorem go_cS {d' mc ms n ix : Nat} {as stk : List MV} {v1 : MV} {σ1 : St} (hc : Con d' m' mc ms as σ (v1, σ1)) (hk : LkS m.1.cls ix m' n) (hn : as.length = n) (hd : At m pc (.invokestatic ix) 3) (hno : rets v1 = true) (hd' : d' < d) (hs : stk = (as).reverse ++ st) (hsum : (st.map cat).sum ≤ 8) (hns : (as).all nos = true) (hbm : mc ≤ b.1 ∧ ms ≤ b.2)
    (K : Go xs d m (b.1 - mc, b.2 - ms) (pc + 3) ls (push v1 st) σ1 out) : Go xs d m b pc ls stk σ out := go_call (as := as) (Or.inr (Or.inl ⟨hn, hk, hd⟩)) hc (rets_no hno) hd' hs hsum hns hbm K
theorem go_tS {d' mc ms n ix : Nat} {as stk : List MV} (hc : Con d' m' mc ms as σ out) (hk : LkS m.1.cls ix m' n) (hn : as.length = n) (hd : At m pc (.invokestatic ix) 3) {i : Nat} (hi : out.1 = vT (20 + i) 0) (hh : m.2.2.2.2.1 = []) (hd' : d' < d) (hs : stk = (as).reverse ++ st) (hsum : (st.map cat).sum ≤ 8) (hns : (as).all nos = true) (hbm : mc ≤ b.1 ∧ ms ≤ b.2) : Go xs d m b pc ls stk σ out := go_callT (as := as) (Or.inr (Or.inl ⟨hn, hk, hd⟩)) hc hi hh hd' hs hsum hns hbm
theorem go_cX {d' mc ms n ix : Nat} {as stk : List MV} {v1 : MV} {σ1 : St} (hc : Con d' m' mc ms as σ (v1, σ1)) (hk : LkX m.1.cls ix m' n) (hn : as.length = n) (hd : At m pc (.invokestatic ix) 3) (hno : rets v1 = true) (hd' : d' < d) (hs : stk = (as).reverse ++ st) (hsum : (st.map cat).sum ≤ 8) (hns : (as).all nos = true) (hbm : mc ≤ b.1 ∧ ms ≤ b.2)
    (K : Go xs d m (b.1 - mc, b.2 - ms) (pc + 3) ls (push v1 st) σ1 out) : Go xs d m b pc ls stk σ out := go_call (as := as) (Or.inr (Or.inr (Or.inl ⟨hn, hk, hd⟩))) hc (rets_no hno) hd' hs hsum hns hbm K
theorem go_cN {d' mc ms n ix : Nat} {as stk : List MV} {v1 : MV} {σ1 : St} (hc : Con d' m' mc ms as σ (v1, σ1)) (hk : LkN m.1.cls ix m' n) (hn : as.length = n) (hd : At m pc (.invokestatic ix) 3) (hno : rets v1 = true) (hd' : d' < d) (hs : stk = (as).reverse ++ st) (hsum : (st.map cat).sum ≤ 8) (hns : (as).all nos = true) (hbm : mc ≤ b.1 ∧ ms ≤ b.2)
    (K : Go xs d m (b.1 - mc, b.2 - ms) (pc + 3) ls (push v1 st) σ1 out) : Go xs d m b pc ls stk σ out := go_call (as := as) (Or.inr (Or.inr (Or.inr (Or.inl ⟨hn, hk, hd⟩)))) hc (rets_no hno) hd' hs hsum hns hbm K
theorem go_tN {d' mc ms n ix : Nat} {as stk : List MV} (hc : Con d' m' mc ms as σ out) (hk : LkN m.1.cls ix m' n) (hn : as.length = n) (hd : At m pc (.invokestatic ix) 3) {i : Nat} (hi : out.1 = vT (20 + i) 0) (hh : m.2.2.2.2.1 = []) (hd' : d' < d) (hs : stk = (as).reverse ++ st) (hsum : (st.map cat).sum ≤ 8) (hns : (as).all nos = true) (hbm : mc ≤ b.1 ∧ ms ≤ b.2) : Go xs d m b pc ls stk σ out := go_callT (as := as) (Or.inr (Or.inr (Or.inr (Or.inl ⟨hn, hk, hd⟩)))) hc hi hh hd' hs hsum hns hbm
theorem go_cI {d' mc ms n ix r : Nat} {as' stk : List MV} {v1 : MV} {σ1 : St} (hc : Con d' m' mc ms (vA r :: as') σ (v1, σ1)) (hk : LkI m.1.cls ix m' n) (hn : as'.length = n) (hd : At m pc (.invokespecial ix) 3) (hno : rets v1 = true) (hd' : d' < d) (hs : stk = (vA r :: as').reverse ++ st) (hsum : (st.map cat).sum ≤ 8) (hns : (vA r :: as').all nos = true) (hbm : mc ≤ b.1 ∧ ms ≤ b.2)
    (K : Go xs d m (b.1 - mc, b.2 - ms) (pc + 3) ls (push v1 st) σ1 out) : Go xs d m b pc ls stk σ out := go_call (as := vA r :: as') (Or.inr (Or.inr (Or.inr (Or.inr (Or.inl ⟨r, as', rfl, hn, hk, hd⟩))))) hc (rets_no hno) hd' hs hsum hns hbm K
theorem go_cJ {d' mc ms n ix r : Nat} {as' stk : List MV} {v1 : MV} {σ1 : St} (hc : Con d' m' mc ms (vA r :: as') σ (v1, σ1)) (hk : LkJ m.1.cls ix m' n) (hn : as'.length = n) (hd : At m pc (.invokespecial ix) 3) (hno : rets v1 = true) (hd' : d' < d) (hs : stk = (vA r :: as').reverse ++ st) (hsum : (st.map cat).sum ≤ 8) (hns : (vA r :: as').all nos = true) (hbm : mc ≤ b.1 ∧ ms ≤ b.2)
    (K : Go xs d m (b.1 - mc, b.2 - ms) (pc + 3) ls (push v1 st) σ1 out) : Go xs d m b pc ls stk σ out := go_call (as := vA r :: as') (Or.inr (Or.inr (Or.inr (Or.inr (Or.inr ⟨r, as', rfl, hn, hk, hd⟩))))) hc (rets_no hno) hd' hs hsum hns hbm K
theorem sysw : Cond.native arraycopyName ∈ L0 ∧ Cond.static arraycopyName ∈ L0 ∧ Cond.initialized "java/lang/System" ∈ L0 := by
  have h : ∀ w ∈ [Cond.native arraycopyName, Cond.static arraycopyName, Cond.initialized "java/lang/System"], (goodWord w && decide (w ∈ lw_tbl)) = true := by decide +kernel
  have g : ∀ w, (goodWord w && decide (w ∈ lw_tbl)) = true → w ∈ L0 := fun w hw => by
    rw [Bool.and_eq_true] at hw
    exact List.mem_filter.mpr ⟨of_decide_eq_true hw.2, hw.1⟩
  exact ⟨g _ (h _ List.mem_cons_self), g _ (h _ (List.mem_cons_of_mem _ List.mem_cons_self)), g _ (h _ (List.mem_cons_of_mem _ (List.mem_cons_of_mem _ List.mem_cons_self)))⟩
/-- arraycopy's answer -/
def cpM (M : Nat → Nat → Int) (a0 sp a1 dp n : Nat) : Nat → Nat → Int := fun a k => if a = a1 ∧ dp ≤ k ∧ k < dp + n then M a0 (sp + (k - dp)) else M a k
theorem go_copy {a0 a1 n0 n1 ix : Nat} {sp dp n : Int} (hl : Cond.methodLink m.1.cls ix arraycopyName ∈ L0) (hd : At m pc (.invokestatic ix) 3) (hg0 : Gam a0 = (0, n0)) (hg1 : Gam a1 = (0, n1)) (h1 : 0 ≤ sp) (h2 : 0 ≤ dp) (h3 : 0 ≤ n) (h4 : sp + n ≤ n0) (h5 : dp + n ≤ n1) (hsum : (st.map cat).sum ≤ 8)
    (K : Go xs d m b (pc + 3) ls st (cpM σ.1 a0 sp.toNat a1 dp.toNat n.toNat, σ.2.1, σ.2.2) out) : Go xs d m b pc ls (vI n :: vI dp :: vA a1 :: vI sp :: vA a0 :: st) σ out := by
  intro p l e R s mid args below meth c Q dC dI dA N0 bs ρ0 c0 X hS hF H locs cells slots ρ LS hD hL ho
  obtain ⟨hx, hb, hml, hown, hts, hlk, hst, hK, hN, hXW, hZW, hRf, hRl, hnm, htb, hX⟩ := id hS
  obtain ⟨⟨hP, hDD, hM0⟩, hSS, hx1, hx2, hx3, hx4⟩ := id hD
  have hn : in32 n := okh ho
  have hdp : in32 dp := okh (okt ho)
  have ha1 : a1 < σ.2.2 := okh (okt (okt ho))
  have hsp : in32 sp := okh (okt (okt (okt ho)))
  have ha0 : a0 < σ.2.2 := okh (okt (okt (okt (okt ho))))
  have he0 := wsOf_get (dA := dA) (ρ := ρ) ha0
  have he1 := wsOf_get (dA := dA) (ρ := ρ) ha1
  rw [ent_i hg0 (by decide)] at he0
  rw [ent_i hg1 (by decide)] at he1
  have en : (Int32.ofInt n).toNatClampNeg = n.toNat := of_clamp hn h3
  have es : (Int32.ofInt sp).toNatClampNeg = sp.toNat := of_clamp hsp h1
  have ed : (Int32.ofInt dp).toNatClampNeg = dp.toNat := of_clamp hdp h2
  have neg : ∀ z : Int, in32 z → 0 ≤ z → ¬ Int32.ofInt z < 0 := fun z hz h0 h => by
    have := (of_lt (y := 0) hz z32).mp h
    omega
  have hset : (wsOf dA ρ σ).set a1 (ρ a1, .inl (dA 0, n1, .inl (va_cpy (fun j => Int32.ofInt (σ.1 a0 j)) (fun j => Int32.ofInt (σ.1 a1 j)) (Int32.ofInt sp).toNatClampNeg (Int32.ofInt dp).toNatClampNeg (Int32.ofInt n).toNatClampNeg))) = wsOf dA ρ (cpM σ.1 a0 sp.toNat a1 dp.toNat n.toNat, σ.2.1, σ.2.2) := by
    refine wsOf_set rfl ha1 (fun i hi => ent_congr (fun j => ?_) (fun j => rfl)) ?_
    · show cpM σ.1 a0 sp.toNat a1 dp.toNat n.toNat i j = _
      unfold cpM
      rw [if_neg (fun q => hi q.1)]
    · rw [ent_i hg1 (by decide), en, es, ed]
      congr 4
      funext j
      show Int32.ofInt (cpM σ.1 a0 sp.toNat a1 dp.toNat n.toNat a1 j) = _
      unfold cpM va_cpy
      by_cases h : dp.toNat ≤ j ∧ j < dp.toNat + n.toNat
      · rw [if_pos ⟨rfl, h⟩, if_pos h]
      · rw [if_neg (fun q => h q.2), if_neg h]
  refine va_copyi hx hb (hml.trans hL.size.symm) hown (hts _ hl) (hts _ sysw.1) (hts _ sysw.2.1) (hts _ sysw.2.2) hK hP hDD hSS a0 a1 0 0 he0 he1 rfl rfl rfl (neg _ hsp h1) (neg _ hdp h2) (neg _ hn h3) (by rw [es, en]; omega) (by rw [ed, en]; omega) (fun i _ => rfl) (by omega) (by
    have e9 : nativeFrameWords "java/lang/System" "arraycopy" 5 + 11 ≤ 392 := by decide
    rw [cats]; omega) hd (fun H1 locs1 q1 q2 q3 => ?_)
  rw [hset] at q1 q2
  refine K p l e R s mid args below meth c Q dC dI dA N0 bs ρ0 c0 X hS hF H1 locs1 cells slots ρ LS ⟨⟨q1, q2, ?_⟩, q3, hx1, hx2, hx3, hx4⟩ hL (okt (okt (okt (okt (okt ho)))))
  obtain ⟨o1, o2, o3, o4, o5⟩ := hM0
  refine ⟨fun a' k' q3 q4 => ?_, fun a' k' q => ?_, fun a' k' q => ?_, o4, fun a' k' q => ?_⟩
  · show in32 (cpM σ.1 a0 sp.toNat a1 dp.toNat n.toNat a' k')
    unfold cpM; split
    · exact o1 _ _ (by rw [hg0]; exact (by decide : (0 : Nat) ≠ 3)) (by rw [hg0]; exact (by decide : (0 : Nat) ≠ 4))
    · exact o1 a' k' q3 q4
  · show in64 (cpM σ.1 a0 sp.toNat a1 dp.toNat n.toNat a' k')
    unfold cpM; split
    · rename_i e; rw [e.1, hg1] at q; cases q
    · exact o2 a' k' q
  · show 0 ≤ cpM σ.1 a0 sp.toNat a1 dp.toNat n.toNat a' k' ∧ cpM σ.1 a0 sp.toNat a1 dp.toNat n.toNat a' k' < _
    unfold cpM; split
    · rename_i e; rw [e.1, hg1] at q; cases q
    · exact o3 a' k' q
  · show cpM σ.1 a0 sp.toNat a1 dp.toNat n.toNat a' k' = 0 ∧ _
    unfold cpM; split
    · rename_i e; rw [e.1] at q; exact absurd ha1 (Nat.not_lt.mpr q)
    · exact o5 a' k' q
theorem mathw : Cond.static Lib.Math.max.name ∈ L0 ∧ Cond.initialized "java/lang/Math" ∈ L0 ∧ Cond.code Lib.Math.max.name Lib.Math.max.code 2 (some .int) ∈ L0 := by
  have h : ∀ w ∈ [Cond.static Lib.Math.max.name, Cond.initialized "java/lang/Math", Cond.code Lib.Math.max.name Lib.Math.max.code 2 (some .int)], (goodWord w && decide (w ∈ lw_tbl)) = true := by decide +kernel
  have g : ∀ w, (goodWord w && decide (w ∈ lw_tbl)) = true → w ∈ L0 := fun w hw => by
    rw [Bool.and_eq_true] at hw
    exact List.mem_filter.mpr ⟨of_decide_eq_true hw.2, hw.1⟩
  exact ⟨g _ (h _ List.mem_cons_self), g _ (h _ (List.mem_cons_of_mem _ List.mem_cons_self)), g _ (h _ (List.mem_cons_of_mem _ (List.mem_cons_of_mem _ List.mem_cons_self)))⟩
theorem go_max {ix : Nat} {x y : Int} (hl : Cond.methodLink m.1.cls ix Lib.Math.max.name ∈ L0) (hd : At m pc (.invokestatic ix) 3) (hsum : (st.map cat).sum ≤ 8) (K : Go xs d m b (pc + 3) ls (vI (if x < y then y else x) :: st) σ out) : Go xs d m b pc ls (vI y :: vI x :: st) σ out := by
  intro p l e R s mid args below meth c Q dC dI dA N0 bs ρ0 c0 X hS hF H locs cells slots ρ LS hD hL ho
  obtain ⟨hx, hb, hml, hown, hts, hlk, hst, hK, hN, hXW, hZW, hRf, hRl, hnm, htb, hX⟩ := id hS
  have hy : in32 y := okh ho
  have hxx : in32 x := okh (okt ho)
  have hc5 := hD.2.2.2.2.1
  have hc6 := hD.2.2.2.2.2
  refine va_mmax hx hb (hml.trans hL.size.symm) hown (hts _ hl) (hts _ mathw.1) (hts _ mathw.2.1) (hts _ mathw.2.2) (by omega) (by rw [cats]; omega) (by omega) (by omega) hd ?_
  have e9 : (if Int32.ofInt x < Int32.ofInt y then Int32.ofInt y else Int32.ofInt x) = Int32.ofInt (if x < y then y else x) := by
    by_cases h : x < y
    · rw [if_pos h, if_pos ((of_lt hxx hy).mpr h)]
    · rw [if_neg h, if_neg (fun q => h ((of_lt hxx hy).mp q))]
  rw [e9]
  exact K p l e R s mid args below meth c Q dC dI dA N0 bs ρ0 c0 X hS hF H locs cells slots ρ LS hD hL (okc (show in32 _ by split <;> assumption) (okt (okt ho)))
/-- a number put into a field; into an array -/
def P1 (σ : St) (a j : Nat) (z : Int) : St := (upd2 σ.1 a j z, σ.2.1, σ.2.2)
def M1 (σ : St) (a : Nat) (j z : Int) : St := (upd2 σ.1 a j.toNat z, σ.2.1, σ.2.2)
/-- numbers copied -/
def C1 (σ : St) (a0 : Nat) (sp : Int) (a1 : Nat) (dp n : Int) : St := (cpM σ.1 a0 sp.toNat a1 dp.toNat n.toNat, σ.2.1, σ.2.2)
theorem go_put1 {a ix ci k : Nat} {z : Int} (hf : FLP m.1.cls ix ci k) (hr : fref ci k = false) (hw : Wri m ci k) (hg : Gam a = (10 + ci, 0)) (hz : cty ci k = .int ∨ z = 0 ∨ z = 1) (hd : At m pc (.putfield ix) 3) (K : Go xs d m b (pc + 3) ls st (P1 σ a k z) out) : Go xs d m b pc ls (vI z :: vA a :: st) σ out := go_putf hf hr hw hg hz hd K
theorem go_iast1 {a n : Nat} {j z : Int} (hg : Gam a = (0, n)) (hj : 0 ≤ j) (hjn : j < n) (hd : At m pc .iastore 1) (K : Go xs d m b (pc + 1) ls st (M1 σ a j z) out) : Go xs d m b pc ls (vI z :: vI j :: vA a :: st) σ out := go_iast hg hj hjn hd K
theorem go_bast1 {a n : Nat} {j z : Int} (hg : Gam a = (1, n)) (hj : 0 ≤ j) (hjn : j < n) (hz : z = 0 ∨ z = 1) (hd : At m pc .bastore 1) (K : Go xs d m b (pc + 1) ls st (M1 σ a j z) out) : Go xs d m b pc ls (vI z :: vI j :: vA a :: st) σ out := go_bast hg hj hjn hz hd K
theorem go_cast1 {a n : Nat} {j z : Int} (hg : Gam a = (2, n)) (hj : 0 ≤ j) (hjn : j < n) (hz : 0 ≤ z ∧ z < 65536) (hd : At m pc .castore 1) (K : Go xs d m b (pc + 1) ls st (M1 σ a j z) out) : Go xs d m b pc ls (vI z :: vI j :: vA a :: st) σ out := go_cast hg hj hjn hz hd K
theorem go_last1 {a n : Nat} {j z : Int} (hg : Gam a = (3, n)) (hj : 0 ≤ j) (hjn : j < n) (hd : At m pc .lastore 1) (K : Go xs d m b (pc + 1) ls st (M1 σ a j z) out) : Go xs d m b pc ls (vT 1 z :: vI j :: vA a :: st) σ out := go_last hg hj hjn hd K
theorem go_dast1 {a n : Nat} {j z : Int} (hg : Gam a = (4, n)) (hj : 0 ≤ j) (hjn : j < n) (hd : At m pc .dastore 1) (K : Go xs d m b (pc + 1) ls st (M1 σ a j z) out) : Go xs d m b pc ls (vT 3 z :: vI j :: vA a :: st) σ out := go_dast hg hj hjn hd K
theorem go_copy1 {a0 a1 n0 n1 ix : Nat} {sp dp n : Int} (hl : Cond.methodLink m.1.cls ix arraycopyName ∈ L0) (hd : At m pc (.invokestatic ix) 3) (hg0 : Gam a0 = (0, n0)) (hg1 : Gam a1 = (0, n1)) (h1 : 0 ≤ sp) (h2 : 0 ≤ dp) (h3 : 0 ≤ n) (h4 : sp + n ≤ n0) (h5 : dp + n ≤ n1) (hsum : (st.map cat).sum ≤ 8)
    (K : Go xs d m b (pc + 3) ls st (C1 σ a0 sp a1 dp n) out) : Go xs d m b pc ls (vI n :: vI dp :: vA a1 :: vI sp :: vA a0 :: st) σ out := go_copy hl hd hg0 hg1 h1 h2 h3 h4 h5 hsum K
theorem P1_ne {a a' j' j : Nat} {z : Int} (h : a' ≠ a) : (P1 σ a j z).1 a' j' = σ.1 a' j' := if_neg (fun q => h q.1)
theorem P1_nj {a a' j' j : Nat} {z : Int} (h : j' ≠ j) : (P1 σ a j z).1 a' j' = σ.1 a' j' := if_neg (fun q => h q.2)
theorem P1_eq {a j : Nat} {z : Int} : (P1 σ a j z).1 a j = z := if_pos ⟨rfl, rfl⟩
theorem M1_ne {a a' j' : Nat} {j z : Int} (h : a' ≠ a) : (M1 σ a j z).1 a' j' = σ.1 a' j' := if_neg (fun q => h q.1)
theorem M1_nj {a a' j' : Nat} {j z : Int} (h : j' ≠ j.toNat) : (M1 σ a j z).1 a' j' = σ.1 a' j' := if_neg (fun q => h q.2)
theorem M1_eq {a j' : Nat} {j z : Int} (h : j' = j.toNat) : (M1 σ a j z).1 a j' = z := if_pos ⟨rfl, h⟩
theorem C1_ne {a0 a1 a' j' : Nat} {sp dp n : Int} (h : a' ≠ a1) : (C1 σ a0 sp a1 dp n).1 a' j' = σ.1 a' j' := if_neg (fun q => h q.1)
theorem M1_2 {a : Nat} {j z : Int} : (M1 σ a j z).2 = σ.2 := rfl
theorem P1_2 {a j : Nat} {z : Int} : (P1 σ a j z).2 = σ.2 := rfl
end GoLinks
