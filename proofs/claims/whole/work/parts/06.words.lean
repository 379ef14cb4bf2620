/-! the words of the tables, each a member of q_TB -/
theorem tb_1 {w : Cond} (h : w ∈ tables_1_1) (g : goodWord w = true) : w ∈ q_TB := List.mem_filter.mpr ⟨List.mem_append_right _ (List.mem_append_left _ h), g⟩
theorem tb_2 {w : Cond} (h : w ∈ tables_1_2) (g : goodWord w = true) : w ∈ q_TB := List.mem_filter.mpr ⟨List.mem_append_right _ (List.mem_append_right _ (List.mem_append_left _ h)), g⟩
theorem tb_3 {w : Cond} (h : w ∈ tables_1_3) (g : goodWord w = true) : w ∈ q_TB := List.mem_filter.mpr ⟨List.mem_append_right _ (List.mem_append_right _ (List.mem_append_right _ (List.mem_append_left _ h))), g⟩
theorem tb_4 {w : Cond} (h : w ∈ tables_1_4) (g : goodWord w = true) : w ∈ q_TB := List.mem_filter.mpr ⟨List.mem_append_right _ (List.mem_append_right _ (List.mem_append_right _ (List.mem_append_right _ (List.mem_append_left _ h)))), g⟩
theorem tb_5 {w : Cond} (h : w ∈ tables_1_5) (g : goodWord w = true) : w ∈ q_TB := List.mem_filter.mpr ⟨List.mem_append_right _ (List.mem_append_right _ (List.mem_append_right _ (List.mem_append_right _ (List.mem_append_right _ (List.mem_append_left _ h))))), g⟩
theorem tb_6 {w : Cond} (h : w ∈ tables_1_6) (g : goodWord w = true) : w ∈ q_TB := List.mem_filter.mpr ⟨List.mem_append_right _ (List.mem_append_right _ (List.mem_append_right _ (List.mem_append_right _ (List.mem_append_right _ (List.mem_append_right _ h))))), g⟩
theorem tb_0 {w : Cond} (h : w ∈ k2_sels lw_privs) (g : goodWord w = true) : w ∈ q_TB := List.mem_filter.mpr ⟨List.mem_append_left _ h, g⟩
abbrev mX0_init : q_M := (yX0_init, cX0_init, 2, none, 1, 20, [])
abbrev mX0_size : q_M := (yX0_size, cX0_size, 1, (some .int), 0, 0, [])
abbrev mX0_has : q_M := (yX0_has, cX0_has, 2, (some .boolean), 0, 0, [])
abbrev mX0_at : q_M := (yX0_at, cX0_at, 2, (some .int), 0, 0, [])
abbrev mX0_pairAtStart : q_M := (yX0_pairAtStart, cX0_pairAtStart, 1, (some .int), 0, 0, [])
abbrev mX0_isFull : q_M := (yX0_isFull, cX0_isFull, 1, (some .boolean), 0, 0, [])
abbrev mX0_empty : q_M := (yX0_empty, cX0_empty, 1, none, 0, 0, [])
abbrev mX0_add : q_M := (yX0_add, cX0_add, 2, none, 0, 0, [])
abbrev mX0_addText : q_M := (yX0_addText, cX0_addText, 3, none, 4, 85, [])
abbrev mX0_addPart : q_M := (yX0_addPart, cX0_addPart, 5, none, 1, 21, [])
abbrev mX0_cutFront : q_M := (yX0_cutFront, cX0_cutFront, 2, (some .boolean), 1, 60, [])
abbrev mX0_copyTo : q_M := (yX0_copyTo, cX0_copyTo, 3, none, 1, 60, [])
abbrev mX1_init : q_M := (yX1_init, cX1_init, 1, none, 2, 41, [])
abbrev mX1_frameKind : q_M := (yX1_frameKind, cX1_frameKind, 1, (some .int), 0, 0, [])
abbrev mX1_isLast : q_M := (yX1_isLast, cX1_isLast, 1, (some .boolean), 0, 0, [])
abbrev mX1_messageKind : q_M := (yX1_messageKind, cX1_messageKind, 1, (some .int), 0, 0, [])
abbrev mX1_message : q_M := (yX1_message, cX1_message, 1, (some (.object "FramedTalk$ByteRow")), 0, 0, [])
abbrev mX1_shortContent : q_M := (yX1_shortContent, cX1_shortContent, 1, (some (.object "FramedTalk$ByteRow")), 0, 0, [])
abbrev mX1_read : q_M := (yX1_read, cX1_read, 3, (some .int), 5, 105, [])
abbrev mX1_readPart : q_M := (yX1_readPart, cX1_readPart, 2, (some .int), 3, 64, [])
abbrev mX1_readFirst : q_M := (yX1_readFirst, cX1_readFirst, 2, (some .int), 2, 40, [])
abbrev mX1_isShort : q_M := (yX1_isShort, cX1_isShort, 1, (some .boolean), 0, 0, [])
abbrev mX1_mayComeNow : q_M := (yX1_mayComeNow, cX1_mayComeNow, 1, (some .boolean), 0, 0, [])
abbrev mX1_beginMessage : q_M := (yX1_beginMessage, cX1_beginMessage, 1, none, 1, 20, [])
abbrev mX1_readSecond : q_M := (yX1_readSecond, cX1_readSecond, 3, (some .int), 2, 40, [])
abbrev mX1_readLength : q_M := (yX1_readLength, cX1_readLength, 2, (some .int), 2, 40, [])
abbrev mX1_judgeLength : q_M := (yX1_judgeLength, cX1_judgeLength, 1, (some .int), 1, 20, [])
abbrev mX1_readMask : q_M := (yX1_readMask, cX1_readMask, 2, (some .int), 0, 0, [])
abbrev mX1_readContent : q_M := (yX1_readContent, cX1_readContent, 3, (some .int), 2, 42, [])
abbrev mX1_judgeFrame : q_M := (yX1_judgeFrame, cX1_judgeFrame, 1, (some .int), 4, 85, [])
abbrev mX1_judgeClose : q_M := (yX1_judgeClose, cX1_judgeClose, 1, (some .int), 3, 65, [])
abbrev mX2_init : q_M := (yX2_init, cX2_init, 1, none, 2, 41, [])
abbrev mX2_putInto : q_M := (yX2_putInto, cX2_putInto, 4, none, 6, 131, [])
abbrev mX2_pad : q_M := (yX2_pad, cX2_pad, 3, none, 1, 21, [])
abbrev mX2_startWords : q_M := (yX2_startWords, cX2_startWords, 1, none, 0, 0, [])
abbrev mX2_spread : q_M := (yX2_spread, cX2_spread, 4, none, 1, 21, [])
abbrev mX2_mix : q_M := (yX2_mix, cX2_mix, 8, none, 1, 23, [])
abbrev mX2_rotated : q_M := (yX2_rotated, cX2_rotated, 2, (some .int), 0, 0, [])
abbrev mX2_blend : q_M := (yX2_blend, cX2_blend, 4, (some .int), 0, 0, [])
abbrev mX2_putBase64 : q_M := (yX2_putBase64, cX2_putBase64, 4, none, 5, 108, [])
abbrev mX2_digestByte : q_M := (yX2_digestByte, cX2_digestByte, 2, (some .int), 0, 0, [])
abbrev mX2_putSigns : q_M := (yX2_putSigns, cX2_putSigns, 4, none, 4, 85, [])
abbrev mX3_init : q_M := (yX3_init, cX3_init, 1, none, 2, 41, [])
abbrev mX3_gather : q_M := (yX3_gather, cX3_gather, 2, none, 1, 21, [])
abbrev mX3_isAtLimit : q_M := (yX3_isAtLimit, cX3_isAtLimit, 1, (some .boolean), 1, 20, [])
abbrev mX3_isComplete : q_M := (yX3_isComplete, cX3_isComplete, 2, (some .boolean), 2, 42, [])
abbrev mX3_judge : q_M := (yX3_judge, cX3_judge, 1, (some .int), 8, 179, [])
abbrev mX3_putKeyInto : q_M := (yX3_putKeyInto, cX3_putKeyInto, 2, none, 2, 45, [])
abbrev mX3_isLineEnd : q_M := (yX3_isLineEnd, cX3_isLineEnd, 2, (some .boolean), 1, 21, [])
abbrev mX3_readLines : q_M := (yX3_readLines, cX3_readLines, 5, (some .boolean), 7, 155, [])
abbrev mX3_isFirstLine : q_M := (yX3_isFirstLine, cX3_isFirstLine, 4, (some .boolean), 5, 108, [])
abbrev mX3_isExactly : q_M := (yX3_isExactly, cX3_isExactly, 4, (some .boolean), 4, 85, [])
abbrev mX3_allWithin : q_M := (yX3_allWithin, cX3_allWithin, 5, (some .boolean), 1, 21, [])
abbrev mX3_readField : q_M := (yX3_readField, cX3_readField, 5, (some .boolean), 6, 131, [])
abbrev mX3_isNameSign : q_M := (yX3_isNameSign, cX3_isNameSign, 1, (some .boolean), 1, 20, [])
abbrev mX3_isLetterOrDigit : q_M := (yX3_isLetterOrDigit, cX3_isLetterOrDigit, 1, (some .boolean), 0, 0, [])
abbrev mX3_nameNumber : q_M := (yX3_nameNumber, cX3_nameNumber, 3, (some .int), 5, 109, [])
abbrev mX3_keepField : q_M := (yX3_keepField, cX3_keepField, 4, none, 2, 44, [])
abbrev mX3_isSame : q_M := (yX3_isSame, cX3_isSame, 5, (some .boolean), 4, 85, [])
abbrev mX3_asSmall : q_M := (yX3_asSmall, cX3_asSmall, 1, (some .int), 0, 0, [])
abbrev mX3_skipBlanks : q_M := (yX3_skipBlanks, cX3_skipBlanks, 4, (some .int), 1, 21, [])
abbrev mX3_skipBlanksBack : q_M := (yX3_skipBlanksBack, cX3_skipBlanksBack, 4, (some .int), 1, 21, [])
abbrev mX3_isBlank : q_M := (yX3_isBlank, cX3_isBlank, 1, (some .boolean), 0, 0, [])
abbrev mX3_hasDueFields : q_M := (yX3_hasDueFields, cX3_hasDueFields, 2, (some .boolean), 6, 134, [])
abbrev mX3_hasWord : q_M := (yX3_hasWord, cX3_hasWord, 6, (some .boolean), 5, 109, [])
abbrev mX3_isKey : q_M := (yX3_isKey, cX3_isKey, 5, (some .boolean), 5, 108, [])
abbrev mX4_init : q_M := (yX4_init, cX4_init, 1, none, 1, 20, [])
abbrev mX4_restart : q_M := (yX4_restart, cX4_restart, 1, none, 0, 0, [])
abbrev mX4_isWhole : q_M := (yX4_isWhole, cX4_isWhole, 1, (some .boolean), 0, 0, [])
abbrev mX4_accepts : q_M := (yX4_accepts, cX4_accepts, 2, (some .boolean), 1, 21, [])
abbrev mX4_isText : q_M := (yX4_isText, cX4_isText, 4, (some .boolean), 2, 42, [])
abbrev mX4_begins : q_M := (yX4_begins, cX4_begins, 2, (some .boolean), 0, 0, [])
abbrev mX5_init : q_M := (yX5_init, cX5_init, 1, none, 1, 20, [])
abbrev mX5_size : q_M := (yX5_size, cX5_size, 1, (some .int), 0, 0, [])
abbrev mX5_has : q_M := (yX5_has, cX5_has, 2, (some .boolean), 0, 0, [])
abbrev mX5_kindOf : q_M := (yX5_kindOf, cX5_kindOf, 2, (some .int), 2, 43, [])
abbrev mX5_lengthOf : q_M := (yX5_lengthOf, cX5_lengthOf, 2, (some .int), 2, 43, [])
abbrev mX5_contentAt : q_M := (yX5_contentAt, cX5_contentAt, 3, (some .int), 2, 43, [])
abbrev mX5_put : q_M := (yX5_put, cX5_put, 4, none, 2, 82, [])
abbrev mX5_removeOldest : q_M := (yX5_removeOldest, cX5_removeOldest, 1, none, 2, 43, [])
abbrev mX5_placeOf : q_M := (yX5_placeOf, cX5_placeOf, 2, (some .int), 1, 22, [])
abbrev mX6_init : q_M := (yX6_init, cX6_init, 1, none, 3, 61, [])
abbrev mX6_feed : q_M := (yX6_feed, cX6_feed, 7, (some .int), 10, 220, [])
abbrev mX6_state : q_M := (yX6_state, cX6_state, 1, (some .int), 0, 0, [])
abbrev mX6_endCode : q_M := (yX6_endCode, cX6_endCode, 1, (some .int), 0, 0, [])
abbrev mX6_outLength : q_M := (yX6_outLength, cX6_outLength, 1, (some .int), 1, 20, [])
abbrev mX6_outAt : q_M := (yX6_outAt, cX6_outAt, 2, (some .int), 6, 90, [])
abbrev mX6_drop : q_M := (yX6_drop, cX6_drop, 2, (some .boolean), 2, 81, [])
abbrev mX6_messages : q_M := (yX6_messages, cX6_messages, 1, (some .int), 1, 20, [])
abbrev mX6_delivered : q_M := (yX6_delivered, cX6_delivered, 1, (some .int), 0, 0, [])
abbrev mX6_kind : q_M := (yX6_kind, cX6_kind, 2, (some .int), 6, 90, [])
abbrev mX6_length : q_M := (yX6_length, cX6_length, 2, (some .int), 6, 90, [])
abbrev mX6_byteAt : q_M := (yX6_byteAt, cX6_byteAt, 3, (some .int), 6, 90, [])
abbrev mX6_take : q_M := (yX6_take, cX6_take, 2, (some .int), 6, 90, [])
abbrev mX6_pongs : q_M := (yX6_pongs, cX6_pongs, 1, (some .int), 0, 0, [])
abbrev mX6_write : q_M := (yX6_write, cX6_write, 5, (some .boolean), 1, 22, [])
abbrev mX6_clear : q_M := (yX6_clear, cX6_clear, 1, none, 1, 20, [])
abbrev mX6_send : q_M := (yX6_send, cX6_send, 5, (some .int), 6, 96, [])
abbrev mX6_ping : q_M := (yX6_ping, cX6_ping, 1, none, 6, 90, [])
abbrev mX6_close : q_M := (yX6_close, cX6_close, 2, none, 6, 90, [])
abbrev mX6_isByteCount : q_M := (yX6_isByteCount, cX6_isByteCount, 1, (some .boolean), 0, 0, [])
abbrev mX6_byteOf : q_M := (yX6_byteOf, cX6_byteOf, 3, (some .int), 0, 0, [])
abbrev mX6_mayStandInClose : q_M := (yX6_mayStandInClose, cX6_mayStandInClose, 1, (some .boolean), 0, 0, [])
abbrev mX6_hearRequest : q_M := (yX6_hearRequest, cX6_hearRequest, 2, none, 9, 199, [])
abbrev mX6_answerRequest : q_M := (yX6_answerRequest, cX6_answerRequest, 3, none, 7, 154, [])
abbrev mX6_hearFrame : q_M := (yX6_hearFrame, cX6_hearFrame, 3, none, 6, 127, [])
abbrev mX6_violate : q_M := (yX6_violate, cX6_violate, 2, none, 2, 43, [])
abbrev mX6_endWith : q_M := (yX6_endWith, cX6_endWith, 2, none, 0, 0, [])
abbrev mX6_finishFrame : q_M := (yX6_finishFrame, cX6_finishFrame, 1, none, 4, 105, [])
abbrev mX6_hearClose : q_M := (yX6_hearClose, cX6_hearClose, 3, none, 3, 69, [])
abbrev mX6_hearPing : q_M := (yX6_hearPing, cX6_hearPing, 2, none, 3, 69, [])
abbrev mX6_maySay : q_M := (yX6_maySay, cX6_maySay, 2, (some .boolean), 1, 20, [])
abbrev mX6_sayPieces : q_M := (yX6_sayPieces, cX6_sayPieces, 8, none, 3, 69, [])
abbrev mX6_say : q_M := (yX6_say, cX6_say, 5, none, 2, 45, [])
abbrev mX6_sayHead : q_M := (yX6_sayHead, cX6_sayHead, 3, none, 1, 21, [])
abbrev mX6_sayCode : q_M := (yX6_sayCode, cX6_sayCode, 2, none, 1, 21, [])
abbrev mX7_init : q_M := (yX7_init, cX7_init, 1, none, 1, 20, [])
abbrev mX7_thrown : q_M := (yX7_thrown, cX7_thrown, 1, (some .int), 0, 0, [])
abbrev mX7_fail : q_M := (yX7_fail, cX7_fail, 2, (some .int), 0, 0, [])
abbrev mX7_put : q_M := (yX7_put, cX7_put, 2, none, 0, 0, [])
abbrev mX7_text : q_M := (yX7_text, cX7_text, 5, none, 1, 21, [])
abbrev mX7_line : q_M := (yX7_line, cX7_line, 1, none, 1, 21, [])
abbrev mX7_head : q_M := (yX7_head, cX7_head, 4, none, 1, 21, [])
abbrev mX7_sayClose : q_M := (yX7_sayClose, cX7_sayClose, 2, none, 2, 44, [])
abbrev mX7_beginCharacters : q_M := (yX7_beginCharacters, cX7_beginCharacters, 1, none, 0, 0, [])
abbrev mX7_character : q_M := (yX7_character, cX7_character, 3, (some .boolean), 0, 0, [])
abbrev mX7_isDraftText : q_M := (yX7_isDraftText, cX7_isDraftText, 6, (some .boolean), 1, 22, [])
abbrev mX7_small : q_M := (yX7_small, cX7_small, 1, (some .int), 0, 0, [])
abbrev mX7_isDigit : q_M := (yX7_isDigit, cX7_isDigit, 1, (some .boolean), 0, 0, [])
abbrev mX7_isLetter : q_M := (yX7_isLetter, cX7_isLetter, 1, (some .boolean), 1, 20, [])
abbrev mX7_known : q_M := (yX7_known, cX7_known, 2, (some .long), 0, 0, [])
abbrev mX7_letter : q_M := (yX7_letter, cX7_letter, 2, (some .int), 1, 21, [])
abbrev mX7_isWord : q_M := (yX7_isWord, cX7_isWord, 6, (some .boolean), 2, 42, [])
abbrev mX7_isGap : q_M := (yX7_isGap, cX7_isGap, 1, (some .boolean), 0, 0, [])
abbrev mX7_begin : q_M := (yX7_begin, cX7_begin, 4, (some .int), 1, 20, [])
abbrev mX7_end : q_M := (yX7_end, cX7_end, 4, (some .int), 1, 20, [])
abbrev mX7_isFirst : q_M := (yX7_isFirst, cX7_isFirst, 4, (some .boolean), 0, 0, [])
abbrev mX7_takeLine : q_M := (yX7_takeLine, cX7_takeLine, 6, (some .boolean), 3, 67, [])
abbrev mX7_hasWord : q_M := (yX7_hasWord, cX7_hasWord, 7, (some .boolean), 3, 67, [])
abbrev mX7_isBase64 : q_M := (yX7_isBase64, cX7_isBase64, 1, (some .boolean), 2, 40, [])
abbrev mX7_isKey : q_M := (yX7_isKey, cX7_isKey, 5, (some .boolean), 3, 60, [])
abbrev mX7_isRequest : q_M := (yX7_isRequest, cX7_isRequest, 6, (some .boolean), 4, 93, [])
abbrev mX7_rotated : q_M := (yX7_rotated, cX7_rotated, 2, (some .int), 0, 0, [])
abbrev mX7_mix : q_M := (yX7_mix, cX7_mix, 11, none, 1, 21, [])
abbrev mX7_signs : q_M := (yX7_signs, cX7_signs, 7, (some .int), 0, 0, [])
abbrev mX7_digest : q_M := (yX7_digest, cX7_digest, 2, none, 2, 51, [])
abbrev mX7_digestByte : q_M := (yX7_digestByte, cX7_digestByte, 2, (some .int), 0, 0, [])
abbrev mX7_sign : q_M := (yX7_sign, cX7_sign, 1, (some .int), 0, 0, [])
abbrev mX7_proof : q_M := (yX7_proof, cX7_proof, 3, none, 3, 72, [])
abbrev mX7_answer : q_M := (yX7_answer, cX7_answer, 2, none, 5, 118, [])
abbrev mX7_ask : q_M := (yX7_ask, cX7_ask, 3, none, 6, 139, [])
abbrev mX7_violate : q_M := (yX7_violate, cX7_violate, 2, none, 3, 65, [])
abbrev mX7_first : q_M := (yX7_first, cX7_first, 5, none, 4, 86, [])
abbrev mX7_isBrief : q_M := (yX7_isBrief, cX7_isBrief, 1, (some .boolean), 0, 0, [])
abbrev mX7_measured : q_M := (yX7_measured, cX7_measured, 1, none, 4, 86, [])
abbrev mX7_second : q_M := (yX7_second, cX7_second, 3, none, 5, 106, [])
abbrev mX7_lengthByte : q_M := (yX7_lengthByte, cX7_lengthByte, 2, none, 5, 106, [])
abbrev mX7_maskByte : q_M := (yX7_maskByte, cX7_maskByte, 2, none, 6, 128, [])
abbrev mX7_contentByte : q_M := (yX7_contentByte, cX7_contentByte, 3, none, 6, 128, [])
abbrev mX7_isCode : q_M := (yX7_isCode, cX7_isCode, 1, (some .boolean), 0, 0, [])
abbrev mX7_isReason : q_M := (yX7_isReason, cX7_isReason, 6, (some .boolean), 1, 22, [])
abbrev mX7_closed : q_M := (yX7_closed, cX7_closed, 2, none, 4, 86, [])
abbrev mX7_deliver : q_M := (yX7_deliver, cX7_deliver, 2, none, 0, 0, [])
abbrev mX7_whole : q_M := (yX7_whole, cX7_whole, 2, none, 5, 107, [])
abbrev mX7_come : q_M := (yX7_come, cX7_come, 2, none, 7, 161, [])
abbrev mX7_feed : q_M := (yX7_feed, cX7_feed, 6, (some .int), 8, 182, [])
abbrev mX7_state : q_M := (yX7_state, cX7_state, 1, (some .int), 0, 0, [])
abbrev mX7_endCode : q_M := (yX7_endCode, cX7_endCode, 1, (some .int), 0, 0, [])
abbrev mX7_outLength : q_M := (yX7_outLength, cX7_outLength, 1, (some .int), 0, 0, [])
abbrev mX7_outAt : q_M := (yX7_outAt, cX7_outAt, 2, (some .int), 0, 0, [])
abbrev mX7_drop : q_M := (yX7_drop, cX7_drop, 3, (some .boolean), 0, 0, [])
abbrev mX7_messages : q_M := (yX7_messages, cX7_messages, 1, (some .int), 0, 0, [])
abbrev mX7_delivered : q_M := (yX7_delivered, cX7_delivered, 1, (some .int), 0, 0, [])
abbrev mX7_isMessage : q_M := (yX7_isMessage, cX7_isMessage, 2, (some .boolean), 0, 0, [])
abbrev mX7_kind : q_M := (yX7_kind, cX7_kind, 2, (some .int), 1, 21, [])
abbrev mX7_length : q_M := (yX7_length, cX7_length, 2, (some .int), 1, 21, [])
abbrev mX7_byteAt : q_M := (yX7_byteAt, cX7_byteAt, 3, (some .int), 1, 21, [])
abbrev mX7_take : q_M := (yX7_take, cX7_take, 4, (some .int), 0, 0, [])
abbrev mX7_pongs : q_M := (yX7_pongs, cX7_pongs, 1, (some .int), 0, 0, [])
abbrev mX7_write : q_M := (yX7_write, cX7_write, 5, (some .boolean), 0, 0, [])
abbrev mX7_clear : q_M := (yX7_clear, cX7_clear, 1, none, 0, 0, [])
abbrev mX7_send : q_M := (yX7_send, cX7_send, 9, (some .int), 2, 47, [])
abbrev mX7_putDraft : q_M := (yX7_putDraft, cX7_putDraft, 2, none, 1, 21, [])
abbrev mX7_ping : q_M := (yX7_ping, cX7_ping, 1, none, 2, 44, [])
abbrev mX7_close : q_M := (yX7_close, cX7_close, 2, none, 2, 47, [])
abbrev mJ9_floorMod_7cf53 : q_M := (yJ9_floorMod_7cf53, cJ9_floorMod_7cf53, 3, (some .int), 0, 0, [])
abbrev mJ9_min_7cf53 : q_M := (yJ9_min_7cf53, cJ9_min_7cf53, 2, (some .int), 0, 0, [])
abbrev mJ0_length_8abf5 : q_M := (yJ0_length_8abf5, cJ0_length_8abf5, 1, (some .int), 1, 20, [])
abbrev mJ0_charAt_5068e : q_M := (yJ0_charAt_5068e, cJ0_charAt_5068e, 2, (some .char), 3, 64, [])
abbrev mJ0_coder_7d493 : q_M := (yJ0_coder_7d493, cJ0_coder_7d493, 1, (some .byte), 0, 0, [])
abbrev mJ0_isLatin1_aae02 : q_M := (yJ0_isLatin1_aae02, cJ0_isLatin1_aae02, 1, (some .boolean), 0, 0, [])
abbrev mJ0_checkIndex_df160 : q_M := (yJ0_checkIndex_df160, cJ0_checkIndex_df160, 2, none, 1, 22, [])
abbrev mJ1_charAt_3b067 : q_M := (yJ1_charAt_3b067, cJ1_charAt_3b067, 2, (some .char), 2, 43, [])
abbrev mJ2_getChar_3b067 : q_M := (yJ2_getChar_3b067, cJ2_getChar_3b067, 2, (some .char), 0, 0, [])
abbrev mJ2_length_9d52b : q_M := (yJ2_length_9d52b, cJ2_length_9d52b, 1, (some .int), 0, 0, [])
abbrev mJ2_charAt_3b067 : q_M := (yJ2_charAt_3b067, cJ2_charAt_3b067, 2, (some .char), 0, 0, [])
abbrev mJ2_checkIndex_2214a : q_M := (yJ2_checkIndex_2214a, cJ2_checkIndex_2214a, 2, none, 2, 43, [])
abbrev mJ3_checkIndex_8e157 : q_M := (yJ3_checkIndex_8e157, cJ3_checkIndex_8e157, 3, (some .int), 0, 0, [])
abbrev mL_feed : q_M := (yL_feed, cL_feed, 6, (some .int), 11, 246, [(0, 11, 14, 13), (0, 11, 18, 15)])
abbrev mL_outAt : q_M := (yL_outAt, cL_outAt, 4, (some .int), 7, 111, [(0, 9, 12, 21)])
abbrev mL_kind : q_M := (yL_kind, cL_kind, 4, (some .int), 7, 111, [(0, 9, 12, 26)])
abbrev mL_length : q_M := (yL_length, cL_length, 4, (some .int), 7, 111, [(0, 9, 12, 26)])
abbrev mL_byteAt : q_M := (yL_byteAt, cL_byteAt, 5, (some .int), 7, 112, [(0, 10, 13, 26), (0, 10, 17, 21)])
abbrev mL_take : q_M := (yL_take, cL_take, 3, (some .int), 7, 111, [(0, 8, 11, 26)])
abbrev mL_send : q_M := (yL_send, cL_send, 5, (some .int), 7, 120, [(0, 10, 13, 13), (0, 10, 17, 15)])
abbrev mL_ping : q_M := (yL_ping, cL_ping, 2, (some .int), 7, 110, [(0, 4, 7, 15)])
abbrev mL_close : q_M := (yL_close, cL_close, 3, (some .int), 7, 111, [(0, 5, 8, 13), (0, 5, 11, 15)])
theorem tw_cd_1_40 : q_hd mX0_init ∈ q_TB := tb_1 (List.mem_of_getElem? (i := 40) rfl) rfl
theorem tw_cd_1_205 : q_hd mX0_size ∈ q_TB := tb_1 (List.mem_of_getElem? (i := 205) rfl) rfl
theorem tw_cd_4_48 : q_hd mX0_has ∈ q_TB := tb_4 (List.mem_of_getElem? (i := 48) rfl) rfl
theorem tw_cd_2_124 : q_hd mX0_at ∈ q_TB := tb_2 (List.mem_of_getElem? (i := 124) rfl) rfl
theorem tw_cd_3_190 : q_hd mX0_pairAtStart ∈ q_TB := tb_3 (List.mem_of_getElem? (i := 190) rfl) rfl
theorem tw_cd_3_114 : q_hd mX0_isFull ∈ q_TB := tb_3 (List.mem_of_getElem? (i := 114) rfl) rfl
theorem tw_cd_2_14 : q_hd mX0_empty ∈ q_TB := tb_2 (List.mem_of_getElem? (i := 14) rfl) rfl
theorem tw_cd_2_6 : q_hd mX0_add ∈ q_TB := tb_2 (List.mem_of_getElem? (i := 6) rfl) rfl
theorem tw_cd_3_19 : q_hd mX0_addText ∈ q_TB := tb_3 (List.mem_of_getElem? (i := 19) rfl) rfl
theorem tw_cd_3_53 : q_hd mX0_addPart ∈ q_TB := tb_3 (List.mem_of_getElem? (i := 53) rfl) rfl
theorem tw_cd_1_213 : q_hd mX0_cutFront ∈ q_TB := tb_1 (List.mem_of_getElem? (i := 213) rfl) rfl
theorem tw_cd_4_28 : q_hd mX0_copyTo ∈ q_TB := tb_4 (List.mem_of_getElem? (i := 28) rfl) rfl
theorem tw_cd_1_67 : q_hd mX1_init ∈ q_TB := tb_1 (List.mem_of_getElem? (i := 67) rfl) rfl
theorem tw_cd_3_214 : q_hd mX1_frameKind ∈ q_TB := tb_3 (List.mem_of_getElem? (i := 214) rfl) rfl
theorem tw_cd_4_4 : q_hd mX1_isLast ∈ q_TB := tb_4 (List.mem_of_getElem? (i := 4) rfl) rfl
theorem tw_cd_4_8 : q_hd mX1_messageKind ∈ q_TB := tb_4 (List.mem_of_getElem? (i := 8) rfl) rfl
theorem tw_cd_4_12 : q_hd mX1_message ∈ q_TB := tb_4 (List.mem_of_getElem? (i := 12) rfl) rfl
theorem tw_cd_3_218 : q_hd mX1_shortContent ∈ q_TB := tb_3 (List.mem_of_getElem? (i := 218) rfl) rfl
theorem tw_cd_3_122 : q_hd mX1_read ∈ q_TB := tb_3 (List.mem_of_getElem? (i := 122) rfl) rfl
theorem tw_cd_3_126 : q_hd mX1_readPart ∈ q_TB := tb_3 (List.mem_of_getElem? (i := 126) rfl) rfl
theorem tw_cd_3_130 : q_hd mX1_readFirst ∈ q_TB := tb_3 (List.mem_of_getElem? (i := 130) rfl) rfl
theorem tw_cd_3_138 : q_hd mX1_isShort ∈ q_TB := tb_3 (List.mem_of_getElem? (i := 138) rfl) rfl
theorem tw_cd_3_134 : q_hd mX1_mayComeNow ∈ q_TB := tb_3 (List.mem_of_getElem? (i := 134) rfl) rfl
theorem tw_cd_3_143 : q_hd mX1_beginMessage ∈ q_TB := tb_3 (List.mem_of_getElem? (i := 143) rfl) rfl
theorem tw_cd_3_151 : q_hd mX1_readSecond ∈ q_TB := tb_3 (List.mem_of_getElem? (i := 151) rfl) rfl
theorem tw_cd_3_160 : q_hd mX1_readLength ∈ q_TB := tb_3 (List.mem_of_getElem? (i := 160) rfl) rfl
theorem tw_cd_3_155 : q_hd mX1_judgeLength ∈ q_TB := tb_3 (List.mem_of_getElem? (i := 155) rfl) rfl
theorem tw_cd_3_165 : q_hd mX1_readMask ∈ q_TB := tb_3 (List.mem_of_getElem? (i := 165) rfl) rfl
theorem tw_cd_3_169 : q_hd mX1_readContent ∈ q_TB := tb_3 (List.mem_of_getElem? (i := 169) rfl) rfl
theorem tw_cd_3_182 : q_hd mX1_judgeFrame ∈ q_TB := tb_3 (List.mem_of_getElem? (i := 182) rfl) rfl
theorem tw_cd_3_186 : q_hd mX1_judgeClose ∈ q_TB := tb_3 (List.mem_of_getElem? (i := 186) rfl) rfl
theorem tw_cd_3_27 : q_hd mX2_init ∈ q_TB := tb_3 (List.mem_of_getElem? (i := 27) rfl) rfl
theorem tw_cd_3_45 : q_hd mX2_putInto ∈ q_TB := tb_3 (List.mem_of_getElem? (i := 45) rfl) rfl
theorem tw_cd_3_60 : q_hd mX2_pad ∈ q_TB := tb_3 (List.mem_of_getElem? (i := 60) rfl) rfl
theorem tw_cd_3_66 : q_hd mX2_startWords ∈ q_TB := tb_3 (List.mem_of_getElem? (i := 66) rfl) rfl
theorem tw_cd_3_75 : q_hd mX2_spread ∈ q_TB := tb_3 (List.mem_of_getElem? (i := 75) rfl) rfl
theorem tw_cd_3_83 : q_hd mX2_mix ∈ q_TB := tb_3 (List.mem_of_getElem? (i := 83) rfl) rfl
theorem tw_cd_3_79 : q_hd mX2_rotated ∈ q_TB := tb_3 (List.mem_of_getElem? (i := 79) rfl) rfl
theorem tw_cd_3_86 : q_hd mX2_blend ∈ q_TB := tb_3 (List.mem_of_getElem? (i := 86) rfl) rfl
theorem tw_cd_3_94 : q_hd mX2_putBase64 ∈ q_TB := tb_3 (List.mem_of_getElem? (i := 94) rfl) rfl
theorem tw_cd_3_98 : q_hd mX2_digestByte ∈ q_TB := tb_3 (List.mem_of_getElem? (i := 98) rfl) rfl
theorem tw_cd_3_101 : q_hd mX2_putSigns ∈ q_TB := tb_3 (List.mem_of_getElem? (i := 101) rfl) rfl
theorem tw_cd_1_34 : q_hd mX3_init ∈ q_TB := tb_1 (List.mem_of_getElem? (i := 34) rfl) rfl
theorem tw_cd_2_110 : q_hd mX3_gather ∈ q_TB := tb_2 (List.mem_of_getElem? (i := 110) rfl) rfl
theorem tw_cd_3_110 : q_hd mX3_isAtLimit ∈ q_TB := tb_3 (List.mem_of_getElem? (i := 110) rfl) rfl
theorem tw_cd_2_115 : q_hd mX3_isComplete ∈ q_TB := tb_2 (List.mem_of_getElem? (i := 115) rfl) rfl
theorem tw_cd_2_128 : q_hd mX3_judge ∈ q_TB := tb_2 (List.mem_of_getElem? (i := 128) rfl) rfl
theorem tw_cd_3_49 : q_hd mX3_putKeyInto ∈ q_TB := tb_3 (List.mem_of_getElem? (i := 49) rfl) rfl
theorem tw_cd_2_120 : q_hd mX3_isLineEnd ∈ q_TB := tb_2 (List.mem_of_getElem? (i := 120) rfl) rfl
theorem tw_cd_2_132 : q_hd mX3_readLines ∈ q_TB := tb_2 (List.mem_of_getElem? (i := 132) rfl) rfl
theorem tw_cd_2_136 : q_hd mX3_isFirstLine ∈ q_TB := tb_2 (List.mem_of_getElem? (i := 136) rfl) rfl
theorem tw_cd_2_141 : q_hd mX3_isExactly ∈ q_TB := tb_2 (List.mem_of_getElem? (i := 141) rfl) rfl
theorem tw_cd_2_194 : q_hd mX3_allWithin ∈ q_TB := tb_2 (List.mem_of_getElem? (i := 194) rfl) rfl
theorem tw_cd_2_198 : q_hd mX3_readField ∈ q_TB := tb_2 (List.mem_of_getElem? (i := 198) rfl) rfl
theorem tw_cd_2_201 : q_hd mX3_isNameSign ∈ q_TB := tb_2 (List.mem_of_getElem? (i := 201) rfl) rfl
theorem tw_cd_2_204 : q_hd mX3_isLetterOrDigit ∈ q_TB := tb_2 (List.mem_of_getElem? (i := 204) rfl) rfl
theorem tw_cd_2_208 : q_hd mX3_nameNumber ∈ q_TB := tb_2 (List.mem_of_getElem? (i := 208) rfl) rfl
theorem tw_cd_2_224 : q_hd mX3_keepField ∈ q_TB := tb_2 (List.mem_of_getElem? (i := 224) rfl) rfl
theorem tw_cd_2_213 : q_hd mX3_isSame ∈ q_TB := tb_2 (List.mem_of_getElem? (i := 213) rfl) rfl
theorem tw_cd_2_216 : q_hd mX3_asSmall ∈ q_TB := tb_2 (List.mem_of_getElem? (i := 216) rfl) rfl
theorem tw_cd_2_228 : q_hd mX3_skipBlanks ∈ q_TB := tb_2 (List.mem_of_getElem? (i := 228) rfl) rfl
theorem tw_cd_2_235 : q_hd mX3_skipBlanksBack ∈ q_TB := tb_2 (List.mem_of_getElem? (i := 235) rfl) rfl
theorem tw_cd_2_231 : q_hd mX3_isBlank ∈ q_TB := tb_2 (List.mem_of_getElem? (i := 231) rfl) rfl
theorem tw_cd_2_239 : q_hd mX3_hasDueFields ∈ q_TB := tb_2 (List.mem_of_getElem? (i := 239) rfl) rfl
theorem tw_cd_3_4 : q_hd mX3_hasWord ∈ q_TB := tb_3 (List.mem_of_getElem? (i := 4) rfl) rfl
theorem tw_cd_3_8 : q_hd mX3_isKey ∈ q_TB := tb_3 (List.mem_of_getElem? (i := 8) rfl) rfl
theorem tw_cd_1_75 : q_hd mX4_init ∈ q_TB := tb_1 (List.mem_of_getElem? (i := 75) rfl) rfl
theorem tw_cd_3_147 : q_hd mX4_restart ∈ q_TB := tb_3 (List.mem_of_getElem? (i := 147) rfl) rfl
theorem tw_cd_3_205 : q_hd mX4_isWhole ∈ q_TB := tb_3 (List.mem_of_getElem? (i := 205) rfl) rfl
theorem tw_cd_3_174 : q_hd mX4_accepts ∈ q_TB := tb_3 (List.mem_of_getElem? (i := 174) rfl) rfl
theorem tw_cd_3_197 : q_hd mX4_isText ∈ q_TB := tb_3 (List.mem_of_getElem? (i := 197) rfl) rfl
theorem tw_cd_3_178 : q_hd mX4_begins ∈ q_TB := tb_3 (List.mem_of_getElem? (i := 178) rfl) rfl
theorem tw_cd_1_137 : q_hd mX5_init ∈ q_TB := tb_1 (List.mem_of_getElem? (i := 137) rfl) rfl
theorem tw_cd_1_224 : q_hd mX5_size ∈ q_TB := tb_1 (List.mem_of_getElem? (i := 224) rfl) rfl
theorem tw_cd_4_76 : q_hd mX5_has ∈ q_TB := tb_4 (List.mem_of_getElem? (i := 76) rfl) rfl
theorem tw_cd_4_95 : q_hd mX5_kindOf ∈ q_TB := tb_4 (List.mem_of_getElem? (i := 95) rfl) rfl
theorem tw_cd_4_106 : q_hd mX5_lengthOf ∈ q_TB := tb_4 (List.mem_of_getElem? (i := 106) rfl) rfl
theorem tw_cd_4_117 : q_hd mX5_contentAt ∈ q_TB := tb_4 (List.mem_of_getElem? (i := 117) rfl) rfl
theorem tw_cd_4_16 : q_hd mX5_put ∈ q_TB := tb_4 (List.mem_of_getElem? (i := 16) rfl) rfl
theorem tw_cd_4_128 : q_hd mX5_removeOldest ∈ q_TB := tb_4 (List.mem_of_getElem? (i := 128) rfl) rfl
theorem tw_cd_4_20 : q_hd mX5_placeOf ∈ q_TB := tb_4 (List.mem_of_getElem? (i := 20) rfl) rfl
theorem tw_cd_1_26 : q_hd mX6_init ∈ q_TB := tb_1 (List.mem_of_getElem? (i := 26) rfl) rfl
theorem tw_cd_2_23 : q_hd mX6_feed ∈ q_TB := tb_2 (List.mem_of_getElem? (i := 23) rfl) rfl
theorem tw_cd_1_193 : q_hd mX6_state ∈ q_TB := tb_1 (List.mem_of_getElem? (i := 193) rfl) rfl
theorem tw_cd_1_197 : q_hd mX6_endCode ∈ q_TB := tb_1 (List.mem_of_getElem? (i := 197) rfl) rfl
theorem tw_cd_1_201 : q_hd mX6_outLength ∈ q_TB := tb_1 (List.mem_of_getElem? (i := 201) rfl) rfl
theorem tw_cd_4_44 : q_hd mX6_outAt ∈ q_TB := tb_4 (List.mem_of_getElem? (i := 44) rfl) rfl
theorem tw_cd_1_209 : q_hd mX6_drop ∈ q_TB := tb_1 (List.mem_of_getElem? (i := 209) rfl) rfl
theorem tw_cd_1_220 : q_hd mX6_messages ∈ q_TB := tb_1 (List.mem_of_getElem? (i := 220) rfl) rfl
theorem tw_cd_1_228 : q_hd mX6_delivered ∈ q_TB := tb_1 (List.mem_of_getElem? (i := 228) rfl) rfl
theorem tw_cd_4_72 : q_hd mX6_kind ∈ q_TB := tb_4 (List.mem_of_getElem? (i := 72) rfl) rfl
theorem tw_cd_4_102 : q_hd mX6_length ∈ q_TB := tb_4 (List.mem_of_getElem? (i := 102) rfl) rfl
theorem tw_cd_4_113 : q_hd mX6_byteAt ∈ q_TB := tb_4 (List.mem_of_getElem? (i := 113) rfl) rfl
theorem tw_cd_4_124 : q_hd mX6_take ∈ q_TB := tb_4 (List.mem_of_getElem? (i := 124) rfl) rfl
theorem tw_cd_1_232 : q_hd mX6_pongs ∈ q_TB := tb_1 (List.mem_of_getElem? (i := 232) rfl) rfl
theorem tw_cd_1_236 : q_hd mX6_write ∈ q_TB := tb_1 (List.mem_of_getElem? (i := 236) rfl) rfl
theorem tw_cd_2_10 : q_hd mX6_clear ∈ q_TB := tb_2 (List.mem_of_getElem? (i := 10) rfl) rfl
theorem tw_cd_4_135 : q_hd mX6_send ∈ q_TB := tb_4 (List.mem_of_getElem? (i := 135) rfl) rfl
theorem tw_cd_4_154 : q_hd mX6_ping ∈ q_TB := tb_4 (List.mem_of_getElem? (i := 154) rfl) rfl
theorem tw_cd_4_161 : q_hd mX6_close ∈ q_TB := tb_4 (List.mem_of_getElem? (i := 161) rfl) rfl
theorem tw_cd_1_239 : q_hd mX6_isByteCount ∈ q_TB := tb_1 (List.mem_of_getElem? (i := 239) rfl) rfl
theorem tw_cd_2_2 : q_hd mX6_byteOf ∈ q_TB := tb_2 (List.mem_of_getElem? (i := 2) rfl) rfl
theorem tw_cd_3_193 : q_hd mX6_mayStandInClose ∈ q_TB := tb_3 (List.mem_of_getElem? (i := 193) rfl) rfl
theorem tw_cd_2_106 : q_hd mX6_hearRequest ∈ q_TB := tb_2 (List.mem_of_getElem? (i := 106) rfl) rfl
theorem tw_cd_3_14 : q_hd mX6_answerRequest ∈ q_TB := tb_3 (List.mem_of_getElem? (i := 14) rfl) rfl
theorem tw_cd_3_118 : q_hd mX6_hearFrame ∈ q_TB := tb_3 (List.mem_of_getElem? (i := 118) rfl) rfl
theorem tw_cd_4_32 : q_hd mX6_violate ∈ q_TB := tb_4 (List.mem_of_getElem? (i := 32) rfl) rfl
theorem tw_cd_3_236 : q_hd mX6_endWith ∈ q_TB := tb_3 (List.mem_of_getElem? (i := 236) rfl) rfl
theorem tw_cd_3_210 : q_hd mX6_finishFrame ∈ q_TB := tb_3 (List.mem_of_getElem? (i := 210) rfl) rfl
theorem tw_cd_3_222 : q_hd mX6_hearClose ∈ q_TB := tb_3 (List.mem_of_getElem? (i := 222) rfl) rfl
theorem tw_cd_4_0 : q_hd mX6_hearPing ∈ q_TB := tb_4 (List.mem_of_getElem? (i := 0) rfl) rfl
theorem tw_cd_4_140 : q_hd mX6_maySay ∈ q_TB := tb_4 (List.mem_of_getElem? (i := 140) rfl) rfl
theorem tw_cd_4_144 : q_hd mX6_sayPieces ∈ q_TB := tb_4 (List.mem_of_getElem? (i := 144) rfl) rfl
theorem tw_cd_3_226 : q_hd mX6_say ∈ q_TB := tb_3 (List.mem_of_getElem? (i := 226) rfl) rfl
theorem tw_cd_3_230 : q_hd mX6_sayHead ∈ q_TB := tb_3 (List.mem_of_getElem? (i := 230) rfl) rfl
theorem tw_cd_4_36 : q_hd mX6_sayCode ∈ q_TB := tb_4 (List.mem_of_getElem? (i := 36) rfl) rfl
theorem tw_cd_4_167 : q_hd mX7_init ∈ q_TB := tb_4 (List.mem_of_getElem? (i := 167) rfl) rfl
theorem tw_cd_5_41 : q_hd mX7_thrown ∈ q_TB := tb_5 (List.mem_of_getElem? (i := 41) rfl) rfl
theorem tw_cd_5_49 : q_hd mX7_fail ∈ q_TB := tb_5 (List.mem_of_getElem? (i := 49) rfl) rfl
theorem tw_cd_5_135 : q_hd mX7_put ∈ q_TB := tb_5 (List.mem_of_getElem? (i := 135) rfl) rfl
theorem tw_cd_5_131 : q_hd mX7_text ∈ q_TB := tb_5 (List.mem_of_getElem? (i := 131) rfl) rfl
theorem tw_cd_5_141 : q_hd mX7_line ∈ q_TB := tb_5 (List.mem_of_getElem? (i := 141) rfl) rfl
theorem tw_cd_5_215 : q_hd mX7_head ∈ q_TB := tb_5 (List.mem_of_getElem? (i := 215) rfl) rfl
theorem tw_cd_5_211 : q_hd mX7_sayClose ∈ q_TB := tb_5 (List.mem_of_getElem? (i := 211) rfl) rfl
theorem tw_cd_5_219 : q_hd mX7_beginCharacters ∈ q_TB := tb_5 (List.mem_of_getElem? (i := 219) rfl) rfl
theorem tw_cd_6_21 : q_hd mX7_character ∈ q_TB := tb_6 (List.mem_of_getElem? (i := 21) rfl) rfl
theorem tw_cd_6_97 : q_hd mX7_isDraftText ∈ q_TB := tb_6 (List.mem_of_getElem? (i := 97) rfl) rfl
theorem tw_cd_5_80 : q_hd mX7_small ∈ q_TB := tb_5 (List.mem_of_getElem? (i := 80) rfl) rfl
theorem tw_cd_5_83 : q_hd mX7_isDigit ∈ q_TB := tb_5 (List.mem_of_getElem? (i := 83) rfl) rfl
theorem tw_cd_5_77 : q_hd mX7_isLetter ∈ q_TB := tb_5 (List.mem_of_getElem? (i := 77) rfl) rfl
theorem tw_cd_5_93 : q_hd mX7_known ∈ q_TB := tb_5 (List.mem_of_getElem? (i := 93) rfl) rfl
theorem tw_cd_5_90 : q_hd mX7_letter ∈ q_TB := tb_5 (List.mem_of_getElem? (i := 90) rfl) rfl
theorem tw_cd_5_87 : q_hd mX7_isWord ∈ q_TB := tb_5 (List.mem_of_getElem? (i := 87) rfl) rfl
theorem tw_cd_5_111 : q_hd mX7_isGap ∈ q_TB := tb_5 (List.mem_of_getElem? (i := 111) rfl) rfl
theorem tw_cd_5_108 : q_hd mX7_begin ∈ q_TB := tb_5 (List.mem_of_getElem? (i := 108) rfl) rfl
theorem tw_cd_5_115 : q_hd mX7_end ∈ q_TB := tb_5 (List.mem_of_getElem? (i := 115) rfl) rfl
theorem tw_cd_5_70 : q_hd mX7_isFirst ∈ q_TB := tb_5 (List.mem_of_getElem? (i := 70) rfl) rfl
theorem tw_cd_5_74 : q_hd mX7_takeLine ∈ q_TB := tb_5 (List.mem_of_getElem? (i := 74) rfl) rfl
theorem tw_cd_5_119 : q_hd mX7_hasWord ∈ q_TB := tb_5 (List.mem_of_getElem? (i := 119) rfl) rfl
theorem tw_cd_5_126 : q_hd mX7_isBase64 ∈ q_TB := tb_5 (List.mem_of_getElem? (i := 126) rfl) rfl
theorem tw_cd_5_123 : q_hd mX7_isKey ∈ q_TB := tb_5 (List.mem_of_getElem? (i := 123) rfl) rfl
theorem tw_cd_5_66 : q_hd mX7_isRequest ∈ q_TB := tb_5 (List.mem_of_getElem? (i := 66) rfl) rfl
theorem tw_cd_5_188 : q_hd mX7_rotated ∈ q_TB := tb_5 (List.mem_of_getElem? (i := 188) rfl) rfl
theorem tw_cd_5_185 : q_hd mX7_mix ∈ q_TB := tb_5 (List.mem_of_getElem? (i := 185) rfl) rfl
theorem tw_cd_5_172 : q_hd mX7_signs ∈ q_TB := tb_5 (List.mem_of_getElem? (i := 172) rfl) rfl
theorem tw_cd_5_167 : q_hd mX7_digest ∈ q_TB := tb_5 (List.mem_of_getElem? (i := 167) rfl) rfl
theorem tw_cd_5_196 : q_hd mX7_digestByte ∈ q_TB := tb_5 (List.mem_of_getElem? (i := 196) rfl) rfl
theorem tw_cd_5_199 : q_hd mX7_sign ∈ q_TB := tb_5 (List.mem_of_getElem? (i := 199) rfl) rfl
theorem tw_cd_5_163 : q_hd mX7_proof ∈ q_TB := tb_5 (List.mem_of_getElem? (i := 163) rfl) rfl
theorem tw_cd_5_62 : q_hd mX7_answer ∈ q_TB := tb_5 (List.mem_of_getElem? (i := 62) rfl) rfl
theorem tw_cd_5_58 : q_hd mX7_ask ∈ q_TB := tb_5 (List.mem_of_getElem? (i := 58) rfl) rfl
theorem tw_cd_5_207 : q_hd mX7_violate ∈ q_TB := tb_5 (List.mem_of_getElem? (i := 207) rfl) rfl
theorem tw_cd_5_203 : q_hd mX7_first ∈ q_TB := tb_5 (List.mem_of_getElem? (i := 203) rfl) rfl
theorem tw_cd_5_227 : q_hd mX7_isBrief ∈ q_TB := tb_5 (List.mem_of_getElem? (i := 227) rfl) rfl
theorem tw_cd_5_231 : q_hd mX7_measured ∈ q_TB := tb_5 (List.mem_of_getElem? (i := 231) rfl) rfl
theorem tw_cd_5_223 : q_hd mX7_second ∈ q_TB := tb_5 (List.mem_of_getElem? (i := 223) rfl) rfl
theorem tw_cd_5_236 : q_hd mX7_lengthByte ∈ q_TB := tb_5 (List.mem_of_getElem? (i := 236) rfl) rfl
theorem tw_cd_6_2 : q_hd mX7_maskByte ∈ q_TB := tb_6 (List.mem_of_getElem? (i := 2) rfl) rfl
theorem tw_cd_6_29 : q_hd mX7_contentByte ∈ q_TB := tb_6 (List.mem_of_getElem? (i := 29) rfl) rfl
theorem tw_cd_6_13 : q_hd mX7_isCode ∈ q_TB := tb_6 (List.mem_of_getElem? (i := 13) rfl) rfl
theorem tw_cd_6_17 : q_hd mX7_isReason ∈ q_TB := tb_6 (List.mem_of_getElem? (i := 17) rfl) rfl
theorem tw_cd_6_10 : q_hd mX7_closed ∈ q_TB := tb_6 (List.mem_of_getElem? (i := 10) rfl) rfl
theorem tw_cd_6_25 : q_hd mX7_deliver ∈ q_TB := tb_6 (List.mem_of_getElem? (i := 25) rfl) rfl
theorem tw_cd_6_6 : q_hd mX7_whole ∈ q_TB := tb_6 (List.mem_of_getElem? (i := 6) rfl) rfl
theorem tw_cd_5_54 : q_hd mX7_come ∈ q_TB := tb_5 (List.mem_of_getElem? (i := 54) rfl) rfl
theorem tw_cd_5_45 : q_hd mX7_feed ∈ q_TB := tb_5 (List.mem_of_getElem? (i := 45) rfl) rfl
theorem tw_cd_6_33 : q_hd mX7_state ∈ q_TB := tb_6 (List.mem_of_getElem? (i := 33) rfl) rfl
theorem tw_cd_6_37 : q_hd mX7_endCode ∈ q_TB := tb_6 (List.mem_of_getElem? (i := 37) rfl) rfl
theorem tw_cd_6_41 : q_hd mX7_outLength ∈ q_TB := tb_6 (List.mem_of_getElem? (i := 41) rfl) rfl
theorem tw_cd_6_45 : q_hd mX7_outAt ∈ q_TB := tb_6 (List.mem_of_getElem? (i := 45) rfl) rfl
theorem tw_cd_6_49 : q_hd mX7_drop ∈ q_TB := tb_6 (List.mem_of_getElem? (i := 49) rfl) rfl
theorem tw_cd_6_53 : q_hd mX7_messages ∈ q_TB := tb_6 (List.mem_of_getElem? (i := 53) rfl) rfl
theorem tw_cd_6_57 : q_hd mX7_delivered ∈ q_TB := tb_6 (List.mem_of_getElem? (i := 57) rfl) rfl
theorem tw_cd_6_65 : q_hd mX7_isMessage ∈ q_TB := tb_6 (List.mem_of_getElem? (i := 65) rfl) rfl
theorem tw_cd_6_61 : q_hd mX7_kind ∈ q_TB := tb_6 (List.mem_of_getElem? (i := 61) rfl) rfl
theorem tw_cd_6_69 : q_hd mX7_length ∈ q_TB := tb_6 (List.mem_of_getElem? (i := 69) rfl) rfl
theorem tw_cd_6_73 : q_hd mX7_byteAt ∈ q_TB := tb_6 (List.mem_of_getElem? (i := 73) rfl) rfl
theorem tw_cd_6_77 : q_hd mX7_take ∈ q_TB := tb_6 (List.mem_of_getElem? (i := 77) rfl) rfl
theorem tw_cd_6_81 : q_hd mX7_pongs ∈ q_TB := tb_6 (List.mem_of_getElem? (i := 81) rfl) rfl
theorem tw_cd_6_85 : q_hd mX7_write ∈ q_TB := tb_6 (List.mem_of_getElem? (i := 85) rfl) rfl
theorem tw_cd_6_89 : q_hd mX7_clear ∈ q_TB := tb_6 (List.mem_of_getElem? (i := 89) rfl) rfl
theorem tw_cd_6_93 : q_hd mX7_send ∈ q_TB := tb_6 (List.mem_of_getElem? (i := 93) rfl) rfl
theorem tw_cd_6_105 : q_hd mX7_putDraft ∈ q_TB := tb_6 (List.mem_of_getElem? (i := 105) rfl) rfl
theorem tw_cd_6_101 : q_hd mX7_ping ∈ q_TB := tb_6 (List.mem_of_getElem? (i := 101) rfl) rfl
theorem tw_cd_6_109 : q_hd mX7_close ∈ q_TB := tb_6 (List.mem_of_getElem? (i := 109) rfl) rfl
theorem tw_cd_4_23 : q_hd mJ9_floorMod_7cf53 ∈ q_TB := tb_4 (List.mem_of_getElem? (i := 23) rfl) rfl
theorem tw_cd_4_147 : q_hd mJ9_min_7cf53 ∈ q_TB := tb_4 (List.mem_of_getElem? (i := 147) rfl) rfl
theorem tw_cd_2_145 : q_hd mJ0_length_8abf5 ∈ q_TB := tb_2 (List.mem_of_getElem? (i := 145) rfl) rfl
theorem tw_cd_2_155 : q_hd mJ0_charAt_5068e ∈ q_TB := tb_2 (List.mem_of_getElem? (i := 155) rfl) rfl
theorem tw_cd_2_149 : q_hd mJ0_coder_7d493 ∈ q_TB := tb_2 (List.mem_of_getElem? (i := 149) rfl) rfl
theorem tw_cd_2_159 : q_hd mJ0_isLatin1_aae02 ∈ q_TB := tb_2 (List.mem_of_getElem? (i := 159) rfl) rfl
theorem tw_cd_2_165 : q_hd mJ0_checkIndex_df160 ∈ q_TB := tb_2 (List.mem_of_getElem? (i := 165) rfl) rfl
theorem tw_cd_2_162 : q_hd mJ1_charAt_3b067 ∈ q_TB := tb_2 (List.mem_of_getElem? (i := 162) rfl) rfl
theorem tw_cd_2_183 : q_hd mJ2_getChar_3b067 ∈ q_TB := tb_2 (List.mem_of_getElem? (i := 183) rfl) rfl
theorem tw_cd_2_179 : q_hd mJ2_length_9d52b ∈ q_TB := tb_2 (List.mem_of_getElem? (i := 179) rfl) rfl
theorem tw_cd_2_173 : q_hd mJ2_charAt_3b067 ∈ q_TB := tb_2 (List.mem_of_getElem? (i := 173) rfl) rfl
theorem tw_cd_2_176 : q_hd mJ2_checkIndex_2214a ∈ q_TB := tb_2 (List.mem_of_getElem? (i := 176) rfl) rfl
theorem tw_cd_2_170 : q_hd mJ3_checkIndex_8e157 ∈ q_TB := tb_2 (List.mem_of_getElem? (i := 170) rfl) rfl
theorem tw_cd_2_17 : Cond.codeWith yL_feed cL_feed 6 (some .int) [(0, 11, 14, 13), (0, 11, 18, 15)] ∈ q_TB := tb_2 (List.mem_of_getElem? (i := 17) rfl) rfl
theorem tw_cd_4_39 : Cond.codeWith yL_outAt cL_outAt 4 (some .int) [(0, 9, 12, 21)] ∈ q_TB := tb_4 (List.mem_of_getElem? (i := 39) rfl) rfl
theorem tw_cd_4_67 : Cond.codeWith yL_kind cL_kind 4 (some .int) [(0, 9, 12, 26)] ∈ q_TB := tb_4 (List.mem_of_getElem? (i := 67) rfl) rfl
theorem tw_cd_4_98 : Cond.codeWith yL_length cL_length 4 (some .int) [(0, 9, 12, 26)] ∈ q_TB := tb_4 (List.mem_of_getElem? (i := 98) rfl) rfl
theorem tw_cd_4_109 : Cond.codeWith yL_byteAt cL_byteAt 5 (some .int) [(0, 10, 13, 26), (0, 10, 17, 21)] ∈ q_TB := tb_4 (List.mem_of_getElem? (i := 109) rfl) rfl
theorem tw_cd_4_120 : Cond.codeWith yL_take cL_take 3 (some .int) [(0, 8, 11, 26)] ∈ q_TB := tb_4 (List.mem_of_getElem? (i := 120) rfl) rfl
theorem tw_cd_4_131 : Cond.codeWith yL_send cL_send 5 (some .int) [(0, 10, 13, 13), (0, 10, 17, 15)] ∈ q_TB := tb_4 (List.mem_of_getElem? (i := 131) rfl) rfl
theorem tw_cd_4_150 : Cond.codeWith yL_ping cL_ping 2 (some .int) [(0, 4, 7, 15)] ∈ q_TB := tb_4 (List.mem_of_getElem? (i := 150) rfl) rfl
theorem tw_cd_4_157 : Cond.codeWith yL_close cL_close 3 (some .int) [(0, 5, 8, 13), (0, 5, 11, 15)] ∈ q_TB := tb_4 (List.mem_of_getElem? (i := 157) rfl) rfl
theorem tw_fl_1_42 : Cond.fieldLink RX0 7 "FramedTalk$ByteRow" "row" "[I" ∈ q_TB := tb_1 (List.mem_of_getElem? (i := 42) rfl) rfl
theorem tw_ml_1_41 : Cond.methodLink RX0 1 objectInit ∈ q_TB := tb_1 (List.mem_of_getElem? (i := 41) rfl) rfl
theorem tw_im_1_28 : Cond.instanceMethod objectInit ∈ q_TB := tb_1 (List.mem_of_getElem? (i := 28) rfl) rfl
theorem tw_fl_1_43 : Cond.fieldLink RX0 13 "FramedTalk$ByteRow" "count" "I" ∈ q_TB := tb_1 (List.mem_of_getElem? (i := 43) rfl) rfl
theorem tw_ml_3_20 : Cond.methodLink RX0 17 yJ0_length_8abf5 ∈ q_TB := tb_3 (List.mem_of_getElem? (i := 20) rfl) rfl
theorem tw_im_2_143 : Cond.instanceMethod yJ0_length_8abf5 ∈ q_TB := tb_2 (List.mem_of_getElem? (i := 143) rfl) rfl
theorem tw_se_2_144 : Cond.selects RJ0 yJ0_length_8abf5 yJ0_length_8abf5 ∈ q_TB := tb_2 (List.mem_of_getElem? (i := 144) rfl) rfl
theorem tw_in_1_13 : Cond.initialized RJ0 ∈ q_TB := tb_1 (List.mem_of_getElem? (i := 13) rfl) rfl
theorem tw_ml_3_21 : Cond.methodLink RX0 23 yJ0_charAt_5068e ∈ q_TB := tb_3 (List.mem_of_getElem? (i := 21) rfl) rfl
theorem tw_im_2_153 : Cond.instanceMethod yJ0_charAt_5068e ∈ q_TB := tb_2 (List.mem_of_getElem? (i := 153) rfl) rfl
theorem tw_se_2_154 : Cond.selects RJ0 yJ0_charAt_5068e yJ0_charAt_5068e ∈ q_TB := tb_2 (List.mem_of_getElem? (i := 154) rfl) rfl
theorem tw_ml_3_22 : Cond.methodLink RX0 27 yX0_add ∈ q_TB := tb_3 (List.mem_of_getElem? (i := 22) rfl) rfl
theorem tw_im_2_4 : Cond.instanceMethod yX0_add ∈ q_TB := tb_2 (List.mem_of_getElem? (i := 4) rfl) rfl
theorem tw_se_2_5 : Cond.selects RX0 yX0_add yX0_add ∈ q_TB := tb_2 (List.mem_of_getElem? (i := 5) rfl) rfl
theorem tw_in_1_3 : Cond.initialized RX0 ∈ q_TB := tb_1 (List.mem_of_getElem? (i := 3) rfl) rfl
theorem tw_ml_3_54 : Cond.methodLink RX0 31 yX0_at ∈ q_TB := tb_3 (List.mem_of_getElem? (i := 54) rfl) rfl
theorem tw_im_2_122 : Cond.instanceMethod yX0_at ∈ q_TB := tb_2 (List.mem_of_getElem? (i := 122) rfl) rfl
theorem tw_se_2_123 : Cond.selects RX0 yX0_at yX0_at ∈ q_TB := tb_2 (List.mem_of_getElem? (i := 123) rfl) rfl
theorem tw_ml_1_214 : Cond.methodLink RX0 35 arraycopyName ∈ q_TB := tb_1 (List.mem_of_getElem? (i := 214) rfl) rfl
theorem tw_st_1_215 : Cond.static arraycopyName ∈ q_TB := tb_1 (List.mem_of_getElem? (i := 215) rfl) rfl
theorem tw_in_1_19 : Cond.initialized RJ10 ∈ q_TB := tb_1 (List.mem_of_getElem? (i := 19) rfl) rfl
theorem tw_fl_1_87 : Cond.fieldLink RX1 9 "FramedTalk$Frames" "mask" "[I" ∈ q_TB := tb_1 (List.mem_of_getElem? (i := 87) rfl) rfl
theorem tw_fl_1_88 : Cond.fieldLink RX1 20 "FramedTalk$Frames" "message" "LFramedTalk$ByteRow;" ∈ q_TB := tb_1 (List.mem_of_getElem? (i := 88) rfl) rfl
theorem tw_fl_1_89 : Cond.fieldLink RX1 24 "FramedTalk$Frames" "shortContent" "LFramedTalk$ByteRow;" ∈ q_TB := tb_1 (List.mem_of_getElem? (i := 89) rfl) rfl
theorem tw_fl_1_90 : Cond.fieldLink RX1 30 "FramedTalk$Frames" "messageCheck" "LFramedTalk$TextCheck;" ∈ q_TB := tb_1 (List.mem_of_getElem? (i := 90) rfl) rfl
theorem tw_fl_1_91 : Cond.fieldLink RX1 34 "FramedTalk$Frames" "reasonCheck" "LFramedTalk$TextCheck;" ∈ q_TB := tb_1 (List.mem_of_getElem? (i := 91) rfl) rfl
theorem tw_fl_1_92 : Cond.fieldLink RX1 37 "FramedTalk$Frames" "place" "I" ∈ q_TB := tb_1 (List.mem_of_getElem? (i := 92) rfl) rfl
theorem tw_ml_1_68 : Cond.methodLink RX1 3 objectInit ∈ q_TB := tb_1 (List.mem_of_getElem? (i := 68) rfl) rfl
theorem tw_cl_1_69 : Cond.classLink RX1 15 RX0 ∈ q_TB := tb_1 (List.mem_of_getElem? (i := 69) rfl) rfl
theorem tw_is_1_37 : Cond.instantiable RX0 2 ∈ q_TB := tb_1 (List.mem_of_getElem? (i := 37) rfl) rfl
theorem tw_ml_1_70 : Cond.methodLink RX1 17 yX0_init ∈ q_TB := tb_1 (List.mem_of_getElem? (i := 70) rfl) rfl
theorem tw_im_1_39 : Cond.instanceMethod yX0_init ∈ q_TB := tb_1 (List.mem_of_getElem? (i := 39) rfl) rfl
theorem tw_cl_1_71 : Cond.classLink RX1 27 RX4 ∈ q_TB := tb_1 (List.mem_of_getElem? (i := 71) rfl) rfl
theorem tw_is_1_72 : Cond.instantiable RX4 3 ∈ q_TB := tb_1 (List.mem_of_getElem? (i := 72) rfl) rfl
theorem tw_in_1_5 : Cond.initialized RX4 ∈ q_TB := tb_1 (List.mem_of_getElem? (i := 5) rfl) rfl
theorem tw_im_1_74 : Cond.instanceMethod yX4_init ∈ q_TB := tb_1 (List.mem_of_getElem? (i := 74) rfl) rfl
theorem tw_fl_1_93 : Cond.fieldLink RX1 41 "FramedTalk$Frames" "frameKind" "I" ∈ q_TB := tb_1 (List.mem_of_getElem? (i := 93) rfl) rfl
theorem tw_fl_1_94 : Cond.fieldLink RX1 44 "FramedTalk$Frames" "last" "Z" ∈ q_TB := tb_1 (List.mem_of_getElem? (i := 94) rfl) rfl
theorem tw_fl_1_96 : Cond.fieldLink RX1 48 "FramedTalk$Frames" "messageKind" "I" ∈ q_TB := tb_1 (List.mem_of_getElem? (i := 96) rfl) rfl
theorem tw_fl_1_101 : Cond.fieldLink RX1 55 "FramedTalk$Frames" "contentRead" "I" ∈ q_TB := tb_1 (List.mem_of_getElem? (i := 101) rfl) rfl
theorem tw_fl_1_99 : Cond.fieldLink RX1 58 "FramedTalk$Frames" "contentLength" "J" ∈ q_TB := tb_1 (List.mem_of_getElem? (i := 99) rfl) rfl
theorem tw_ml_3_123 : Cond.methodLink RX1 51 yX1_readPart ∈ q_TB := tb_3 (List.mem_of_getElem? (i := 123) rfl) rfl
theorem tw_im_3_125 : Cond.instanceMethod yX1_readPart ∈ q_TB := tb_3 (List.mem_of_getElem? (i := 125) rfl) rfl
theorem tw_sp_24 : Cond.selects RX1 yX1_readPart yX1_readPart ∈ q_TB := tb_0 (List.mem_of_getElem? (i := 24) rfl) rfl
theorem tw_in_1_4 : Cond.initialized RX1 ∈ q_TB := tb_1 (List.mem_of_getElem? (i := 4) rfl) rfl
theorem tw_ml_3_179 : Cond.methodLink RX1 62 yX1_judgeFrame ∈ q_TB := tb_3 (List.mem_of_getElem? (i := 179) rfl) rfl
theorem tw_im_3_181 : Cond.instanceMethod yX1_judgeFrame ∈ q_TB := tb_3 (List.mem_of_getElem? (i := 181) rfl) rfl
theorem tw_sp_35 : Cond.selects RX1 yX1_judgeFrame yX1_judgeFrame ∈ q_TB := tb_0 (List.mem_of_getElem? (i := 35) rfl) rfl
theorem tw_ml_3_127 : Cond.methodLink RX1 66 yX1_readFirst ∈ q_TB := tb_3 (List.mem_of_getElem? (i := 127) rfl) rfl
theorem tw_im_3_129 : Cond.instanceMethod yX1_readFirst ∈ q_TB := tb_3 (List.mem_of_getElem? (i := 129) rfl) rfl
theorem tw_sp_25 : Cond.selects RX1 yX1_readFirst yX1_readFirst ∈ q_TB := tb_0 (List.mem_of_getElem? (i := 25) rfl) rfl
theorem tw_ml_3_148 : Cond.methodLink RX1 69 yX1_readSecond ∈ q_TB := tb_3 (List.mem_of_getElem? (i := 148) rfl) rfl
theorem tw_im_3_150 : Cond.instanceMethod yX1_readSecond ∈ q_TB := tb_3 (List.mem_of_getElem? (i := 150) rfl) rfl
theorem tw_sp_29 : Cond.selects RX1 yX1_readSecond yX1_readSecond ∈ q_TB := tb_0 (List.mem_of_getElem? (i := 29) rfl) rfl
theorem tw_ml_3_157 : Cond.methodLink RX1 72 yX1_readLength ∈ q_TB := tb_3 (List.mem_of_getElem? (i := 157) rfl) rfl
theorem tw_im_3_159 : Cond.instanceMethod yX1_readLength ∈ q_TB := tb_3 (List.mem_of_getElem? (i := 159) rfl) rfl
theorem tw_sp_31 : Cond.selects RX1 yX1_readLength yX1_readLength ∈ q_TB := tb_0 (List.mem_of_getElem? (i := 31) rfl) rfl
theorem tw_ml_3_162 : Cond.methodLink RX1 75 yX1_readMask ∈ q_TB := tb_3 (List.mem_of_getElem? (i := 162) rfl) rfl
theorem tw_im_3_164 : Cond.instanceMethod yX1_readMask ∈ q_TB := tb_3 (List.mem_of_getElem? (i := 164) rfl) rfl
theorem tw_sp_32 : Cond.selects RX1 yX1_readMask yX1_readMask ∈ q_TB := tb_0 (List.mem_of_getElem? (i := 32) rfl) rfl
theorem tw_ml_3_166 : Cond.methodLink RX1 78 yX1_readContent ∈ q_TB := tb_3 (List.mem_of_getElem? (i := 166) rfl) rfl
theorem tw_im_3_168 : Cond.instanceMethod yX1_readContent ∈ q_TB := tb_3 (List.mem_of_getElem? (i := 168) rfl) rfl
theorem tw_sp_33 : Cond.selects RX1 yX1_readContent yX1_readContent ∈ q_TB := tb_0 (List.mem_of_getElem? (i := 33) rfl) rfl
theorem tw_ml_3_131 : Cond.methodLink RX1 81 yX1_mayComeNow ∈ q_TB := tb_3 (List.mem_of_getElem? (i := 131) rfl) rfl
theorem tw_im_3_133 : Cond.instanceMethod yX1_mayComeNow ∈ q_TB := tb_3 (List.mem_of_getElem? (i := 133) rfl) rfl
theorem tw_sp_26 : Cond.selects RX1 yX1_mayComeNow yX1_mayComeNow ∈ q_TB := tb_0 (List.mem_of_getElem? (i := 26) rfl) rfl
theorem tw_ml_3_135 : Cond.methodLink RX1 85 yX1_isShort ∈ q_TB := tb_3 (List.mem_of_getElem? (i := 135) rfl) rfl
theorem tw_im_3_137 : Cond.instanceMethod yX1_isShort ∈ q_TB := tb_3 (List.mem_of_getElem? (i := 137) rfl) rfl
theorem tw_sp_27 : Cond.selects RX1 yX1_isShort yX1_isShort ∈ q_TB := tb_0 (List.mem_of_getElem? (i := 27) rfl) rfl
theorem tw_ml_3_139 : Cond.methodLink RX1 88 yX0_empty ∈ q_TB := tb_3 (List.mem_of_getElem? (i := 139) rfl) rfl
theorem tw_im_2_12 : Cond.instanceMethod yX0_empty ∈ q_TB := tb_2 (List.mem_of_getElem? (i := 12) rfl) rfl
theorem tw_se_2_13 : Cond.selects RX0 yX0_empty yX0_empty ∈ q_TB := tb_2 (List.mem_of_getElem? (i := 13) rfl) rfl
theorem tw_ml_3_140 : Cond.methodLink RX1 91 yX1_beginMessage ∈ q_TB := tb_3 (List.mem_of_getElem? (i := 140) rfl) rfl
theorem tw_im_3_142 : Cond.instanceMethod yX1_beginMessage ∈ q_TB := tb_3 (List.mem_of_getElem? (i := 142) rfl) rfl
theorem tw_sp_28 : Cond.selects RX1 yX1_beginMessage yX1_beginMessage ∈ q_TB := tb_0 (List.mem_of_getElem? (i := 28) rfl) rfl
theorem tw_fl_1_95 : Cond.fieldLink RX1 94 "FramedTalk$Frames" "underWay" "Z" ∈ q_TB := tb_1 (List.mem_of_getElem? (i := 95) rfl) rfl
theorem tw_ml_3_144 : Cond.methodLink RX1 97 yX4_restart ∈ q_TB := tb_3 (List.mem_of_getElem? (i := 144) rfl) rfl
theorem tw_im_3_145 : Cond.instanceMethod yX4_restart ∈ q_TB := tb_3 (List.mem_of_getElem? (i := 145) rfl) rfl
theorem tw_se_3_146 : Cond.selects RX4 yX4_restart yX4_restart ∈ q_TB := tb_3 (List.mem_of_getElem? (i := 146) rfl) rfl
theorem tw_fl_1_97 : Cond.fieldLink RX1 103 "FramedTalk$Frames" "lengthSize" "I" ∈ q_TB := tb_1 (List.mem_of_getElem? (i := 97) rfl) rfl
theorem tw_fl_1_98 : Cond.fieldLink RX1 106 "FramedTalk$Frames" "lengthRead" "I" ∈ q_TB := tb_1 (List.mem_of_getElem? (i := 98) rfl) rfl
theorem tw_ml_3_152 : Cond.methodLink RX1 100 yX1_judgeLength ∈ q_TB := tb_3 (List.mem_of_getElem? (i := 152) rfl) rfl
theorem tw_im_3_154 : Cond.instanceMethod yX1_judgeLength ∈ q_TB := tb_3 (List.mem_of_getElem? (i := 154) rfl) rfl
theorem tw_sp_30 : Cond.selects RX1 yX1_judgeLength yX1_judgeLength ∈ q_TB := tb_0 (List.mem_of_getElem? (i := 30) rfl) rfl
theorem tw_k1_3_161 : Cond.constant RX1 109 (65536) ∈ q_TB := tb_3 (List.mem_of_getElem? (i := 161) rfl) rfl
theorem tw_fl_1_100 : Cond.fieldLink RX1 113 "FramedTalk$Frames" "maskRead" "I" ∈ q_TB := tb_1 (List.mem_of_getElem? (i := 100) rfl) rfl
theorem tw_ml_3_156 : Cond.methodLink RX1 110 yX0_size ∈ q_TB := tb_3 (List.mem_of_getElem? (i := 156) rfl) rfl
theorem tw_im_1_203 : Cond.instanceMethod yX0_size ∈ q_TB := tb_1 (List.mem_of_getElem? (i := 203) rfl) rfl
theorem tw_se_1_204 : Cond.selects RX0 yX0_size yX0_size ∈ q_TB := tb_1 (List.mem_of_getElem? (i := 204) rfl) rfl
theorem tw_ml_3_170 : Cond.methodLink RX1 116 yX0_add ∈ q_TB := tb_3 (List.mem_of_getElem? (i := 170) rfl) rfl
theorem tw_ml_3_171 : Cond.methodLink RX1 119 yX4_accepts ∈ q_TB := tb_3 (List.mem_of_getElem? (i := 171) rfl) rfl
theorem tw_im_3_172 : Cond.instanceMethod yX4_accepts ∈ q_TB := tb_3 (List.mem_of_getElem? (i := 172) rfl) rfl
theorem tw_se_3_173 : Cond.selects RX4 yX4_accepts yX4_accepts ∈ q_TB := tb_3 (List.mem_of_getElem? (i := 173) rfl) rfl
theorem tw_ml_3_183 : Cond.methodLink RX1 123 yX1_judgeClose ∈ q_TB := tb_3 (List.mem_of_getElem? (i := 183) rfl) rfl
theorem tw_im_3_185 : Cond.instanceMethod yX1_judgeClose ∈ q_TB := tb_3 (List.mem_of_getElem? (i := 185) rfl) rfl
theorem tw_sp_36 : Cond.selects RX1 yX1_judgeClose yX1_judgeClose ∈ q_TB := tb_0 (List.mem_of_getElem? (i := 36) rfl) rfl
theorem tw_ml_3_206 : Cond.methodLink RX1 126 yX4_isWhole ∈ q_TB := tb_3 (List.mem_of_getElem? (i := 206) rfl) rfl
theorem tw_im_3_203 : Cond.instanceMethod yX4_isWhole ∈ q_TB := tb_3 (List.mem_of_getElem? (i := 203) rfl) rfl
theorem tw_se_3_204 : Cond.selects RX4 yX4_isWhole yX4_isWhole ∈ q_TB := tb_3 (List.mem_of_getElem? (i := 204) rfl) rfl
theorem tw_ml_3_187 : Cond.methodLink RX1 129 yX0_pairAtStart ∈ q_TB := tb_3 (List.mem_of_getElem? (i := 187) rfl) rfl
theorem tw_im_3_188 : Cond.instanceMethod yX0_pairAtStart ∈ q_TB := tb_3 (List.mem_of_getElem? (i := 188) rfl) rfl
theorem tw_se_3_189 : Cond.selects RX0 yX0_pairAtStart yX0_pairAtStart ∈ q_TB := tb_3 (List.mem_of_getElem? (i := 189) rfl) rfl
theorem tw_st_3_192 : Cond.static yX6_mayStandInClose ∈ q_TB := tb_3 (List.mem_of_getElem? (i := 192) rfl) rfl
theorem tw_in_1_1 : Cond.initialized RX6 ∈ q_TB := tb_1 (List.mem_of_getElem? (i := 1) rfl) rfl
theorem tw_ml_3_194 : Cond.methodLink RX1 135 yX4_isText ∈ q_TB := tb_3 (List.mem_of_getElem? (i := 194) rfl) rfl
theorem tw_im_3_195 : Cond.instanceMethod yX4_isText ∈ q_TB := tb_3 (List.mem_of_getElem? (i := 195) rfl) rfl
theorem tw_se_3_196 : Cond.selects RX4 yX4_isText yX4_isText ∈ q_TB := tb_3 (List.mem_of_getElem? (i := 196) rfl) rfl
theorem tw_fl_3_31 : Cond.fieldLink RX2 16 "FramedTalk$Proof" "bytes" "LFramedTalk$ByteRow;" ∈ q_TB := tb_3 (List.mem_of_getElem? (i := 31) rfl) rfl
theorem tw_fl_3_32 : Cond.fieldLink RX2 20 "FramedTalk$Proof" "w" "[I" ∈ q_TB := tb_3 (List.mem_of_getElem? (i := 32) rfl) rfl
theorem tw_fl_3_33 : Cond.fieldLink RX2 24 "FramedTalk$Proof" "h" "[I" ∈ q_TB := tb_3 (List.mem_of_getElem? (i := 33) rfl) rfl
theorem tw_ml_3_28 : Cond.methodLink RX2 3 objectInit ∈ q_TB := tb_3 (List.mem_of_getElem? (i := 28) rfl) rfl
theorem tw_cl_3_29 : Cond.classLink RX2 9 RX0 ∈ q_TB := tb_3 (List.mem_of_getElem? (i := 29) rfl) rfl
theorem tw_ml_3_30 : Cond.methodLink RX2 13 yX0_init ∈ q_TB := tb_3 (List.mem_of_getElem? (i := 30) rfl) rfl
theorem tw_ml_3_46 : Cond.methodLink RX2 27 yX3_putKeyInto ∈ q_TB := tb_3 (List.mem_of_getElem? (i := 46) rfl) rfl
theorem tw_im_3_47 : Cond.instanceMethod yX3_putKeyInto ∈ q_TB := tb_3 (List.mem_of_getElem? (i := 47) rfl) rfl
theorem tw_se_3_48 : Cond.selects RX3 yX3_putKeyInto yX3_putKeyInto ∈ q_TB := tb_3 (List.mem_of_getElem? (i := 48) rfl) rfl
theorem tw_in_1_2 : Cond.initialized RX3 ∈ q_TB := tb_1 (List.mem_of_getElem? (i := 2) rfl) rfl
theorem tw_ml_3_56 : Cond.methodLink RX2 35 yX0_addText ∈ q_TB := tb_3 (List.mem_of_getElem? (i := 56) rfl) rfl
theorem tw_im_3_17 : Cond.instanceMethod yX0_addText ∈ q_TB := tb_3 (List.mem_of_getElem? (i := 17) rfl) rfl
theorem tw_se_3_18 : Cond.selects RX0 yX0_addText yX0_addText ∈ q_TB := tb_3 (List.mem_of_getElem? (i := 18) rfl) rfl
theorem tw_ml_3_57 : Cond.methodLink RX2 39 yX2_pad ∈ q_TB := tb_3 (List.mem_of_getElem? (i := 57) rfl) rfl
theorem tw_im_3_59 : Cond.instanceMethod yX2_pad ∈ q_TB := tb_3 (List.mem_of_getElem? (i := 59) rfl) rfl
theorem tw_sp_17 : Cond.selects RX2 yX2_pad yX2_pad ∈ q_TB := tb_0 (List.mem_of_getElem? (i := 17) rfl) rfl
theorem tw_in_1_17 : Cond.initialized RX2 ∈ q_TB := tb_1 (List.mem_of_getElem? (i := 17) rfl) rfl
theorem tw_ml_3_63 : Cond.methodLink RX2 42 yX2_startWords ∈ q_TB := tb_3 (List.mem_of_getElem? (i := 63) rfl) rfl
theorem tw_im_3_65 : Cond.instanceMethod yX2_startWords ∈ q_TB := tb_3 (List.mem_of_getElem? (i := 65) rfl) rfl
theorem tw_sp_18 : Cond.selects RX2 yX2_startWords yX2_startWords ∈ q_TB := tb_0 (List.mem_of_getElem? (i := 18) rfl) rfl
theorem tw_ml_3_72 : Cond.methodLink RX2 45 yX2_spread ∈ q_TB := tb_3 (List.mem_of_getElem? (i := 72) rfl) rfl
theorem tw_im_3_74 : Cond.instanceMethod yX2_spread ∈ q_TB := tb_3 (List.mem_of_getElem? (i := 74) rfl) rfl
theorem tw_sp_19 : Cond.selects RX2 yX2_spread yX2_spread ∈ q_TB := tb_0 (List.mem_of_getElem? (i := 19) rfl) rfl
theorem tw_ml_3_80 : Cond.methodLink RX2 48 yX2_mix ∈ q_TB := tb_3 (List.mem_of_getElem? (i := 80) rfl) rfl
theorem tw_im_3_82 : Cond.instanceMethod yX2_mix ∈ q_TB := tb_3 (List.mem_of_getElem? (i := 82) rfl) rfl
theorem tw_sp_20 : Cond.selects RX2 yX2_mix yX2_mix ∈ q_TB := tb_0 (List.mem_of_getElem? (i := 20) rfl) rfl
theorem tw_ml_3_91 : Cond.methodLink RX2 51 yX2_putBase64 ∈ q_TB := tb_3 (List.mem_of_getElem? (i := 91) rfl) rfl
theorem tw_im_3_93 : Cond.instanceMethod yX2_putBase64 ∈ q_TB := tb_3 (List.mem_of_getElem? (i := 93) rfl) rfl
theorem tw_sp_21 : Cond.selects RX2 yX2_putBase64 yX2_putBase64 ∈ q_TB := tb_0 (List.mem_of_getElem? (i := 21) rfl) rfl
theorem tw_ml_3_61 : Cond.methodLink RX2 54 yX0_size ∈ q_TB := tb_3 (List.mem_of_getElem? (i := 61) rfl) rfl
theorem tw_ml_3_62 : Cond.methodLink RX2 58 yX0_add ∈ q_TB := tb_3 (List.mem_of_getElem? (i := 62) rfl) rfl
theorem tw_k1_3_67 : Cond.constant RX2 61 (1732584193) ∈ q_TB := tb_3 (List.mem_of_getElem? (i := 67) rfl) rfl
theorem tw_k1_3_68 : Cond.constant RX2 62 (-271733879) ∈ q_TB := tb_3 (List.mem_of_getElem? (i := 68) rfl) rfl
theorem tw_k1_3_69 : Cond.constant RX2 63 (-1732584194) ∈ q_TB := tb_3 (List.mem_of_getElem? (i := 69) rfl) rfl
theorem tw_k1_3_70 : Cond.constant RX2 64 (271733878) ∈ q_TB := tb_3 (List.mem_of_getElem? (i := 70) rfl) rfl
theorem tw_k1_3_71 : Cond.constant RX2 65 (-1009589776) ∈ q_TB := tb_3 (List.mem_of_getElem? (i := 71) rfl) rfl
theorem tw_ml_3_76 : Cond.methodLink RX2 66 yX0_at ∈ q_TB := tb_3 (List.mem_of_getElem? (i := 76) rfl) rfl
theorem tw_ml_3_77 : Cond.methodLink RX2 70 yX2_rotated ∈ q_TB := tb_3 (List.mem_of_getElem? (i := 77) rfl) rfl
theorem tw_st_3_78 : Cond.static yX2_rotated ∈ q_TB := tb_3 (List.mem_of_getElem? (i := 78) rfl) rfl
theorem tw_ml_3_84 : Cond.methodLink RX2 74 yX2_blend ∈ q_TB := tb_3 (List.mem_of_getElem? (i := 84) rfl) rfl
theorem tw_st_3_85 : Cond.static yX2_blend ∈ q_TB := tb_3 (List.mem_of_getElem? (i := 85) rfl) rfl
theorem tw_k1_3_87 : Cond.constant RX2 78 (1518500249) ∈ q_TB := tb_3 (List.mem_of_getElem? (i := 87) rfl) rfl
theorem tw_k1_3_88 : Cond.constant RX2 79 (1859775393) ∈ q_TB := tb_3 (List.mem_of_getElem? (i := 88) rfl) rfl
theorem tw_k1_3_89 : Cond.constant RX2 80 (1894007588) ∈ q_TB := tb_3 (List.mem_of_getElem? (i := 89) rfl) rfl
theorem tw_k1_3_90 : Cond.constant RX2 81 (899497514) ∈ q_TB := tb_3 (List.mem_of_getElem? (i := 90) rfl) rfl
theorem tw_ml_3_95 : Cond.methodLink RX2 82 yX2_digestByte ∈ q_TB := tb_3 (List.mem_of_getElem? (i := 95) rfl) rfl
theorem tw_im_3_97 : Cond.instanceMethod yX2_digestByte ∈ q_TB := tb_3 (List.mem_of_getElem? (i := 97) rfl) rfl
theorem tw_sp_22 : Cond.selects RX2 yX2_digestByte yX2_digestByte ∈ q_TB := tb_0 (List.mem_of_getElem? (i := 22) rfl) rfl
theorem tw_ml_3_99 : Cond.methodLink RX2 85 yX2_putSigns ∈ q_TB := tb_3 (List.mem_of_getElem? (i := 99) rfl) rfl
theorem tw_st_3_100 : Cond.static yX2_putSigns ∈ q_TB := tb_3 (List.mem_of_getElem? (i := 100) rfl) rfl
theorem tw_ml_3_103 : Cond.methodLink RX2 91 yJ0_charAt_5068e ∈ q_TB := tb_3 (List.mem_of_getElem? (i := 103) rfl) rfl
theorem tw_fl_1_50 : Cond.fieldLink RX3 14 "FramedTalk$Request" "bytes" "LFramedTalk$ByteRow;" ∈ q_TB := tb_1 (List.mem_of_getElem? (i := 50) rfl) rfl
theorem tw_fl_1_51 : Cond.fieldLink RX3 20 "FramedTalk$Request" "seen" "[I" ∈ q_TB := tb_1 (List.mem_of_getElem? (i := 51) rfl) rfl
theorem tw_fl_1_52 : Cond.fieldLink RX3 24 "FramedTalk$Request" "starts" "[I" ∈ q_TB := tb_1 (List.mem_of_getElem? (i := 52) rfl) rfl
theorem tw_fl_1_53 : Cond.fieldLink RX3 27 "FramedTalk$Request" "ends" "[I" ∈ q_TB := tb_1 (List.mem_of_getElem? (i := 53) rfl) rfl
theorem tw_ml_1_35 : Cond.methodLink RX3 3 objectInit ∈ q_TB := tb_1 (List.mem_of_getElem? (i := 35) rfl) rfl
theorem tw_cl_1_36 : Cond.classLink RX3 9 RX0 ∈ q_TB := tb_1 (List.mem_of_getElem? (i := 36) rfl) rfl
theorem tw_ml_1_38 : Cond.methodLink RX3 11 yX0_init ∈ q_TB := tb_1 (List.mem_of_getElem? (i := 38) rfl) rfl
theorem tw_ml_2_111 : Cond.methodLink RX3 30 yX0_add ∈ q_TB := tb_2 (List.mem_of_getElem? (i := 111) rfl) rfl
theorem tw_ml_3_111 : Cond.methodLink RX3 33 yX0_isFull ∈ q_TB := tb_3 (List.mem_of_getElem? (i := 111) rfl) rfl
theorem tw_im_3_112 : Cond.instanceMethod yX0_isFull ∈ q_TB := tb_3 (List.mem_of_getElem? (i := 112) rfl) rfl
theorem tw_se_3_113 : Cond.selects RX0 yX0_isFull yX0_isFull ∈ q_TB := tb_3 (List.mem_of_getElem? (i := 113) rfl) rfl
theorem tw_ml_2_116 : Cond.methodLink RX3 37 yX0_size ∈ q_TB := tb_2 (List.mem_of_getElem? (i := 116) rfl) rfl
theorem tw_ml_2_117 : Cond.methodLink RX3 41 yX3_isLineEnd ∈ q_TB := tb_2 (List.mem_of_getElem? (i := 117) rfl) rfl
theorem tw_im_2_119 : Cond.instanceMethod yX3_isLineEnd ∈ q_TB := tb_2 (List.mem_of_getElem? (i := 119) rfl) rfl
theorem tw_sp_2 : Cond.selects RX3 yX3_isLineEnd yX3_isLineEnd ∈ q_TB := tb_0 (List.mem_of_getElem? (i := 2) rfl) rfl
theorem tw_ml_2_129 : Cond.methodLink RX3 45 yX3_readLines ∈ q_TB := tb_2 (List.mem_of_getElem? (i := 129) rfl) rfl
theorem tw_im_2_131 : Cond.instanceMethod yX3_readLines ∈ q_TB := tb_2 (List.mem_of_getElem? (i := 131) rfl) rfl
theorem tw_sp_3 : Cond.selects RX3 yX3_readLines yX3_readLines ∈ q_TB := tb_0 (List.mem_of_getElem? (i := 3) rfl) rfl
theorem tw_ml_2_236 : Cond.methodLink RX3 48 yX3_hasDueFields ∈ q_TB := tb_2 (List.mem_of_getElem? (i := 236) rfl) rfl
theorem tw_im_2_238 : Cond.instanceMethod yX3_hasDueFields ∈ q_TB := tb_2 (List.mem_of_getElem? (i := 238) rfl) rfl
theorem tw_sp_13 : Cond.selects RX3 yX3_hasDueFields yX3_hasDueFields ∈ q_TB := tb_0 (List.mem_of_getElem? (i := 13) rfl) rfl
theorem tw_ml_2_210 : Cond.methodLink RX3 53 yX3_isSame ∈ q_TB := tb_2 (List.mem_of_getElem? (i := 210) rfl) rfl
theorem tw_im_2_212 : Cond.instanceMethod yX3_isSame ∈ q_TB := tb_2 (List.mem_of_getElem? (i := 212) rfl) rfl
theorem tw_sp_9 : Cond.selects RX3 yX3_isSame yX3_isSame ∈ q_TB := tb_0 (List.mem_of_getElem? (i := 9) rfl) rfl
theorem tw_ml_3_50 : Cond.methodLink RX3 57 yX0_addPart ∈ q_TB := tb_3 (List.mem_of_getElem? (i := 50) rfl) rfl
theorem tw_im_3_51 : Cond.instanceMethod yX0_addPart ∈ q_TB := tb_3 (List.mem_of_getElem? (i := 51) rfl) rfl
theorem tw_se_3_52 : Cond.selects RX0 yX0_addPart yX0_addPart ∈ q_TB := tb_3 (List.mem_of_getElem? (i := 52) rfl) rfl
theorem tw_ml_2_121 : Cond.methodLink RX3 61 yX0_at ∈ q_TB := tb_2 (List.mem_of_getElem? (i := 121) rfl) rfl
theorem tw_ml_2_133 : Cond.methodLink RX3 65 yX3_isFirstLine ∈ q_TB := tb_2 (List.mem_of_getElem? (i := 133) rfl) rfl
theorem tw_im_2_135 : Cond.instanceMethod yX3_isFirstLine ∈ q_TB := tb_2 (List.mem_of_getElem? (i := 135) rfl) rfl
theorem tw_sp_4 : Cond.selects RX3 yX3_isFirstLine yX3_isFirstLine ∈ q_TB := tb_0 (List.mem_of_getElem? (i := 4) rfl) rfl
theorem tw_ml_2_195 : Cond.methodLink RX3 68 yX3_readField ∈ q_TB := tb_2 (List.mem_of_getElem? (i := 195) rfl) rfl
theorem tw_im_2_197 : Cond.instanceMethod yX3_readField ∈ q_TB := tb_2 (List.mem_of_getElem? (i := 197) rfl) rfl
theorem tw_sp_7 : Cond.selects RX3 yX3_readField yX3_readField ∈ q_TB := tb_0 (List.mem_of_getElem? (i := 7) rfl) rfl
theorem tw_ml_2_138 : Cond.methodLink RX3 74 yX3_isExactly ∈ q_TB := tb_2 (List.mem_of_getElem? (i := 138) rfl) rfl
theorem tw_im_2_140 : Cond.instanceMethod yX3_isExactly ∈ q_TB := tb_2 (List.mem_of_getElem? (i := 140) rfl) rfl
theorem tw_sp_5 : Cond.selects RX3 yX3_isExactly yX3_isExactly ∈ q_TB := tb_0 (List.mem_of_getElem? (i := 5) rfl) rfl
theorem tw_ml_2_191 : Cond.methodLink RX3 80 yX3_allWithin ∈ q_TB := tb_2 (List.mem_of_getElem? (i := 191) rfl) rfl
theorem tw_im_2_193 : Cond.instanceMethod yX3_allWithin ∈ q_TB := tb_2 (List.mem_of_getElem? (i := 193) rfl) rfl
theorem tw_sp_6 : Cond.selects RX3 yX3_allWithin yX3_allWithin ∈ q_TB := tb_0 (List.mem_of_getElem? (i := 6) rfl) rfl
theorem tw_ml_2_142 : Cond.methodLink RX3 84 yJ0_length_8abf5 ∈ q_TB := tb_2 (List.mem_of_getElem? (i := 142) rfl) rfl
theorem tw_ml_2_152 : Cond.methodLink RX3 89 yJ0_charAt_5068e ∈ q_TB := tb_2 (List.mem_of_getElem? (i := 152) rfl) rfl
theorem tw_ml_2_199 : Cond.methodLink RX3 93 yX3_isNameSign ∈ q_TB := tb_2 (List.mem_of_getElem? (i := 199) rfl) rfl
theorem tw_st_2_200 : Cond.static yX3_isNameSign ∈ q_TB := tb_2 (List.mem_of_getElem? (i := 200) rfl) rfl
theorem tw_ml_2_205 : Cond.methodLink RX3 96 yX3_nameNumber ∈ q_TB := tb_2 (List.mem_of_getElem? (i := 205) rfl) rfl
theorem tw_im_2_207 : Cond.instanceMethod yX3_nameNumber ∈ q_TB := tb_2 (List.mem_of_getElem? (i := 207) rfl) rfl
theorem tw_sp_8 : Cond.selects RX3 yX3_nameNumber yX3_nameNumber ∈ q_TB := tb_0 (List.mem_of_getElem? (i := 8) rfl) rfl
theorem tw_ml_2_221 : Cond.methodLink RX3 100 yX3_keepField ∈ q_TB := tb_2 (List.mem_of_getElem? (i := 221) rfl) rfl
theorem tw_im_2_223 : Cond.instanceMethod yX3_keepField ∈ q_TB := tb_2 (List.mem_of_getElem? (i := 223) rfl) rfl
theorem tw_sp_10 : Cond.selects RX3 yX3_keepField yX3_keepField ∈ q_TB := tb_0 (List.mem_of_getElem? (i := 10) rfl) rfl
theorem tw_ml_2_202 : Cond.methodLink RX3 104 yX3_isLetterOrDigit ∈ q_TB := tb_2 (List.mem_of_getElem? (i := 202) rfl) rfl
theorem tw_st_2_203 : Cond.static yX3_isLetterOrDigit ∈ q_TB := tb_2 (List.mem_of_getElem? (i := 203) rfl) rfl
theorem tw_ml_2_225 : Cond.methodLink RX3 117 yX3_skipBlanks ∈ q_TB := tb_2 (List.mem_of_getElem? (i := 225) rfl) rfl
theorem tw_im_2_227 : Cond.instanceMethod yX3_skipBlanks ∈ q_TB := tb_2 (List.mem_of_getElem? (i := 227) rfl) rfl
theorem tw_sp_11 : Cond.selects RX3 yX3_skipBlanks yX3_skipBlanks ∈ q_TB := tb_0 (List.mem_of_getElem? (i := 11) rfl) rfl
theorem tw_ml_2_232 : Cond.methodLink RX3 120 yX3_skipBlanksBack ∈ q_TB := tb_2 (List.mem_of_getElem? (i := 232) rfl) rfl
theorem tw_im_2_234 : Cond.instanceMethod yX3_skipBlanksBack ∈ q_TB := tb_2 (List.mem_of_getElem? (i := 234) rfl) rfl
theorem tw_sp_12 : Cond.selects RX3 yX3_skipBlanksBack yX3_skipBlanksBack ∈ q_TB := tb_0 (List.mem_of_getElem? (i := 12) rfl) rfl
theorem tw_ml_2_214 : Cond.methodLink RX3 123 yX3_asSmall ∈ q_TB := tb_2 (List.mem_of_getElem? (i := 214) rfl) rfl
theorem tw_st_2_215 : Cond.static yX3_asSmall ∈ q_TB := tb_2 (List.mem_of_getElem? (i := 215) rfl) rfl
theorem tw_ml_2_229 : Cond.methodLink RX3 126 yX3_isBlank ∈ q_TB := tb_2 (List.mem_of_getElem? (i := 229) rfl) rfl
theorem tw_st_2_230 : Cond.static yX3_isBlank ∈ q_TB := tb_2 (List.mem_of_getElem? (i := 230) rfl) rfl
theorem tw_ml_3_1 : Cond.methodLink RX3 131 yX3_hasWord ∈ q_TB := tb_3 (List.mem_of_getElem? (i := 1) rfl) rfl
theorem tw_im_3_3 : Cond.instanceMethod yX3_hasWord ∈ q_TB := tb_3 (List.mem_of_getElem? (i := 3) rfl) rfl
theorem tw_sp_14 : Cond.selects RX3 yX3_hasWord yX3_hasWord ∈ q_TB := tb_0 (List.mem_of_getElem? (i := 14) rfl) rfl
theorem tw_ml_3_5 : Cond.methodLink RX3 134 yX3_isKey ∈ q_TB := tb_3 (List.mem_of_getElem? (i := 5) rfl) rfl
theorem tw_im_3_7 : Cond.instanceMethod yX3_isKey ∈ q_TB := tb_3 (List.mem_of_getElem? (i := 7) rfl) rfl
theorem tw_sp_15 : Cond.selects RX3 yX3_isKey yX3_isKey ∈ q_TB := tb_0 (List.mem_of_getElem? (i := 15) rfl) rfl
theorem tw_ml_1_76 : Cond.methodLink RX4 1 objectInit ∈ q_TB := tb_1 (List.mem_of_getElem? (i := 76) rfl) rfl
theorem tw_fl_1_77 : Cond.fieldLink RX4 7 "FramedTalk$TextCheck" "due" "I" ∈ q_TB := tb_1 (List.mem_of_getElem? (i := 77) rfl) rfl
theorem tw_fl_1_78 : Cond.fieldLink RX4 17 "FramedTalk$TextCheck" "lowest" "I" ∈ q_TB := tb_1 (List.mem_of_getElem? (i := 78) rfl) rfl
theorem tw_fl_1_79 : Cond.fieldLink RX4 20 "FramedTalk$TextCheck" "highest" "I" ∈ q_TB := tb_1 (List.mem_of_getElem? (i := 79) rfl) rfl
theorem tw_ml_3_175 : Cond.methodLink RX4 13 yX4_begins ∈ q_TB := tb_3 (List.mem_of_getElem? (i := 175) rfl) rfl
theorem tw_im_3_177 : Cond.instanceMethod yX4_begins ∈ q_TB := tb_3 (List.mem_of_getElem? (i := 177) rfl) rfl
theorem tw_sp_34 : Cond.selects RX4 yX4_begins yX4_begins ∈ q_TB := tb_0 (List.mem_of_getElem? (i := 34) rfl) rfl
theorem tw_ml_3_198 : Cond.methodLink RX4 23 yX4_restart ∈ q_TB := tb_3 (List.mem_of_getElem? (i := 198) rfl) rfl
theorem tw_ml_3_199 : Cond.methodLink RX4 26 yX0_size ∈ q_TB := tb_3 (List.mem_of_getElem? (i := 199) rfl) rfl
theorem tw_ml_3_200 : Cond.methodLink RX4 32 yX0_at ∈ q_TB := tb_3 (List.mem_of_getElem? (i := 200) rfl) rfl
theorem tw_ml_3_201 : Cond.methodLink RX4 36 yX4_accepts ∈ q_TB := tb_3 (List.mem_of_getElem? (i := 201) rfl) rfl
theorem tw_ml_3_202 : Cond.methodLink RX4 39 yX4_isWhole ∈ q_TB := tb_3 (List.mem_of_getElem? (i := 202) rfl) rfl
theorem tw_fl_1_139 : Cond.fieldLink RX5 9 "FramedTalk$Waiting" "contents" "[I" ∈ q_TB := tb_1 (List.mem_of_getElem? (i := 139) rfl) rfl
theorem tw_fl_1_140 : Cond.fieldLink RX5 15 "FramedTalk$Waiting" "kinds" "[I" ∈ q_TB := tb_1 (List.mem_of_getElem? (i := 140) rfl) rfl
theorem tw_fl_1_141 : Cond.fieldLink RX5 18 "FramedTalk$Waiting" "lengths" "[I" ∈ q_TB := tb_1 (List.mem_of_getElem? (i := 141) rfl) rfl
theorem tw_ml_1_138 : Cond.methodLink RX5 3 objectInit ∈ q_TB := tb_1 (List.mem_of_getElem? (i := 138) rfl) rfl
theorem tw_fl_1_143 : Cond.fieldLink RX5 21 "FramedTalk$Waiting" "count" "I" ∈ q_TB := tb_1 (List.mem_of_getElem? (i := 143) rfl) rfl
theorem tw_ml_4_17 : Cond.methodLink RX5 25 yX5_placeOf ∈ q_TB := tb_4 (List.mem_of_getElem? (i := 17) rfl) rfl
theorem tw_im_4_19 : Cond.instanceMethod yX5_placeOf ∈ q_TB := tb_4 (List.mem_of_getElem? (i := 19) rfl) rfl
theorem tw_sp_43 : Cond.selects RX5 yX5_placeOf yX5_placeOf ∈ q_TB := tb_0 (List.mem_of_getElem? (i := 43) rfl) rfl
theorem tw_in_1_6 : Cond.initialized RX5 ∈ q_TB := tb_1 (List.mem_of_getElem? (i := 6) rfl) rfl
theorem tw_ml_4_24 : Cond.methodLink RX5 29 yX0_size ∈ q_TB := tb_4 (List.mem_of_getElem? (i := 24) rfl) rfl
theorem tw_ml_4_25 : Cond.methodLink RX5 35 yX0_copyTo ∈ q_TB := tb_4 (List.mem_of_getElem? (i := 25) rfl) rfl
theorem tw_im_4_26 : Cond.instanceMethod yX0_copyTo ∈ q_TB := tb_4 (List.mem_of_getElem? (i := 26) rfl) rfl
theorem tw_se_4_27 : Cond.selects RX0 yX0_copyTo yX0_copyTo ∈ q_TB := tb_4 (List.mem_of_getElem? (i := 27) rfl) rfl
theorem tw_fl_1_142 : Cond.fieldLink RX5 39 "FramedTalk$Waiting" "oldest" "I" ∈ q_TB := tb_1 (List.mem_of_getElem? (i := 142) rfl) rfl
theorem tw_ml_4_21 : Cond.methodLink RX5 42 yJ9_floorMod_7cf53 ∈ q_TB := tb_4 (List.mem_of_getElem? (i := 21) rfl) rfl
theorem tw_st_4_22 : Cond.static yJ9_floorMod_7cf53 ∈ q_TB := tb_4 (List.mem_of_getElem? (i := 22) rfl) rfl
theorem tw_in_1_18 : Cond.initialized RJ9 ∈ q_TB := tb_1 (List.mem_of_getElem? (i := 18) rfl) rfl
theorem tw_fl_1_159 : Cond.fieldLink RX6 12 "FramedTalk" "request" "LFramedTalk$Request;" ∈ q_TB := tb_1 (List.mem_of_getElem? (i := 159) rfl) rfl
theorem tw_fl_1_160 : Cond.fieldLink RX6 19 "FramedTalk" "frames" "LFramedTalk$Frames;" ∈ q_TB := tb_1 (List.mem_of_getElem? (i := 160) rfl) rfl
theorem tw_fl_1_161 : Cond.fieldLink RX6 26 "FramedTalk" "waiting" "LFramedTalk$Waiting;" ∈ q_TB := tb_1 (List.mem_of_getElem? (i := 161) rfl) rfl
theorem tw_fl_1_162 : Cond.fieldLink RX6 35 "FramedTalk" "out" "LFramedTalk$ByteRow;" ∈ q_TB := tb_1 (List.mem_of_getElem? (i := 162) rfl) rfl
theorem tw_fl_1_163 : Cond.fieldLink RX6 39 "FramedTalk" "draft" "LFramedTalk$ByteRow;" ∈ q_TB := tb_1 (List.mem_of_getElem? (i := 163) rfl) rfl
theorem tw_fl_1_164 : Cond.fieldLink RX6 45 "FramedTalk" "draftCheck" "LFramedTalk$TextCheck;" ∈ q_TB := tb_1 (List.mem_of_getElem? (i := 164) rfl) rfl
theorem tw_fl_1_165 : Cond.fieldLink RX6 49 "FramedTalk" "state" "I" ∈ q_TB := tb_1 (List.mem_of_getElem? (i := 165) rfl) rfl
theorem tw_ml_1_27 : Cond.methodLink RX6 3 objectInit ∈ q_TB := tb_1 (List.mem_of_getElem? (i := 27) rfl) rfl
theorem tw_cl_1_30 : Cond.classLink RX6 9 RX3 ∈ q_TB := tb_1 (List.mem_of_getElem? (i := 30) rfl) rfl
theorem tw_is_1_31 : Cond.instantiable RX3 4 ∈ q_TB := tb_1 (List.mem_of_getElem? (i := 31) rfl) rfl
theorem tw_ml_1_32 : Cond.methodLink RX6 11 yX3_init ∈ q_TB := tb_1 (List.mem_of_getElem? (i := 32) rfl) rfl
theorem tw_im_1_33 : Cond.instanceMethod yX3_init ∈ q_TB := tb_1 (List.mem_of_getElem? (i := 33) rfl) rfl
theorem tw_cl_1_63 : Cond.classLink RX6 16 RX1 ∈ q_TB := tb_1 (List.mem_of_getElem? (i := 63) rfl) rfl
theorem tw_is_1_64 : Cond.instantiable RX1 15 ∈ q_TB := tb_1 (List.mem_of_getElem? (i := 64) rfl) rfl
theorem tw_ml_1_65 : Cond.methodLink RX6 18 yX1_init ∈ q_TB := tb_1 (List.mem_of_getElem? (i := 65) rfl) rfl
theorem tw_im_1_66 : Cond.instanceMethod yX1_init ∈ q_TB := tb_1 (List.mem_of_getElem? (i := 66) rfl) rfl
theorem tw_cl_1_133 : Cond.classLink RX6 23 RX5 ∈ q_TB := tb_1 (List.mem_of_getElem? (i := 133) rfl) rfl
theorem tw_is_1_134 : Cond.instantiable RX5 5 ∈ q_TB := tb_1 (List.mem_of_getElem? (i := 134) rfl) rfl
theorem tw_ml_1_135 : Cond.methodLink RX6 25 yX5_init ∈ q_TB := tb_1 (List.mem_of_getElem? (i := 135) rfl) rfl
theorem tw_im_1_136 : Cond.instanceMethod yX5_init ∈ q_TB := tb_1 (List.mem_of_getElem? (i := 136) rfl) rfl
theorem tw_cl_1_155 : Cond.classLink RX6 30 RX0 ∈ q_TB := tb_1 (List.mem_of_getElem? (i := 155) rfl) rfl
theorem tw_ml_1_156 : Cond.methodLink RX6 32 yX0_init ∈ q_TB := tb_1 (List.mem_of_getElem? (i := 156) rfl) rfl
theorem tw_cl_1_157 : Cond.classLink RX6 42 RX4 ∈ q_TB := tb_1 (List.mem_of_getElem? (i := 157) rfl) rfl
theorem tw_fl_1_167 : Cond.fieldLink RX6 63 "FramedTalk" "delivered" "I" ∈ q_TB := tb_1 (List.mem_of_getElem? (i := 167) rfl) rfl
theorem tw_ml_1_237 : Cond.methodLink RX6 53 yX6_isByteCount ∈ q_TB := tb_1 (List.mem_of_getElem? (i := 237) rfl) rfl
theorem tw_st_1_238 : Cond.static yX6_isByteCount ∈ q_TB := tb_1 (List.mem_of_getElem? (i := 238) rfl) rfl
theorem tw_cl_2_24 : Cond.classLink RX6 57 "java/lang/IllegalArgumentException" ∈ q_TB := tb_2 (List.mem_of_getElem? (i := 24) rfl) rfl
theorem tw_in_1_11 : Cond.initialized "java/lang/IllegalArgumentException" ∈ q_TB := tb_1 (List.mem_of_getElem? (i := 11) rfl) rfl
theorem tw_cl_2_88 : Cond.classLink RX6 60 "java/lang/IllegalStateException" ∈ q_TB := tb_2 (List.mem_of_getElem? (i := 88) rfl) rfl
theorem tw_in_1_12 : Cond.initialized "java/lang/IllegalStateException" ∈ q_TB := tb_1 (List.mem_of_getElem? (i := 12) rfl) rfl
theorem tw_ml_2_0 : Cond.methodLink RX6 66 yX6_byteOf ∈ q_TB := tb_2 (List.mem_of_getElem? (i := 0) rfl) rfl
theorem tw_st_2_1 : Cond.static yX6_byteOf ∈ q_TB := tb_2 (List.mem_of_getElem? (i := 1) rfl) rfl
theorem tw_ml_2_103 : Cond.methodLink RX6 70 yX6_hearRequest ∈ q_TB := tb_2 (List.mem_of_getElem? (i := 103) rfl) rfl
theorem tw_im_2_105 : Cond.instanceMethod yX6_hearRequest ∈ q_TB := tb_2 (List.mem_of_getElem? (i := 105) rfl) rfl
theorem tw_sp_1 : Cond.selects RX6 yX6_hearRequest yX6_hearRequest ∈ q_TB := tb_0 (List.mem_of_getElem? (i := 1) rfl) rfl
theorem tw_ml_3_115 : Cond.methodLink RX6 73 yX6_hearFrame ∈ q_TB := tb_3 (List.mem_of_getElem? (i := 115) rfl) rfl
theorem tw_im_3_117 : Cond.instanceMethod yX6_hearFrame ∈ q_TB := tb_3 (List.mem_of_getElem? (i := 117) rfl) rfl
theorem tw_sp_23 : Cond.selects RX6 yX6_hearFrame yX6_hearFrame ∈ q_TB := tb_0 (List.mem_of_getElem? (i := 23) rfl) rfl
theorem tw_fl_1_166 : Cond.fieldLink RX6 76 "FramedTalk" "endCode" "I" ∈ q_TB := tb_1 (List.mem_of_getElem? (i := 166) rfl) rfl
theorem tw_ml_1_202 : Cond.methodLink RX6 79 yX0_size ∈ q_TB := tb_1 (List.mem_of_getElem? (i := 202) rfl) rfl
theorem tw_ml_4_45 : Cond.methodLink RX6 83 yX0_has ∈ q_TB := tb_4 (List.mem_of_getElem? (i := 45) rfl) rfl
theorem tw_im_4_46 : Cond.instanceMethod yX0_has ∈ q_TB := tb_4 (List.mem_of_getElem? (i := 46) rfl) rfl
theorem tw_se_4_47 : Cond.selects RX0 yX0_has yX0_has ∈ q_TB := tb_4 (List.mem_of_getElem? (i := 47) rfl) rfl
theorem tw_cl_4_49 : Cond.classLink RX6 86 "java/lang/IndexOutOfBoundsException" ∈ q_TB := tb_4 (List.mem_of_getElem? (i := 49) rfl) rfl
theorem tw_in_1_20 : Cond.initialized "java/lang/IndexOutOfBoundsException" ∈ q_TB := tb_1 (List.mem_of_getElem? (i := 20) rfl) rfl
theorem tw_ml_4_64 : Cond.methodLink RX6 89 yX0_at ∈ q_TB := tb_4 (List.mem_of_getElem? (i := 64) rfl) rfl
theorem tw_ml_1_210 : Cond.methodLink RX6 93 yX0_cutFront ∈ q_TB := tb_1 (List.mem_of_getElem? (i := 210) rfl) rfl
theorem tw_im_1_211 : Cond.instanceMethod yX0_cutFront ∈ q_TB := tb_1 (List.mem_of_getElem? (i := 211) rfl) rfl
theorem tw_se_1_212 : Cond.selects RX0 yX0_cutFront yX0_cutFront ∈ q_TB := tb_1 (List.mem_of_getElem? (i := 212) rfl) rfl
theorem tw_ml_1_221 : Cond.methodLink RX6 96 yX5_size ∈ q_TB := tb_1 (List.mem_of_getElem? (i := 221) rfl) rfl
theorem tw_im_1_222 : Cond.instanceMethod yX5_size ∈ q_TB := tb_1 (List.mem_of_getElem? (i := 222) rfl) rfl
theorem tw_se_1_223 : Cond.selects RX5 yX5_size yX5_size ∈ q_TB := tb_1 (List.mem_of_getElem? (i := 223) rfl) rfl
theorem tw_ml_4_73 : Cond.methodLink RX6 97 yX5_has ∈ q_TB := tb_4 (List.mem_of_getElem? (i := 73) rfl) rfl
theorem tw_im_4_74 : Cond.instanceMethod yX5_has ∈ q_TB := tb_4 (List.mem_of_getElem? (i := 74) rfl) rfl
theorem tw_se_4_75 : Cond.selects RX5 yX5_has yX5_has ∈ q_TB := tb_4 (List.mem_of_getElem? (i := 75) rfl) rfl
theorem tw_cl_4_77 : Cond.classLink RX6 98 "java/util/NoSuchElementException" ∈ q_TB := tb_4 (List.mem_of_getElem? (i := 77) rfl) rfl
theorem tw_in_1_21 : Cond.initialized "java/util/NoSuchElementException" ∈ q_TB := tb_1 (List.mem_of_getElem? (i := 21) rfl) rfl
theorem tw_ml_4_92 : Cond.methodLink RX6 101 yX5_kindOf ∈ q_TB := tb_4 (List.mem_of_getElem? (i := 92) rfl) rfl
theorem tw_im_4_93 : Cond.instanceMethod yX5_kindOf ∈ q_TB := tb_4 (List.mem_of_getElem? (i := 93) rfl) rfl
theorem tw_se_4_94 : Cond.selects RX5 yX5_kindOf yX5_kindOf ∈ q_TB := tb_4 (List.mem_of_getElem? (i := 94) rfl) rfl
theorem tw_ml_4_103 : Cond.methodLink RX6 104 yX5_lengthOf ∈ q_TB := tb_4 (List.mem_of_getElem? (i := 103) rfl) rfl
theorem tw_im_4_104 : Cond.instanceMethod yX5_lengthOf ∈ q_TB := tb_4 (List.mem_of_getElem? (i := 104) rfl) rfl
theorem tw_se_4_105 : Cond.selects RX5 yX5_lengthOf yX5_lengthOf ∈ q_TB := tb_4 (List.mem_of_getElem? (i := 105) rfl) rfl
theorem tw_ml_4_114 : Cond.methodLink RX6 107 yX5_contentAt ∈ q_TB := tb_4 (List.mem_of_getElem? (i := 114) rfl) rfl
theorem tw_im_4_115 : Cond.instanceMethod yX5_contentAt ∈ q_TB := tb_4 (List.mem_of_getElem? (i := 115) rfl) rfl
theorem tw_se_4_116 : Cond.selects RX5 yX5_contentAt yX5_contentAt ∈ q_TB := tb_4 (List.mem_of_getElem? (i := 116) rfl) rfl
theorem tw_ml_4_125 : Cond.methodLink RX6 111 yX5_removeOldest ∈ q_TB := tb_4 (List.mem_of_getElem? (i := 125) rfl) rfl
theorem tw_im_4_126 : Cond.instanceMethod yX5_removeOldest ∈ q_TB := tb_4 (List.mem_of_getElem? (i := 126) rfl) rfl
theorem tw_se_4_127 : Cond.selects RX5 yX5_removeOldest yX5_removeOldest ∈ q_TB := tb_4 (List.mem_of_getElem? (i := 127) rfl) rfl
theorem tw_fl_1_168 : Cond.fieldLink RX6 114 "FramedTalk" "pongs" "I" ∈ q_TB := tb_1 (List.mem_of_getElem? (i := 168) rfl) rfl
theorem tw_ml_2_3 : Cond.methodLink RX6 117 yX0_add ∈ q_TB := tb_2 (List.mem_of_getElem? (i := 3) rfl) rfl
theorem tw_ml_2_11 : Cond.methodLink RX6 120 yX0_empty ∈ q_TB := tb_2 (List.mem_of_getElem? (i := 11) rfl) rfl
theorem tw_ml_4_136 : Cond.methodLink RX6 123 yX4_isText ∈ q_TB := tb_4 (List.mem_of_getElem? (i := 136) rfl) rfl
theorem tw_ml_4_137 : Cond.methodLink RX6 127 yX6_maySay ∈ q_TB := tb_4 (List.mem_of_getElem? (i := 137) rfl) rfl
theorem tw_im_4_139 : Cond.instanceMethod yX6_maySay ∈ q_TB := tb_4 (List.mem_of_getElem? (i := 139) rfl) rfl
theorem tw_sp_46 : Cond.selects RX6 yX6_maySay yX6_maySay ∈ q_TB := tb_0 (List.mem_of_getElem? (i := 46) rfl) rfl
theorem tw_ml_4_141 : Cond.methodLink RX6 130 yX6_sayPieces ∈ q_TB := tb_4 (List.mem_of_getElem? (i := 141) rfl) rfl
theorem tw_im_4_143 : Cond.instanceMethod yX6_sayPieces ∈ q_TB := tb_4 (List.mem_of_getElem? (i := 143) rfl) rfl
theorem tw_sp_47 : Cond.selects RX6 yX6_sayPieces yX6_sayPieces ∈ q_TB := tb_0 (List.mem_of_getElem? (i := 47) rfl) rfl
theorem tw_ml_3_223 : Cond.methodLink RX6 134 yX6_say ∈ q_TB := tb_3 (List.mem_of_getElem? (i := 223) rfl) rfl
theorem tw_im_3_225 : Cond.instanceMethod yX6_say ∈ q_TB := tb_3 (List.mem_of_getElem? (i := 225) rfl) rfl
theorem tw_sp_39 : Cond.selects RX6 yX6_say yX6_say ∈ q_TB := tb_0 (List.mem_of_getElem? (i := 39) rfl) rfl
theorem tw_ml_4_162 : Cond.methodLink RX6 138 yX6_mayStandInClose ∈ q_TB := tb_4 (List.mem_of_getElem? (i := 162) rfl) rfl
theorem tw_ml_3_227 : Cond.methodLink RX6 141 yX6_sayHead ∈ q_TB := tb_3 (List.mem_of_getElem? (i := 227) rfl) rfl
theorem tw_im_3_229 : Cond.instanceMethod yX6_sayHead ∈ q_TB := tb_3 (List.mem_of_getElem? (i := 229) rfl) rfl
theorem tw_sp_40 : Cond.selects RX6 yX6_sayHead yX6_sayHead ∈ q_TB := tb_0 (List.mem_of_getElem? (i := 40) rfl) rfl
theorem tw_ml_4_33 : Cond.methodLink RX6 145 yX6_sayCode ∈ q_TB := tb_4 (List.mem_of_getElem? (i := 33) rfl) rfl
theorem tw_im_4_35 : Cond.instanceMethod yX6_sayCode ∈ q_TB := tb_4 (List.mem_of_getElem? (i := 35) rfl) rfl
theorem tw_sp_45 : Cond.selects RX6 yX6_sayCode yX6_sayCode ∈ q_TB := tb_0 (List.mem_of_getElem? (i := 45) rfl) rfl
theorem tw_ml_3_231 : Cond.methodLink RX6 148 yX0_addPart ∈ q_TB := tb_3 (List.mem_of_getElem? (i := 231) rfl) rfl
theorem tw_ml_2_107 : Cond.methodLink RX6 152 yX3_gather ∈ q_TB := tb_2 (List.mem_of_getElem? (i := 107) rfl) rfl
theorem tw_im_2_108 : Cond.instanceMethod yX3_gather ∈ q_TB := tb_2 (List.mem_of_getElem? (i := 108) rfl) rfl
theorem tw_se_2_109 : Cond.selects RX3 yX3_gather yX3_gather ∈ q_TB := tb_2 (List.mem_of_getElem? (i := 109) rfl) rfl
theorem tw_ml_2_112 : Cond.methodLink RX6 155 yX3_isComplete ∈ q_TB := tb_2 (List.mem_of_getElem? (i := 112) rfl) rfl
theorem tw_im_2_113 : Cond.instanceMethod yX3_isComplete ∈ q_TB := tb_2 (List.mem_of_getElem? (i := 113) rfl) rfl
theorem tw_se_2_114 : Cond.selects RX3 yX3_isComplete yX3_isComplete ∈ q_TB := tb_2 (List.mem_of_getElem? (i := 114) rfl) rfl
theorem tw_ml_2_125 : Cond.methodLink RX6 159 yX3_judge ∈ q_TB := tb_2 (List.mem_of_getElem? (i := 125) rfl) rfl
theorem tw_im_2_126 : Cond.instanceMethod yX3_judge ∈ q_TB := tb_2 (List.mem_of_getElem? (i := 126) rfl) rfl
theorem tw_se_2_127 : Cond.selects RX3 yX3_judge yX3_judge ∈ q_TB := tb_2 (List.mem_of_getElem? (i := 127) rfl) rfl
theorem tw_ml_3_11 : Cond.methodLink RX6 162 yX6_answerRequest ∈ q_TB := tb_3 (List.mem_of_getElem? (i := 11) rfl) rfl
theorem tw_im_3_13 : Cond.instanceMethod yX6_answerRequest ∈ q_TB := tb_3 (List.mem_of_getElem? (i := 13) rfl) rfl
theorem tw_sp_16 : Cond.selects RX6 yX6_answerRequest yX6_answerRequest ∈ q_TB := tb_0 (List.mem_of_getElem? (i := 16) rfl) rfl
theorem tw_ml_3_107 : Cond.methodLink RX6 165 yX3_isAtLimit ∈ q_TB := tb_3 (List.mem_of_getElem? (i := 107) rfl) rfl
theorem tw_im_3_108 : Cond.instanceMethod yX3_isAtLimit ∈ q_TB := tb_3 (List.mem_of_getElem? (i := 108) rfl) rfl
theorem tw_se_3_109 : Cond.selects RX3 yX3_isAtLimit yX3_isAtLimit ∈ q_TB := tb_3 (List.mem_of_getElem? (i := 109) rfl) rfl
theorem tw_ml_3_16 : Cond.methodLink RX6 170 yX0_addText ∈ q_TB := tb_3 (List.mem_of_getElem? (i := 16) rfl) rfl
theorem tw_cl_3_23 : Cond.classLink RX6 174 RX2 ∈ q_TB := tb_3 (List.mem_of_getElem? (i := 23) rfl) rfl
theorem tw_is_3_24 : Cond.instantiable RX2 3 ∈ q_TB := tb_3 (List.mem_of_getElem? (i := 24) rfl) rfl
theorem tw_ml_3_25 : Cond.methodLink RX6 176 yX2_init ∈ q_TB := tb_3 (List.mem_of_getElem? (i := 25) rfl) rfl
theorem tw_im_3_26 : Cond.instanceMethod yX2_init ∈ q_TB := tb_3 (List.mem_of_getElem? (i := 26) rfl) rfl
theorem tw_ml_3_42 : Cond.methodLink RX6 177 yX2_putInto ∈ q_TB := tb_3 (List.mem_of_getElem? (i := 42) rfl) rfl
theorem tw_im_3_43 : Cond.instanceMethod yX2_putInto ∈ q_TB := tb_3 (List.mem_of_getElem? (i := 43) rfl) rfl
theorem tw_se_3_44 : Cond.selects RX2 yX2_putInto yX2_putInto ∈ q_TB := tb_3 (List.mem_of_getElem? (i := 44) rfl) rfl
theorem tw_ml_3_119 : Cond.methodLink RX6 187 yX1_read ∈ q_TB := tb_3 (List.mem_of_getElem? (i := 119) rfl) rfl
theorem tw_im_3_120 : Cond.instanceMethod yX1_read ∈ q_TB := tb_3 (List.mem_of_getElem? (i := 120) rfl) rfl
theorem tw_se_3_121 : Cond.selects RX1 yX1_read yX1_read ∈ q_TB := tb_3 (List.mem_of_getElem? (i := 121) rfl) rfl
theorem tw_ml_3_207 : Cond.methodLink RX6 190 yX6_finishFrame ∈ q_TB := tb_3 (List.mem_of_getElem? (i := 207) rfl) rfl
theorem tw_im_3_209 : Cond.instanceMethod yX6_finishFrame ∈ q_TB := tb_3 (List.mem_of_getElem? (i := 209) rfl) rfl
theorem tw_sp_37 : Cond.selects RX6 yX6_finishFrame yX6_finishFrame ∈ q_TB := tb_0 (List.mem_of_getElem? (i := 37) rfl) rfl
theorem tw_ml_4_29 : Cond.methodLink RX6 193 yX6_violate ∈ q_TB := tb_4 (List.mem_of_getElem? (i := 29) rfl) rfl
theorem tw_im_4_31 : Cond.instanceMethod yX6_violate ∈ q_TB := tb_4 (List.mem_of_getElem? (i := 31) rfl) rfl
theorem tw_sp_44 : Cond.selects RX6 yX6_violate yX6_violate ∈ q_TB := tb_0 (List.mem_of_getElem? (i := 44) rfl) rfl
theorem tw_ml_3_233 : Cond.methodLink RX6 196 yX6_endWith ∈ q_TB := tb_3 (List.mem_of_getElem? (i := 233) rfl) rfl
theorem tw_im_3_235 : Cond.instanceMethod yX6_endWith ∈ q_TB := tb_3 (List.mem_of_getElem? (i := 235) rfl) rfl
theorem tw_sp_41 : Cond.selects RX6 yX6_endWith yX6_endWith ∈ q_TB := tb_0 (List.mem_of_getElem? (i := 41) rfl) rfl
theorem tw_ml_3_211 : Cond.methodLink RX6 199 yX1_frameKind ∈ q_TB := tb_3 (List.mem_of_getElem? (i := 211) rfl) rfl
theorem tw_im_3_212 : Cond.instanceMethod yX1_frameKind ∈ q_TB := tb_3 (List.mem_of_getElem? (i := 212) rfl) rfl
theorem tw_se_3_213 : Cond.selects RX1 yX1_frameKind yX1_frameKind ∈ q_TB := tb_3 (List.mem_of_getElem? (i := 213) rfl) rfl
theorem tw_ml_3_215 : Cond.methodLink RX6 202 yX1_shortContent ∈ q_TB := tb_3 (List.mem_of_getElem? (i := 215) rfl) rfl
theorem tw_im_3_216 : Cond.instanceMethod yX1_shortContent ∈ q_TB := tb_3 (List.mem_of_getElem? (i := 216) rfl) rfl
theorem tw_se_3_217 : Cond.selects RX1 yX1_shortContent yX1_shortContent ∈ q_TB := tb_3 (List.mem_of_getElem? (i := 217) rfl) rfl
theorem tw_ml_3_219 : Cond.methodLink RX6 206 yX6_hearClose ∈ q_TB := tb_3 (List.mem_of_getElem? (i := 219) rfl) rfl
theorem tw_im_3_221 : Cond.instanceMethod yX6_hearClose ∈ q_TB := tb_3 (List.mem_of_getElem? (i := 221) rfl) rfl
theorem tw_sp_38 : Cond.selects RX6 yX6_hearClose yX6_hearClose ∈ q_TB := tb_0 (List.mem_of_getElem? (i := 38) rfl) rfl
theorem tw_ml_3_237 : Cond.methodLink RX6 210 yX6_hearPing ∈ q_TB := tb_3 (List.mem_of_getElem? (i := 237) rfl) rfl
theorem tw_im_3_239 : Cond.instanceMethod yX6_hearPing ∈ q_TB := tb_3 (List.mem_of_getElem? (i := 239) rfl) rfl
theorem tw_sp_42 : Cond.selects RX6 yX6_hearPing yX6_hearPing ∈ q_TB := tb_0 (List.mem_of_getElem? (i := 42) rfl) rfl
theorem tw_ml_4_1 : Cond.methodLink RX6 213 yX1_isLast ∈ q_TB := tb_4 (List.mem_of_getElem? (i := 1) rfl) rfl
theorem tw_im_4_2 : Cond.instanceMethod yX1_isLast ∈ q_TB := tb_4 (List.mem_of_getElem? (i := 2) rfl) rfl
theorem tw_se_4_3 : Cond.selects RX1 yX1_isLast yX1_isLast ∈ q_TB := tb_4 (List.mem_of_getElem? (i := 3) rfl) rfl
theorem tw_ml_4_5 : Cond.methodLink RX6 216 yX1_messageKind ∈ q_TB := tb_4 (List.mem_of_getElem? (i := 5) rfl) rfl
theorem tw_im_4_6 : Cond.instanceMethod yX1_messageKind ∈ q_TB := tb_4 (List.mem_of_getElem? (i := 6) rfl) rfl
theorem tw_se_4_7 : Cond.selects RX1 yX1_messageKind yX1_messageKind ∈ q_TB := tb_4 (List.mem_of_getElem? (i := 7) rfl) rfl
theorem tw_ml_4_9 : Cond.methodLink RX6 219 yX1_message ∈ q_TB := tb_4 (List.mem_of_getElem? (i := 9) rfl) rfl
theorem tw_im_4_10 : Cond.instanceMethod yX1_message ∈ q_TB := tb_4 (List.mem_of_getElem? (i := 10) rfl) rfl
theorem tw_se_4_11 : Cond.selects RX1 yX1_message yX1_message ∈ q_TB := tb_4 (List.mem_of_getElem? (i := 11) rfl) rfl
theorem tw_ml_4_13 : Cond.methodLink RX6 222 yX5_put ∈ q_TB := tb_4 (List.mem_of_getElem? (i := 13) rfl) rfl
theorem tw_im_4_14 : Cond.instanceMethod yX5_put ∈ q_TB := tb_4 (List.mem_of_getElem? (i := 14) rfl) rfl
theorem tw_se_4_15 : Cond.selects RX5 yX5_put yX5_put ∈ q_TB := tb_4 (List.mem_of_getElem? (i := 15) rfl) rfl
theorem tw_ml_3_232 : Cond.methodLink RX6 226 yX0_pairAtStart ∈ q_TB := tb_3 (List.mem_of_getElem? (i := 232) rfl) rfl
theorem tw_ml_4_145 : Cond.methodLink RX6 229 yJ9_min_7cf53 ∈ q_TB := tb_4 (List.mem_of_getElem? (i := 145) rfl) rfl
theorem tw_st_4_146 : Cond.static yJ9_min_7cf53 ∈ q_TB := tb_4 (List.mem_of_getElem? (i := 146) rfl) rfl
theorem tw_fl_4_172 : Cond.fieldLink RX7 7 "FramedTalkModel" "request" "[I" ∈ q_TB := tb_4 (List.mem_of_getElem? (i := 172) rfl) rfl
theorem tw_fl_4_174 : Cond.fieldLink RX7 13 "FramedTalkModel" "lines" "[I" ∈ q_TB := tb_4 (List.mem_of_getElem? (i := 174) rfl) rfl
theorem tw_fl_4_175 : Cond.fieldLink RX7 16 "FramedTalkModel" "valueFrom" "[I" ∈ q_TB := tb_4 (List.mem_of_getElem? (i := 175) rfl) rfl
theorem tw_fl_4_176 : Cond.fieldLink RX7 19 "FramedTalkModel" "valueTo" "[I" ∈ q_TB := tb_4 (List.mem_of_getElem? (i := 176) rfl) rfl
theorem tw_fl_4_177 : Cond.fieldLink RX7 22 "FramedTalkModel" "out" "[I" ∈ q_TB := tb_4 (List.mem_of_getElem? (i := 177) rfl) rfl
theorem tw_fl_4_179 : Cond.fieldLink RX7 25 "FramedTalkModel" "draft" "[I" ∈ q_TB := tb_4 (List.mem_of_getElem? (i := 179) rfl) rfl
theorem tw_fl_4_187 : Cond.fieldLink RX7 28 "FramedTalkModel" "mask" "[I" ∈ q_TB := tb_4 (List.mem_of_getElem? (i := 187) rfl) rfl
theorem tw_fl_4_188 : Cond.fieldLink RX7 31 "FramedTalkModel" "content" "[I" ∈ q_TB := tb_4 (List.mem_of_getElem? (i := 188) rfl) rfl
theorem tw_fl_4_192 : Cond.fieldLink RX7 34 "FramedTalkModel" "message" "[I" ∈ q_TB := tb_4 (List.mem_of_getElem? (i := 192) rfl) rfl
theorem tw_fl_4_197 : Cond.fieldLink RX7 37 "FramedTalkModel" "kinds" "[I" ∈ q_TB := tb_4 (List.mem_of_getElem? (i := 197) rfl) rfl
theorem tw_fl_4_198 : Cond.fieldLink RX7 40 "FramedTalkModel" "lengths" "[I" ∈ q_TB := tb_4 (List.mem_of_getElem? (i := 198) rfl) rfl
theorem tw_fl_4_199 : Cond.fieldLink RX7 43 "FramedTalkModel" "bytes" "[I" ∈ q_TB := tb_4 (List.mem_of_getElem? (i := 199) rfl) rfl
theorem tw_fl_4_202 : Cond.fieldLink RX7 46 "FramedTalkModel" "block" "[I" ∈ q_TB := tb_4 (List.mem_of_getElem? (i := 202) rfl) rfl
theorem tw_fl_4_203 : Cond.fieldLink RX7 49 "FramedTalkModel" "w" "[I" ∈ q_TB := tb_4 (List.mem_of_getElem? (i := 203) rfl) rfl
theorem tw_fl_4_204 : Cond.fieldLink RX7 52 "FramedTalkModel" "sums" "[I" ∈ q_TB := tb_4 (List.mem_of_getElem? (i := 204) rfl) rfl
theorem tw_ml_4_168 : Cond.methodLink RX7 1 objectInit ∈ q_TB := tb_4 (List.mem_of_getElem? (i := 168) rfl) rfl
theorem tw_fl_4_169 : Cond.fieldLink RX7 55 "FramedTalkModel" "thrown" "I" ∈ q_TB := tb_4 (List.mem_of_getElem? (i := 169) rfl) rfl
theorem tw_fl_4_178 : Cond.fieldLink RX7 59 "FramedTalkModel" "outs" "I" ∈ q_TB := tb_4 (List.mem_of_getElem? (i := 178) rfl) rfl
theorem tw_k2_5_50 : Cond.constantLong RX7 62 (255) ∈ q_TB := tb_5 (List.mem_of_getElem? (i := 50) rfl) rfl
theorem tw_ml_5_132 : Cond.methodLink RX7 64 yX7_put ∈ q_TB := tb_5 (List.mem_of_getElem? (i := 132) rfl) rfl
theorem tw_im_5_134 : Cond.instanceMethod yX7_put ∈ q_TB := tb_5 (List.mem_of_getElem? (i := 134) rfl) rfl
theorem tw_sp_61 : Cond.selects RX7 yX7_put yX7_put ∈ q_TB := tb_0 (List.mem_of_getElem? (i := 61) rfl) rfl
theorem tw_in_1_7 : Cond.initialized RX7 ∈ q_TB := tb_1 (List.mem_of_getElem? (i := 7) rfl) rfl
theorem tw_ml_5_212 : Cond.methodLink RX7 68 yX7_head ∈ q_TB := tb_5 (List.mem_of_getElem? (i := 212) rfl) rfl
theorem tw_im_5_214 : Cond.instanceMethod yX7_head ∈ q_TB := tb_5 (List.mem_of_getElem? (i := 214) rfl) rfl
theorem tw_sp_71 : Cond.selects RX7 yX7_head yX7_head ∈ q_TB := tb_0 (List.mem_of_getElem? (i := 71) rfl) rfl
theorem tw_fl_4_193 : Cond.fieldLink RX7 72 "FramedTalkModel" "due" "I" ∈ q_TB := tb_4 (List.mem_of_getElem? (i := 193) rfl) rfl
theorem tw_fl_4_194 : Cond.fieldLink RX7 75 "FramedTalkModel" "low" "I" ∈ q_TB := tb_4 (List.mem_of_getElem? (i := 194) rfl) rfl
theorem tw_fl_4_195 : Cond.fieldLink RX7 78 "FramedTalkModel" "high" "I" ∈ q_TB := tb_4 (List.mem_of_getElem? (i := 195) rfl) rfl
theorem tw_fl_4_180 : Cond.fieldLink RX7 84 "FramedTalkModel" "drafted" "I" ∈ q_TB := tb_4 (List.mem_of_getElem? (i := 180) rfl) rfl
theorem tw_ml_5_216 : Cond.methodLink RX7 81 yX7_beginCharacters ∈ q_TB := tb_5 (List.mem_of_getElem? (i := 216) rfl) rfl
theorem tw_im_5_218 : Cond.instanceMethod yX7_beginCharacters ∈ q_TB := tb_5 (List.mem_of_getElem? (i := 218) rfl) rfl
theorem tw_sp_72 : Cond.selects RX7 yX7_beginCharacters yX7_beginCharacters ∈ q_TB := tb_0 (List.mem_of_getElem? (i := 72) rfl) rfl
theorem tw_ml_6_18 : Cond.methodLink RX7 87 yX7_character ∈ q_TB := tb_6 (List.mem_of_getElem? (i := 18) rfl) rfl
theorem tw_im_6_20 : Cond.instanceMethod yX7_character ∈ q_TB := tb_6 (List.mem_of_getElem? (i := 20) rfl) rfl
theorem tw_sp_81 : Cond.selects RX7 yX7_character yX7_character ∈ q_TB := tb_0 (List.mem_of_getElem? (i := 81) rfl) rfl
theorem tw_ml_5_78 : Cond.methodLink RX7 91 yX7_small ∈ q_TB := tb_5 (List.mem_of_getElem? (i := 78) rfl) rfl
theorem tw_st_5_79 : Cond.static yX7_small ∈ q_TB := tb_5 (List.mem_of_getElem? (i := 79) rfl) rfl
theorem tw_k2_5_94 : Cond.constantLong RX7 95 (1953722216) ∈ q_TB := tb_5 (List.mem_of_getElem? (i := 94) rfl) rfl
theorem tw_k2_5_95 : Cond.constantLong RX7 97 (28539342341763189) ∈ q_TB := tb_5 (List.mem_of_getElem? (i := 95) rfl) rfl
theorem tw_k2_5_96 : Cond.constantLong RX7 99 (7598807758576447331) ∈ q_TB := tb_5 (List.mem_of_getElem? (i := 96) rfl) rfl
theorem tw_k2_5_97 : Cond.constantLong RX7 101 (28271) ∈ q_TB := tb_5 (List.mem_of_getElem? (i := 97) rfl) rfl
theorem tw_k2_5_98 : Cond.constantLong RX7 103 (8314319424616359283) ∈ q_TB := tb_5 (List.mem_of_getElem? (i := 98) rfl) rfl
theorem tw_k2_5_99 : Cond.constantLong RX7 105 (7307984798279754607) ∈ q_TB := tb_5 (List.mem_of_getElem? (i := 99) rfl) rfl
theorem tw_k2_5_100 : Cond.constantLong RX7 107 (121) ∈ q_TB := tb_5 (List.mem_of_getElem? (i := 100) rfl) rfl
theorem tw_k2_5_101 : Cond.constantLong RX7 109 (7311081023023571823) ∈ q_TB := tb_5 (List.mem_of_getElem? (i := 101) rfl) rfl
theorem tw_k2_5_102 : Cond.constantLong RX7 111 (474315584370) ∈ q_TB := tb_5 (List.mem_of_getElem? (i := 102) rfl) rfl
theorem tw_k2_5_103 : Cond.constantLong RX7 113 (7308044150667109751) ∈ q_TB := tb_5 (List.mem_of_getElem? (i := 103) rfl) rfl
theorem tw_k2_5_104 : Cond.constantLong RX7 115 (116) ∈ q_TB := tb_5 (List.mem_of_getElem? (i := 104) rfl) rfl
theorem tw_ml_5_91 : Cond.methodLink RX7 117 yX7_known ∈ q_TB := tb_5 (List.mem_of_getElem? (i := 91) rfl) rfl
theorem tw_st_5_92 : Cond.static yX7_known ∈ q_TB := tb_5 (List.mem_of_getElem? (i := 92) rfl) rfl
theorem tw_ml_5_88 : Cond.methodLink RX7 121 yX7_letter ∈ q_TB := tb_5 (List.mem_of_getElem? (i := 88) rfl) rfl
theorem tw_st_5_89 : Cond.static yX7_letter ∈ q_TB := tb_5 (List.mem_of_getElem? (i := 89) rfl) rfl
theorem tw_ml_5_109 : Cond.methodLink RX7 125 yX7_isGap ∈ q_TB := tb_5 (List.mem_of_getElem? (i := 109) rfl) rfl
theorem tw_st_5_110 : Cond.static yX7_isGap ∈ q_TB := tb_5 (List.mem_of_getElem? (i := 110) rfl) rfl
theorem tw_ml_5_75 : Cond.methodLink RX7 128 yX7_isLetter ∈ q_TB := tb_5 (List.mem_of_getElem? (i := 75) rfl) rfl
theorem tw_st_5_76 : Cond.static yX7_isLetter ∈ q_TB := tb_5 (List.mem_of_getElem? (i := 76) rfl) rfl
theorem tw_ml_5_81 : Cond.methodLink RX7 131 yX7_isDigit ∈ q_TB := tb_5 (List.mem_of_getElem? (i := 81) rfl) rfl
theorem tw_st_5_82 : Cond.static yX7_isDigit ∈ q_TB := tb_5 (List.mem_of_getElem? (i := 82) rfl) rfl
theorem tw_ml_5_84 : Cond.methodLink RX7 134 yX7_isWord ∈ q_TB := tb_5 (List.mem_of_getElem? (i := 84) rfl) rfl
theorem tw_im_5_86 : Cond.instanceMethod yX7_isWord ∈ q_TB := tb_5 (List.mem_of_getElem? (i := 86) rfl) rfl
theorem tw_sp_55 : Cond.selects RX7 yX7_isWord yX7_isWord ∈ q_TB := tb_0 (List.mem_of_getElem? (i := 55) rfl) rfl
theorem tw_ml_5_105 : Cond.methodLink RX7 138 yX7_begin ∈ q_TB := tb_5 (List.mem_of_getElem? (i := 105) rfl) rfl
theorem tw_im_5_107 : Cond.instanceMethod yX7_begin ∈ q_TB := tb_5 (List.mem_of_getElem? (i := 107) rfl) rfl
theorem tw_sp_56 : Cond.selects RX7 yX7_begin yX7_begin ∈ q_TB := tb_0 (List.mem_of_getElem? (i := 56) rfl) rfl
theorem tw_ml_5_112 : Cond.methodLink RX7 141 yX7_end ∈ q_TB := tb_5 (List.mem_of_getElem? (i := 112) rfl) rfl
theorem tw_im_5_114 : Cond.instanceMethod yX7_end ∈ q_TB := tb_5 (List.mem_of_getElem? (i := 114) rfl) rfl
theorem tw_sp_57 : Cond.selects RX7 yX7_end yX7_end ∈ q_TB := tb_0 (List.mem_of_getElem? (i := 57) rfl) rfl
theorem tw_ml_5_124 : Cond.methodLink RX7 144 yX7_isBase64 ∈ q_TB := tb_5 (List.mem_of_getElem? (i := 124) rfl) rfl
theorem tw_st_5_125 : Cond.static yX7_isBase64 ∈ q_TB := tb_5 (List.mem_of_getElem? (i := 125) rfl) rfl
theorem tw_ml_5_67 : Cond.methodLink RX7 147 yX7_isFirst ∈ q_TB := tb_5 (List.mem_of_getElem? (i := 67) rfl) rfl
theorem tw_im_5_69 : Cond.instanceMethod yX7_isFirst ∈ q_TB := tb_5 (List.mem_of_getElem? (i := 69) rfl) rfl
theorem tw_sp_53 : Cond.selects RX7 yX7_isFirst yX7_isFirst ∈ q_TB := tb_0 (List.mem_of_getElem? (i := 53) rfl) rfl
theorem tw_ml_5_71 : Cond.methodLink RX7 150 yX7_takeLine ∈ q_TB := tb_5 (List.mem_of_getElem? (i := 71) rfl) rfl
theorem tw_im_5_73 : Cond.instanceMethod yX7_takeLine ∈ q_TB := tb_5 (List.mem_of_getElem? (i := 73) rfl) rfl
theorem tw_sp_54 : Cond.selects RX7 yX7_takeLine yX7_takeLine ∈ q_TB := tb_0 (List.mem_of_getElem? (i := 54) rfl) rfl
theorem tw_ml_5_116 : Cond.methodLink RX7 154 yX7_hasWord ∈ q_TB := tb_5 (List.mem_of_getElem? (i := 116) rfl) rfl
theorem tw_im_5_118 : Cond.instanceMethod yX7_hasWord ∈ q_TB := tb_5 (List.mem_of_getElem? (i := 118) rfl) rfl
theorem tw_sp_58 : Cond.selects RX7 yX7_hasWord yX7_hasWord ∈ q_TB := tb_0 (List.mem_of_getElem? (i := 58) rfl) rfl
theorem tw_ml_5_120 : Cond.methodLink RX7 157 yX7_isKey ∈ q_TB := tb_5 (List.mem_of_getElem? (i := 120) rfl) rfl
theorem tw_im_5_122 : Cond.instanceMethod yX7_isKey ∈ q_TB := tb_5 (List.mem_of_getElem? (i := 122) rfl) rfl
theorem tw_sp_59 : Cond.selects RX7 yX7_isKey yX7_isKey ∈ q_TB := tb_0 (List.mem_of_getElem? (i := 59) rfl) rfl
theorem tw_k1_5_189 : Cond.constant RX7 163 (1518500249) ∈ q_TB := tb_5 (List.mem_of_getElem? (i := 189) rfl) rfl
theorem tw_k1_5_190 : Cond.constant RX7 164 (1859775393) ∈ q_TB := tb_5 (List.mem_of_getElem? (i := 190) rfl) rfl
theorem tw_k1_5_191 : Cond.constant RX7 165 (-1894007588) ∈ q_TB := tb_5 (List.mem_of_getElem? (i := 191) rfl) rfl
theorem tw_k1_5_192 : Cond.constant RX7 166 (-899497514) ∈ q_TB := tb_5 (List.mem_of_getElem? (i := 192) rfl) rfl
theorem tw_ml_5_186 : Cond.methodLink RX7 160 yX7_rotated ∈ q_TB := tb_5 (List.mem_of_getElem? (i := 186) rfl) rfl
theorem tw_st_5_187 : Cond.static yX7_rotated ∈ q_TB := tb_5 (List.mem_of_getElem? (i := 187) rfl) rfl
theorem tw_k2_5_168 : Cond.constantLong RX7 167 (3837425603644503346) ∈ q_TB := tb_5 (List.mem_of_getElem? (i := 168) rfl) rfl
theorem tw_k2_5_173 : Cond.constantLong RX7 173 (3977854073062376749) ∈ q_TB := tb_5 (List.mem_of_getElem? (i := 173) rfl) rfl
theorem tw_k2_5_174 : Cond.constantLong RX7 175 (3260961501064544580) ∈ q_TB := tb_5 (List.mem_of_getElem? (i := 174) rfl) rfl
theorem tw_k2_5_175 : Cond.constantLong RX7 177 (4054159063624267075) ∈ q_TB := tb_5 (List.mem_of_getElem? (i := 175) rfl) rfl
theorem tw_k2_5_176 : Cond.constantLong RX7 179 (825311797) ∈ q_TB := tb_5 (List.mem_of_getElem? (i := 176) rfl) rfl
theorem tw_k1_5_177 : Cond.constant RX7 181 (1732584193) ∈ q_TB := tb_5 (List.mem_of_getElem? (i := 177) rfl) rfl
theorem tw_k1_5_178 : Cond.constant RX7 182 (-271733879) ∈ q_TB := tb_5 (List.mem_of_getElem? (i := 178) rfl) rfl
theorem tw_k1_5_179 : Cond.constant RX7 183 (-1732584194) ∈ q_TB := tb_5 (List.mem_of_getElem? (i := 179) rfl) rfl
theorem tw_k1_5_180 : Cond.constant RX7 184 (271733878) ∈ q_TB := tb_5 (List.mem_of_getElem? (i := 180) rfl) rfl
theorem tw_k1_5_181 : Cond.constant RX7 185 (-1009589776) ∈ q_TB := tb_5 (List.mem_of_getElem? (i := 181) rfl) rfl
theorem tw_ml_5_169 : Cond.methodLink RX7 169 yX7_signs ∈ q_TB := tb_5 (List.mem_of_getElem? (i := 169) rfl) rfl
theorem tw_im_5_171 : Cond.instanceMethod yX7_signs ∈ q_TB := tb_5 (List.mem_of_getElem? (i := 171) rfl) rfl
theorem tw_sp_65 : Cond.selects RX7 yX7_signs yX7_signs ∈ q_TB := tb_0 (List.mem_of_getElem? (i := 65) rfl) rfl
theorem tw_ml_5_182 : Cond.methodLink RX7 186 yX7_mix ∈ q_TB := tb_5 (List.mem_of_getElem? (i := 182) rfl) rfl
theorem tw_im_5_184 : Cond.instanceMethod yX7_mix ∈ q_TB := tb_5 (List.mem_of_getElem? (i := 184) rfl) rfl
theorem tw_sp_66 : Cond.selects RX7 yX7_mix yX7_mix ∈ q_TB := tb_0 (List.mem_of_getElem? (i := 66) rfl) rfl
theorem tw_ml_5_164 : Cond.methodLink RX7 189 yX7_digest ∈ q_TB := tb_5 (List.mem_of_getElem? (i := 164) rfl) rfl
theorem tw_im_5_166 : Cond.instanceMethod yX7_digest ∈ q_TB := tb_5 (List.mem_of_getElem? (i := 166) rfl) rfl
theorem tw_sp_64 : Cond.selects RX7 yX7_digest yX7_digest ∈ q_TB := tb_0 (List.mem_of_getElem? (i := 64) rfl) rfl
theorem tw_ml_5_193 : Cond.methodLink RX7 192 yX7_digestByte ∈ q_TB := tb_5 (List.mem_of_getElem? (i := 193) rfl) rfl
theorem tw_im_5_195 : Cond.instanceMethod yX7_digestByte ∈ q_TB := tb_5 (List.mem_of_getElem? (i := 195) rfl) rfl
theorem tw_sp_67 : Cond.selects RX7 yX7_digestByte yX7_digestByte ∈ q_TB := tb_0 (List.mem_of_getElem? (i := 67) rfl) rfl
theorem tw_ml_5_197 : Cond.methodLink RX7 195 yX7_sign ∈ q_TB := tb_5 (List.mem_of_getElem? (i := 197) rfl) rfl
theorem tw_st_5_198 : Cond.static yX7_sign ∈ q_TB := tb_5 (List.mem_of_getElem? (i := 198) rfl) rfl
theorem tw_fl_4_173 : Cond.fieldLink RX7 198 "FramedTalkModel" "asked" "I" ∈ q_TB := tb_4 (List.mem_of_getElem? (i := 173) rfl) rfl
theorem tw_k2_5_127 : Cond.constantLong RX7 204 (3543824036068086856) ∈ q_TB := tb_5 (List.mem_of_getElem? (i := 127) rfl) rfl
theorem tw_k2_5_136 : Cond.constantLong RX7 210 (7233135182548579360) ∈ q_TB := tb_5 (List.mem_of_getElem? (i := 136) rfl) rfl
theorem tw_k2_5_137 : Cond.constantLong RX7 212 (8391162085809410592) ∈ q_TB := tb_5 (List.mem_of_getElem? (i := 137) rfl) rfl
theorem tw_fl_4_170 : Cond.fieldLink RX7 217 "FramedTalkModel" "state" "I" ∈ q_TB := tb_4 (List.mem_of_getElem? (i := 170) rfl) rfl
theorem tw_k2_5_142 : Cond.constantLong RX7 220 (7453550980134745120) ∈ q_TB := tb_5 (List.mem_of_getElem? (i := 142) rfl) rfl
theorem tw_k2_5_143 : Cond.constantLong RX7 222 (8171027398027141490) ∈ q_TB := tb_5 (List.mem_of_getElem? (i := 143) rfl) rfl
theorem tw_k2_5_144 : Cond.constantLong RX7 224 (431198726517) ∈ q_TB := tb_5 (List.mem_of_getElem? (i := 144) rfl) rfl
theorem tw_k2_5_145 : Cond.constantLong RX7 226 (6008476277963711827) ∈ q_TB := tb_5 (List.mem_of_getElem? (i := 145) rfl) rfl
theorem tw_k2_5_146 : Cond.constantLong RX7 228 (7302073823768830831) ∈ q_TB := tb_5 (List.mem_of_getElem? (i := 146) rfl) rfl
theorem tw_k2_5_147 : Cond.constantLong RX7 230 (3539893553103205234) ∈ q_TB := tb_5 (List.mem_of_getElem? (i := 147) rfl) rfl
theorem tw_k2_5_148 : Cond.constantLong RX7 232 (51) ∈ q_TB := tb_5 (List.mem_of_getElem? (i := 148) rfl) rfl
theorem tw_k2_5_149 : Cond.constantLong RX7 234 (7599634293940302112) ∈ q_TB := tb_5 (List.mem_of_getElem? (i := 149) rfl) rfl
theorem tw_k2_5_150 : Cond.constantLong RX7 236 (5773728446201488244) ∈ q_TB := tb_5 (List.mem_of_getElem? (i := 150) rfl) rfl
theorem tw_k2_5_151 : Cond.constantLong RX7 238 (8317145084708810610) ∈ q_TB := tb_5 (List.mem_of_getElem? (i := 151) rfl) rfl
theorem tw_k2_5_152 : Cond.constantLong RX7 240 (4207879796541583445) ∈ q_TB := tb_5 (List.mem_of_getElem? (i := 152) rfl) rfl
theorem tw_k2_5_153 : Cond.constantLong RX7 242 (7738151126115383072) ∈ q_TB := tb_5 (List.mem_of_getElem? (i := 153) rfl) rfl
theorem tw_k2_5_154 : Cond.constantLong RX7 244 (29797) ∈ q_TB := tb_5 (List.mem_of_getElem? (i := 154) rfl) rfl
theorem tw_k2_5_155 : Cond.constantLong RX7 246 (7598807758576447299) ∈ q_TB := tb_5 (List.mem_of_getElem? (i := 155) rfl) rfl
theorem tw_k2_5_156 : Cond.constantLong RX7 248 (8243681153840213615) ∈ q_TB := tb_5 (List.mem_of_getElem? (i := 156) rfl) rfl
theorem tw_k2_5_157 : Cond.constantLong RX7 250 (6644833) ∈ q_TB := tb_5 (List.mem_of_getElem? (i := 157) rfl) rfl
theorem tw_k2_5_158 : Cond.constantLong RX7 252 (7152047661182051183) ∈ q_TB := tb_5 (List.mem_of_getElem? (i := 158) rfl) rfl
theorem tw_k2_5_159 : Cond.constantLong RX7 254 (35435433715043) ∈ q_TB := tb_5 (List.mem_of_getElem? (i := 159) rfl) rfl
theorem tw_ml_5_63 : Cond.methodLink RX7 201 yX7_isRequest ∈ q_TB := tb_5 (List.mem_of_getElem? (i := 63) rfl) rfl
theorem tw_im_5_65 : Cond.instanceMethod yX7_isRequest ∈ q_TB := tb_5 (List.mem_of_getElem? (i := 65) rfl) rfl
theorem tw_sp_52 : Cond.selects RX7 yX7_isRequest yX7_isRequest ∈ q_TB := tb_0 (List.mem_of_getElem? (i := 52) rfl) rfl
theorem tw_ml_5_128 : Cond.methodLink RX7 206 yX7_text ∈ q_TB := tb_5 (List.mem_of_getElem? (i := 128) rfl) rfl
theorem tw_im_5_130 : Cond.instanceMethod yX7_text ∈ q_TB := tb_5 (List.mem_of_getElem? (i := 130) rfl) rfl
theorem tw_sp_60 : Cond.selects RX7 yX7_text yX7_text ∈ q_TB := tb_0 (List.mem_of_getElem? (i := 60) rfl) rfl
theorem tw_ml_5_138 : Cond.methodLink RX7 214 yX7_line ∈ q_TB := tb_5 (List.mem_of_getElem? (i := 138) rfl) rfl
theorem tw_im_5_140 : Cond.instanceMethod yX7_line ∈ q_TB := tb_5 (List.mem_of_getElem? (i := 140) rfl) rfl
theorem tw_sp_62 : Cond.selects RX7 yX7_line yX7_line ∈ q_TB := tb_0 (List.mem_of_getElem? (i := 62) rfl) rfl
theorem tw_ml_5_160 : Cond.methodLink RX7 256 yX7_proof ∈ q_TB := tb_5 (List.mem_of_getElem? (i := 160) rfl) rfl
theorem tw_im_5_162 : Cond.instanceMethod yX7_proof ∈ q_TB := tb_5 (List.mem_of_getElem? (i := 162) rfl) rfl
theorem tw_sp_63 : Cond.selects RX7 yX7_proof yX7_proof ∈ q_TB := tb_0 (List.mem_of_getElem? (i := 63) rfl) rfl
theorem tw_ml_5_59 : Cond.methodLink RX7 259 yX7_answer ∈ q_TB := tb_5 (List.mem_of_getElem? (i := 59) rfl) rfl
theorem tw_im_5_61 : Cond.instanceMethod yX7_answer ∈ q_TB := tb_5 (List.mem_of_getElem? (i := 61) rfl) rfl
theorem tw_sp_51 : Cond.selects RX7 yX7_answer yX7_answer ∈ q_TB := tb_0 (List.mem_of_getElem? (i := 51) rfl) rfl
theorem tw_fl_4_171 : Cond.fieldLink RX7 266 "FramedTalkModel" "endCode" "I" ∈ q_TB := tb_4 (List.mem_of_getElem? (i := 171) rfl) rfl
theorem tw_ml_5_208 : Cond.methodLink RX7 263 yX7_sayClose ∈ q_TB := tb_5 (List.mem_of_getElem? (i := 208) rfl) rfl
theorem tw_im_5_210 : Cond.instanceMethod yX7_sayClose ∈ q_TB := tb_5 (List.mem_of_getElem? (i := 210) rfl) rfl
theorem tw_sp_70 : Cond.selects RX7 yX7_sayClose yX7_sayClose ∈ q_TB := tb_0 (List.mem_of_getElem? (i := 70) rfl) rfl
theorem tw_fl_4_182 : Cond.fieldLink RX7 269 "FramedTalkModel" "last" "Z" ∈ q_TB := tb_4 (List.mem_of_getElem? (i := 182) rfl) rfl
theorem tw_fl_4_183 : Cond.fieldLink RX7 273 "FramedTalkModel" "kind" "I" ∈ q_TB := tb_4 (List.mem_of_getElem? (i := 183) rfl) rfl
theorem tw_fl_4_189 : Cond.fieldLink RX7 276 "FramedTalkModel" "way" "Z" ∈ q_TB := tb_4 (List.mem_of_getElem? (i := 189) rfl) rfl
theorem tw_fl_4_190 : Cond.fieldLink RX7 282 "FramedTalkModel" "wayKind" "I" ∈ q_TB := tb_4 (List.mem_of_getElem? (i := 190) rfl) rfl
theorem tw_fl_4_191 : Cond.fieldLink RX7 285 "FramedTalkModel" "wayLength" "I" ∈ q_TB := tb_4 (List.mem_of_getElem? (i := 191) rfl) rfl
theorem tw_fl_4_181 : Cond.fieldLink RX7 288 "FramedTalkModel" "stage" "I" ∈ q_TB := tb_4 (List.mem_of_getElem? (i := 181) rfl) rfl
theorem tw_ml_5_204 : Cond.methodLink RX7 279 yX7_violate ∈ q_TB := tb_5 (List.mem_of_getElem? (i := 204) rfl) rfl
theorem tw_im_5_206 : Cond.instanceMethod yX7_violate ∈ q_TB := tb_5 (List.mem_of_getElem? (i := 206) rfl) rfl
theorem tw_sp_69 : Cond.selects RX7 yX7_violate yX7_violate ∈ q_TB := tb_0 (List.mem_of_getElem? (i := 69) rfl) rfl
theorem tw_fl_4_184 : Cond.fieldLink RX7 295 "FramedTalkModel" "length" "J" ∈ q_TB := tb_4 (List.mem_of_getElem? (i := 184) rfl) rfl
theorem tw_k2_5_232 : Cond.constantLong RX7 299 (300) ∈ q_TB := tb_5 (List.mem_of_getElem? (i := 232) rfl) rfl
theorem tw_fl_4_186 : Cond.fieldLink RX7 301 "FramedTalkModel" "seen" "I" ∈ q_TB := tb_4 (List.mem_of_getElem? (i := 186) rfl) rfl
theorem tw_ml_5_224 : Cond.methodLink RX7 291 yX7_isBrief ∈ q_TB := tb_5 (List.mem_of_getElem? (i := 224) rfl) rfl
theorem tw_im_5_226 : Cond.instanceMethod yX7_isBrief ∈ q_TB := tb_5 (List.mem_of_getElem? (i := 226) rfl) rfl
theorem tw_sp_74 : Cond.selects RX7 yX7_isBrief yX7_isBrief ∈ q_TB := tb_0 (List.mem_of_getElem? (i := 74) rfl) rfl
theorem tw_fl_4_185 : Cond.fieldLink RX7 304 "FramedTalkModel" "lengthBytes" "I" ∈ q_TB := tb_4 (List.mem_of_getElem? (i := 185) rfl) rfl
theorem tw_ml_5_228 : Cond.methodLink RX7 307 yX7_measured ∈ q_TB := tb_5 (List.mem_of_getElem? (i := 228) rfl) rfl
theorem tw_im_5_230 : Cond.instanceMethod yX7_measured ∈ q_TB := tb_5 (List.mem_of_getElem? (i := 230) rfl) rfl
theorem tw_sp_75 : Cond.selects RX7 yX7_measured yX7_measured ∈ q_TB := tb_0 (List.mem_of_getElem? (i := 75) rfl) rfl
theorem tw_k2_5_237 : Cond.constantLong RX7 310 (126) ∈ q_TB := tb_5 (List.mem_of_getElem? (i := 237) rfl) rfl
theorem tw_k2_5_238 : Cond.constantLong RX7 312 (65536) ∈ q_TB := tb_5 (List.mem_of_getElem? (i := 238) rfl) rfl
theorem tw_ml_6_3 : Cond.methodLink RX7 314 yX7_whole ∈ q_TB := tb_6 (List.mem_of_getElem? (i := 3) rfl) rfl
theorem tw_im_6_5 : Cond.instanceMethod yX7_whole ∈ q_TB := tb_6 (List.mem_of_getElem? (i := 5) rfl) rfl
theorem tw_sp_78 : Cond.selects RX7 yX7_whole yX7_whole ∈ q_TB := tb_0 (List.mem_of_getElem? (i := 78) rfl) rfl
theorem tw_ml_6_11 : Cond.methodLink RX7 317 yX7_isCode ∈ q_TB := tb_6 (List.mem_of_getElem? (i := 11) rfl) rfl
theorem tw_st_6_12 : Cond.static yX7_isCode ∈ q_TB := tb_6 (List.mem_of_getElem? (i := 12) rfl) rfl
theorem tw_ml_6_14 : Cond.methodLink RX7 320 yX7_isReason ∈ q_TB := tb_6 (List.mem_of_getElem? (i := 14) rfl) rfl
theorem tw_im_6_16 : Cond.instanceMethod yX7_isReason ∈ q_TB := tb_6 (List.mem_of_getElem? (i := 16) rfl) rfl
theorem tw_sp_80 : Cond.selects RX7 yX7_isReason yX7_isReason ∈ q_TB := tb_0 (List.mem_of_getElem? (i := 80) rfl) rfl
theorem tw_fl_4_200 : Cond.fieldLink RX7 323 "FramedTalkModel" "delivered" "I" ∈ q_TB := tb_4 (List.mem_of_getElem? (i := 200) rfl) rfl
theorem tw_fl_4_196 : Cond.fieldLink RX7 326 "FramedTalkModel" "waits" "I" ∈ q_TB := tb_4 (List.mem_of_getElem? (i := 196) rfl) rfl
theorem tw_fl_4_201 : Cond.fieldLink RX7 332 "FramedTalkModel" "pongs" "I" ∈ q_TB := tb_4 (List.mem_of_getElem? (i := 201) rfl) rfl
theorem tw_ml_6_7 : Cond.methodLink RX7 329 yX7_closed ∈ q_TB := tb_6 (List.mem_of_getElem? (i := 7) rfl) rfl
theorem tw_im_6_9 : Cond.instanceMethod yX7_closed ∈ q_TB := tb_6 (List.mem_of_getElem? (i := 9) rfl) rfl
theorem tw_sp_79 : Cond.selects RX7 yX7_closed yX7_closed ∈ q_TB := tb_0 (List.mem_of_getElem? (i := 79) rfl) rfl
theorem tw_ml_6_22 : Cond.methodLink RX7 335 yX7_deliver ∈ q_TB := tb_6 (List.mem_of_getElem? (i := 22) rfl) rfl
theorem tw_im_6_24 : Cond.instanceMethod yX7_deliver ∈ q_TB := tb_6 (List.mem_of_getElem? (i := 24) rfl) rfl
theorem tw_sp_82 : Cond.selects RX7 yX7_deliver yX7_deliver ∈ q_TB := tb_0 (List.mem_of_getElem? (i := 82) rfl) rfl
theorem tw_ml_5_55 : Cond.methodLink RX7 338 yX7_ask ∈ q_TB := tb_5 (List.mem_of_getElem? (i := 55) rfl) rfl
theorem tw_im_5_57 : Cond.instanceMethod yX7_ask ∈ q_TB := tb_5 (List.mem_of_getElem? (i := 57) rfl) rfl
theorem tw_sp_50 : Cond.selects RX7 yX7_ask yX7_ask ∈ q_TB := tb_0 (List.mem_of_getElem? (i := 50) rfl) rfl
theorem tw_ml_5_200 : Cond.methodLink RX7 341 yX7_first ∈ q_TB := tb_5 (List.mem_of_getElem? (i := 200) rfl) rfl
theorem tw_im_5_202 : Cond.instanceMethod yX7_first ∈ q_TB := tb_5 (List.mem_of_getElem? (i := 202) rfl) rfl
theorem tw_sp_68 : Cond.selects RX7 yX7_first yX7_first ∈ q_TB := tb_0 (List.mem_of_getElem? (i := 68) rfl) rfl
theorem tw_ml_5_220 : Cond.methodLink RX7 344 yX7_second ∈ q_TB := tb_5 (List.mem_of_getElem? (i := 220) rfl) rfl
theorem tw_im_5_222 : Cond.instanceMethod yX7_second ∈ q_TB := tb_5 (List.mem_of_getElem? (i := 222) rfl) rfl
theorem tw_sp_73 : Cond.selects RX7 yX7_second yX7_second ∈ q_TB := tb_0 (List.mem_of_getElem? (i := 73) rfl) rfl
theorem tw_ml_5_233 : Cond.methodLink RX7 347 yX7_lengthByte ∈ q_TB := tb_5 (List.mem_of_getElem? (i := 233) rfl) rfl
theorem tw_im_5_235 : Cond.instanceMethod yX7_lengthByte ∈ q_TB := tb_5 (List.mem_of_getElem? (i := 235) rfl) rfl
theorem tw_sp_76 : Cond.selects RX7 yX7_lengthByte yX7_lengthByte ∈ q_TB := tb_0 (List.mem_of_getElem? (i := 76) rfl) rfl
theorem tw_ml_5_239 : Cond.methodLink RX7 350 yX7_maskByte ∈ q_TB := tb_5 (List.mem_of_getElem? (i := 239) rfl) rfl
theorem tw_im_6_1 : Cond.instanceMethod yX7_maskByte ∈ q_TB := tb_6 (List.mem_of_getElem? (i := 1) rfl) rfl
theorem tw_sp_77 : Cond.selects RX7 yX7_maskByte yX7_maskByte ∈ q_TB := tb_0 (List.mem_of_getElem? (i := 77) rfl) rfl
theorem tw_ml_6_26 : Cond.methodLink RX7 353 yX7_contentByte ∈ q_TB := tb_6 (List.mem_of_getElem? (i := 26) rfl) rfl
theorem tw_im_6_28 : Cond.instanceMethod yX7_contentByte ∈ q_TB := tb_6 (List.mem_of_getElem? (i := 28) rfl) rfl
theorem tw_sp_83 : Cond.selects RX7 yX7_contentByte yX7_contentByte ∈ q_TB := tb_0 (List.mem_of_getElem? (i := 83) rfl) rfl
theorem tw_ml_5_46 : Cond.methodLink RX7 356 yX7_fail ∈ q_TB := tb_5 (List.mem_of_getElem? (i := 46) rfl) rfl
theorem tw_im_5_48 : Cond.instanceMethod yX7_fail ∈ q_TB := tb_5 (List.mem_of_getElem? (i := 48) rfl) rfl
theorem tw_sp_48 : Cond.selects RX7 yX7_fail yX7_fail ∈ q_TB := tb_0 (List.mem_of_getElem? (i := 48) rfl) rfl
theorem tw_ml_5_51 : Cond.methodLink RX7 359 yX7_come ∈ q_TB := tb_5 (List.mem_of_getElem? (i := 51) rfl) rfl
theorem tw_im_5_53 : Cond.instanceMethod yX7_come ∈ q_TB := tb_5 (List.mem_of_getElem? (i := 53) rfl) rfl
theorem tw_sp_49 : Cond.selects RX7 yX7_come yX7_come ∈ q_TB := tb_0 (List.mem_of_getElem? (i := 49) rfl) rfl
theorem tw_ml_6_62 : Cond.methodLink RX7 362 yX7_isMessage ∈ q_TB := tb_6 (List.mem_of_getElem? (i := 62) rfl) rfl
theorem tw_im_6_64 : Cond.instanceMethod yX7_isMessage ∈ q_TB := tb_6 (List.mem_of_getElem? (i := 64) rfl) rfl
theorem tw_sp_84 : Cond.selects RX7 yX7_isMessage yX7_isMessage ∈ q_TB := tb_0 (List.mem_of_getElem? (i := 84) rfl) rfl
theorem tw_ml_6_94 : Cond.methodLink RX7 365 yX7_isDraftText ∈ q_TB := tb_6 (List.mem_of_getElem? (i := 94) rfl) rfl
theorem tw_im_6_96 : Cond.instanceMethod yX7_isDraftText ∈ q_TB := tb_6 (List.mem_of_getElem? (i := 96) rfl) rfl
theorem tw_sp_85 : Cond.selects RX7 yX7_isDraftText yX7_isDraftText ∈ q_TB := tb_0 (List.mem_of_getElem? (i := 85) rfl) rfl
theorem tw_ml_6_102 : Cond.methodLink RX7 368 yX7_putDraft ∈ q_TB := tb_6 (List.mem_of_getElem? (i := 102) rfl) rfl
theorem tw_im_6_104 : Cond.instanceMethod yX7_putDraft ∈ q_TB := tb_6 (List.mem_of_getElem? (i := 104) rfl) rfl
theorem tw_sp_86 : Cond.selects RX7 yX7_putDraft yX7_putDraft ∈ q_TB := tb_0 (List.mem_of_getElem? (i := 86) rfl) rfl
theorem tw_fl_6_127 : Cond.fieldLink RJ0 9 "java/lang/String" "value" "[B" ∈ q_TB := tb_6 (List.mem_of_getElem? (i := 127) rfl) rfl
theorem tw_ml_2_146 : Cond.methodLink RJ0 335 yJ0_coder_7d493 ∈ q_TB := tb_2 (List.mem_of_getElem? (i := 146) rfl) rfl
theorem tw_im_2_147 : Cond.instanceMethod yJ0_coder_7d493 ∈ q_TB := tb_2 (List.mem_of_getElem? (i := 147) rfl) rfl
theorem tw_se_2_148 : Cond.selects RJ0 yJ0_coder_7d493 yJ0_coder_7d493 ∈ q_TB := tb_2 (List.mem_of_getElem? (i := 148) rfl) rfl
theorem tw_ml_2_156 : Cond.methodLink RJ0 492 yJ0_isLatin1_aae02 ∈ q_TB := tb_2 (List.mem_of_getElem? (i := 156) rfl) rfl
theorem tw_im_2_157 : Cond.instanceMethod yJ0_isLatin1_aae02 ∈ q_TB := tb_2 (List.mem_of_getElem? (i := 157) rfl) rfl
theorem tw_se_2_158 : Cond.selects RJ0 yJ0_isLatin1_aae02 yJ0_isLatin1_aae02 ∈ q_TB := tb_2 (List.mem_of_getElem? (i := 158) rfl) rfl
theorem tw_ml_2_160 : Cond.methodLink RJ0 495 yJ1_charAt_3b067 ∈ q_TB := tb_2 (List.mem_of_getElem? (i := 160) rfl) rfl
theorem tw_st_2_161 : Cond.static yJ1_charAt_3b067 ∈ q_TB := tb_2 (List.mem_of_getElem? (i := 161) rfl) rfl
theorem tw_in_1_14 : Cond.initialized RJ1 ∈ q_TB := tb_1 (List.mem_of_getElem? (i := 14) rfl) rfl
theorem tw_fl_2_150 : Cond.fieldLink RJ0 38 "java/lang/String" "COMPACT_STRINGS" "Z" ∈ q_TB := tb_2 (List.mem_of_getElem? (i := 150) rfl) rfl
theorem tw_fl_6_128 : Cond.fieldLink RJ0 15 "java/lang/String" "coder" "B" ∈ q_TB := tb_6 (List.mem_of_getElem? (i := 128) rfl) rfl
theorem tw_fl_2_166 : Cond.fieldLink RJ0 1053 "jdk/internal/util/Preconditions" "SIOOBE_FORMATTER" "Ljava/util/function/BiFunction;" ∈ q_TB := tb_2 (List.mem_of_getElem? (i := 166) rfl) rfl
theorem tw_ml_2_168 : Cond.methodLink RJ0 1059 yJ3_checkIndex_8e157 ∈ q_TB := tb_2 (List.mem_of_getElem? (i := 168) rfl) rfl
theorem tw_st_2_169 : Cond.static yJ3_checkIndex_8e157 ∈ q_TB := tb_2 (List.mem_of_getElem? (i := 169) rfl) rfl
theorem tw_in_1_15 : Cond.initialized RJ3 ∈ q_TB := tb_1 (List.mem_of_getElem? (i := 15) rfl) rfl
theorem tw_ml_2_163 : Cond.methodLink RJ1 9 yJ0_checkIndex_df160 ∈ q_TB := tb_2 (List.mem_of_getElem? (i := 163) rfl) rfl
theorem tw_st_2_164 : Cond.static yJ0_checkIndex_df160 ∈ q_TB := tb_2 (List.mem_of_getElem? (i := 164) rfl) rfl
theorem tw_k2_6_110 : Cond.constantLong RL 53 (4294967295) ∈ q_TB := tb_6 (List.mem_of_getElem? (i := 110) rfl) rfl
theorem tw_cl_1_22 : Cond.classLink RL 8 RX6 ∈ q_TB := tb_1 (List.mem_of_getElem? (i := 22) rfl) rfl
theorem tw_is_1_23 : Cond.instantiable RX6 10 ∈ q_TB := tb_1 (List.mem_of_getElem? (i := 23) rfl) rfl
theorem tw_ml_1_24 : Cond.methodLink RL 49 yX6_init ∈ q_TB := tb_1 (List.mem_of_getElem? (i := 24) rfl) rfl
theorem tw_im_1_25 : Cond.instanceMethod yX6_init ∈ q_TB := tb_1 (List.mem_of_getElem? (i := 25) rfl) rfl
theorem tw_cl_4_163 : Cond.classLink RL 50 RX7 ∈ q_TB := tb_4 (List.mem_of_getElem? (i := 163) rfl) rfl
theorem tw_is_4_164 : Cond.instantiable RX7 36 ∈ q_TB := tb_4 (List.mem_of_getElem? (i := 164) rfl) rfl
theorem tw_ml_4_165 : Cond.methodLink RL 52 yX7_init ∈ q_TB := tb_4 (List.mem_of_getElem? (i := 165) rfl) rfl
theorem tw_im_4_166 : Cond.instanceMethod yX7_init ∈ q_TB := tb_4 (List.mem_of_getElem? (i := 166) rfl) rfl
theorem tw_ml_5_42 : Cond.methodLink RL 60 yX7_feed ∈ q_TB := tb_5 (List.mem_of_getElem? (i := 42) rfl) rfl
theorem tw_im_5_43 : Cond.instanceMethod yX7_feed ∈ q_TB := tb_5 (List.mem_of_getElem? (i := 43) rfl) rfl
theorem tw_se_5_44 : Cond.selects RX7 yX7_feed yX7_feed ∈ q_TB := tb_5 (List.mem_of_getElem? (i := 44) rfl) rfl
theorem tw_ml_5_38 : Cond.methodLink RL 61 yX7_thrown ∈ q_TB := tb_5 (List.mem_of_getElem? (i := 38) rfl) rfl
theorem tw_im_5_39 : Cond.instanceMethod yX7_thrown ∈ q_TB := tb_5 (List.mem_of_getElem? (i := 39) rfl) rfl
theorem tw_se_5_40 : Cond.selects RX7 yX7_thrown yX7_thrown ∈ q_TB := tb_5 (List.mem_of_getElem? (i := 40) rfl) rfl
theorem tw_ml_1_190 : Cond.methodLink RL 64 yX6_state ∈ q_TB := tb_1 (List.mem_of_getElem? (i := 190) rfl) rfl
theorem tw_im_1_191 : Cond.instanceMethod yX6_state ∈ q_TB := tb_1 (List.mem_of_getElem? (i := 191) rfl) rfl
theorem tw_se_1_192 : Cond.selects RX6 yX6_state yX6_state ∈ q_TB := tb_1 (List.mem_of_getElem? (i := 192) rfl) rfl
theorem tw_ml_6_30 : Cond.methodLink RL 67 yX7_state ∈ q_TB := tb_6 (List.mem_of_getElem? (i := 30) rfl) rfl
theorem tw_im_6_31 : Cond.instanceMethod yX7_state ∈ q_TB := tb_6 (List.mem_of_getElem? (i := 31) rfl) rfl
theorem tw_se_6_32 : Cond.selects RX7 yX7_state yX7_state ∈ q_TB := tb_6 (List.mem_of_getElem? (i := 32) rfl) rfl
theorem tw_ml_1_194 : Cond.methodLink RL 68 yX6_endCode ∈ q_TB := tb_1 (List.mem_of_getElem? (i := 194) rfl) rfl
theorem tw_im_1_195 : Cond.instanceMethod yX6_endCode ∈ q_TB := tb_1 (List.mem_of_getElem? (i := 195) rfl) rfl
theorem tw_se_1_196 : Cond.selects RX6 yX6_endCode yX6_endCode ∈ q_TB := tb_1 (List.mem_of_getElem? (i := 196) rfl) rfl
theorem tw_ml_6_34 : Cond.methodLink RL 71 yX7_endCode ∈ q_TB := tb_6 (List.mem_of_getElem? (i := 34) rfl) rfl
theorem tw_im_6_35 : Cond.instanceMethod yX7_endCode ∈ q_TB := tb_6 (List.mem_of_getElem? (i := 35) rfl) rfl
theorem tw_se_6_36 : Cond.selects RX7 yX7_endCode yX7_endCode ∈ q_TB := tb_6 (List.mem_of_getElem? (i := 36) rfl) rfl
theorem tw_ml_1_198 : Cond.methodLink RL 72 yX6_outLength ∈ q_TB := tb_1 (List.mem_of_getElem? (i := 198) rfl) rfl
theorem tw_im_1_199 : Cond.instanceMethod yX6_outLength ∈ q_TB := tb_1 (List.mem_of_getElem? (i := 199) rfl) rfl
theorem tw_se_1_200 : Cond.selects RX6 yX6_outLength yX6_outLength ∈ q_TB := tb_1 (List.mem_of_getElem? (i := 200) rfl) rfl
theorem tw_ml_6_38 : Cond.methodLink RL 75 yX7_outLength ∈ q_TB := tb_6 (List.mem_of_getElem? (i := 38) rfl) rfl
theorem tw_im_6_39 : Cond.instanceMethod yX7_outLength ∈ q_TB := tb_6 (List.mem_of_getElem? (i := 39) rfl) rfl
theorem tw_se_6_40 : Cond.selects RX7 yX7_outLength yX7_outLength ∈ q_TB := tb_6 (List.mem_of_getElem? (i := 40) rfl) rfl
theorem tw_ml_6_42 : Cond.methodLink RL 79 yX7_outAt ∈ q_TB := tb_6 (List.mem_of_getElem? (i := 42) rfl) rfl
theorem tw_im_6_43 : Cond.instanceMethod yX7_outAt ∈ q_TB := tb_6 (List.mem_of_getElem? (i := 43) rfl) rfl
theorem tw_se_6_44 : Cond.selects RX7 yX7_outAt yX7_outAt ∈ q_TB := tb_6 (List.mem_of_getElem? (i := 44) rfl) rfl
theorem tw_ml_1_206 : Cond.methodLink RL 80 yX6_drop ∈ q_TB := tb_1 (List.mem_of_getElem? (i := 206) rfl) rfl
theorem tw_im_1_207 : Cond.instanceMethod yX6_drop ∈ q_TB := tb_1 (List.mem_of_getElem? (i := 207) rfl) rfl
theorem tw_se_1_208 : Cond.selects RX6 yX6_drop yX6_drop ∈ q_TB := tb_1 (List.mem_of_getElem? (i := 208) rfl) rfl
theorem tw_ml_6_46 : Cond.methodLink RL 84 yX7_drop ∈ q_TB := tb_6 (List.mem_of_getElem? (i := 46) rfl) rfl
theorem tw_im_6_47 : Cond.instanceMethod yX7_drop ∈ q_TB := tb_6 (List.mem_of_getElem? (i := 47) rfl) rfl
theorem tw_se_6_48 : Cond.selects RX7 yX7_drop yX7_drop ∈ q_TB := tb_6 (List.mem_of_getElem? (i := 48) rfl) rfl
theorem tw_ml_1_217 : Cond.methodLink RL 85 yX6_messages ∈ q_TB := tb_1 (List.mem_of_getElem? (i := 217) rfl) rfl
theorem tw_im_1_218 : Cond.instanceMethod yX6_messages ∈ q_TB := tb_1 (List.mem_of_getElem? (i := 218) rfl) rfl
theorem tw_se_1_219 : Cond.selects RX6 yX6_messages yX6_messages ∈ q_TB := tb_1 (List.mem_of_getElem? (i := 219) rfl) rfl
theorem tw_ml_6_50 : Cond.methodLink RL 88 yX7_messages ∈ q_TB := tb_6 (List.mem_of_getElem? (i := 50) rfl) rfl
theorem tw_im_6_51 : Cond.instanceMethod yX7_messages ∈ q_TB := tb_6 (List.mem_of_getElem? (i := 51) rfl) rfl
theorem tw_se_6_52 : Cond.selects RX7 yX7_messages yX7_messages ∈ q_TB := tb_6 (List.mem_of_getElem? (i := 52) rfl) rfl
theorem tw_ml_1_225 : Cond.methodLink RL 89 yX6_delivered ∈ q_TB := tb_1 (List.mem_of_getElem? (i := 225) rfl) rfl
theorem tw_im_1_226 : Cond.instanceMethod yX6_delivered ∈ q_TB := tb_1 (List.mem_of_getElem? (i := 226) rfl) rfl
theorem tw_se_1_227 : Cond.selects RX6 yX6_delivered yX6_delivered ∈ q_TB := tb_1 (List.mem_of_getElem? (i := 227) rfl) rfl
theorem tw_ml_6_54 : Cond.methodLink RL 92 yX7_delivered ∈ q_TB := tb_6 (List.mem_of_getElem? (i := 54) rfl) rfl
theorem tw_im_6_55 : Cond.instanceMethod yX7_delivered ∈ q_TB := tb_6 (List.mem_of_getElem? (i := 55) rfl) rfl
theorem tw_se_6_56 : Cond.selects RX7 yX7_delivered yX7_delivered ∈ q_TB := tb_6 (List.mem_of_getElem? (i := 56) rfl) rfl
theorem tw_ml_6_58 : Cond.methodLink RL 95 yX7_kind ∈ q_TB := tb_6 (List.mem_of_getElem? (i := 58) rfl) rfl
theorem tw_im_6_59 : Cond.instanceMethod yX7_kind ∈ q_TB := tb_6 (List.mem_of_getElem? (i := 59) rfl) rfl
theorem tw_se_6_60 : Cond.selects RX7 yX7_kind yX7_kind ∈ q_TB := tb_6 (List.mem_of_getElem? (i := 60) rfl) rfl
theorem tw_ml_6_66 : Cond.methodLink RL 98 yX7_length ∈ q_TB := tb_6 (List.mem_of_getElem? (i := 66) rfl) rfl
theorem tw_im_6_67 : Cond.instanceMethod yX7_length ∈ q_TB := tb_6 (List.mem_of_getElem? (i := 67) rfl) rfl
theorem tw_se_6_68 : Cond.selects RX7 yX7_length yX7_length ∈ q_TB := tb_6 (List.mem_of_getElem? (i := 68) rfl) rfl
theorem tw_ml_6_70 : Cond.methodLink RL 102 yX7_byteAt ∈ q_TB := tb_6 (List.mem_of_getElem? (i := 70) rfl) rfl
theorem tw_im_6_71 : Cond.instanceMethod yX7_byteAt ∈ q_TB := tb_6 (List.mem_of_getElem? (i := 71) rfl) rfl
theorem tw_se_6_72 : Cond.selects RX7 yX7_byteAt yX7_byteAt ∈ q_TB := tb_6 (List.mem_of_getElem? (i := 72) rfl) rfl
theorem tw_ml_6_74 : Cond.methodLink RL 106 yX7_take ∈ q_TB := tb_6 (List.mem_of_getElem? (i := 74) rfl) rfl
theorem tw_im_6_75 : Cond.instanceMethod yX7_take ∈ q_TB := tb_6 (List.mem_of_getElem? (i := 75) rfl) rfl
theorem tw_se_6_76 : Cond.selects RX7 yX7_take yX7_take ∈ q_TB := tb_6 (List.mem_of_getElem? (i := 76) rfl) rfl
theorem tw_ml_1_229 : Cond.methodLink RL 107 yX6_pongs ∈ q_TB := tb_1 (List.mem_of_getElem? (i := 229) rfl) rfl
theorem tw_im_1_230 : Cond.instanceMethod yX6_pongs ∈ q_TB := tb_1 (List.mem_of_getElem? (i := 230) rfl) rfl
theorem tw_se_1_231 : Cond.selects RX6 yX6_pongs yX6_pongs ∈ q_TB := tb_1 (List.mem_of_getElem? (i := 231) rfl) rfl
theorem tw_ml_6_78 : Cond.methodLink RL 110 yX7_pongs ∈ q_TB := tb_6 (List.mem_of_getElem? (i := 78) rfl) rfl
theorem tw_im_6_79 : Cond.instanceMethod yX7_pongs ∈ q_TB := tb_6 (List.mem_of_getElem? (i := 79) rfl) rfl
theorem tw_se_6_80 : Cond.selects RX7 yX7_pongs yX7_pongs ∈ q_TB := tb_6 (List.mem_of_getElem? (i := 80) rfl) rfl
theorem tw_ml_1_233 : Cond.methodLink RL 111 yX6_write ∈ q_TB := tb_1 (List.mem_of_getElem? (i := 233) rfl) rfl
theorem tw_im_1_234 : Cond.instanceMethod yX6_write ∈ q_TB := tb_1 (List.mem_of_getElem? (i := 234) rfl) rfl
theorem tw_se_1_235 : Cond.selects RX6 yX6_write yX6_write ∈ q_TB := tb_1 (List.mem_of_getElem? (i := 235) rfl) rfl
theorem tw_ml_6_82 : Cond.methodLink RL 115 yX7_write ∈ q_TB := tb_6 (List.mem_of_getElem? (i := 82) rfl) rfl
theorem tw_im_6_83 : Cond.instanceMethod yX7_write ∈ q_TB := tb_6 (List.mem_of_getElem? (i := 83) rfl) rfl
theorem tw_se_6_84 : Cond.selects RX7 yX7_write yX7_write ∈ q_TB := tb_6 (List.mem_of_getElem? (i := 84) rfl) rfl
theorem tw_ml_2_7 : Cond.methodLink RL 116 yX6_clear ∈ q_TB := tb_2 (List.mem_of_getElem? (i := 7) rfl) rfl
theorem tw_im_2_8 : Cond.instanceMethod yX6_clear ∈ q_TB := tb_2 (List.mem_of_getElem? (i := 8) rfl) rfl
theorem tw_se_2_9 : Cond.selects RX6 yX6_clear yX6_clear ∈ q_TB := tb_2 (List.mem_of_getElem? (i := 9) rfl) rfl
theorem tw_ml_6_86 : Cond.methodLink RL 119 yX7_clear ∈ q_TB := tb_6 (List.mem_of_getElem? (i := 86) rfl) rfl
theorem tw_im_6_87 : Cond.instanceMethod yX7_clear ∈ q_TB := tb_6 (List.mem_of_getElem? (i := 87) rfl) rfl
theorem tw_se_6_88 : Cond.selects RX7 yX7_clear yX7_clear ∈ q_TB := tb_6 (List.mem_of_getElem? (i := 88) rfl) rfl
theorem tw_ml_6_90 : Cond.methodLink RL 122 yX7_send ∈ q_TB := tb_6 (List.mem_of_getElem? (i := 90) rfl) rfl
theorem tw_im_6_91 : Cond.instanceMethod yX7_send ∈ q_TB := tb_6 (List.mem_of_getElem? (i := 91) rfl) rfl
theorem tw_se_6_92 : Cond.selects RX7 yX7_send yX7_send ∈ q_TB := tb_6 (List.mem_of_getElem? (i := 92) rfl) rfl
theorem tw_ml_6_98 : Cond.methodLink RL 126 yX7_ping ∈ q_TB := tb_6 (List.mem_of_getElem? (i := 98) rfl) rfl
theorem tw_im_6_99 : Cond.instanceMethod yX7_ping ∈ q_TB := tb_6 (List.mem_of_getElem? (i := 99) rfl) rfl
theorem tw_se_6_100 : Cond.selects RX7 yX7_ping yX7_ping ∈ q_TB := tb_6 (List.mem_of_getElem? (i := 100) rfl) rfl
theorem tw_ml_6_106 : Cond.methodLink RL 130 yX7_close ∈ q_TB := tb_6 (List.mem_of_getElem? (i := 106) rfl) rfl
theorem tw_im_6_107 : Cond.instanceMethod yX7_close ∈ q_TB := tb_6 (List.mem_of_getElem? (i := 107) rfl) rfl
theorem tw_se_6_108 : Cond.selects RX7 yX7_close yX7_close ∈ q_TB := tb_6 (List.mem_of_getElem? (i := 108) rfl) rfl
theorem tw_ac_int : Cond.arrayClass .int ∈ q_TB := tb_1 (List.mem_of_getElem? (i := 49) rfl) rfl
theorem tw_ac_long : Cond.arrayClass .long ∈ q_TB := tb_6 (List.mem_of_getElem? (i := 111) rfl) rfl
theorem tw_nat_copy : Cond.native arraycopyName ∈ q_TB := tb_1 (List.mem_of_getElem? (i := 216) rfl) rfl
theorem tw_objcode : Cond.code objectInit ⟨#[0xb1]⟩ 1 none ∈ q_TB := tb_1 (List.mem_of_getElem? (i := 29) rfl) rfl
theorem inT_0 : ∀ w ∈ u_ws RX0 TX0 2, w ∈ q_TB := by
  intro w hw
  obtain ⟨k, hk, rfl⟩ := List.mem_map.mp hw
  have hk := List.mem_range.mp hk
  match k, hk with
  | 0, _ => exact tb_1 (List.mem_of_getElem? (i := 44) rfl) rfl
  | 1, _ => exact tb_1 (List.mem_of_getElem? (i := 46) rfl) rfl
theorem dfT_0 : ∀ j, j < 2 → defaultValue (tyX0 j) = vp_V [.null, .int 0] j := by
  intro k hk
  match k, hk with
  | 0, _ => rfl
  | 1, _ => rfl
theorem inT_1 : ∀ w ∈ u_ws RX1 TX1 15, w ∈ q_TB := by
  intro w hw
  obtain ⟨k, hk, rfl⟩ := List.mem_map.mp hw
  have hk := List.mem_range.mp hk
  match k, hk with
  | 0, _ => exact tb_1 (List.mem_of_getElem? (i := 102) rfl) rfl
  | 1, _ => exact tb_1 (List.mem_of_getElem? (i := 104) rfl) rfl
  | 2, _ => exact tb_1 (List.mem_of_getElem? (i := 106) rfl) rfl
  | 3, _ => exact tb_1 (List.mem_of_getElem? (i := 108) rfl) rfl
  | 4, _ => exact tb_1 (List.mem_of_getElem? (i := 110) rfl) rfl
  | 5, _ => exact tb_1 (List.mem_of_getElem? (i := 112) rfl) rfl
  | 6, _ => exact tb_1 (List.mem_of_getElem? (i := 114) rfl) rfl
  | 7, _ => exact tb_1 (List.mem_of_getElem? (i := 116) rfl) rfl
  | 8, _ => exact tb_1 (List.mem_of_getElem? (i := 118) rfl) rfl
  | 9, _ => exact tb_1 (List.mem_of_getElem? (i := 120) rfl) rfl
  | 10, _ => exact tb_1 (List.mem_of_getElem? (i := 122) rfl) rfl
  | 11, _ => exact tb_1 (List.mem_of_getElem? (i := 124) rfl) rfl
  | 12, _ => exact tb_1 (List.mem_of_getElem? (i := 126) rfl) rfl
  | 13, _ => exact tb_1 (List.mem_of_getElem? (i := 128) rfl) rfl
  | 14, _ => exact tb_1 (List.mem_of_getElem? (i := 130) rfl) rfl
theorem dfT_1 : ∀ j, j < 15 → defaultValue (tyX1 j) = vp_V [.null, .null, .null, .null, .null, .int 0, .int 0, .int 0, .int 0, .int 0, .int 0, .int 0, .long 0, .int 0, .int 0] j := by
  intro k hk
  match k, hk with
  | 0, _ => rfl
  | 1, _ => rfl
  | 2, _ => rfl
  | 3, _ => rfl
  | 4, _ => rfl
  | 5, _ => rfl
  | 6, _ => rfl
  | 7, _ => rfl
  | 8, _ => rfl
  | 9, _ => rfl
  | 10, _ => rfl
  | 11, _ => rfl
  | 12, _ => rfl
  | 13, _ => rfl
  | 14, _ => rfl
theorem inT_2 : ∀ w ∈ u_ws RX2 TX2 3, w ∈ q_TB := by
  intro w hw
  obtain ⟨k, hk, rfl⟩ := List.mem_map.mp hw
  have hk := List.mem_range.mp hk
  match k, hk with
  | 0, _ => exact tb_3 (List.mem_of_getElem? (i := 34) rfl) rfl
  | 1, _ => exact tb_3 (List.mem_of_getElem? (i := 36) rfl) rfl
  | 2, _ => exact tb_3 (List.mem_of_getElem? (i := 38) rfl) rfl
theorem dfT_2 : ∀ j, j < 3 → defaultValue (tyX2 j) = vp_V [.null, .null, .null] j := by
  intro k hk
  match k, hk with
  | 0, _ => rfl
  | 1, _ => rfl
  | 2, _ => rfl
theorem inT_3 : ∀ w ∈ u_ws RX3 TX3 4, w ∈ q_TB := by
  intro w hw
  obtain ⟨k, hk, rfl⟩ := List.mem_map.mp hw
  have hk := List.mem_range.mp hk
  match k, hk with
  | 0, _ => exact tb_1 (List.mem_of_getElem? (i := 54) rfl) rfl
  | 1, _ => exact tb_1 (List.mem_of_getElem? (i := 56) rfl) rfl
  | 2, _ => exact tb_1 (List.mem_of_getElem? (i := 58) rfl) rfl
  | 3, _ => exact tb_1 (List.mem_of_getElem? (i := 60) rfl) rfl
theorem dfT_3 : ∀ j, j < 4 → defaultValue (tyX3 j) = vp_V [.null, .null, .null, .null] j := by
  intro k hk
  match k, hk with
  | 0, _ => rfl
  | 1, _ => rfl
  | 2, _ => rfl
  | 3, _ => rfl
theorem inT_4 : ∀ w ∈ u_ws RX4 TX4 3, w ∈ q_TB := by
  intro w hw
  obtain ⟨k, hk, rfl⟩ := List.mem_map.mp hw
  have hk := List.mem_range.mp hk
  match k, hk with
  | 0, _ => exact tb_1 (List.mem_of_getElem? (i := 80) rfl) rfl
  | 1, _ => exact tb_1 (List.mem_of_getElem? (i := 82) rfl) rfl
  | 2, _ => exact tb_1 (List.mem_of_getElem? (i := 84) rfl) rfl
theorem dfT_4 : ∀ j, j < 3 → defaultValue (tyX4 j) = vp_V [.int 0, .int 0, .int 0] j := by
  intro k hk
  match k, hk with
  | 0, _ => rfl
  | 1, _ => rfl
  | 2, _ => rfl
theorem inT_5 : ∀ w ∈ u_ws RX5 TX5 5, w ∈ q_TB := by
  intro w hw
  obtain ⟨k, hk, rfl⟩ := List.mem_map.mp hw
  have hk := List.mem_range.mp hk
  match k, hk with
  | 0, _ => exact tb_1 (List.mem_of_getElem? (i := 144) rfl) rfl
  | 1, _ => exact tb_1 (List.mem_of_getElem? (i := 146) rfl) rfl
  | 2, _ => exact tb_1 (List.mem_of_getElem? (i := 148) rfl) rfl
  | 3, _ => exact tb_1 (List.mem_of_getElem? (i := 150) rfl) rfl
  | 4, _ => exact tb_1 (List.mem_of_getElem? (i := 152) rfl) rfl
theorem dfT_5 : ∀ j, j < 5 → defaultValue (tyX5 j) = vp_V [.null, .null, .null, .int 0, .int 0] j := by
  intro k hk
  match k, hk with
  | 0, _ => rfl
  | 1, _ => rfl
  | 2, _ => rfl
  | 3, _ => rfl
  | 4, _ => rfl
theorem inT_6 : ∀ w ∈ u_ws RX6 TX6 10, w ∈ q_TB := by
  intro w hw
  obtain ⟨k, hk, rfl⟩ := List.mem_map.mp hw
  have hk := List.mem_range.mp hk
  match k, hk with
  | 0, _ => exact tb_1 (List.mem_of_getElem? (i := 169) rfl) rfl
  | 1, _ => exact tb_1 (List.mem_of_getElem? (i := 171) rfl) rfl
  | 2, _ => exact tb_1 (List.mem_of_getElem? (i := 173) rfl) rfl
  | 3, _ => exact tb_1 (List.mem_of_getElem? (i := 175) rfl) rfl
  | 4, _ => exact tb_1 (List.mem_of_getElem? (i := 177) rfl) rfl
  | 5, _ => exact tb_1 (List.mem_of_getElem? (i := 179) rfl) rfl
  | 6, _ => exact tb_1 (List.mem_of_getElem? (i := 181) rfl) rfl
  | 7, _ => exact tb_1 (List.mem_of_getElem? (i := 183) rfl) rfl
  | 8, _ => exact tb_1 (List.mem_of_getElem? (i := 185) rfl) rfl
  | 9, _ => exact tb_1 (List.mem_of_getElem? (i := 187) rfl) rfl
theorem dfT_6 : ∀ j, j < 10 → defaultValue (tyX6 j) = vp_V [.null, .null, .null, .null, .null, .null, .int 0, .int 0, .int 0, .int 0] j := by
  intro k hk
  match k, hk with
  | 0, _ => rfl
  | 1, _ => rfl
  | 2, _ => rfl
  | 3, _ => rfl
  | 4, _ => rfl
  | 5, _ => rfl
  | 6, _ => rfl
  | 7, _ => rfl
  | 8, _ => rfl
  | 9, _ => rfl
theorem inT_7 : ∀ w ∈ u_ws RX7 TX7 36, w ∈ q_TB := by
  intro w hw
  obtain ⟨k, hk, rfl⟩ := List.mem_map.mp hw
  have hk := List.mem_range.mp hk
  match k, hk with
  | 0, _ => exact tb_4 (List.mem_of_getElem? (i := 205) rfl) rfl
  | 1, _ => exact tb_4 (List.mem_of_getElem? (i := 207) rfl) rfl
  | 2, _ => exact tb_4 (List.mem_of_getElem? (i := 209) rfl) rfl
  | 3, _ => exact tb_4 (List.mem_of_getElem? (i := 211) rfl) rfl
  | 4, _ => exact tb_4 (List.mem_of_getElem? (i := 213) rfl) rfl
  | 5, _ => exact tb_4 (List.mem_of_getElem? (i := 215) rfl) rfl
  | 6, _ => exact tb_4 (List.mem_of_getElem? (i := 217) rfl) rfl
  | 7, _ => exact tb_4 (List.mem_of_getElem? (i := 219) rfl) rfl
  | 8, _ => exact tb_4 (List.mem_of_getElem? (i := 221) rfl) rfl
  | 9, _ => exact tb_4 (List.mem_of_getElem? (i := 223) rfl) rfl
  | 10, _ => exact tb_4 (List.mem_of_getElem? (i := 225) rfl) rfl
  | 11, _ => exact tb_4 (List.mem_of_getElem? (i := 227) rfl) rfl
  | 12, _ => exact tb_4 (List.mem_of_getElem? (i := 229) rfl) rfl
  | 13, _ => exact tb_4 (List.mem_of_getElem? (i := 231) rfl) rfl
  | 14, _ => exact tb_4 (List.mem_of_getElem? (i := 233) rfl) rfl
  | 15, _ => exact tb_4 (List.mem_of_getElem? (i := 235) rfl) rfl
  | 16, _ => exact tb_4 (List.mem_of_getElem? (i := 237) rfl) rfl
  | 17, _ => exact tb_4 (List.mem_of_getElem? (i := 239) rfl) rfl
  | 18, _ => exact tb_5 (List.mem_of_getElem? (i := 1) rfl) rfl
  | 19, _ => exact tb_5 (List.mem_of_getElem? (i := 3) rfl) rfl
  | 20, _ => exact tb_5 (List.mem_of_getElem? (i := 5) rfl) rfl
  | 21, _ => exact tb_5 (List.mem_of_getElem? (i := 7) rfl) rfl
  | 22, _ => exact tb_5 (List.mem_of_getElem? (i := 9) rfl) rfl
  | 23, _ => exact tb_5 (List.mem_of_getElem? (i := 11) rfl) rfl
  | 24, _ => exact tb_5 (List.mem_of_getElem? (i := 13) rfl) rfl
  | 25, _ => exact tb_5 (List.mem_of_getElem? (i := 15) rfl) rfl
  | 26, _ => exact tb_5 (List.mem_of_getElem? (i := 17) rfl) rfl
  | 27, _ => exact tb_5 (List.mem_of_getElem? (i := 19) rfl) rfl
  | 28, _ => exact tb_5 (List.mem_of_getElem? (i := 21) rfl) rfl
  | 29, _ => exact tb_5 (List.mem_of_getElem? (i := 23) rfl) rfl
  | 30, _ => exact tb_5 (List.mem_of_getElem? (i := 25) rfl) rfl
  | 31, _ => exact tb_5 (List.mem_of_getElem? (i := 27) rfl) rfl
  | 32, _ => exact tb_5 (List.mem_of_getElem? (i := 29) rfl) rfl
  | 33, _ => exact tb_5 (List.mem_of_getElem? (i := 31) rfl) rfl
  | 34, _ => exact tb_5 (List.mem_of_getElem? (i := 33) rfl) rfl
  | 35, _ => exact tb_5 (List.mem_of_getElem? (i := 35) rfl) rfl
  | k + 36, hk => exact absurd hk (by omega)
theorem dfT_7 : ∀ j, j < 36 → defaultValue (tyX7 j) = vp_V [.int 0, .int 0, .int 0, .null, .int 0, .null, .null, .null, .null, .int 0, .null, .int 0, .int 0, .int 0, .int 0, .long 0, .int 0, .int 0, .null, .null, .int 0, .int 0, .int 0, .null, .int 0, .int 0, .int 0, .int 0, .null, .null, .null, .int 0, .int 0, .null, .null, .null] j := by
  intro k hk
  match k, hk with
  | 0, _ => rfl
  | 1, _ => rfl
  | 2, _ => rfl
  | 3, _ => rfl
  | 4, _ => rfl
  | 5, _ => rfl
  | 6, _ => rfl
  | 7, _ => rfl
  | 8, _ => rfl
  | 9, _ => rfl
  | 10, _ => rfl
  | 11, _ => rfl
  | 12, _ => rfl
  | 13, _ => rfl
  | 14, _ => rfl
  | 15, _ => rfl
  | 16, _ => rfl
  | 17, _ => rfl
  | 18, _ => rfl
  | 19, _ => rfl
  | 20, _ => rfl
  | 21, _ => rfl
  | 22, _ => rfl
  | 23, _ => rfl
  | 24, _ => rfl
  | 25, _ => rfl
  | 26, _ => rfl
  | 27, _ => rfl
  | 28, _ => rfl
  | 29, _ => rfl
  | 30, _ => rfl
  | 31, _ => rfl
  | 32, _ => rfl
  | 33, _ => rfl
  | 34, _ => rfl
  | 35, _ => rfl
  | k + 36, hk => exact absurd hk (by omega)
