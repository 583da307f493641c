/-! ===== the methods' data, the tables' words ===== -/
def im (k : Nat) (l r : Nat → Option MD) : Nat → Option MD := fun m => cond (Nat.ble m k) (l m) (r m)
def il (k : Nat) (d : MD) : Nat → Option MD := fun m => cond (Nat.beq m k) (some d) none
def mdX0_empty : MD := (yX0_empty, cX0_empty, 1, none, 0, 0)
def mdX0_becomeLike : MD := (yX0_becomeLike, cX0_becomeLike, 2, none, 1, 26)
def mdX0_welcome : MD := (yX0_welcome, cX0_welcome, 5, (some .int), 0, 0)
def mdX0_voiceWith : MD := (yX0_voiceWith, cX0_voiceWith, 3, (some .int), 0, 0)
def mdX0_give : MD := (yX0_give, cX0_give, 4, (some .int), 1, 22)
def mdX0_putDown : MD := (yX0_putDown, cX0_putDown, 2, none, 0, 0)
def mdX0_isWithAnother : MD := (yX0_isWithAnother, cX0_isWithAnother, 2, (some .boolean), 0, 0)
def mdX0_goOneEvening : MD := (yX0_goOneEvening, cX0_goOneEvening, 4, (some .int), 3, 61)
def mdX0_keepPast : MD := (yX0_keepPast, cX0_keepPast, 2, none, 1, 26)
def mdX0_goBack : MD := (yX0_goBack, cX0_goBack, 2, none, 1, 26)
def mdX0_soundOf : MD := (yX0_soundOf, cX0_soundOf, 2, (some .int), 2, 43)
def mdX0_fitWith : MD := (yX0_fitWith, cX0_fitWith, 3, (some .int), 3, 64)
def mdX0_fitNow : MD := (yX0_fitNow, cX0_fitNow, 3, (some .int), 4, 86)
def mdX0_leastFit : MD := (yX0_leastFit, cX0_leastFit, 3, (some .int), 5, 108)
def mdX0_ringFrom : MD := (yX0_ringFrom, cX0_ringFrom, 4, (some .int), 1, 22)
def mdX0_ringsOfTwoOrMore : MD := (yX0_ringsOfTwoOrMore, cX0_ringsOfTwoOrMore, 3, (some .int), 2, 45)
def mdX0_isFirstOfRing : MD := (yX0_isFirstOfRing, cX0_isFirstOfRing, 4, (some .boolean), 1, 22)
def mdX0_bothWouldRather : MD := (yX0_bothWouldRather, cX0_bothWouldRather, 5, (some .boolean), 4, 86)
def mdX0_howManySwaps : MD := (yX0_howManySwaps, cX0_howManySwaps, 4, (some .int), 5, 110)
def mdX0_swapAt : MD := (yX0_swapAt, cX0_swapAt, 5, (some .int), 5, 110)
def mdX0_exchange : MD := (yX0_exchange, cX0_exchange, 5, none, 1, 22)
def mdX0_writeDown : MD := (yX0_writeDown, cX0_writeDown, 7, (some .int), 0, 0)
def mdX0_kindsByNotes : MD := (yX0_kindsByNotes, cX0_kindsByNotes, 6, (some .int), 4, 85)
def mdX0_isSoByNote : MD := (yX0_isSoByNote, cX0_isSoByNote, 5, (some .boolean), 3, 61)
def mdX0_lendOrLeave : MD := (yX0_lendOrLeave, cX0_lendOrLeave, 4, none, 2, 45)
def mdX0_atCounter : MD := (yX0_atCounter, cX0_atCounter, 3, (some .int), 0, 0)
def mdX0_allSlipped : MD := (yX0_allSlipped, cX0_allSlipped, 3, (some .int), 0, 0)
def mdX0_digestOn : MD := (yX0_digestOn, cX0_digestOn, 6, (some .long), 0, 0)
def mdX1_soundOf : MD := (yX1_soundOf, cX1_soundOf, 3, (some .int), 1, 21)
def mdX1_wordsOf : MD := (yX1_wordsOf, cX1_wordsOf, 2, (some .int), 2, 40)
def mdX1_plainWords : MD := (yX1_plainWords, cX1_plainWords, 1, (some .int), 0, 0)
def mdX1_trebleWords : MD := (yX1_trebleWords, cX1_trebleWords, 1, (some .int), 1, 20)
def mdX1_mostAlike : MD := (yX1_mostAlike, cX1_mostAlike, 9, (some .int), 3, 61)
def mdX2_append : MD := (yX2_append, cX2_append, 2, (some .int), 0, 0)
def mdX2_readInto : MD := (yX2_readInto, cX2_readInto, 4, (some .int), 6, 128)
def mdX2_isCounter : MD := (yX2_isCounter, cX2_isCounter, 1, (some .boolean), 5, 107)
def mdX2_isItem : MD := (yX2_isItem, cX2_isItem, 2, (some .boolean), 5, 107)
def mdX2_isOne : MD := (yX2_isOne, cX2_isOne, 4, (some .boolean), 3, 62)
def mdX2_isLeave : MD := (yX2_isLeave, cX2_isLeave, 3, (some .boolean), 3, 62)
def mdX2_isLend : MD := (yX2_isLend, cX2_isLend, 3, (some .boolean), 3, 62)
def mdX2_isNumberBelow : MD := (yX2_isNumberBelow, cX2_isNumberBelow, 2, (some .boolean), 2, 41)
def mdX2_isStop : MD := (yX2_isStop, cX2_isStop, 1, (some .boolean), 2, 41)
def mdX2_isWord : MD := (yX2_isWord, cX2_isWord, 3, (some .boolean), 4, 85)
def mdX2_step : MD := (yX2_step, cX2_step, 1, none, 1, 21)
def mdX2_tokenBegunBy : MD := (yX2_tokenBegunBy, cX2_tokenBegunBy, 1, (some .int), 0, 0)
def mdX2_takeValue : MD := (yX2_takeValue, cX2_takeValue, 2, none, 0, 0)
def mdX3_counter : MD := (yX3_counter, cX3_counter, 2, (some .int), 1, 20)
def mdX3_one : MD := (yX3_one, cX3_one, 4, (some .int), 2, 42)
def mdX3_type : MD := (yX3_type, cX3_type, 2, (some .int), 1, 22)
def mdX3_clear : MD := (yX3_clear, cX3_clear, 2, (some .int), 0, 0)
def mdX3_read : MD := (yX3_read, cX3_read, 2, (some .int), 7, 151)
def mdX3_lend : MD := (yX3_lend, cX3_lend, 3, (some .int), 2, 47)
def mdX3_leave : MD := (yX3_leave, cX3_leave, 3, (some .int), 2, 47)
def mdX3_evening : MD := (yX3_evening, cX3_evening, 4, (some .int), 4, 84)
def mdX3_undo : MD := (yX3_undo, cX3_undo, 1, (some .int), 2, 47)
def mdX3_of : MD := (yX3_of, cX3_of, 3, (some .int), 5, 108)
def mdX3_about : MD := (yX3_about, cX3_about, 3, (some .int), 3, 64)
def mdX3_fit : MD := (yX3_fit, cX3_fit, 3, (some .int), 4, 86)
def mdX3_best : MD := (yX3_best, cX3_best, 2, (some .int), 5, 112)
def mdX3_dumb : MD := (yX3_dumb, cX3_dumb, 3, (some .int), 1, 22)
def mdX3_own : MD := (yX3_own, cX3_own, 3, (some .int), 3, 67)
def mdX3_ring : MD := (yX3_ring, cX3_ring, 2, (some .int), 2, 45)
def mdX3_swaps : MD := (yX3_swaps, cX3_swaps, 3, (some .int), 6, 134)
def mdX3_steps : MD := (yX3_steps, cX3_steps, 4, (some .int), 6, 134)
def mdX3_worst : MD := (yX3_worst, cX3_worst, 3, (some .int), 6, 130)
def mdX3_slips : MD := (yX3_slips, cX3_slips, 5, (some .int), 3, 61)
def mdX3_note : MD := (yX3_note, cX3_note, 7, (some .int), 2, 43)
def mdX3_forget : MD := (yX3_forget, cX3_forget, 2, (some .int), 0, 0)
def mdX3_is : MD := (yX3_is, cX3_is, 2, (some .int), 5, 110)
def mdX3_listen : MD := (yX3_listen, cX3_listen, 8, (some .int), 5, 110)
def mdX3_whose : MD := (yX3_whose, cX3_whose, 4, (some .int), 3, 64)
def mdX3_asks : MD := (yX3_asks, cX3_asks, 12, (some .int), 5, 108)
def mdX3_thieves : MD := (yX3_thieves, cX3_thieves, 9, (some .int), 2, 52)
def mdX3_lents : MD := (yX3_lents, cX3_lents, 10, (some .int), 4, 84)
def mdX3_part : MD := (yX3_part, cX3_part, 2, (some .long), 1, 22)
def mdX3_image : MD := (yX3_image, cX3_image, 2, (some .int), 2, 47)
def mdX3_from : MD := (yX3_from, cX3_from, 2, (some .int), 2, 47)
def mdX3_status : MD := (yX3_status, cX3_status, 2, (some .int), 0, 0)
def mdX3_count : MD := (yX3_count, cX3_count, 2, (some .int), 2, 43)
def mdX3_digest : MD := (yX3_digest, cX3_digest, 4, (some .long), 2, 43)
def mdX3_bad : MD := (yX3_bad, cX3_bad, 1, (some .int), 0, 0)
def mdX3_badByTen : MD := (yX3_badByTen, cX3_badByTen, 1, (some .int), 0, 0)
def mdX3_no : MD := (yX3_no, cX3_no, 1, (some .int), 0, 0)
def mdX3_full : MD := (yX3_full, cX3_full, 1, (some .int), 0, 0)
def mdX3_within : MD := (yX3_within, cX3_within, 3, (some .boolean), 0, 0)
def mdX3_isSort : MD := (yX3_isSort, cX3_isSort, 1, (some .boolean), 1, 22)
def mdX3_isThere : MD := (yX3_isThere, cX3_isThere, 2, (some .boolean), 1, 22)
def mdX3_howMany : MD := (yX3_howMany, cX3_howMany, 2, (some .int), 1, 22)
def mdX3_findBest : MD := (yX3_findBest, cX3_findBest, 7, none, 4, 86)
def mdX3_bestVoiceOf : MD := (yX3_bestVoiceOf, cX3_bestVoiceOf, 4, (some .int), 0, 0)
def mdX3_isContent : MD := (yX3_isContent, cX3_isContent, 4, (some .boolean), 0, 0)
def mdX3_power : MD := (yX3_power, cX3_power, 5, (some .long), 0, 0)
def mdX3_setFraction : MD := (yX3_setFraction, cX3_setFraction, 7, none, 1, 26)
def mdX3_greatestCommonDivisor : MD := (yX3_greatestCommonDivisor, cX3_greatestCommonDivisor, 7, (some .long), 0, 0)
def mdX3_nextOfSeed : MD := (yX3_nextOfSeed, cX3_nextOfSeed, 2, (some .long), 0, 0)
def mdX4_bad : MD := (yX4_bad, cX4_bad, 1, (some .int), 0, 0)
def mdX4_ten : MD := (yX4_ten, cX4_ten, 1, (some .int), 0, 0)
def mdX4_no : MD := (yX4_no, cX4_no, 1, (some .int), 0, 0)
def mdX4_full : MD := (yX4_full, cX4_full, 1, (some .int), 0, 0)
def mdX4_in : MD := (yX4_in, cX4_in, 3, (some .boolean), 0, 0)
def mdX4_has : MD := (yX4_has, cX4_has, 2, (some .boolean), 0, 0)
def mdX4_begin : MD := (yX4_begin, cX4_begin, 1, none, 0, 0)
def mdX4_isOne : MD := (yX4_isOne, cX4_isOne, 2, (some .boolean), 1, 22)
def mdX4_counter : MD := (yX4_counter, cX4_counter, 2, (some .int), 1, 20)
def mdX4_addOne : MD := (yX4_addOne, cX4_addOne, 4, (some .int), 0, 0)
def mdX4_one : MD := (yX4_one, cX4_one, 4, (some .int), 1, 23)
def mdX4_type : MD := (yX4_type, cX4_type, 2, (some .int), 1, 22)
def mdX4_clear : MD := (yX4_clear, cX4_clear, 2, (some .int), 0, 0)
def mdX4_here : MD := (yX4_here, cX4_here, 1, (some .int), 0, 0)
def mdX4_skip : MD := (yX4_skip, cX4_skip, 1, none, 1, 20)
def mdX4_isLetter : MD := (yX4_isLetter, cX4_isLetter, 1, (some .boolean), 1, 22)
def mdX4_isFigure : MD := (yX4_isFigure, cX4_isFigure, 1, (some .boolean), 1, 22)
def mdX4_wordSize : MD := (yX4_wordSize, cX4_wordSize, 2, (some .int), 2, 42)
def mdX4_letter : MD := (yX4_letter, cX4_letter, 2, (some .int), 0, 0)
def mdX4_spells : MD := (yX4_spells, cX4_spells, 5, (some .boolean), 1, 21)
def mdX4_wordHere : MD := (yX4_wordHere, cX4_wordHere, 2, (some .int), 3, 63)
def mdX4_number : MD := (yX4_number, cX4_number, 5, (some .boolean), 2, 42)
def mdX4_ends : MD := (yX4_ends, cX4_ends, 1, (some .boolean), 2, 40)
def mdX4_readsOne : MD := (yX4_readsOne, cX4_readsOne, 2, (some .boolean), 3, 66)
def mdX4_readVoice : MD := (yX4_readVoice, cX4_readVoice, 4, (some .int), 0, 0)
def mdX4_readsLeave : MD := (yX4_readsLeave, cX4_readsLeave, 3, (some .boolean), 3, 66)
def mdX4_readsLend : MD := (yX4_readsLend, cX4_readsLend, 4, (some .boolean), 3, 66)
def mdX4_readsItem : MD := (yX4_readsItem, cX4_readsItem, 2, (some .boolean), 4, 89)
def mdX4_readsCounter : MD := (yX4_readsCounter, cX4_readsCounter, 2, (some .int), 5, 110)
def mdX4_read : MD := (yX4_read, cX4_read, 3, (some .int), 6, 131)
def mdX4_lesser : MD := (yX4_lesser, cX4_lesser, 2, (some .int), 0, 0)
def mdX4_soundBy : MD := (yX4_soundBy, cX4_soundBy, 4, (some .int), 1, 21)
def mdX4_slipBy : MD := (yX4_slipBy, cX4_slipBy, 3, (some .int), 0, 0)
def mdX4_sound : MD := (yX4_sound, cX4_sound, 2, (some .int), 2, 44)
def mdX4_fitWith : MD := (yX4_fitWith, cX4_fitWith, 4, (some .int), 3, 65)
def mdX4_voiceOf : MD := (yX4_voiceOf, cX4_voiceOf, 4, (some .int), 0, 0)
def mdX4_fitNow : MD := (yX4_fitNow, cX4_fitNow, 3, (some .int), 4, 88)
def mdX4_lays : MD := (yX4_lays, cX4_lays, 4, none, 0, 0)
def mdX4_takes : MD := (yX4_takes, cX4_takes, 4, none, 0, 0)
def mdX4_notes : MD := (yX4_notes, cX4_notes, 2, none, 1, 23)
def mdX4_puts : MD := (yX4_puts, cX4_puts, 1, none, 1, 23)
def mdX4_back : MD := (yX4_back, cX4_back, 1, none, 1, 23)
def mdX4_leaves : MD := (yX4_leaves, cX4_leaves, 2, none, 0, 0)
def mdX4_lends : MD := (yX4_lends, cX4_lends, 4, (some .int), 1, 23)
def mdX4_pass : MD := (yX4_pass, cX4_pass, 4, (some .int), 1, 22)
def mdX4_lend : MD := (yX4_lend, cX4_lend, 3, (some .int), 2, 46)
def mdX4_leave : MD := (yX4_leave, cX4_leave, 3, (some .int), 2, 44)
def mdX4_evening : MD := (yX4_evening, cX4_evening, 5, (some .int), 2, 45)
def mdX4_undo : MD := (yX4_undo, cX4_undo, 1, (some .int), 1, 23)
def mdX4_of : MD := (yX4_of, cX4_of, 3, (some .int), 5, 110)
def mdX4_about : MD := (yX4_about, cX4_about, 3, (some .int), 3, 65)
def mdX4_fit : MD := (yX4_fit, cX4_fit, 3, (some .int), 4, 88)
def mdX4_nextLine : MD := (yX4_nextLine, cX4_nextLine, 6, (some .boolean), 0, 0)
def mdX4_best : MD := (yX4_best, cX4_best, 6, (some .int), 4, 88)
def mdX4_dumb : MD := (yX4_dumb, cX4_dumb, 3, (some .int), 1, 23)
def mdX4_ringOf : MD := (yX4_ringOf, cX4_ringOf, 4, (some .int), 1, 23)
def mdX4_own : MD := (yX4_own, cX4_own, 6, (some .int), 2, 46)
def mdX4_ring : MD := (yX4_ring, cX4_ring, 2, (some .int), 2, 46)
def mdX4_isSwap : MD := (yX4_isSwap, cX4_isSwap, 5, (some .boolean), 4, 88)
def mdX4_swaps : MD := (yX4_swaps, cX4_swaps, 6, (some .int), 5, 112)
def mdX4_firstSwap : MD := (yX4_firstSwap, cX4_firstSwap, 3, (some .int), 5, 112)
def mdX4_steps : MD := (yX4_steps, cX4_steps, 5, (some .int), 6, 134)
def mdX4_worst : MD := (yX4_worst, cX4_worst, 7, (some .int), 5, 110)
def mdX4_slips : MD := (yX4_slips, cX4_slips, 5, (some .int), 2, 43)
def mdX4_note : MD := (yX4_note, cX4_note, 6, (some .int), 2, 43)
def mdX4_forget : MD := (yX4_forget, cX4_forget, 2, (some .int), 0, 0)
def mdX4_kindsOf : MD := (yX4_kindsOf, cX4_kindsOf, 7, (some .int), 2, 44)
def mdX4_is : MD := (yX4_is, cX4_is, 2, (some .int), 3, 70)
def mdX4_alike : MD := (yX4_alike, cX4_alike, 10, (some .int), 2, 44)
def mdX4_listen : MD := (yX4_listen, cX4_listen, 8, (some .int), 3, 73)
def mdX4_whose : MD := (yX4_whose, cX4_whose, 4, (some .int), 3, 65)
def mdX4_gets : MD := (yX4_gets, cX4_gets, 7, (some .int), 5, 110)
def mdX4_asks : MD := (yX4_asks, cX4_asks, 9, (some .int), 6, 136)
def mdX4_lay : MD := (yX4_lay, cX4_lay, 11, none, 0, 0)
def mdX4_atCounter : MD := (yX4_atCounter, cX4_atCounter, 3, (some .int), 0, 0)
def mdX4_bits : MD := (yX4_bits, cX4_bits, 3, (some .int), 0, 0)
def mdX4_thieves : MD := (yX4_thieves, cX4_thieves, 12, (some .int), 1, 30)
def mdX4_lents : MD := (yX4_lents, cX4_lents, 10, (some .int), 2, 46)
def mdX4_part : MD := (yX4_part, cX4_part, 2, (some .long), 1, 20)
def mdX4_image : MD := (yX4_image, cX4_image, 4, (some .int), 1, 23)
def mdX4_from : MD := (yX4_from, cX4_from, 4, (some .int), 1, 23)
def mdX4_status : MD := (yX4_status, cX4_status, 2, (some .int), 1, 22)
def mdX4_allSlipped : MD := (yX4_allSlipped, cX4_allSlipped, 3, (some .int), 0, 0)
def mdX4_countOf : MD := (yX4_countOf, cX4_countOf, 2, (some .int), 1, 22)
def mdX4_count : MD := (yX4_count, cX4_count, 2, (some .int), 2, 43)
def mdX4_mix : MD := (yX4_mix, cX4_mix, 3, none, 0, 0)
def mdX4_digest : MD := (yX4_digest, cX4_digest, 2, (some .long), 2, 43)
def mdJ6_bitCount_0f7a4 : MD := (yJ6_bitCount_0f7a4, cJ6_bitCount_0f7a4, 1, (some .int), 0, 0)
def inf : Nat → Option MD := (im 90 (im 44 (im 21 (im 10 (im 4 (im 1 (im 0 (il 0 mdX0_empty) (il 1 mdX0_becomeLike)) (im 2 (il 2 mdX0_welcome) (im 3 (il 3 mdX0_voiceWith) (il 4 mdX0_give)))) (im 7 (im 5 (il 5 mdX0_putDown) (im 6 (il 6 mdX0_isWithAnother) (il 7 mdX0_goOneEvening))) (im 8 (il 8 mdX0_keepPast) (im 9 (il 9 mdX0_goBack) (il 10 mdX0_soundOf))))) (im 15 (im 12 (im 11 (il 11 mdX0_fitWith) (il 12 mdX0_fitNow)) (im 13 (il 13 mdX0_leastFit) (im 14 (il 14 mdX0_ringFrom) (il 15 mdX0_ringsOfTwoOrMore)))) (im 18 (im 16 (il 16 mdX0_isFirstOfRing) (im 17 (il 17 mdX0_bothWouldRather) (il 18 mdX0_howManySwaps))) (im 19 (il 19 mdX0_swapAt) (im 20 (il 20 mdX0_exchange) (il 21 mdX0_writeDown)))))) (im 32 (im 26 (im 23 (im 22 (il 22 mdX0_kindsByNotes) (il 23 mdX0_isSoByNote)) (im 24 (il 24 mdX0_lendOrLeave) (im 25 (il 25 mdX0_atCounter) (il 26 mdX0_allSlipped)))) (im 29 (im 27 (il 27 mdX0_digestOn) (im 28 (il 28 mdX1_soundOf) (il 29 mdX1_wordsOf))) (im 30 (il 30 mdX1_plainWords) (im 31 (il 31 mdX1_trebleWords) (il 32 mdX1_mostAlike))))) (im 38 (im 35 (im 33 (il 33 mdX2_append) (im 34 (il 34 mdX2_readInto) (il 35 mdX2_isCounter))) (im 36 (il 36 mdX2_isItem) (im 37 (il 37 mdX2_isOne) (il 38 mdX2_isLeave)))) (im 41 (im 39 (il 39 mdX2_isLend) (im 40 (il 40 mdX2_isNumberBelow) (il 41 mdX2_isStop))) (im 42 (il 42 mdX2_isWord) (im 43 (il 43 mdX2_step) (il 44 mdX2_tokenBegunBy))))))) (im 67 (im 55 (im 49 (im 46 (im 45 (il 45 mdX2_takeValue) (il 46 mdX3_counter)) (im 47 (il 47 mdX3_one) (im 48 (il 48 mdX3_type) (il 49 mdX3_clear)))) (im 52 (im 50 (il 50 mdX3_read) (im 51 (il 51 mdX3_lend) (il 52 mdX3_leave))) (im 53 (il 53 mdX3_evening) (im 54 (il 54 mdX3_undo) (il 55 mdX3_of))))) (im 61 (im 58 (im 56 (il 56 mdX3_about) (im 57 (il 57 mdX3_fit) (il 58 mdX3_best))) (im 59 (il 59 mdX3_dumb) (im 60 (il 60 mdX3_own) (il 61 mdX3_ring)))) (im 64 (im 62 (il 62 mdX3_swaps) (im 63 (il 63 mdX3_steps) (il 64 mdX3_worst))) (im 65 (il 65 mdX3_slips) (im 66 (il 66 mdX3_note) (il 67 mdX3_forget)))))) (im 78 (im 72 (im 69 (im 68 (il 68 mdX3_is) (il 69 mdX3_listen)) (im 70 (il 70 mdX3_whose) (im 71 (il 71 mdX3_asks) (il 72 mdX3_thieves)))) (im 75 (im 73 (il 73 mdX3_lents) (im 74 (il 74 mdX3_part) (il 75 mdX3_image))) (im 76 (il 76 mdX3_from) (im 77 (il 77 mdX3_status) (il 78 mdX3_count))))) (im 84 (im 81 (im 79 (il 79 mdX3_digest) (im 80 (il 80 mdX3_bad) (il 81 mdX3_badByTen))) (im 82 (il 82 mdX3_no) (im 83 (il 83 mdX3_full) (il 84 mdX3_within)))) (im 87 (im 85 (il 85 mdX3_isSort) (im 86 (il 86 mdX3_isThere) (il 87 mdX3_howMany))) (im 88 (il 88 mdX3_findBest) (im 89 (il 89 mdX3_bestVoiceOf) (il 90 mdX3_isContent)))))))) (im 136 (im 113 (im 101 (im 95 (im 92 (im 91 (il 91 mdX3_power) (il 92 mdX3_setFraction)) (im 93 (il 93 mdX3_greatestCommonDivisor) (im 94 (il 94 mdX3_nextOfSeed) (il 95 mdX4_bad)))) (im 98 (im 96 (il 96 mdX4_ten) (im 97 (il 97 mdX4_no) (il 98 mdX4_full))) (im 99 (il 99 mdX4_in) (im 100 (il 100 mdX4_has) (il 101 mdX4_begin))))) (im 107 (im 104 (im 102 (il 102 mdX4_isOne) (im 103 (il 103 mdX4_counter) (il 104 mdX4_addOne))) (im 105 (il 105 mdX4_one) (im 106 (il 106 mdX4_type) (il 107 mdX4_clear)))) (im 110 (im 108 (il 108 mdX4_here) (im 109 (il 109 mdX4_skip) (il 110 mdX4_isLetter))) (im 111 (il 111 mdX4_isFigure) (im 112 (il 112 mdX4_wordSize) (il 113 mdX4_letter)))))) (im 124 (im 118 (im 115 (im 114 (il 114 mdX4_spells) (il 115 mdX4_wordHere)) (im 116 (il 116 mdX4_number) (im 117 (il 117 mdX4_ends) (il 118 mdX4_readsOne)))) (im 121 (im 119 (il 119 mdX4_readVoice) (im 120 (il 120 mdX4_readsLeave) (il 121 mdX4_readsLend))) (im 122 (il 122 mdX4_readsItem) (im 123 (il 123 mdX4_readsCounter) (il 124 mdX4_read))))) (im 130 (im 127 (im 125 (il 125 mdX4_lesser) (im 126 (il 126 mdX4_soundBy) (il 127 mdX4_slipBy))) (im 128 (il 128 mdX4_sound) (im 129 (il 129 mdX4_fitWith) (il 130 mdX4_voiceOf)))) (im 133 (im 131 (il 131 mdX4_fitNow) (im 132 (il 132 mdX4_lays) (il 133 mdX4_takes))) (im 134 (il 134 mdX4_notes) (im 135 (il 135 mdX4_puts) (il 136 mdX4_back))))))) (im 159 (im 147 (im 141 (im 138 (im 137 (il 137 mdX4_leaves) (il 138 mdX4_lends)) (im 139 (il 139 mdX4_pass) (im 140 (il 140 mdX4_lend) (il 141 mdX4_leave)))) (im 144 (im 142 (il 142 mdX4_evening) (im 143 (il 143 mdX4_undo) (il 144 mdX4_of))) (im 145 (il 145 mdX4_about) (im 146 (il 146 mdX4_fit) (il 147 mdX4_nextLine))))) (im 153 (im 150 (im 148 (il 148 mdX4_best) (im 149 (il 149 mdX4_dumb) (il 150 mdX4_ringOf))) (im 151 (il 151 mdX4_own) (im 152 (il 152 mdX4_ring) (il 153 mdX4_isSwap)))) (im 156 (im 154 (il 154 mdX4_swaps) (im 155 (il 155 mdX4_firstSwap) (il 156 mdX4_steps))) (im 157 (il 157 mdX4_worst) (im 158 (il 158 mdX4_slips) (il 159 mdX4_note)))))) (im 170 (im 164 (im 161 (im 160 (il 160 mdX4_forget) (il 161 mdX4_kindsOf)) (im 162 (il 162 mdX4_is) (im 163 (il 163 mdX4_alike) (il 164 mdX4_listen)))) (im 167 (im 165 (il 165 mdX4_whose) (im 166 (il 166 mdX4_gets) (il 167 mdX4_asks))) (im 168 (il 168 mdX4_lay) (im 169 (il 169 mdX4_atCounter) (il 170 mdX4_bits))))) (im 176 (im 173 (im 171 (il 171 mdX4_thieves) (im 172 (il 172 mdX4_lents) (il 173 mdX4_part))) (im 174 (il 174 mdX4_image) (im 175 (il 175 mdX4_from) (il 176 mdX4_status)))) (im 179 (im 177 (il 177 mdX4_allSlipped) (im 178 (il 178 mdX4_countOf) (il 179 mdX4_count))) (im 180 (il 180 mdX4_mix) (im 181 (il 181 mdX4_digest) (il 182 mdJ6_bitCount_0f7a4)))))))))
theorem ww_0 : Cond.fieldLink "BorrowedVoice$House" 9 "BorrowedVoice$House" "people" "I" ∈ gtb := gtb_of (List.mem_append_right _ (List.mem_of_getElem? (i := 27) (by decide +kernel))) (by decide +kernel)
theorem ww_1 : Cond.fieldLink "BorrowedVoice$House" 15 "BorrowedVoice$House" "evening" "I" ∈ gtb := gtb_of (List.mem_append_right _ (List.mem_of_getElem? (i := 30) (by decide +kernel))) (by decide +kernel)
theorem ww_2 : Cond.fieldLink "BorrowedVoice$House" 18 "BorrowedVoice$House" "notes" "I" ∈ gtb := gtb_of (List.mem_append_right _ (List.mem_of_getElem? (i := 32) (by decide +kernel))) (by decide +kernel)
theorem ww_3 : Cond.fieldLink "BorrowedVoice$House" 21 "BorrowedVoice$House" "undos" "I" ∈ gtb := gtb_of (List.mem_append_right _ (List.mem_of_getElem? (i := 34) (by decide +kernel))) (by decide +kernel)
theorem ww_4 : Cond.fieldLink "BorrowedVoice$House" 24 "BorrowedVoice$House" "kind" "[I" ∈ gtb := gtb_of (List.mem_append_right _ (List.mem_of_getElem? (i := 36) (by decide +kernel))) (by decide +kernel)
theorem ww_5 : Cond.methodLink "BorrowedVoice$House" 49 ⟨"java/lang/System", "arraycopy", "(Ljava/lang/Object;ILjava/lang/Object;II)V"⟩ ∈ gtb := gtb_of (List.mem_append_right _ (List.mem_of_getElem? (i := 312) (by decide +kernel))) (by decide +kernel)
theorem ww_6 : Cond.native ⟨"java/lang/System", "arraycopy", "(Ljava/lang/Object;ILjava/lang/Object;II)V"⟩ ∈ gtb := gtb_of (List.mem_append_right _ (List.mem_of_getElem? (i := 314) (by decide +kernel))) (by decide +kernel)
theorem ww_7 : Cond.static ⟨"java/lang/System", "arraycopy", "(Ljava/lang/Object;ILjava/lang/Object;II)V"⟩ ∈ gtb := gtb_of (List.mem_append_right _ (List.mem_of_getElem? (i := 313) (by decide +kernel))) (by decide +kernel)
theorem ww_8 : Cond.initialized "java/lang/System" ∈ gtb := gtb_of (List.mem_append_right _ (List.mem_of_getElem? (i := 9) (by decide +kernel))) (by decide +kernel)
theorem ww_9 : Cond.fieldLink "BorrowedVoice$House" 28 "BorrowedVoice$House" "sort" "[I" ∈ gtb := gtb_of (List.mem_append_right _ (List.mem_of_getElem? (i := 38) (by decide +kernel))) (by decide +kernel)
theorem ww_10 : Cond.fieldLink "BorrowedVoice$House" 31 "BorrowedVoice$House" "wants" "[I" ∈ gtb := gtb_of (List.mem_append_right _ (List.mem_of_getElem? (i := 40) (by decide +kernel))) (by decide +kernel)
theorem ww_11 : Cond.fieldLink "BorrowedVoice$House" 34 "BorrowedVoice$House" "holder" "[I" ∈ gtb := gtb_of (List.mem_append_right _ (List.mem_of_getElem? (i := 42) (by decide +kernel))) (by decide +kernel)
theorem ww_12 : Cond.fieldLink "BorrowedVoice$House" 37 "BorrowedVoice$House" "used" "[I" ∈ gtb := gtb_of (List.mem_append_right _ (List.mem_of_getElem? (i := 45) (by decide +kernel))) (by decide +kernel)
theorem ww_13 : Cond.fieldLink "BorrowedVoice$House" 40 "BorrowedVoice$House" "slipped" "[I" ∈ gtb := gtb_of (List.mem_append_right _ (List.mem_of_getElem? (i := 47) (by decide +kernel))) (by decide +kernel)
theorem ww_14 : Cond.fieldLink "BorrowedVoice$House" 43 "BorrowedVoice$House" "noteRows" "[I" ∈ gtb := gtb_of (List.mem_append_right _ (List.mem_of_getElem? (i := 49) (by decide +kernel))) (by decide +kernel)
theorem ww_15 : Cond.fieldLink "BorrowedVoice$House" 46 "BorrowedVoice$House" "past" "[I" ∈ gtb := gtb_of (List.mem_append_right _ (List.mem_of_getElem? (i := 50) (by decide +kernel))) (by decide +kernel)
theorem ww_16 : Cond.methodLink "BorrowedVoice$House" 55 ⟨"BorrowedVoice$House", "voiceWith", "(I)I"⟩ ∈ gtb := gtb_of (List.mem_append_right _ (List.mem_of_getElem? (i := 306) (by decide +kernel))) (by decide +kernel)
theorem ww_17 : Cond.selects "BorrowedVoice$House" ⟨"BorrowedVoice$House", "voiceWith", "(I)I"⟩ ⟨"BorrowedVoice$House", "voiceWith", "(I)I"⟩ ∈ gtb := gtb_of (List.mem_append_right _ (List.mem_of_getElem? (i := 291) (by decide +kernel))) (by decide +kernel)
theorem ww_18 : Cond.instanceMethod ⟨"BorrowedVoice$House", "voiceWith", "(I)I"⟩ ∈ gtb := gtb_of (List.mem_append_right _ (List.mem_of_getElem? (i := 290) (by decide +kernel))) (by decide +kernel)
theorem ww_19 : Cond.methodLink "BorrowedVoice$House" 59 ⟨"BorrowedVoice$House", "putDown", "(I)V"⟩ ∈ gtb := gtb_of (List.mem_append_right _ (List.mem_of_getElem? (i := 307) (by decide +kernel))) (by decide +kernel)
theorem ww_20 : Cond.selects "BorrowedVoice$House" ⟨"BorrowedVoice$House", "putDown", "(I)V"⟩ ⟨"BorrowedVoice$House", "putDown", "(I)V"⟩ ∈ gtb := gtb_of (List.mem_append_right _ (List.mem_of_getElem? (i := 295) (by decide +kernel))) (by decide +kernel)
theorem ww_21 : Cond.instanceMethod ⟨"BorrowedVoice$House", "putDown", "(I)V"⟩ ∈ gtb := gtb_of (List.mem_append_right _ (List.mem_of_getElem? (i := 294) (by decide +kernel))) (by decide +kernel)
theorem ww_22 : Cond.methodLink "BorrowedVoice$House" 63 ⟨"BorrowedVoice$House", "isWithAnother", "(I)Z"⟩ ∈ gtb := gtb_of (List.mem_append_right _ (List.mem_of_getElem? (i := 350) (by decide +kernel))) (by decide +kernel)
theorem ww_23 : Cond.selects "BorrowedVoice$House" ⟨"BorrowedVoice$House", "isWithAnother", "(I)Z"⟩ ⟨"BorrowedVoice$House", "isWithAnother", "(I)Z"⟩ ∈ gtb := gtb_of (List.mem_append_right _ (List.mem_of_getElem? (i := 352) (by decide +kernel))) (by decide +kernel)
theorem ww_24 : Cond.instanceMethod ⟨"BorrowedVoice$House", "isWithAnother", "(I)Z"⟩ ∈ gtb := gtb_of (List.mem_append_right _ (List.mem_of_getElem? (i := 351) (by decide +kernel))) (by decide +kernel)
theorem ww_25 : Cond.methodLink "BorrowedVoice$House" 67 ⟨"BorrowedVoice$Kinds", "wordsOf", "(II)I"⟩ ∈ gtb := gtb_of (List.mem_append_right _ (List.mem_of_getElem? (i := 354) (by decide +kernel))) (by decide +kernel)
theorem ww_26 : Cond.static ⟨"BorrowedVoice$Kinds", "wordsOf", "(II)I"⟩ ∈ gtb := gtb_of (List.mem_append_right _ (List.mem_of_getElem? (i := 355) (by decide +kernel))) (by decide +kernel)
theorem ww_27 : Cond.methodLink "BorrowedVoice$House" 73 ⟨"BorrowedVoice$Kinds", "soundOf", "(III)I"⟩ ∈ gtb := gtb_of (List.mem_append_right _ (List.mem_of_getElem? (i := 390) (by decide +kernel))) (by decide +kernel)
theorem ww_28 : Cond.static ⟨"BorrowedVoice$Kinds", "soundOf", "(III)I"⟩ ∈ gtb := gtb_of (List.mem_append_right _ (List.mem_of_getElem? (i := 391) (by decide +kernel))) (by decide +kernel)
theorem ww_29 : Cond.methodLink "BorrowedVoice$House" 77 ⟨"BorrowedVoice$House", "soundOf", "(I)I"⟩ ∈ gtb := gtb_of (List.mem_append_right _ (List.mem_of_getElem? (i := 386) (by decide +kernel))) (by decide +kernel)
theorem ww_30 : Cond.selects "BorrowedVoice$House" ⟨"BorrowedVoice$House", "soundOf", "(I)I"⟩ ⟨"BorrowedVoice$House", "soundOf", "(I)I"⟩ ∈ gtb := gtb_of (List.mem_append_right _ (List.mem_of_getElem? (i := 388) (by decide +kernel))) (by decide +kernel)
theorem ww_31 : Cond.instanceMethod ⟨"BorrowedVoice$House", "soundOf", "(I)I"⟩ ∈ gtb := gtb_of (List.mem_append_right _ (List.mem_of_getElem? (i := 387) (by decide +kernel))) (by decide +kernel)
theorem ww_32 : Cond.methodLink "BorrowedVoice$House" 79 ⟨"java/lang/Math", "abs", "(I)I"⟩ ∈ gtb := gtb_of (List.mem_append_right _ (List.mem_of_getElem? (i := 396) (by decide +kernel))) (by decide +kernel)
theorem ww_33 : Cond.static ⟨"java/lang/Math", "abs", "(I)I"⟩ ∈ gtb := gtb_of (List.mem_append_right _ (List.mem_of_getElem? (i := 397) (by decide +kernel))) (by decide +kernel)
theorem ww_34 : Cond.initialized "java/lang/Math" ∈ gtb := gtb_of (List.mem_append_right _ (List.mem_of_getElem? (i := 11) (by decide +kernel))) (by decide +kernel)
theorem ww_35 : Cond.methodLink "BorrowedVoice$House" 84 ⟨"BorrowedVoice$House", "fitWith", "(II)I"⟩ ∈ gtb := gtb_of (List.mem_append_right _ (List.mem_of_getElem? (i := 382) (by decide +kernel))) (by decide +kernel)
theorem ww_36 : Cond.selects "BorrowedVoice$House" ⟨"BorrowedVoice$House", "fitWith", "(II)I"⟩ ⟨"BorrowedVoice$House", "fitWith", "(II)I"⟩ ∈ gtb := gtb_of (List.mem_append_right _ (List.mem_of_getElem? (i := 384) (by decide +kernel))) (by decide +kernel)
theorem ww_37 : Cond.instanceMethod ⟨"BorrowedVoice$House", "fitWith", "(II)I"⟩ ∈ gtb := gtb_of (List.mem_append_right _ (List.mem_of_getElem? (i := 383) (by decide +kernel))) (by decide +kernel)
theorem ww_38 : Cond.methodLink "BorrowedVoice$House" 87 ⟨"BorrowedVoice$House", "fitNow", "(I)I"⟩ ∈ gtb := gtb_of (List.mem_append_right _ (List.mem_of_getElem? (i := 484) (by decide +kernel))) (by decide +kernel)
theorem ww_39 : Cond.selects "BorrowedVoice$House" ⟨"BorrowedVoice$House", "fitNow", "(I)I"⟩ ⟨"BorrowedVoice$House", "fitNow", "(I)I"⟩ ∈ gtb := gtb_of (List.mem_append_right _ (List.mem_of_getElem? (i := 380) (by decide +kernel))) (by decide +kernel)
theorem ww_40 : Cond.instanceMethod ⟨"BorrowedVoice$House", "fitNow", "(I)I"⟩ ∈ gtb := gtb_of (List.mem_append_right _ (List.mem_of_getElem? (i := 379) (by decide +kernel))) (by decide +kernel)
theorem ww_41 : Cond.methodLink "BorrowedVoice$House" 90 ⟨"BorrowedVoice$House", "ringFrom", "(I)I"⟩ ∈ gtb := gtb_of (List.mem_append_right _ (List.mem_of_getElem? (i := 439) (by decide +kernel))) (by decide +kernel)
theorem ww_42 : Cond.selects "BorrowedVoice$House" ⟨"BorrowedVoice$House", "ringFrom", "(I)I"⟩ ⟨"BorrowedVoice$House", "ringFrom", "(I)I"⟩ ∈ gtb := gtb_of (List.mem_append_right _ (List.mem_of_getElem? (i := 441) (by decide +kernel))) (by decide +kernel)
theorem ww_43 : Cond.instanceMethod ⟨"BorrowedVoice$House", "ringFrom", "(I)I"⟩ ∈ gtb := gtb_of (List.mem_append_right _ (List.mem_of_getElem? (i := 440) (by decide +kernel))) (by decide +kernel)
theorem ww_44 : Cond.methodLink "BorrowedVoice$House" 93 ⟨"BorrowedVoice$House", "isFirstOfRing", "(I)Z"⟩ ∈ gtb := gtb_of (List.mem_append_right _ (List.mem_of_getElem? (i := 443) (by decide +kernel))) (by decide +kernel)
theorem ww_45 : Cond.selects "BorrowedVoice$House" ⟨"BorrowedVoice$House", "isFirstOfRing", "(I)Z"⟩ ⟨"BorrowedVoice$House", "isFirstOfRing", "(I)Z"⟩ ∈ gtb := gtb_of (List.mem_append_left _ (List.mem_of_getElem? (i := 17) (by decide +kernel))) (by decide +kernel)
theorem ww_46 : Cond.instanceMethod ⟨"BorrowedVoice$House", "isFirstOfRing", "(I)Z"⟩ ∈ gtb := gtb_of (List.mem_append_right _ (List.mem_of_getElem? (i := 445) (by decide +kernel))) (by decide +kernel)
theorem ww_47 : Cond.methodLink "BorrowedVoice$House" 96 ⟨"BorrowedVoice$House", "bothWouldRather", "(II)Z"⟩ ∈ gtb := gtb_of (List.mem_append_right _ (List.mem_of_getElem? (i := 460) (by decide +kernel))) (by decide +kernel)
theorem ww_48 : Cond.selects "BorrowedVoice$House" ⟨"BorrowedVoice$House", "bothWouldRather", "(II)Z"⟩ ⟨"BorrowedVoice$House", "bothWouldRather", "(II)Z"⟩ ∈ gtb := gtb_of (List.mem_append_left _ (List.mem_of_getElem? (i := 18) (by decide +kernel))) (by decide +kernel)
theorem ww_49 : Cond.instanceMethod ⟨"BorrowedVoice$House", "bothWouldRather", "(II)Z"⟩ ∈ gtb := gtb_of (List.mem_append_right _ (List.mem_of_getElem? (i := 462) (by decide +kernel))) (by decide +kernel)
theorem ww_50 : Cond.methodLink "BorrowedVoice$House" 100 ⟨"BorrowedVoice$House", "isSoByNote", "(II)Z"⟩ ∈ gtb := gtb_of (List.mem_append_right _ (List.mem_of_getElem? (i := 511) (by decide +kernel))) (by decide +kernel)
theorem ww_51 : Cond.selects "BorrowedVoice$House" ⟨"BorrowedVoice$House", "isSoByNote", "(II)Z"⟩ ⟨"BorrowedVoice$House", "isSoByNote", "(II)Z"⟩ ∈ gtb := gtb_of (List.mem_append_left _ (List.mem_of_getElem? (i := 19) (by decide +kernel))) (by decide +kernel)
theorem ww_52 : Cond.instanceMethod ⟨"BorrowedVoice$House", "isSoByNote", "(II)Z"⟩ ∈ gtb := gtb_of (List.mem_append_right _ (List.mem_of_getElem? (i := 513) (by decide +kernel))) (by decide +kernel)
theorem ww_53 : Cond.methodLink "BorrowedVoice$House" 103 ⟨"BorrowedVoice$House", "give", "(II)I"⟩ ∈ gtb := gtb_of (List.mem_append_right _ (List.mem_of_getElem? (i := 569) (by decide +kernel))) (by decide +kernel)
theorem ww_54 : Cond.selects "BorrowedVoice$House" ⟨"BorrowedVoice$House", "give", "(II)I"⟩ ⟨"BorrowedVoice$House", "give", "(II)I"⟩ ∈ gtb := gtb_of (List.mem_append_right _ (List.mem_of_getElem? (i := 304) (by decide +kernel))) (by decide +kernel)
theorem ww_55 : Cond.instanceMethod ⟨"BorrowedVoice$House", "give", "(II)I"⟩ ∈ gtb := gtb_of (List.mem_append_right _ (List.mem_of_getElem? (i := 303) (by decide +kernel))) (by decide +kernel)
theorem ww_56 : Cond.constantLong "BorrowedVoice$House" 106 (31) ∈ gtb := gtb_of (List.mem_append_right _ (List.mem_of_getElem? (i := 608) (by decide +kernel))) (by decide +kernel)
theorem ww_57 : Cond.methodLink "BorrowedVoice$Kinds" 9 ⟨"java/lang/Math", "max", "(II)I"⟩ ∈ gtb := gtb_of (List.mem_append_right _ (List.mem_of_getElem? (i := 363) (by decide +kernel))) (by decide +kernel)
theorem ww_58 : Cond.static ⟨"java/lang/Math", "max", "(II)I"⟩ ∈ gtb := gtb_of (List.mem_append_right _ (List.mem_of_getElem? (i := 364) (by decide +kernel))) (by decide +kernel)
theorem ww_59 : Cond.methodLink "BorrowedVoice$Kinds" 15 ⟨"java/lang/Math", "min", "(II)I"⟩ ∈ gtb := gtb_of (List.mem_append_right _ (List.mem_of_getElem? (i := 393) (by decide +kernel))) (by decide +kernel)
theorem ww_60 : Cond.static ⟨"java/lang/Math", "min", "(II)I"⟩ ∈ gtb := gtb_of (List.mem_append_right _ (List.mem_of_getElem? (i := 394) (by decide +kernel))) (by decide +kernel)
theorem ww_61 : Cond.methodLink "BorrowedVoice$Kinds" 18 ⟨"BorrowedVoice$Kinds", "trebleWords", "(I)I"⟩ ∈ gtb := gtb_of (List.mem_append_right _ (List.mem_of_getElem? (i := 357) (by decide +kernel))) (by decide +kernel)
theorem ww_62 : Cond.static ⟨"BorrowedVoice$Kinds", "trebleWords", "(I)I"⟩ ∈ gtb := gtb_of (List.mem_append_right _ (List.mem_of_getElem? (i := 358) (by decide +kernel))) (by decide +kernel)
theorem ww_63 : Cond.methodLink "BorrowedVoice$Kinds" 24 ⟨"BorrowedVoice$Kinds", "plainWords", "(I)I"⟩ ∈ gtb := gtb_of (List.mem_append_right _ (List.mem_of_getElem? (i := 360) (by decide +kernel))) (by decide +kernel)
theorem ww_64 : Cond.static ⟨"BorrowedVoice$Kinds", "plainWords", "(I)I"⟩ ∈ gtb := gtb_of (List.mem_append_right _ (List.mem_of_getElem? (i := 361) (by decide +kernel))) (by decide +kernel)
theorem ww_65 : Cond.methodLink "BorrowedVoice$Kinds" 27 ⟨"BorrowedVoice$Kinds", "soundOf", "(III)I"⟩ ∈ gtb := gtb_of (List.mem_append_right _ (List.mem_of_getElem? (i := 522) (by decide +kernel))) (by decide +kernel)
theorem ww_66 : Cond.methodLink "BorrowedVoice$Kinds" 31 ⟨"BorrowedVoice$Kinds", "wordsOf", "(II)I"⟩ ∈ gtb := gtb_of (List.mem_append_right _ (List.mem_of_getElem? (i := 523) (by decide +kernel))) (by decide +kernel)
theorem ww_67 : Cond.fieldLink "BorrowedVoice$Reader" 9 "BorrowedVoice$Reader" "bytes" "[B" ∈ gtb := gtb_of (List.mem_append_right _ (List.mem_of_getElem? (i := 83) (by decide +kernel))) (by decide +kernel)
theorem ww_68 : Cond.fieldLink "BorrowedVoice$Reader" 15 "BorrowedVoice$Reader" "length" "I" ∈ gtb := gtb_of (List.mem_append_right _ (List.mem_of_getElem? (i := 84) (by decide +kernel))) (by decide +kernel)
theorem ww_69 : Cond.methodLink "BorrowedVoice$Reader" 31 ⟨"BorrowedVoice$House", "empty", "()V"⟩ ∈ gtb := gtb_of (List.mem_append_right _ (List.mem_of_getElem? (i := 197) (by decide +kernel))) (by decide +kernel)
theorem ww_70 : Cond.selects "BorrowedVoice$House" ⟨"BorrowedVoice$House", "empty", "()V"⟩ ⟨"BorrowedVoice$House", "empty", "()V"⟩ ∈ gtb := gtb_of (List.mem_append_right _ (List.mem_of_getElem? (i := 153) (by decide +kernel))) (by decide +kernel)
theorem ww_71 : Cond.instanceMethod ⟨"BorrowedVoice$House", "empty", "()V"⟩ ∈ gtb := gtb_of (List.mem_append_right _ (List.mem_of_getElem? (i := 152) (by decide +kernel))) (by decide +kernel)
theorem ww_72 : Cond.fieldLink "BorrowedVoice$Reader" 25 "BorrowedVoice$Reader" "behind" "I" ∈ gtb := gtb_of (List.mem_append_right _ (List.mem_of_getElem? (i := 88) (by decide +kernel))) (by decide +kernel)
theorem ww_73 : Cond.methodLink "BorrowedVoice$Reader" 36 ⟨"BorrowedVoice$Reader", "step", "()V"⟩ ∈ gtb := gtb_of (List.mem_append_right _ (List.mem_of_getElem? (i := 198) (by decide +kernel))) (by decide +kernel)
theorem ww_74 : Cond.selects "BorrowedVoice$Reader" ⟨"BorrowedVoice$Reader", "step", "()V"⟩ ⟨"BorrowedVoice$Reader", "step", "()V"⟩ ∈ gtb := gtb_of (List.mem_append_left _ (List.mem_of_getElem? (i := 2) (by decide +kernel))) (by decide +kernel)
theorem ww_75 : Cond.instanceMethod ⟨"BorrowedVoice$Reader", "step", "()V"⟩ ∈ gtb := gtb_of (List.mem_append_right _ (List.mem_of_getElem? (i := 200) (by decide +kernel))) (by decide +kernel)
theorem ww_76 : Cond.fieldLink "BorrowedVoice$Reader" 19 "BorrowedVoice$Reader" "token" "I" ∈ gtb := gtb_of (List.mem_append_right _ (List.mem_of_getElem? (i := 86) (by decide +kernel))) (by decide +kernel)
theorem ww_77 : Cond.methodLink "BorrowedVoice$Reader" 39 ⟨"BorrowedVoice$Reader", "isCounter", "()Z"⟩ ∈ gtb := gtb_of (List.mem_append_right _ (List.mem_of_getElem? (i := 209) (by decide +kernel))) (by decide +kernel)
theorem ww_78 : Cond.selects "BorrowedVoice$Reader" ⟨"BorrowedVoice$Reader", "isCounter", "()Z"⟩ ⟨"BorrowedVoice$Reader", "isCounter", "()Z"⟩ ∈ gtb := gtb_of (List.mem_append_left _ (List.mem_of_getElem? (i := 4) (by decide +kernel))) (by decide +kernel)
theorem ww_79 : Cond.instanceMethod ⟨"BorrowedVoice$Reader", "isCounter", "()Z"⟩ ∈ gtb := gtb_of (List.mem_append_right _ (List.mem_of_getElem? (i := 211) (by decide +kernel))) (by decide +kernel)
theorem ww_80 : Cond.methodLink "BorrowedVoice$Reader" 43 ⟨"BorrowedVoice$Reader", "isItem", "(LBorrowedVoice$House;)Z"⟩ ∈ gtb := gtb_of (List.mem_append_right _ (List.mem_of_getElem? (i := 270) (by decide +kernel))) (by decide +kernel)
theorem ww_81 : Cond.selects "BorrowedVoice$Reader" ⟨"BorrowedVoice$Reader", "isItem", "(LBorrowedVoice$House;)Z"⟩ ⟨"BorrowedVoice$Reader", "isItem", "(LBorrowedVoice$House;)Z"⟩ ∈ gtb := gtb_of (List.mem_append_left _ (List.mem_of_getElem? (i := 7) (by decide +kernel))) (by decide +kernel)
theorem ww_82 : Cond.instanceMethod ⟨"BorrowedVoice$Reader", "isItem", "(LBorrowedVoice$House;)Z"⟩ ∈ gtb := gtb_of (List.mem_append_right _ (List.mem_of_getElem? (i := 272) (by decide +kernel))) (by decide +kernel)
theorem ww_83 : Cond.fieldLink "BorrowedVoice$Reader" 22 "BorrowedVoice$Reader" "begin" "I" ∈ gtb := gtb_of (List.mem_append_right _ (List.mem_of_getElem? (i := 87) (by decide +kernel))) (by decide +kernel)
theorem ww_84 : Cond.methodLink "BorrowedVoice$Reader" 49 ⟨"BorrowedVoice$Reader", "isWord", "(Ljava/lang/String;)Z"⟩ ∈ gtb := gtb_of (List.mem_append_right _ (List.mem_of_getElem? (i := 214) (by decide +kernel))) (by decide +kernel)
theorem ww_85 : Cond.selects "BorrowedVoice$Reader" ⟨"BorrowedVoice$Reader", "isWord", "(Ljava/lang/String;)Z"⟩ ⟨"BorrowedVoice$Reader", "isWord", "(Ljava/lang/String;)Z"⟩ ∈ gtb := gtb_of (List.mem_append_left _ (List.mem_of_getElem? (i := 5) (by decide +kernel))) (by decide +kernel)
theorem ww_86 : Cond.instanceMethod ⟨"BorrowedVoice$Reader", "isWord", "(Ljava/lang/String;)Z"⟩ ∈ gtb := gtb_of (List.mem_append_right _ (List.mem_of_getElem? (i := 216) (by decide +kernel))) (by decide +kernel)
theorem ww_87 : Cond.methodLink "BorrowedVoice$Reader" 53 ⟨"BorrowedVoice$Reader", "isStop", "()Z"⟩ ∈ gtb := gtb_of (List.mem_append_right _ (List.mem_of_getElem? (i := 266) (by decide +kernel))) (by decide +kernel)
theorem ww_88 : Cond.selects "BorrowedVoice$Reader" ⟨"BorrowedVoice$Reader", "isStop", "()Z"⟩ ⟨"BorrowedVoice$Reader", "isStop", "()Z"⟩ ∈ gtb := gtb_of (List.mem_append_left _ (List.mem_of_getElem? (i := 6) (by decide +kernel))) (by decide +kernel)
theorem ww_89 : Cond.instanceMethod ⟨"BorrowedVoice$Reader", "isStop", "()Z"⟩ ∈ gtb := gtb_of (List.mem_append_right _ (List.mem_of_getElem? (i := 268) (by decide +kernel))) (by decide +kernel)
theorem ww_90 : Cond.methodLink "BorrowedVoice$Reader" 58 ⟨"BorrowedVoice$Reader", "isOne", "(LBorrowedVoice$House;)Z"⟩ ∈ gtb := gtb_of (List.mem_append_right _ (List.mem_of_getElem? (i := 275) (by decide +kernel))) (by decide +kernel)
theorem ww_91 : Cond.selects "BorrowedVoice$Reader" ⟨"BorrowedVoice$Reader", "isOne", "(LBorrowedVoice$House;)Z"⟩ ⟨"BorrowedVoice$Reader", "isOne", "(LBorrowedVoice$House;)Z"⟩ ∈ gtb := gtb_of (List.mem_append_left _ (List.mem_of_getElem? (i := 8) (by decide +kernel))) (by decide +kernel)
theorem ww_92 : Cond.instanceMethod ⟨"BorrowedVoice$Reader", "isOne", "(LBorrowedVoice$House;)Z"⟩ ∈ gtb := gtb_of (List.mem_append_right _ (List.mem_of_getElem? (i := 277) (by decide +kernel))) (by decide +kernel)
theorem ww_93 : Cond.methodLink "BorrowedVoice$Reader" 63 ⟨"BorrowedVoice$Reader", "isLeave", "(LBorrowedVoice$House;)Z"⟩ ∈ gtb := gtb_of (List.mem_append_right _ (List.mem_of_getElem? (i := 285) (by decide +kernel))) (by decide +kernel)
theorem ww_94 : Cond.selects "BorrowedVoice$Reader" ⟨"BorrowedVoice$Reader", "isLeave", "(LBorrowedVoice$House;)Z"⟩ ⟨"BorrowedVoice$Reader", "isLeave", "(LBorrowedVoice$House;)Z"⟩ ∈ gtb := gtb_of (List.mem_append_left _ (List.mem_of_getElem? (i := 10) (by decide +kernel))) (by decide +kernel)
theorem ww_95 : Cond.instanceMethod ⟨"BorrowedVoice$Reader", "isLeave", "(LBorrowedVoice$House;)Z"⟩ ∈ gtb := gtb_of (List.mem_append_right _ (List.mem_of_getElem? (i := 287) (by decide +kernel))) (by decide +kernel)
theorem ww_96 : Cond.methodLink "BorrowedVoice$Reader" 68 ⟨"BorrowedVoice$Reader", "isLend", "(LBorrowedVoice$House;)Z"⟩ ∈ gtb := gtb_of (List.mem_append_right _ (List.mem_of_getElem? (i := 298) (by decide +kernel))) (by decide +kernel)
theorem ww_97 : Cond.selects "BorrowedVoice$Reader" ⟨"BorrowedVoice$Reader", "isLend", "(LBorrowedVoice$House;)Z"⟩ ⟨"BorrowedVoice$Reader", "isLend", "(LBorrowedVoice$House;)Z"⟩ ∈ gtb := gtb_of (List.mem_append_left _ (List.mem_of_getElem? (i := 11) (by decide +kernel))) (by decide +kernel)
theorem ww_98 : Cond.instanceMethod ⟨"BorrowedVoice$Reader", "isLend", "(LBorrowedVoice$House;)Z"⟩ ∈ gtb := gtb_of (List.mem_append_right _ (List.mem_of_getElem? (i := 300) (by decide +kernel))) (by decide +kernel)
theorem ww_99 : Cond.fieldLink "BorrowedVoice$Reader" 71 "BorrowedVoice$House" "people" "I" ∈ gtb := gtb_of (List.mem_append_right _ (List.mem_of_getElem? (i := 29) (by decide +kernel))) (by decide +kernel)
theorem ww_100 : Cond.methodLink "BorrowedVoice$Reader" 76 ⟨"BorrowedVoice$Reader", "isNumberBelow", "(I)Z"⟩ ∈ gtb := gtb_of (List.mem_append_right _ (List.mem_of_getElem? (i := 279) (by decide +kernel))) (by decide +kernel)
theorem ww_101 : Cond.selects "BorrowedVoice$Reader" ⟨"BorrowedVoice$Reader", "isNumberBelow", "(I)Z"⟩ ⟨"BorrowedVoice$Reader", "isNumberBelow", "(I)Z"⟩ ∈ gtb := gtb_of (List.mem_append_left _ (List.mem_of_getElem? (i := 9) (by decide +kernel))) (by decide +kernel)
theorem ww_102 : Cond.instanceMethod ⟨"BorrowedVoice$Reader", "isNumberBelow", "(I)Z"⟩ ∈ gtb := gtb_of (List.mem_append_right _ (List.mem_of_getElem? (i := 281) (by decide +kernel))) (by decide +kernel)
theorem ww_103 : Cond.fieldLink "BorrowedVoice$Reader" 28 "BorrowedVoice$Reader" "value" "I" ∈ gtb := gtb_of (List.mem_append_right _ (List.mem_of_getElem? (i := 89) (by decide +kernel))) (by decide +kernel)
theorem ww_104 : Cond.methodLink "BorrowedVoice$Reader" 80 ⟨"BorrowedVoice$House", "welcome", "(III)I"⟩ ∈ gtb := gtb_of (List.mem_append_right _ (List.mem_of_getElem? (i := 283) (by decide +kernel))) (by decide +kernel)
theorem ww_105 : Cond.selects "BorrowedVoice$House" ⟨"BorrowedVoice$House", "welcome", "(III)I"⟩ ⟨"BorrowedVoice$House", "welcome", "(III)I"⟩ ∈ gtb := gtb_of (List.mem_append_right _ (List.mem_of_getElem? (i := 175) (by decide +kernel))) (by decide +kernel)
theorem ww_106 : Cond.instanceMethod ⟨"BorrowedVoice$House", "welcome", "(III)I"⟩ ∈ gtb := gtb_of (List.mem_append_right _ (List.mem_of_getElem? (i := 174) (by decide +kernel))) (by decide +kernel)
theorem ww_107 : Cond.methodLink "BorrowedVoice$Reader" 84 ⟨"BorrowedVoice$House", "voiceWith", "(I)I"⟩ ∈ gtb := gtb_of (List.mem_append_right _ (List.mem_of_getElem? (i := 289) (by decide +kernel))) (by decide +kernel)
theorem ww_108 : Cond.methodLink "BorrowedVoice$Reader" 88 ⟨"BorrowedVoice$House", "putDown", "(I)V"⟩ ∈ gtb := gtb_of (List.mem_append_right _ (List.mem_of_getElem? (i := 293) (by decide +kernel))) (by decide +kernel)
theorem ww_109 : Cond.fieldLink "BorrowedVoice$Reader" 92 "BorrowedVoice$House" "holder" "[I" ∈ gtb := gtb_of (List.mem_append_right _ (List.mem_of_getElem? (i := 44) (by decide +kernel))) (by decide +kernel)
theorem ww_110 : Cond.methodLink "BorrowedVoice$Reader" 96 ⟨"BorrowedVoice$House", "give", "(II)I"⟩ ∈ gtb := gtb_of (List.mem_append_right _ (List.mem_of_getElem? (i := 302) (by decide +kernel))) (by decide +kernel)
theorem ww_111 : Cond.methodLink "BorrowedVoice$Reader" 100 ⟨"java/lang/String", "length", "()I"⟩ ∈ gtb := gtb_of (List.mem_append_right _ (List.mem_of_getElem? (i := 218) (by decide +kernel))) (by decide +kernel)
theorem ww_112 : Cond.methodLink "BorrowedVoice$Reader" 105 ⟨"java/lang/String", "charAt", "(I)C"⟩ ∈ gtb := gtb_of (List.mem_append_right _ (List.mem_of_getElem? (i := 228) (by decide +kernel))) (by decide +kernel)
theorem ww_113 : Cond.methodLink "BorrowedVoice$Reader" 109 ⟨"BorrowedVoice$Reader", "tokenBegunBy", "(I)I"⟩ ∈ gtb := gtb_of (List.mem_append_right _ (List.mem_of_getElem? (i := 202) (by decide +kernel))) (by decide +kernel)
theorem ww_114 : Cond.static ⟨"BorrowedVoice$Reader", "tokenBegunBy", "(I)I"⟩ ∈ gtb := gtb_of (List.mem_append_right _ (List.mem_of_getElem? (i := 203) (by decide +kernel))) (by decide +kernel)
theorem ww_115 : Cond.methodLink "BorrowedVoice$Reader" 112 ⟨"BorrowedVoice$Reader", "takeValue", "()V"⟩ ∈ gtb := gtb_of (List.mem_append_right _ (List.mem_of_getElem? (i := 205) (by decide +kernel))) (by decide +kernel)
theorem ww_116 : Cond.selects "BorrowedVoice$Reader" ⟨"BorrowedVoice$Reader", "takeValue", "()V"⟩ ⟨"BorrowedVoice$Reader", "takeValue", "()V"⟩ ∈ gtb := gtb_of (List.mem_append_left _ (List.mem_of_getElem? (i := 3) (by decide +kernel))) (by decide +kernel)
theorem ww_117 : Cond.instanceMethod ⟨"BorrowedVoice$Reader", "takeValue", "()V"⟩ ∈ gtb := gtb_of (List.mem_append_right _ (List.mem_of_getElem? (i := 207) (by decide +kernel))) (by decide +kernel)
theorem ww_118 : Cond.fieldLink "BorrowedVoice" 10 "BorrowedVoice" "house" "LBorrowedVoice$House;" ∈ gtb := gtb_of (List.mem_append_right _ (List.mem_of_getElem? (i := 104) (by decide +kernel))) (by decide +kernel)
theorem ww_119 : Cond.fieldLink "BorrowedVoice" 63 "BorrowedVoice$House" "people" "I" ∈ gtb := gtb_of (List.mem_append_right _ (List.mem_of_getElem? (i := 28) (by decide +kernel))) (by decide +kernel)
theorem ww_120 : Cond.methodLink "BorrowedVoice" 66 ⟨"BorrowedVoice$House", "empty", "()V"⟩ ∈ gtb := gtb_of (List.mem_append_right _ (List.mem_of_getElem? (i := 151) (by decide +kernel))) (by decide +kernel)
theorem ww_121 : Cond.methodLink "BorrowedVoice" 71 ⟨"BorrowedVoice", "within", "(III)Z"⟩ ∈ gtb := gtb_of (List.mem_append_right _ (List.mem_of_getElem? (i := 159) (by decide +kernel))) (by decide +kernel)
theorem ww_122 : Cond.static ⟨"BorrowedVoice", "within", "(III)Z"⟩ ∈ gtb := gtb_of (List.mem_append_right _ (List.mem_of_getElem? (i := 160) (by decide +kernel))) (by decide +kernel)
theorem ww_123 : Cond.methodLink "BorrowedVoice" 75 ⟨"BorrowedVoice", "isSort", "(I)Z"⟩ ∈ gtb := gtb_of (List.mem_append_right _ (List.mem_of_getElem? (i := 162) (by decide +kernel))) (by decide +kernel)
theorem ww_124 : Cond.static ⟨"BorrowedVoice", "isSort", "(I)Z"⟩ ∈ gtb := gtb_of (List.mem_append_right _ (List.mem_of_getElem? (i := 163) (by decide +kernel))) (by decide +kernel)
theorem ww_125 : Cond.methodLink "BorrowedVoice" 79 ⟨"BorrowedVoice", "bad", "()I"⟩ ∈ gtb := gtb_of (List.mem_append_right _ (List.mem_of_getElem? (i := 165) (by decide +kernel))) (by decide +kernel)
theorem ww_126 : Cond.selects "BorrowedVoice" ⟨"BorrowedVoice", "bad", "()I"⟩ ⟨"BorrowedVoice", "bad", "()I"⟩ ∈ gtb := gtb_of (List.mem_append_left _ (List.mem_of_getElem? (i := 0) (by decide +kernel))) (by decide +kernel)
theorem ww_127 : Cond.instanceMethod ⟨"BorrowedVoice", "bad", "()I"⟩ ∈ gtb := gtb_of (List.mem_append_right _ (List.mem_of_getElem? (i := 167) (by decide +kernel))) (by decide +kernel)
theorem ww_128 : Cond.methodLink "BorrowedVoice" 83 ⟨"BorrowedVoice", "full", "()I"⟩ ∈ gtb := gtb_of (List.mem_append_right _ (List.mem_of_getElem? (i := 169) (by decide +kernel))) (by decide +kernel)
theorem ww_129 : Cond.selects "BorrowedVoice" ⟨"BorrowedVoice", "full", "()I"⟩ ⟨"BorrowedVoice", "full", "()I"⟩ ∈ gtb := gtb_of (List.mem_append_left _ (List.mem_of_getElem? (i := 1) (by decide +kernel))) (by decide +kernel)
theorem ww_130 : Cond.instanceMethod ⟨"BorrowedVoice", "full", "()I"⟩ ∈ gtb := gtb_of (List.mem_append_right _ (List.mem_of_getElem? (i := 171) (by decide +kernel))) (by decide +kernel)
theorem ww_131 : Cond.methodLink "BorrowedVoice" 86 ⟨"BorrowedVoice$House", "welcome", "(III)I"⟩ ∈ gtb := gtb_of (List.mem_append_right _ (List.mem_of_getElem? (i := 173) (by decide +kernel))) (by decide +kernel)
theorem ww_132 : Cond.fieldLink "BorrowedVoice" 35 "BorrowedVoice" "reader" "LBorrowedVoice$Reader;" ∈ gtb := gtb_of (List.mem_append_right _ (List.mem_of_getElem? (i := 110) (by decide +kernel))) (by decide +kernel)
theorem ww_133 : Cond.fieldLink "BorrowedVoice" 90 "BorrowedVoice$Reader" "length" "I" ∈ gtb := gtb_of (List.mem_append_right _ (List.mem_of_getElem? (i := 85) (by decide +kernel))) (by decide +kernel)
theorem ww_134 : Cond.methodLink "BorrowedVoice" 93 ⟨"BorrowedVoice$Reader", "append", "(I)I"⟩ ∈ gtb := gtb_of (List.mem_append_right _ (List.mem_of_getElem? (i := 181) (by decide +kernel))) (by decide +kernel)
theorem ww_135 : Cond.selects "BorrowedVoice$Reader" ⟨"BorrowedVoice$Reader", "append", "(I)I"⟩ ⟨"BorrowedVoice$Reader", "append", "(I)I"⟩ ∈ gtb := gtb_of (List.mem_append_right _ (List.mem_of_getElem? (i := 183) (by decide +kernel))) (by decide +kernel)
theorem ww_136 : Cond.instanceMethod ⟨"BorrowedVoice$Reader", "append", "(I)I"⟩ ∈ gtb := gtb_of (List.mem_append_right _ (List.mem_of_getElem? (i := 182) (by decide +kernel))) (by decide +kernel)
theorem ww_137 : Cond.fieldLink "BorrowedVoice" 16 "BorrowedVoice" "trial" "LBorrowedVoice$House;" ∈ gtb := gtb_of (List.mem_append_right _ (List.mem_of_getElem? (i := 105) (by decide +kernel))) (by decide +kernel)
theorem ww_138 : Cond.methodLink "BorrowedVoice" 97 ⟨"BorrowedVoice$Reader", "readInto", "(LBorrowedVoice$House;)I"⟩ ∈ gtb := gtb_of (List.mem_append_right _ (List.mem_of_getElem? (i := 193) (by decide +kernel))) (by decide +kernel)
theorem ww_139 : Cond.selects "BorrowedVoice$Reader" ⟨"BorrowedVoice$Reader", "readInto", "(LBorrowedVoice$House;)I"⟩ ⟨"BorrowedVoice$Reader", "readInto", "(LBorrowedVoice$House;)I"⟩ ∈ gtb := gtb_of (List.mem_append_right _ (List.mem_of_getElem? (i := 195) (by decide +kernel))) (by decide +kernel)
theorem ww_140 : Cond.instanceMethod ⟨"BorrowedVoice$Reader", "readInto", "(LBorrowedVoice$House;)I"⟩ ∈ gtb := gtb_of (List.mem_append_right _ (List.mem_of_getElem? (i := 194) (by decide +kernel))) (by decide +kernel)
theorem ww_141 : Cond.methodLink "BorrowedVoice" 101 ⟨"BorrowedVoice$House", "becomeLike", "(LBorrowedVoice$House;)V"⟩ ∈ gtb := gtb_of (List.mem_append_right _ (List.mem_of_getElem? (i := 308) (by decide +kernel))) (by decide +kernel)
theorem ww_142 : Cond.selects "BorrowedVoice$House" ⟨"BorrowedVoice$House", "becomeLike", "(LBorrowedVoice$House;)V"⟩ ⟨"BorrowedVoice$House", "becomeLike", "(LBorrowedVoice$House;)V"⟩ ∈ gtb := gtb_of (List.mem_append_right _ (List.mem_of_getElem? (i := 310) (by decide +kernel))) (by decide +kernel)
theorem ww_143 : Cond.instanceMethod ⟨"BorrowedVoice$House", "becomeLike", "(LBorrowedVoice$House;)V"⟩ ∈ gtb := gtb_of (List.mem_append_right _ (List.mem_of_getElem? (i := 309) (by decide +kernel))) (by decide +kernel)
theorem ww_144 : Cond.methodLink "BorrowedVoice" 105 ⟨"BorrowedVoice", "isThere", "(I)Z"⟩ ∈ gtb := gtb_of (List.mem_append_right _ (List.mem_of_getElem? (i := 319) (by decide +kernel))) (by decide +kernel)
theorem ww_145 : Cond.selects "BorrowedVoice" ⟨"BorrowedVoice", "isThere", "(I)Z"⟩ ⟨"BorrowedVoice", "isThere", "(I)Z"⟩ ∈ gtb := gtb_of (List.mem_append_left _ (List.mem_of_getElem? (i := 12) (by decide +kernel))) (by decide +kernel)
theorem ww_146 : Cond.instanceMethod ⟨"BorrowedVoice", "isThere", "(I)Z"⟩ ∈ gtb := gtb_of (List.mem_append_right _ (List.mem_of_getElem? (i := 321) (by decide +kernel))) (by decide +kernel)
theorem ww_147 : Cond.methodLink "BorrowedVoice" 108 ⟨"BorrowedVoice", "badByTen", "()I"⟩ ∈ gtb := gtb_of (List.mem_append_right _ (List.mem_of_getElem? (i := 323) (by decide +kernel))) (by decide +kernel)
theorem ww_148 : Cond.selects "BorrowedVoice" ⟨"BorrowedVoice", "badByTen", "()I"⟩ ⟨"BorrowedVoice", "badByTen", "()I"⟩ ∈ gtb := gtb_of (List.mem_append_left _ (List.mem_of_getElem? (i := 13) (by decide +kernel))) (by decide +kernel)
theorem ww_149 : Cond.instanceMethod ⟨"BorrowedVoice", "badByTen", "()I"⟩ ∈ gtb := gtb_of (List.mem_append_right _ (List.mem_of_getElem? (i := 325) (by decide +kernel))) (by decide +kernel)
theorem ww_150 : Cond.fieldLink "BorrowedVoice" 111 "BorrowedVoice$House" "holder" "[I" ∈ gtb := gtb_of (List.mem_append_right _ (List.mem_of_getElem? (i := 43) (by decide +kernel))) (by decide +kernel)
theorem ww_151 : Cond.methodLink "BorrowedVoice" 114 ⟨"BorrowedVoice", "no", "()I"⟩ ∈ gtb := gtb_of (List.mem_append_right _ (List.mem_of_getElem? (i := 327) (by decide +kernel))) (by decide +kernel)
theorem ww_152 : Cond.selects "BorrowedVoice" ⟨"BorrowedVoice", "no", "()I"⟩ ⟨"BorrowedVoice", "no", "()I"⟩ ∈ gtb := gtb_of (List.mem_append_left _ (List.mem_of_getElem? (i := 14) (by decide +kernel))) (by decide +kernel)
theorem ww_153 : Cond.instanceMethod ⟨"BorrowedVoice", "no", "()I"⟩ ∈ gtb := gtb_of (List.mem_append_right _ (List.mem_of_getElem? (i := 329) (by decide +kernel))) (by decide +kernel)
theorem ww_154 : Cond.methodLink "BorrowedVoice" 117 ⟨"BorrowedVoice$House", "keepPast", "()V"⟩ ∈ gtb := gtb_of (List.mem_append_right _ (List.mem_of_getElem? (i := 331) (by decide +kernel))) (by decide +kernel)
theorem ww_155 : Cond.selects "BorrowedVoice$House" ⟨"BorrowedVoice$House", "keepPast", "()V"⟩ ⟨"BorrowedVoice$House", "keepPast", "()V"⟩ ∈ gtb := gtb_of (List.mem_append_right _ (List.mem_of_getElem? (i := 333) (by decide +kernel))) (by decide +kernel)
theorem ww_156 : Cond.instanceMethod ⟨"BorrowedVoice$House", "keepPast", "()V"⟩ ∈ gtb := gtb_of (List.mem_append_right _ (List.mem_of_getElem? (i := 332) (by decide +kernel))) (by decide +kernel)
theorem ww_157 : Cond.methodLink "BorrowedVoice" 120 ⟨"BorrowedVoice$House", "give", "(II)I"⟩ ∈ gtb := gtb_of (List.mem_append_right _ (List.mem_of_getElem? (i := 335) (by decide +kernel))) (by decide +kernel)
theorem ww_158 : Cond.methodLink "BorrowedVoice" 124 ⟨"BorrowedVoice$House", "voiceWith", "(I)I"⟩ ∈ gtb := gtb_of (List.mem_append_right _ (List.mem_of_getElem? (i := 340) (by decide +kernel))) (by decide +kernel)
theorem ww_159 : Cond.methodLink "BorrowedVoice" 127 ⟨"BorrowedVoice$House", "putDown", "(I)V"⟩ ∈ gtb := gtb_of (List.mem_append_right _ (List.mem_of_getElem? (i := 341) (by decide +kernel))) (by decide +kernel)
theorem ww_160 : Cond.methodLink "BorrowedVoice" 131 ⟨"BorrowedVoice$House", "goOneEvening", "()I"⟩ ∈ gtb := gtb_of (List.mem_append_right _ (List.mem_of_getElem? (i := 346) (by decide +kernel))) (by decide +kernel)
theorem ww_161 : Cond.selects "BorrowedVoice$House" ⟨"BorrowedVoice$House", "goOneEvening", "()I"⟩ ⟨"BorrowedVoice$House", "goOneEvening", "()I"⟩ ∈ gtb := gtb_of (List.mem_append_right _ (List.mem_of_getElem? (i := 348) (by decide +kernel))) (by decide +kernel)
theorem ww_162 : Cond.instanceMethod ⟨"BorrowedVoice$House", "goOneEvening", "()I"⟩ ∈ gtb := gtb_of (List.mem_append_right _ (List.mem_of_getElem? (i := 347) (by decide +kernel))) (by decide +kernel)
theorem ww_163 : Cond.fieldLink "BorrowedVoice" 134 "BorrowedVoice$House" "undos" "I" ∈ gtb := gtb_of (List.mem_append_right _ (List.mem_of_getElem? (i := 35) (by decide +kernel))) (by decide +kernel)
theorem ww_164 : Cond.methodLink "BorrowedVoice" 137 ⟨"BorrowedVoice$House", "goBack", "()V"⟩ ∈ gtb := gtb_of (List.mem_append_right _ (List.mem_of_getElem? (i := 370) (by decide +kernel))) (by decide +kernel)
theorem ww_165 : Cond.selects "BorrowedVoice$House" ⟨"BorrowedVoice$House", "goBack", "()V"⟩ ⟨"BorrowedVoice$House", "goBack", "()V"⟩ ∈ gtb := gtb_of (List.mem_append_right _ (List.mem_of_getElem? (i := 372) (by decide +kernel))) (by decide +kernel)
theorem ww_166 : Cond.instanceMethod ⟨"BorrowedVoice$House", "goBack", "()V"⟩ ∈ gtb := gtb_of (List.mem_append_right _ (List.mem_of_getElem? (i := 371) (by decide +kernel))) (by decide +kernel)
theorem ww_167 : Cond.fieldLink "BorrowedVoice" 140 "BorrowedVoice$House" "evening" "I" ∈ gtb := gtb_of (List.mem_append_right _ (List.mem_of_getElem? (i := 31) (by decide +kernel))) (by decide +kernel)
theorem ww_168 : Cond.fieldLink "BorrowedVoice" 143 "BorrowedVoice$House" "wants" "[I" ∈ gtb := gtb_of (List.mem_append_right _ (List.mem_of_getElem? (i := 41) (by decide +kernel))) (by decide +kernel)
theorem ww_169 : Cond.methodLink "BorrowedVoice" 146 ⟨"BorrowedVoice$House", "fitNow", "(I)I"⟩ ∈ gtb := gtb_of (List.mem_append_right _ (List.mem_of_getElem? (i := 378) (by decide +kernel))) (by decide +kernel)
theorem ww_170 : Cond.fieldLink "BorrowedVoice" 149 "BorrowedVoice$House" "kind" "[I" ∈ gtb := gtb_of (List.mem_append_right _ (List.mem_of_getElem? (i := 37) (by decide +kernel))) (by decide +kernel)
theorem ww_171 : Cond.fieldLink "BorrowedVoice" 152 "BorrowedVoice$House" "sort" "[I" ∈ gtb := gtb_of (List.mem_append_right _ (List.mem_of_getElem? (i := 39) (by decide +kernel))) (by decide +kernel)
theorem ww_172 : Cond.fieldLink "BorrowedVoice" 155 "BorrowedVoice$House" "used" "[I" ∈ gtb := gtb_of (List.mem_append_right _ (List.mem_of_getElem? (i := 46) (by decide +kernel))) (by decide +kernel)
theorem ww_173 : Cond.fieldLink "BorrowedVoice" 158 "BorrowedVoice$House" "slipped" "[I" ∈ gtb := gtb_of (List.mem_append_right _ (List.mem_of_getElem? (i := 48) (by decide +kernel))) (by decide +kernel)
theorem ww_174 : Cond.methodLink "BorrowedVoice" 161 ⟨"BorrowedVoice$House", "soundOf", "(I)I"⟩ ∈ gtb := gtb_of (List.mem_append_right _ (List.mem_of_getElem? (i := 403) (by decide +kernel))) (by decide +kernel)
theorem ww_175 : Cond.methodLink "BorrowedVoice" 164 ⟨"BorrowedVoice$House", "fitWith", "(II)I"⟩ ∈ gtb := gtb_of (List.mem_append_right _ (List.mem_of_getElem? (i := 408) (by decide +kernel))) (by decide +kernel)
theorem ww_176 : Cond.methodLink "BorrowedVoice" 167 ⟨"BorrowedVoice", "findBest", "()V"⟩ ∈ gtb := gtb_of (List.mem_append_right _ (List.mem_of_getElem? (i := 413) (by decide +kernel))) (by decide +kernel)
theorem ww_177 : Cond.selects "BorrowedVoice" ⟨"BorrowedVoice", "findBest", "()V"⟩ ⟨"BorrowedVoice", "findBest", "()V"⟩ ∈ gtb := gtb_of (List.mem_append_left _ (List.mem_of_getElem? (i := 15) (by decide +kernel))) (by decide +kernel)
theorem ww_178 : Cond.instanceMethod ⟨"BorrowedVoice", "findBest", "()V"⟩ ∈ gtb := gtb_of (List.mem_append_right _ (List.mem_of_getElem? (i := 415) (by decide +kernel))) (by decide +kernel)
theorem ww_179 : Cond.fieldLink "BorrowedVoice" 39 "BorrowedVoice" "bestRest" "[I" ∈ gtb := gtb_of (List.mem_append_right _ (List.mem_of_getElem? (i := 111) (by decide +kernel))) (by decide +kernel)
theorem ww_180 : Cond.methodLink "BorrowedVoice" 170 ⟨"BorrowedVoice", "bestVoiceOf", "(I)I"⟩ ∈ gtb := gtb_of (List.mem_append_right _ (List.mem_of_getElem? (i := 423) (by decide +kernel))) (by decide +kernel)
theorem ww_181 : Cond.selects "BorrowedVoice" ⟨"BorrowedVoice", "bestVoiceOf", "(I)I"⟩ ⟨"BorrowedVoice", "bestVoiceOf", "(I)I"⟩ ∈ gtb := gtb_of (List.mem_append_left _ (List.mem_of_getElem? (i := 16) (by decide +kernel))) (by decide +kernel)
theorem ww_182 : Cond.instanceMethod ⟨"BorrowedVoice", "bestVoiceOf", "(I)I"⟩ ∈ gtb := gtb_of (List.mem_append_right _ (List.mem_of_getElem? (i := 425) (by decide +kernel))) (by decide +kernel)
theorem ww_183 : Cond.methodLink "BorrowedVoice" 173 ⟨"BorrowedVoice$House", "ringsOfTwoOrMore", "()I"⟩ ∈ gtb := gtb_of (List.mem_append_right _ (List.mem_of_getElem? (i := 435) (by decide +kernel))) (by decide +kernel)
theorem ww_184 : Cond.selects "BorrowedVoice$House" ⟨"BorrowedVoice$House", "ringsOfTwoOrMore", "()I"⟩ ⟨"BorrowedVoice$House", "ringsOfTwoOrMore", "()I"⟩ ∈ gtb := gtb_of (List.mem_append_right _ (List.mem_of_getElem? (i := 437) (by decide +kernel))) (by decide +kernel)
theorem ww_185 : Cond.instanceMethod ⟨"BorrowedVoice$House", "ringsOfTwoOrMore", "()I"⟩ ∈ gtb := gtb_of (List.mem_append_right _ (List.mem_of_getElem? (i := 436) (by decide +kernel))) (by decide +kernel)
theorem ww_186 : Cond.methodLink "BorrowedVoice" 176 ⟨"BorrowedVoice$House", "ringFrom", "(I)I"⟩ ∈ gtb := gtb_of (List.mem_append_right _ (List.mem_of_getElem? (i := 451) (by decide +kernel))) (by decide +kernel)
theorem ww_187 : Cond.methodLink "BorrowedVoice" 179 ⟨"BorrowedVoice$House", "howManySwaps", "()I"⟩ ∈ gtb := gtb_of (List.mem_append_right _ (List.mem_of_getElem? (i := 456) (by decide +kernel))) (by decide +kernel)
theorem ww_188 : Cond.selects "BorrowedVoice$House" ⟨"BorrowedVoice$House", "howManySwaps", "()I"⟩ ⟨"BorrowedVoice$House", "howManySwaps", "()I"⟩ ∈ gtb := gtb_of (List.mem_append_right _ (List.mem_of_getElem? (i := 458) (by decide +kernel))) (by decide +kernel)
theorem ww_189 : Cond.instanceMethod ⟨"BorrowedVoice$House", "howManySwaps", "()I"⟩ ∈ gtb := gtb_of (List.mem_append_right _ (List.mem_of_getElem? (i := 457) (by decide +kernel))) (by decide +kernel)
theorem ww_190 : Cond.methodLink "BorrowedVoice" 182 ⟨"BorrowedVoice$House", "swapAt", "(I)I"⟩ ∈ gtb := gtb_of (List.mem_append_right _ (List.mem_of_getElem? (i := 464) (by decide +kernel))) (by decide +kernel)
theorem ww_191 : Cond.selects "BorrowedVoice$House" ⟨"BorrowedVoice$House", "swapAt", "(I)I"⟩ ⟨"BorrowedVoice$House", "swapAt", "(I)I"⟩ ∈ gtb := gtb_of (List.mem_append_right _ (List.mem_of_getElem? (i := 466) (by decide +kernel))) (by decide +kernel)
theorem ww_192 : Cond.instanceMethod ⟨"BorrowedVoice$House", "swapAt", "(I)I"⟩ ∈ gtb := gtb_of (List.mem_append_right _ (List.mem_of_getElem? (i := 465) (by decide +kernel))) (by decide +kernel)
theorem ww_193 : Cond.methodLink "BorrowedVoice" 185 ⟨"BorrowedVoice$House", "exchange", "(II)V"⟩ ∈ gtb := gtb_of (List.mem_append_right _ (List.mem_of_getElem? (i := 472) (by decide +kernel))) (by decide +kernel)
theorem ww_194 : Cond.selects "BorrowedVoice$House" ⟨"BorrowedVoice$House", "exchange", "(II)V"⟩ ⟨"BorrowedVoice$House", "exchange", "(II)V"⟩ ∈ gtb := gtb_of (List.mem_append_right _ (List.mem_of_getElem? (i := 474) (by decide +kernel))) (by decide +kernel)
theorem ww_195 : Cond.instanceMethod ⟨"BorrowedVoice$House", "exchange", "(II)V"⟩ ∈ gtb := gtb_of (List.mem_append_right _ (List.mem_of_getElem? (i := 473) (by decide +kernel))) (by decide +kernel)
theorem ww_196 : Cond.methodLink "BorrowedVoice" 189 ⟨"BorrowedVoice$House", "leastFit", "()I"⟩ ∈ gtb := gtb_of (List.mem_append_right _ (List.mem_of_getElem? (i := 480) (by decide +kernel))) (by decide +kernel)
theorem ww_197 : Cond.selects "BorrowedVoice$House" ⟨"BorrowedVoice$House", "leastFit", "()I"⟩ ⟨"BorrowedVoice$House", "leastFit", "()I"⟩ ∈ gtb := gtb_of (List.mem_append_right _ (List.mem_of_getElem? (i := 482) (by decide +kernel))) (by decide +kernel)
theorem ww_198 : Cond.instanceMethod ⟨"BorrowedVoice$House", "leastFit", "()I"⟩ ∈ gtb := gtb_of (List.mem_append_right _ (List.mem_of_getElem? (i := 481) (by decide +kernel))) (by decide +kernel)
theorem ww_199 : Cond.methodLink "BorrowedVoice" 192 ⟨"BorrowedVoice$House", "isWithAnother", "(I)Z"⟩ ∈ gtb := gtb_of (List.mem_append_right _ (List.mem_of_getElem? (i := 489) (by decide +kernel))) (by decide +kernel)
theorem ww_200 : Cond.methodLink "BorrowedVoice" 195 ⟨"BorrowedVoice$Kinds", "wordsOf", "(II)I"⟩ ∈ gtb := gtb_of (List.mem_append_right _ (List.mem_of_getElem? (i := 490) (by decide +kernel))) (by decide +kernel)
theorem ww_201 : Cond.fieldLink "BorrowedVoice" 198 "BorrowedVoice$House" "notes" "I" ∈ gtb := gtb_of (List.mem_append_right _ (List.mem_of_getElem? (i := 33) (by decide +kernel))) (by decide +kernel)
theorem ww_202 : Cond.methodLink "BorrowedVoice" 201 ⟨"BorrowedVoice$House", "writeDown", "(IIIII)I"⟩ ∈ gtb := gtb_of (List.mem_append_right _ (List.mem_of_getElem? (i := 495) (by decide +kernel))) (by decide +kernel)
theorem ww_203 : Cond.selects "BorrowedVoice$House" ⟨"BorrowedVoice$House", "writeDown", "(IIIII)I"⟩ ⟨"BorrowedVoice$House", "writeDown", "(IIIII)I"⟩ ∈ gtb := gtb_of (List.mem_append_right _ (List.mem_of_getElem? (i := 497) (by decide +kernel))) (by decide +kernel)
theorem ww_204 : Cond.instanceMethod ⟨"BorrowedVoice$House", "writeDown", "(IIIII)I"⟩ ∈ gtb := gtb_of (List.mem_append_right _ (List.mem_of_getElem? (i := 496) (by decide +kernel))) (by decide +kernel)
theorem ww_205 : Cond.methodLink "BorrowedVoice" 205 ⟨"BorrowedVoice$House", "kindsByNotes", "(I)I"⟩ ∈ gtb := gtb_of (List.mem_append_right _ (List.mem_of_getElem? (i := 507) (by decide +kernel))) (by decide +kernel)
theorem ww_206 : Cond.selects "BorrowedVoice$House" ⟨"BorrowedVoice$House", "kindsByNotes", "(I)I"⟩ ⟨"BorrowedVoice$House", "kindsByNotes", "(I)I"⟩ ∈ gtb := gtb_of (List.mem_append_right _ (List.mem_of_getElem? (i := 509) (by decide +kernel))) (by decide +kernel)
theorem ww_207 : Cond.instanceMethod ⟨"BorrowedVoice$House", "kindsByNotes", "(I)I"⟩ ∈ gtb := gtb_of (List.mem_append_right _ (List.mem_of_getElem? (i := 508) (by decide +kernel))) (by decide +kernel)
theorem ww_208 : Cond.methodLink "BorrowedVoice" 208 ⟨"BorrowedVoice$Kinds", "mostAlike", "(IIII)I"⟩ ∈ gtb := gtb_of (List.mem_append_right _ (List.mem_of_getElem? (i := 519) (by decide +kernel))) (by decide +kernel)
theorem ww_209 : Cond.static ⟨"BorrowedVoice$Kinds", "mostAlike", "(IIII)I"⟩ ∈ gtb := gtb_of (List.mem_append_right _ (List.mem_of_getElem? (i := 520) (by decide +kernel))) (by decide +kernel)
theorem ww_210 : Cond.methodLink "BorrowedVoice" 212 ⟨"BorrowedVoice", "isContent", "(ZII)Z"⟩ ∈ gtb := gtb_of (List.mem_append_right _ (List.mem_of_getElem? (i := 532) (by decide +kernel))) (by decide +kernel)
theorem ww_211 : Cond.static ⟨"BorrowedVoice", "isContent", "(ZII)Z"⟩ ∈ gtb := gtb_of (List.mem_append_right _ (List.mem_of_getElem? (i := 533) (by decide +kernel))) (by decide +kernel)
theorem ww_212 : Cond.methodLink "BorrowedVoice" 216 ⟨"BorrowedVoice$House", "atCounter", "()I"⟩ ∈ gtb := gtb_of (List.mem_append_right _ (List.mem_of_getElem? (i := 539) (by decide +kernel))) (by decide +kernel)
theorem ww_213 : Cond.selects "BorrowedVoice$House" ⟨"BorrowedVoice$House", "atCounter", "()I"⟩ ⟨"BorrowedVoice$House", "atCounter", "()I"⟩ ∈ gtb := gtb_of (List.mem_append_right _ (List.mem_of_getElem? (i := 541) (by decide +kernel))) (by decide +kernel)
theorem ww_214 : Cond.instanceMethod ⟨"BorrowedVoice$House", "atCounter", "()I"⟩ ∈ gtb := gtb_of (List.mem_append_right _ (List.mem_of_getElem? (i := 540) (by decide +kernel))) (by decide +kernel)
theorem ww_215 : Cond.methodLink "BorrowedVoice" 219 ⟨"BorrowedVoice", "power", "(II)J"⟩ ∈ gtb := gtb_of (List.mem_append_right _ (List.mem_of_getElem? (i := 543) (by decide +kernel))) (by decide +kernel)
theorem ww_216 : Cond.static ⟨"BorrowedVoice", "power", "(II)J"⟩ ∈ gtb := gtb_of (List.mem_append_right _ (List.mem_of_getElem? (i := 544) (by decide +kernel))) (by decide +kernel)
theorem ww_217 : Cond.methodLink "BorrowedVoice" 223 ⟨"BorrowedVoice", "setFraction", "(JJ)V"⟩ ∈ gtb := gtb_of (List.mem_append_right _ (List.mem_of_getElem? (i := 546) (by decide +kernel))) (by decide +kernel)
theorem ww_218 : Cond.selects "BorrowedVoice" ⟨"BorrowedVoice", "setFraction", "(JJ)V"⟩ ⟨"BorrowedVoice", "setFraction", "(JJ)V"⟩ ∈ gtb := gtb_of (List.mem_append_left _ (List.mem_of_getElem? (i := 20) (by decide +kernel))) (by decide +kernel)
theorem ww_219 : Cond.instanceMethod ⟨"BorrowedVoice", "setFraction", "(JJ)V"⟩ ∈ gtb := gtb_of (List.mem_append_right _ (List.mem_of_getElem? (i := 548) (by decide +kernel))) (by decide +kernel)
theorem ww_220 : Cond.constant "BorrowedVoice" 227 (999999) ∈ gtb := gtb_of (List.mem_append_right _ (List.mem_of_getElem? (i := 557) (by decide +kernel))) (by decide +kernel)
theorem ww_221 : Cond.methodLink "BorrowedVoice" 228 ⟨"BorrowedVoice", "nextOfSeed", "(J)J"⟩ ∈ gtb := gtb_of (List.mem_append_right _ (List.mem_of_getElem? (i := 558) (by decide +kernel))) (by decide +kernel)
theorem ww_222 : Cond.static ⟨"BorrowedVoice", "nextOfSeed", "(J)J"⟩ ∈ gtb := gtb_of (List.mem_append_right _ (List.mem_of_getElem? (i := 559) (by decide +kernel))) (by decide +kernel)
theorem ww_223 : Cond.constantLong "BorrowedVoice" 232 (65536) ∈ gtb := gtb_of (List.mem_append_right _ (List.mem_of_getElem? (i := 564) (by decide +kernel))) (by decide +kernel)
theorem ww_224 : Cond.methodLink "BorrowedVoice" 234 ⟨"BorrowedVoice$House", "lendOrLeave", "(II)V"⟩ ∈ gtb := gtb_of (List.mem_append_right _ (List.mem_of_getElem? (i := 565) (by decide +kernel))) (by decide +kernel)
theorem ww_225 : Cond.selects "BorrowedVoice$House" ⟨"BorrowedVoice$House", "lendOrLeave", "(II)V"⟩ ⟨"BorrowedVoice$House", "lendOrLeave", "(II)V"⟩ ∈ gtb := gtb_of (List.mem_append_right _ (List.mem_of_getElem? (i := 567) (by decide +kernel))) (by decide +kernel)
theorem ww_226 : Cond.instanceMethod ⟨"BorrowedVoice$House", "lendOrLeave", "(II)V"⟩ ∈ gtb := gtb_of (List.mem_append_right _ (List.mem_of_getElem? (i := 566) (by decide +kernel))) (by decide +kernel)
theorem ww_227 : Cond.fieldLink "BorrowedVoice" 46 "BorrowedVoice" "above" "J" ∈ gtb := gtb_of (List.mem_append_right _ (List.mem_of_getElem? (i := 113) (by decide +kernel))) (by decide +kernel)
theorem ww_228 : Cond.fieldLink "BorrowedVoice" 50 "BorrowedVoice" "below" "J" ∈ gtb := gtb_of (List.mem_append_right _ (List.mem_of_getElem? (i := 114) (by decide +kernel))) (by decide +kernel)
theorem ww_229 : Cond.fieldLink "BorrowedVoice" 19 "BorrowedVoice" "firstImage" "LBorrowedVoice$House;" ∈ gtb := gtb_of (List.mem_append_right _ (List.mem_of_getElem? (i := 106) (by decide +kernel))) (by decide +kernel)
theorem ww_230 : Cond.fieldLink "BorrowedVoice" 25 "BorrowedVoice" "firstKept" "Z" ∈ gtb := gtb_of (List.mem_append_right _ (List.mem_of_getElem? (i := 108) (by decide +kernel))) (by decide +kernel)
theorem ww_231 : Cond.fieldLink "BorrowedVoice" 22 "BorrowedVoice" "secondImage" "LBorrowedVoice$House;" ∈ gtb := gtb_of (List.mem_append_right _ (List.mem_of_getElem? (i := 107) (by decide +kernel))) (by decide +kernel)
theorem ww_232 : Cond.fieldLink "BorrowedVoice" 29 "BorrowedVoice" "secondKept" "Z" ∈ gtb := gtb_of (List.mem_append_right _ (List.mem_of_getElem? (i := 109) (by decide +kernel))) (by decide +kernel)
theorem ww_233 : Cond.fieldLink "BorrowedVoice" 53 "BorrowedVoice" "bads" "I" ∈ gtb := gtb_of (List.mem_append_right _ (List.mem_of_getElem? (i := 115) (by decide +kernel))) (by decide +kernel)
theorem ww_234 : Cond.fieldLink "BorrowedVoice" 57 "BorrowedVoice" "nos" "I" ∈ gtb := gtb_of (List.mem_append_right _ (List.mem_of_getElem? (i := 116) (by decide +kernel))) (by decide +kernel)
theorem ww_235 : Cond.fieldLink "BorrowedVoice" 60 "BorrowedVoice" "fulls" "I" ∈ gtb := gtb_of (List.mem_append_right _ (List.mem_of_getElem? (i := 117) (by decide +kernel))) (by decide +kernel)
theorem ww_236 : Cond.methodLink "BorrowedVoice" 237 ⟨"BorrowedVoice", "howMany", "(I)I"⟩ ∈ gtb := gtb_of (List.mem_append_right _ (List.mem_of_getElem? (i := 590) (by decide +kernel))) (by decide +kernel)
theorem ww_237 : Cond.selects "BorrowedVoice" ⟨"BorrowedVoice", "howMany", "(I)I"⟩ ⟨"BorrowedVoice", "howMany", "(I)I"⟩ ∈ gtb := gtb_of (List.mem_append_left _ (List.mem_of_getElem? (i := 21) (by decide +kernel))) (by decide +kernel)
theorem ww_238 : Cond.instanceMethod ⟨"BorrowedVoice", "howMany", "(I)I"⟩ ∈ gtb := gtb_of (List.mem_append_right _ (List.mem_of_getElem? (i := 592) (by decide +kernel))) (by decide +kernel)
theorem ww_239 : Cond.constantLong "BorrowedVoice" 240 (1297) ∈ gtb := gtb_of (List.mem_append_right _ (List.mem_of_getElem? (i := 602) (by decide +kernel))) (by decide +kernel)
theorem ww_240 : Cond.constantLong "BorrowedVoice" 242 (31) ∈ gtb := gtb_of (List.mem_append_right _ (List.mem_of_getElem? (i := 603) (by decide +kernel))) (by decide +kernel)
theorem ww_241 : Cond.methodLink "BorrowedVoice" 244 ⟨"BorrowedVoice$House", "digestOn", "(J)J"⟩ ∈ gtb := gtb_of (List.mem_append_right _ (List.mem_of_getElem? (i := 604) (by decide +kernel))) (by decide +kernel)
theorem ww_242 : Cond.selects "BorrowedVoice$House" ⟨"BorrowedVoice$House", "digestOn", "(J)J"⟩ ⟨"BorrowedVoice$House", "digestOn", "(J)J"⟩ ∈ gtb := gtb_of (List.mem_append_right _ (List.mem_of_getElem? (i := 606) (by decide +kernel))) (by decide +kernel)
theorem ww_243 : Cond.instanceMethod ⟨"BorrowedVoice$House", "digestOn", "(J)J"⟩ ∈ gtb := gtb_of (List.mem_append_right _ (List.mem_of_getElem? (i := 605) (by decide +kernel))) (by decide +kernel)
theorem ww_244 : Cond.methodLink "BorrowedVoice" 247 ⟨"BorrowedVoice$House", "allSlipped", "()I"⟩ ∈ gtb := gtb_of (List.mem_append_right _ (List.mem_of_getElem? (i := 594) (by decide +kernel))) (by decide +kernel)
theorem ww_245 : Cond.selects "BorrowedVoice$House" ⟨"BorrowedVoice$House", "allSlipped", "()I"⟩ ⟨"BorrowedVoice$House", "allSlipped", "()I"⟩ ∈ gtb := gtb_of (List.mem_append_right _ (List.mem_of_getElem? (i := 596) (by decide +kernel))) (by decide +kernel)
theorem ww_246 : Cond.instanceMethod ⟨"BorrowedVoice$House", "allSlipped", "()I"⟩ ∈ gtb := gtb_of (List.mem_append_right _ (List.mem_of_getElem? (i := 595) (by decide +kernel))) (by decide +kernel)
theorem ww_247 : Cond.methodLink "BorrowedVoice" 250 ⟨"java/lang/Integer", "bitCount", "(I)I"⟩ ∈ gtb := gtb_of (List.mem_append_right _ (List.mem_of_getElem? (i := 417) (by decide +kernel))) (by decide +kernel)
theorem ww_248 : Cond.static ⟨"java/lang/Integer", "bitCount", "(I)I"⟩ ∈ gtb := gtb_of (List.mem_append_right _ (List.mem_of_getElem? (i := 418) (by decide +kernel))) (by decide +kernel)
theorem ww_249 : Cond.fieldLink "BorrowedVoice" 43 "BorrowedVoice" "bestNext" "[I" ∈ gtb := gtb_of (List.mem_append_right _ (List.mem_of_getElem? (i := 112) (by decide +kernel))) (by decide +kernel)
theorem ww_250 : Cond.methodLink "BorrowedVoice" 255 ⟨"BorrowedVoice", "greatestCommonDivisor", "(JJ)J"⟩ ∈ gtb := gtb_of (List.mem_append_right _ (List.mem_of_getElem? (i := 550) (by decide +kernel))) (by decide +kernel)
theorem ww_251 : Cond.static ⟨"BorrowedVoice", "greatestCommonDivisor", "(JJ)J"⟩ ∈ gtb := gtb_of (List.mem_append_right _ (List.mem_of_getElem? (i := 551) (by decide +kernel))) (by decide +kernel)
theorem ww_252 : Cond.constantLong "BorrowedVoice" 259 (1103515245) ∈ gtb := gtb_of (List.mem_append_right _ (List.mem_of_getElem? (i := 561) (by decide +kernel))) (by decide +kernel)
theorem ww_253 : Cond.constantLong "BorrowedVoice" 261 (12345) ∈ gtb := gtb_of (List.mem_append_right _ (List.mem_of_getElem? (i := 562) (by decide +kernel))) (by decide +kernel)
theorem ww_254 : Cond.constantLong "BorrowedVoice" 263 (2147483648) ∈ gtb := gtb_of (List.mem_append_right _ (List.mem_of_getElem? (i := 563) (by decide +kernel))) (by decide +kernel)
theorem ww_255 : Cond.fieldLink "BorrowedVoiceModel" 1 "BorrowedVoiceModel" "refused" "[I" ∈ gtb := gtb_of (List.mem_append_right _ (List.mem_of_getElem? (i := 619) (by decide +kernel))) (by decide +kernel)
theorem ww_256 : Cond.fieldLink "BorrowedVoiceModel" 80 "BorrowedVoiceModel" "many" "I" ∈ gtb := gtb_of (List.mem_append_right _ (List.mem_of_getElem? (i := 620) (by decide +kernel))) (by decide +kernel)
theorem ww_257 : Cond.fieldLink "BorrowedVoiceModel" 84 "BorrowedVoiceModel" "now" "I" ∈ gtb := gtb_of (List.mem_append_right _ (List.mem_of_getElem? (i := 621) (by decide +kernel))) (by decide +kernel)
theorem ww_258 : Cond.fieldLink "BorrowedVoiceModel" 87 "BorrowedVoiceModel" "noteMany" "I" ∈ gtb := gtb_of (List.mem_append_right _ (List.mem_of_getElem? (i := 622) (by decide +kernel))) (by decide +kernel)
theorem ww_259 : Cond.fieldLink "BorrowedVoiceModel" 90 "BorrowedVoiceModel" "undoMany" "I" ∈ gtb := gtb_of (List.mem_append_right _ (List.mem_of_getElem? (i := 642) (by decide +kernel))) (by decide +kernel)
theorem ww_260 : Cond.methodLink "BorrowedVoiceModel" 93 ⟨"BorrowedVoiceModel", "in", "(III)Z"⟩ ∈ gtb := gtb_of (List.mem_append_right _ (List.mem_of_getElem? (i := 724) (by decide +kernel))) (by decide +kernel)
theorem ww_261 : Cond.static ⟨"BorrowedVoiceModel", "in", "(III)Z"⟩ ∈ gtb := gtb_of (List.mem_append_right _ (List.mem_of_getElem? (i := 725) (by decide +kernel))) (by decide +kernel)
theorem ww_262 : Cond.methodLink "BorrowedVoiceModel" 77 ⟨"BorrowedVoiceModel", "begin", "()V"⟩ ∈ gtb := gtb_of (List.mem_append_right _ (List.mem_of_getElem? (i := 615) (by decide +kernel))) (by decide +kernel)
theorem ww_263 : Cond.selects "BorrowedVoiceModel" ⟨"BorrowedVoiceModel", "begin", "()V"⟩ ⟨"BorrowedVoiceModel", "begin", "()V"⟩ ∈ gtb := gtb_of (List.mem_append_left _ (List.mem_of_getElem? (i := 22) (by decide +kernel))) (by decide +kernel)
theorem ww_264 : Cond.instanceMethod ⟨"BorrowedVoiceModel", "begin", "()V"⟩ ∈ gtb := gtb_of (List.mem_append_right _ (List.mem_of_getElem? (i := 617) (by decide +kernel))) (by decide +kernel)
theorem ww_265 : Cond.fieldLink "BorrowedVoiceModel" 13 "BorrowedVoiceModel" "kinds" "[I" ∈ gtb := gtb_of (List.mem_append_right _ (List.mem_of_getElem? (i := 623) (by decide +kernel))) (by decide +kernel)
theorem ww_266 : Cond.fieldLink "BorrowedVoiceModel" 16 "BorrowedVoiceModel" "sorts" "[I" ∈ gtb := gtb_of (List.mem_append_right _ (List.mem_of_getElem? (i := 624) (by decide +kernel))) (by decide +kernel)
theorem ww_267 : Cond.fieldLink "BorrowedVoiceModel" 19 "BorrowedVoiceModel" "wants" "[I" ∈ gtb := gtb_of (List.mem_append_right _ (List.mem_of_getElem? (i := 625) (by decide +kernel))) (by decide +kernel)
theorem ww_268 : Cond.fieldLink "BorrowedVoiceModel" 22 "BorrowedVoiceModel" "withs" "[I" ∈ gtb := gtb_of (List.mem_append_right _ (List.mem_of_getElem? (i := 626) (by decide +kernel))) (by decide +kernel)
theorem ww_269 : Cond.fieldLink "BorrowedVoiceModel" 25 "BorrowedVoiceModel" "used" "[I" ∈ gtb := gtb_of (List.mem_append_right _ (List.mem_of_getElem? (i := 627) (by decide +kernel))) (by decide +kernel)
theorem ww_270 : Cond.fieldLink "BorrowedVoiceModel" 28 "BorrowedVoiceModel" "slipped" "[I" ∈ gtb := gtb_of (List.mem_append_right _ (List.mem_of_getElem? (i := 628) (by decide +kernel))) (by decide +kernel)
theorem ww_271 : Cond.methodLink "BorrowedVoiceModel" 97 ⟨"BorrowedVoiceModel", "bad", "()I"⟩ ∈ gtb := gtb_of (List.mem_append_right _ (List.mem_of_getElem? (i := 727) (by decide +kernel))) (by decide +kernel)
theorem ww_272 : Cond.selects "BorrowedVoiceModel" ⟨"BorrowedVoiceModel", "bad", "()I"⟩ ⟨"BorrowedVoiceModel", "bad", "()I"⟩ ∈ gtb := gtb_of (List.mem_append_left _ (List.mem_of_getElem? (i := 23) (by decide +kernel))) (by decide +kernel)
theorem ww_273 : Cond.instanceMethod ⟨"BorrowedVoiceModel", "bad", "()I"⟩ ∈ gtb := gtb_of (List.mem_append_right _ (List.mem_of_getElem? (i := 729) (by decide +kernel))) (by decide +kernel)
theorem ww_274 : Cond.methodLink "BorrowedVoiceModel" 101 ⟨"BorrowedVoiceModel", "full", "()I"⟩ ∈ gtb := gtb_of (List.mem_append_right _ (List.mem_of_getElem? (i := 731) (by decide +kernel))) (by decide +kernel)
theorem ww_275 : Cond.selects "BorrowedVoiceModel" ⟨"BorrowedVoiceModel", "full", "()I"⟩ ⟨"BorrowedVoiceModel", "full", "()I"⟩ ∈ gtb := gtb_of (List.mem_append_left _ (List.mem_of_getElem? (i := 24) (by decide +kernel))) (by decide +kernel)
theorem ww_276 : Cond.instanceMethod ⟨"BorrowedVoiceModel", "full", "()I"⟩ ∈ gtb := gtb_of (List.mem_append_right _ (List.mem_of_getElem? (i := 733) (by decide +kernel))) (by decide +kernel)
theorem ww_277 : Cond.methodLink "BorrowedVoiceModel" 104 ⟨"BorrowedVoiceModel", "addOne", "(III)I"⟩ ∈ gtb := gtb_of (List.mem_append_right _ (List.mem_of_getElem? (i := 735) (by decide +kernel))) (by decide +kernel)
theorem ww_278 : Cond.selects "BorrowedVoiceModel" ⟨"BorrowedVoiceModel", "addOne", "(III)I"⟩ ⟨"BorrowedVoiceModel", "addOne", "(III)I"⟩ ∈ gtb := gtb_of (List.mem_append_left _ (List.mem_of_getElem? (i := 25) (by decide +kernel))) (by decide +kernel)
theorem ww_279 : Cond.instanceMethod ⟨"BorrowedVoiceModel", "addOne", "(III)I"⟩ ∈ gtb := gtb_of (List.mem_append_right _ (List.mem_of_getElem? (i := 737) (by decide +kernel))) (by decide +kernel)
theorem ww_280 : Cond.fieldLink "BorrowedVoiceModel" 108 "BorrowedVoiceModel" "typed" "I" ∈ gtb := gtb_of (List.mem_append_right _ (List.mem_of_getElem? (i := 635) (by decide +kernel))) (by decide +kernel)
theorem ww_281 : Cond.fieldLink "BorrowedVoiceModel" 46 "BorrowedVoiceModel" "text" "[I" ∈ gtb := gtb_of (List.mem_append_right _ (List.mem_of_getElem? (i := 634) (by decide +kernel))) (by decide +kernel)
theorem ww_282 : Cond.fieldLink "BorrowedVoiceModel" 111 "BorrowedVoiceModel" "readAt" "I" ∈ gtb := gtb_of (List.mem_append_right _ (List.mem_of_getElem? (i := 636) (by decide +kernel))) (by decide +kernel)
theorem ww_283 : Cond.methodLink "BorrowedVoiceModel" 114 ⟨"BorrowedVoiceModel", "here", "()I"⟩ ∈ gtb := gtb_of (List.mem_append_right _ (List.mem_of_getElem? (i := 759) (by decide +kernel))) (by decide +kernel)
theorem ww_284 : Cond.selects "BorrowedVoiceModel" ⟨"BorrowedVoiceModel", "here", "()I"⟩ ⟨"BorrowedVoiceModel", "here", "()I"⟩ ∈ gtb := gtb_of (List.mem_append_left _ (List.mem_of_getElem? (i := 28) (by decide +kernel))) (by decide +kernel)
theorem ww_285 : Cond.instanceMethod ⟨"BorrowedVoiceModel", "here", "()I"⟩ ∈ gtb := gtb_of (List.mem_append_right _ (List.mem_of_getElem? (i := 761) (by decide +kernel))) (by decide +kernel)
theorem ww_286 : Cond.methodLink "BorrowedVoiceModel" 117 ⟨"BorrowedVoiceModel", "isLetter", "(I)Z"⟩ ∈ gtb := gtb_of (List.mem_append_right _ (List.mem_of_getElem? (i := 771) (by decide +kernel))) (by decide +kernel)
theorem ww_287 : Cond.static ⟨"BorrowedVoiceModel", "isLetter", "(I)Z"⟩ ∈ gtb := gtb_of (List.mem_append_right _ (List.mem_of_getElem? (i := 772) (by decide +kernel))) (by decide +kernel)
theorem ww_288 : Cond.methodLink "BorrowedVoiceModel" 121 ⟨"BorrowedVoiceModel", "letter", "(I)I"⟩ ∈ gtb := gtb_of (List.mem_append_right _ (List.mem_of_getElem? (i := 778) (by decide +kernel))) (by decide +kernel)
theorem ww_289 : Cond.selects "BorrowedVoiceModel" ⟨"BorrowedVoiceModel", "letter", "(I)I"⟩ ⟨"BorrowedVoiceModel", "letter", "(I)I"⟩ ∈ gtb := gtb_of (List.mem_append_left _ (List.mem_of_getElem? (i := 32) (by decide +kernel))) (by decide +kernel)
theorem ww_290 : Cond.instanceMethod ⟨"BorrowedVoiceModel", "letter", "(I)I"⟩ ∈ gtb := gtb_of (List.mem_append_right _ (List.mem_of_getElem? (i := 780) (by decide +kernel))) (by decide +kernel)
theorem ww_291 : Cond.methodLink "BorrowedVoiceModel" 125 ⟨"BorrowedVoiceModel", "wordSize", "()I"⟩ ∈ gtb := gtb_of (List.mem_append_right _ (List.mem_of_getElem? (i := 767) (by decide +kernel))) (by decide +kernel)
theorem ww_292 : Cond.selects "BorrowedVoiceModel" ⟨"BorrowedVoiceModel", "wordSize", "()I"⟩ ⟨"BorrowedVoiceModel", "wordSize", "()I"⟩ ∈ gtb := gtb_of (List.mem_append_left _ (List.mem_of_getElem? (i := 30) (by decide +kernel))) (by decide +kernel)
theorem ww_293 : Cond.instanceMethod ⟨"BorrowedVoiceModel", "wordSize", "()I"⟩ ∈ gtb := gtb_of (List.mem_append_right _ (List.mem_of_getElem? (i := 769) (by decide +kernel))) (by decide +kernel)
theorem ww_294 : Cond.methodLink "BorrowedVoiceModel" 128 ⟨"BorrowedVoiceModel", "spells", "(IIII)Z"⟩ ∈ gtb := gtb_of (List.mem_append_right _ (List.mem_of_getElem? (i := 774) (by decide +kernel))) (by decide +kernel)
theorem ww_295 : Cond.selects "BorrowedVoiceModel" ⟨"BorrowedVoiceModel", "spells", "(IIII)Z"⟩ ⟨"BorrowedVoiceModel", "spells", "(IIII)Z"⟩ ∈ gtb := gtb_of (List.mem_append_left _ (List.mem_of_getElem? (i := 31) (by decide +kernel))) (by decide +kernel)
theorem ww_296 : Cond.instanceMethod ⟨"BorrowedVoiceModel", "spells", "(IIII)Z"⟩ ∈ gtb := gtb_of (List.mem_append_right _ (List.mem_of_getElem? (i := 776) (by decide +kernel))) (by decide +kernel)
theorem ww_297 : Cond.methodLink "BorrowedVoiceModel" 132 ⟨"BorrowedVoiceModel", "skip", "()V"⟩ ∈ gtb := gtb_of (List.mem_append_right _ (List.mem_of_getElem? (i := 755) (by decide +kernel))) (by decide +kernel)
theorem ww_298 : Cond.selects "BorrowedVoiceModel" ⟨"BorrowedVoiceModel", "skip", "()V"⟩ ⟨"BorrowedVoiceModel", "skip", "()V"⟩ ∈ gtb := gtb_of (List.mem_append_left _ (List.mem_of_getElem? (i := 27) (by decide +kernel))) (by decide +kernel)
theorem ww_299 : Cond.instanceMethod ⟨"BorrowedVoiceModel", "skip", "()V"⟩ ∈ gtb := gtb_of (List.mem_append_right _ (List.mem_of_getElem? (i := 757) (by decide +kernel))) (by decide +kernel)
theorem ww_300 : Cond.methodLink "BorrowedVoiceModel" 135 ⟨"BorrowedVoiceModel", "isFigure", "(I)Z"⟩ ∈ gtb := gtb_of (List.mem_append_right _ (List.mem_of_getElem? (i := 798) (by decide +kernel))) (by decide +kernel)
theorem ww_301 : Cond.static ⟨"BorrowedVoiceModel", "isFigure", "(I)Z"⟩ ∈ gtb := gtb_of (List.mem_append_right _ (List.mem_of_getElem? (i := 799) (by decide +kernel))) (by decide +kernel)
theorem ww_302 : Cond.fieldLink "BorrowedVoiceModel" 138 "BorrowedVoiceModel" "readNumber" "I" ∈ gtb := gtb_of (List.mem_append_right _ (List.mem_of_getElem? (i := 640) (by decide +kernel))) (by decide +kernel)
theorem ww_303 : Cond.methodLink "BorrowedVoiceModel" 141 ⟨"BorrowedVoiceModel", "number", "(II)Z"⟩ ∈ gtb := gtb_of (List.mem_append_right _ (List.mem_of_getElem? (i := 794) (by decide +kernel))) (by decide +kernel)
theorem ww_304 : Cond.selects "BorrowedVoiceModel" ⟨"BorrowedVoiceModel", "number", "(II)Z"⟩ ⟨"BorrowedVoiceModel", "number", "(II)Z"⟩ ∈ gtb := gtb_of (List.mem_append_left _ (List.mem_of_getElem? (i := 36) (by decide +kernel))) (by decide +kernel)
theorem ww_305 : Cond.instanceMethod ⟨"BorrowedVoiceModel", "number", "(II)Z"⟩ ∈ gtb := gtb_of (List.mem_append_right _ (List.mem_of_getElem? (i := 796) (by decide +kernel))) (by decide +kernel)
theorem ww_306 : Cond.fieldLink "BorrowedVoiceModel" 49 "BorrowedVoiceModel" "readOnes" "[I" ∈ gtb := gtb_of (List.mem_append_right _ (List.mem_of_getElem? (i := 638) (by decide +kernel))) (by decide +kernel)
theorem ww_307 : Cond.fieldLink "BorrowedVoiceModel" 145 "BorrowedVoiceModel" "readMany" "I" ∈ gtb := gtb_of (List.mem_append_right _ (List.mem_of_getElem? (i := 637) (by decide +kernel))) (by decide +kernel)
theorem ww_308 : Cond.fieldLink "BorrowedVoiceModel" 52 "BorrowedVoiceModel" "readWiths" "[I" ∈ gtb := gtb_of (List.mem_append_right _ (List.mem_of_getElem? (i := 639) (by decide +kernel))) (by decide +kernel)
theorem ww_309 : Cond.methodLink "BorrowedVoiceModel" 148 ⟨"BorrowedVoiceModel", "ends", "()Z"⟩ ∈ gtb := gtb_of (List.mem_append_right _ (List.mem_of_getElem? (i := 782) (by decide +kernel))) (by decide +kernel)
theorem ww_310 : Cond.selects "BorrowedVoiceModel" ⟨"BorrowedVoiceModel", "ends", "()Z"⟩ ⟨"BorrowedVoiceModel", "ends", "()Z"⟩ ∈ gtb := gtb_of (List.mem_append_left _ (List.mem_of_getElem? (i := 33) (by decide +kernel))) (by decide +kernel)
theorem ww_311 : Cond.instanceMethod ⟨"BorrowedVoiceModel", "ends", "()Z"⟩ ∈ gtb := gtb_of (List.mem_append_right _ (List.mem_of_getElem? (i := 784) (by decide +kernel))) (by decide +kernel)
theorem ww_312 : Cond.methodLink "BorrowedVoiceModel" 152 ⟨"BorrowedVoiceModel", "readVoice", "(I)I"⟩ ∈ gtb := gtb_of (List.mem_append_right _ (List.mem_of_getElem? (i := 805) (by decide +kernel))) (by decide +kernel)
theorem ww_313 : Cond.selects "BorrowedVoiceModel" ⟨"BorrowedVoiceModel", "readVoice", "(I)I"⟩ ⟨"BorrowedVoiceModel", "readVoice", "(I)I"⟩ ∈ gtb := gtb_of (List.mem_append_left _ (List.mem_of_getElem? (i := 38) (by decide +kernel))) (by decide +kernel)
theorem ww_314 : Cond.instanceMethod ⟨"BorrowedVoiceModel", "readVoice", "(I)I"⟩ ∈ gtb := gtb_of (List.mem_append_right _ (List.mem_of_getElem? (i := 807) (by decide +kernel))) (by decide +kernel)
theorem ww_315 : Cond.methodLink "BorrowedVoiceModel" 155 ⟨"BorrowedVoiceModel", "wordHere", "()I"⟩ ∈ gtb := gtb_of (List.mem_append_right _ (List.mem_of_getElem? (i := 763) (by decide +kernel))) (by decide +kernel)
theorem ww_316 : Cond.selects "BorrowedVoiceModel" ⟨"BorrowedVoiceModel", "wordHere", "()I"⟩ ⟨"BorrowedVoiceModel", "wordHere", "()I"⟩ ∈ gtb := gtb_of (List.mem_append_left _ (List.mem_of_getElem? (i := 29) (by decide +kernel))) (by decide +kernel)
theorem ww_317 : Cond.instanceMethod ⟨"BorrowedVoiceModel", "wordHere", "()I"⟩ ∈ gtb := gtb_of (List.mem_append_right _ (List.mem_of_getElem? (i := 765) (by decide +kernel))) (by decide +kernel)
theorem ww_318 : Cond.methodLink "BorrowedVoiceModel" 158 ⟨"BorrowedVoiceModel", "readsOne", "()Z"⟩ ∈ gtb := gtb_of (List.mem_append_right _ (List.mem_of_getElem? (i := 790) (by decide +kernel))) (by decide +kernel)
theorem ww_319 : Cond.selects "BorrowedVoiceModel" ⟨"BorrowedVoiceModel", "readsOne", "()Z"⟩ ⟨"BorrowedVoiceModel", "readsOne", "()Z"⟩ ∈ gtb := gtb_of (List.mem_append_left _ (List.mem_of_getElem? (i := 35) (by decide +kernel))) (by decide +kernel)
theorem ww_320 : Cond.instanceMethod ⟨"BorrowedVoiceModel", "readsOne", "()Z"⟩ ∈ gtb := gtb_of (List.mem_append_right _ (List.mem_of_getElem? (i := 792) (by decide +kernel))) (by decide +kernel)
theorem ww_321 : Cond.methodLink "BorrowedVoiceModel" 161 ⟨"BorrowedVoiceModel", "readsLeave", "()Z"⟩ ∈ gtb := gtb_of (List.mem_append_right _ (List.mem_of_getElem? (i := 801) (by decide +kernel))) (by decide +kernel)
theorem ww_322 : Cond.selects "BorrowedVoiceModel" ⟨"BorrowedVoiceModel", "readsLeave", "()Z"⟩ ⟨"BorrowedVoiceModel", "readsLeave", "()Z"⟩ ∈ gtb := gtb_of (List.mem_append_left _ (List.mem_of_getElem? (i := 37) (by decide +kernel))) (by decide +kernel)
theorem ww_323 : Cond.instanceMethod ⟨"BorrowedVoiceModel", "readsLeave", "()Z"⟩ ∈ gtb := gtb_of (List.mem_append_right _ (List.mem_of_getElem? (i := 803) (by decide +kernel))) (by decide +kernel)
theorem ww_324 : Cond.methodLink "BorrowedVoiceModel" 164 ⟨"BorrowedVoiceModel", "readsLend", "()Z"⟩ ∈ gtb := gtb_of (List.mem_append_right _ (List.mem_of_getElem? (i := 809) (by decide +kernel))) (by decide +kernel)
theorem ww_325 : Cond.selects "BorrowedVoiceModel" ⟨"BorrowedVoiceModel", "readsLend", "()Z"⟩ ⟨"BorrowedVoiceModel", "readsLend", "()Z"⟩ ∈ gtb := gtb_of (List.mem_append_left _ (List.mem_of_getElem? (i := 39) (by decide +kernel))) (by decide +kernel)
theorem ww_326 : Cond.instanceMethod ⟨"BorrowedVoiceModel", "readsLend", "()Z"⟩ ∈ gtb := gtb_of (List.mem_append_right _ (List.mem_of_getElem? (i := 811) (by decide +kernel))) (by decide +kernel)
theorem ww_327 : Cond.methodLink "BorrowedVoiceModel" 167 ⟨"BorrowedVoiceModel", "readsItem", "()Z"⟩ ∈ gtb := gtb_of (List.mem_append_right _ (List.mem_of_getElem? (i := 786) (by decide +kernel))) (by decide +kernel)
theorem ww_328 : Cond.selects "BorrowedVoiceModel" ⟨"BorrowedVoiceModel", "readsItem", "()Z"⟩ ⟨"BorrowedVoiceModel", "readsItem", "()Z"⟩ ∈ gtb := gtb_of (List.mem_append_left _ (List.mem_of_getElem? (i := 34) (by decide +kernel))) (by decide +kernel)
theorem ww_329 : Cond.instanceMethod ⟨"BorrowedVoiceModel", "readsItem", "()Z"⟩ ∈ gtb := gtb_of (List.mem_append_right _ (List.mem_of_getElem? (i := 788) (by decide +kernel))) (by decide +kernel)
theorem ww_330 : Cond.methodLink "BorrowedVoiceModel" 170 ⟨"BorrowedVoiceModel", "readsCounter", "()I"⟩ ∈ gtb := gtb_of (List.mem_append_right _ (List.mem_of_getElem? (i := 751) (by decide +kernel))) (by decide +kernel)
theorem ww_331 : Cond.selects "BorrowedVoiceModel" ⟨"BorrowedVoiceModel", "readsCounter", "()I"⟩ ⟨"BorrowedVoiceModel", "readsCounter", "()I"⟩ ∈ gtb := gtb_of (List.mem_append_left _ (List.mem_of_getElem? (i := 26) (by decide +kernel))) (by decide +kernel)
theorem ww_332 : Cond.instanceMethod ⟨"BorrowedVoiceModel", "readsCounter", "()I"⟩ ∈ gtb := gtb_of (List.mem_append_right _ (List.mem_of_getElem? (i := 753) (by decide +kernel))) (by decide +kernel)
theorem ww_333 : Cond.methodLink "BorrowedVoiceModel" 173 ⟨"BorrowedVoiceModel", "lesser", "(II)I"⟩ ∈ gtb := gtb_of (List.mem_append_right _ (List.mem_of_getElem? (i := 891) (by decide +kernel))) (by decide +kernel)
theorem ww_334 : Cond.static ⟨"BorrowedVoiceModel", "lesser", "(II)I"⟩ ∈ gtb := gtb_of (List.mem_append_right _ (List.mem_of_getElem? (i := 892) (by decide +kernel))) (by decide +kernel)
theorem ww_335 : Cond.methodLink "BorrowedVoiceModel" 177 ⟨"BorrowedVoiceModel", "soundBy", "(III)I"⟩ ∈ gtb := gtb_of (List.mem_append_right _ (List.mem_of_getElem? (i := 888) (by decide +kernel))) (by decide +kernel)
theorem ww_336 : Cond.static ⟨"BorrowedVoiceModel", "soundBy", "(III)I"⟩ ∈ gtb := gtb_of (List.mem_append_right _ (List.mem_of_getElem? (i := 889) (by decide +kernel))) (by decide +kernel)
theorem ww_337 : Cond.methodLink "BorrowedVoiceModel" 180 ⟨"BorrowedVoiceModel", "sound", "(I)I"⟩ ∈ gtb := gtb_of (List.mem_append_right _ (List.mem_of_getElem? (i := 884) (by decide +kernel))) (by decide +kernel)
theorem ww_338 : Cond.selects "BorrowedVoiceModel" ⟨"BorrowedVoiceModel", "sound", "(I)I"⟩ ⟨"BorrowedVoiceModel", "sound", "(I)I"⟩ ∈ gtb := gtb_of (List.mem_append_left _ (List.mem_of_getElem? (i := 52) (by decide +kernel))) (by decide +kernel)
theorem ww_339 : Cond.instanceMethod ⟨"BorrowedVoiceModel", "sound", "(I)I"⟩ ∈ gtb := gtb_of (List.mem_append_right _ (List.mem_of_getElem? (i := 886) (by decide +kernel))) (by decide +kernel)
theorem ww_340 : Cond.methodLink "BorrowedVoiceModel" 183 ⟨"BorrowedVoiceModel", "voiceOf", "(I)I"⟩ ∈ gtb := gtb_of (List.mem_append_right _ (List.mem_of_getElem? (i := 841) (by decide +kernel))) (by decide +kernel)
theorem ww_341 : Cond.selects "BorrowedVoiceModel" ⟨"BorrowedVoiceModel", "voiceOf", "(I)I"⟩ ⟨"BorrowedVoiceModel", "voiceOf", "(I)I"⟩ ∈ gtb := gtb_of (List.mem_append_left _ (List.mem_of_getElem? (i := 46) (by decide +kernel))) (by decide +kernel)
theorem ww_342 : Cond.instanceMethod ⟨"BorrowedVoiceModel", "voiceOf", "(I)I"⟩ ∈ gtb := gtb_of (List.mem_append_right _ (List.mem_of_getElem? (i := 843) (by decide +kernel))) (by decide +kernel)
theorem ww_343 : Cond.methodLink "BorrowedVoiceModel" 186 ⟨"BorrowedVoiceModel", "fitWith", "(II)I"⟩ ∈ gtb := gtb_of (List.mem_append_right _ (List.mem_of_getElem? (i := 880) (by decide +kernel))) (by decide +kernel)
theorem ww_344 : Cond.selects "BorrowedVoiceModel" ⟨"BorrowedVoiceModel", "fitWith", "(II)I"⟩ ⟨"BorrowedVoiceModel", "fitWith", "(II)I"⟩ ∈ gtb := gtb_of (List.mem_append_left _ (List.mem_of_getElem? (i := 51) (by decide +kernel))) (by decide +kernel)
theorem ww_345 : Cond.instanceMethod ⟨"BorrowedVoiceModel", "fitWith", "(II)I"⟩ ∈ gtb := gtb_of (List.mem_append_right _ (List.mem_of_getElem? (i := 882) (by decide +kernel))) (by decide +kernel)
theorem ww_346 : Cond.fieldLink "BorrowedVoiceModel" 55 "BorrowedVoiceModel" "ahead" "[I" ∈ gtb := gtb_of (List.mem_append_right _ (List.mem_of_getElem? (i := 641) (by decide +kernel))) (by decide +kernel)
theorem ww_347 : Cond.methodLink "BorrowedVoiceModel" 189 ⟨"BorrowedVoiceModel", "lays", "([II)V"⟩ ∈ gtb := gtb_of (List.mem_append_right _ (List.mem_of_getElem? (i := 833) (by decide +kernel))) (by decide +kernel)
theorem ww_348 : Cond.selects "BorrowedVoiceModel" ⟨"BorrowedVoiceModel", "lays", "([II)V"⟩ ⟨"BorrowedVoiceModel", "lays", "([II)V"⟩ ∈ gtb := gtb_of (List.mem_append_left _ (List.mem_of_getElem? (i := 44) (by decide +kernel))) (by decide +kernel)
theorem ww_349 : Cond.instanceMethod ⟨"BorrowedVoiceModel", "lays", "([II)V"⟩ ∈ gtb := gtb_of (List.mem_append_right _ (List.mem_of_getElem? (i := 835) (by decide +kernel))) (by decide +kernel)
theorem ww_350 : Cond.fieldLink "BorrowedVoiceModel" 58 "BorrowedVoiceModel" "aside" "[I" ∈ gtb := gtb_of (List.mem_append_right _ (List.mem_of_getElem? (i := 643) (by decide +kernel))) (by decide +kernel)
theorem ww_351 : Cond.methodLink "BorrowedVoiceModel" 193 ⟨"BorrowedVoiceModel", "takes", "([II)V"⟩ ∈ gtb := gtb_of (List.mem_append_right _ (List.mem_of_getElem? (i := 868) (by decide +kernel))) (by decide +kernel)
theorem ww_352 : Cond.selects "BorrowedVoiceModel" ⟨"BorrowedVoiceModel", "takes", "([II)V"⟩ ⟨"BorrowedVoiceModel", "takes", "([II)V"⟩ ∈ gtb := gtb_of (List.mem_append_left _ (List.mem_of_getElem? (i := 49) (by decide +kernel))) (by decide +kernel)
theorem ww_353 : Cond.instanceMethod ⟨"BorrowedVoiceModel", "takes", "([II)V"⟩ ∈ gtb := gtb_of (List.mem_append_right _ (List.mem_of_getElem? (i := 870) (by decide +kernel))) (by decide +kernel)
theorem ww_354 : Cond.methodLink "BorrowedVoiceModel" 196 ⟨"BorrowedVoiceModel", "leaves", "(I)V"⟩ ∈ gtb := gtb_of (List.mem_append_right _ (List.mem_of_getElem? (i := 845) (by decide +kernel))) (by decide +kernel)
theorem ww_355 : Cond.selects "BorrowedVoiceModel" ⟨"BorrowedVoiceModel", "leaves", "(I)V"⟩ ⟨"BorrowedVoiceModel", "leaves", "(I)V"⟩ ∈ gtb := gtb_of (List.mem_append_left _ (List.mem_of_getElem? (i := 47) (by decide +kernel))) (by decide +kernel)
theorem ww_356 : Cond.instanceMethod ⟨"BorrowedVoiceModel", "leaves", "(I)V"⟩ ∈ gtb := gtb_of (List.mem_append_right _ (List.mem_of_getElem? (i := 847) (by decide +kernel))) (by decide +kernel)
theorem ww_357 : Cond.methodLink "BorrowedVoiceModel" 200 ⟨"BorrowedVoiceModel", "slipBy", "(II)I"⟩ ∈ gtb := gtb_of (List.mem_append_right _ (List.mem_of_getElem? (i := 861) (by decide +kernel))) (by decide +kernel)
theorem ww_358 : Cond.static ⟨"BorrowedVoiceModel", "slipBy", "(II)I"⟩ ∈ gtb := gtb_of (List.mem_append_right _ (List.mem_of_getElem? (i := 862) (by decide +kernel))) (by decide +kernel)
theorem ww_359 : Cond.methodLink "BorrowedVoiceModel" 203 ⟨"BorrowedVoiceModel", "isOne", "(I)Z"⟩ ∈ gtb := gtb_of (List.mem_append_right _ (List.mem_of_getElem? (i := 817) (by decide +kernel))) (by decide +kernel)
theorem ww_360 : Cond.selects "BorrowedVoiceModel" ⟨"BorrowedVoiceModel", "isOne", "(I)Z"⟩ ⟨"BorrowedVoiceModel", "isOne", "(I)Z"⟩ ∈ gtb := gtb_of (List.mem_append_left _ (List.mem_of_getElem? (i := 40) (by decide +kernel))) (by decide +kernel)
theorem ww_361 : Cond.instanceMethod ⟨"BorrowedVoiceModel", "isOne", "(I)Z"⟩ ∈ gtb := gtb_of (List.mem_append_right _ (List.mem_of_getElem? (i := 819) (by decide +kernel))) (by decide +kernel)
theorem ww_362 : Cond.methodLink "BorrowedVoiceModel" 206 ⟨"BorrowedVoiceModel", "ten", "()I"⟩ ∈ gtb := gtb_of (List.mem_append_right _ (List.mem_of_getElem? (i := 821) (by decide +kernel))) (by decide +kernel)
theorem ww_363 : Cond.selects "BorrowedVoiceModel" ⟨"BorrowedVoiceModel", "ten", "()I"⟩ ⟨"BorrowedVoiceModel", "ten", "()I"⟩ ∈ gtb := gtb_of (List.mem_append_left _ (List.mem_of_getElem? (i := 41) (by decide +kernel))) (by decide +kernel)
theorem ww_364 : Cond.instanceMethod ⟨"BorrowedVoiceModel", "ten", "()I"⟩ ∈ gtb := gtb_of (List.mem_append_right _ (List.mem_of_getElem? (i := 823) (by decide +kernel))) (by decide +kernel)
theorem ww_365 : Cond.methodLink "BorrowedVoiceModel" 209 ⟨"BorrowedVoiceModel", "no", "()I"⟩ ∈ gtb := gtb_of (List.mem_append_right _ (List.mem_of_getElem? (i := 825) (by decide +kernel))) (by decide +kernel)
theorem ww_366 : Cond.selects "BorrowedVoiceModel" ⟨"BorrowedVoiceModel", "no", "()I"⟩ ⟨"BorrowedVoiceModel", "no", "()I"⟩ ∈ gtb := gtb_of (List.mem_append_left _ (List.mem_of_getElem? (i := 42) (by decide +kernel))) (by decide +kernel)
theorem ww_367 : Cond.instanceMethod ⟨"BorrowedVoiceModel", "no", "()I"⟩ ∈ gtb := gtb_of (List.mem_append_right _ (List.mem_of_getElem? (i := 827) (by decide +kernel))) (by decide +kernel)
theorem ww_368 : Cond.methodLink "BorrowedVoiceModel" 212 ⟨"BorrowedVoiceModel", "notes", "()V"⟩ ∈ gtb := gtb_of (List.mem_append_right _ (List.mem_of_getElem? (i := 829) (by decide +kernel))) (by decide +kernel)
theorem ww_369 : Cond.selects "BorrowedVoiceModel" ⟨"BorrowedVoiceModel", "notes", "()V"⟩ ⟨"BorrowedVoiceModel", "notes", "()V"⟩ ∈ gtb := gtb_of (List.mem_append_left _ (List.mem_of_getElem? (i := 43) (by decide +kernel))) (by decide +kernel)
theorem ww_370 : Cond.instanceMethod ⟨"BorrowedVoiceModel", "notes", "()V"⟩ ∈ gtb := gtb_of (List.mem_append_right _ (List.mem_of_getElem? (i := 831) (by decide +kernel))) (by decide +kernel)
theorem ww_371 : Cond.methodLink "BorrowedVoiceModel" 215 ⟨"BorrowedVoiceModel", "lends", "(II)I"⟩ ∈ gtb := gtb_of (List.mem_append_right _ (List.mem_of_getElem? (i := 837) (by decide +kernel))) (by decide +kernel)
theorem ww_372 : Cond.selects "BorrowedVoiceModel" ⟨"BorrowedVoiceModel", "lends", "(II)I"⟩ ⟨"BorrowedVoiceModel", "lends", "(II)I"⟩ ∈ gtb := gtb_of (List.mem_append_left _ (List.mem_of_getElem? (i := 45) (by decide +kernel))) (by decide +kernel)
theorem ww_373 : Cond.instanceMethod ⟨"BorrowedVoiceModel", "lends", "(II)I"⟩ ∈ gtb := gtb_of (List.mem_append_right _ (List.mem_of_getElem? (i := 839) (by decide +kernel))) (by decide +kernel)
theorem ww_374 : Cond.methodLink "BorrowedVoiceModel" 218 ⟨"BorrowedVoiceModel", "pass", "()I"⟩ ∈ gtb := gtb_of (List.mem_append_right _ (List.mem_of_getElem? (i := 857) (by decide +kernel))) (by decide +kernel)
theorem ww_375 : Cond.selects "BorrowedVoiceModel" ⟨"BorrowedVoiceModel", "pass", "()I"⟩ ⟨"BorrowedVoiceModel", "pass", "()I"⟩ ∈ gtb := gtb_of (List.mem_append_left _ (List.mem_of_getElem? (i := 48) (by decide +kernel))) (by decide +kernel)
theorem ww_376 : Cond.instanceMethod ⟨"BorrowedVoiceModel", "pass", "()I"⟩ ∈ gtb := gtb_of (List.mem_append_right _ (List.mem_of_getElem? (i := 859) (by decide +kernel))) (by decide +kernel)
theorem ww_377 : Cond.methodLink "BorrowedVoiceModel" 221 ⟨"BorrowedVoiceModel", "fitNow", "(I)I"⟩ ∈ gtb := gtb_of (List.mem_append_right _ (List.mem_of_getElem? (i := 876) (by decide +kernel))) (by decide +kernel)
theorem ww_378 : Cond.selects "BorrowedVoiceModel" ⟨"BorrowedVoiceModel", "fitNow", "(I)I"⟩ ⟨"BorrowedVoiceModel", "fitNow", "(I)I"⟩ ∈ gtb := gtb_of (List.mem_append_left _ (List.mem_of_getElem? (i := 50) (by decide +kernel))) (by decide +kernel)
theorem ww_379 : Cond.instanceMethod ⟨"BorrowedVoiceModel", "fitNow", "(I)I"⟩ ∈ gtb := gtb_of (List.mem_append_right _ (List.mem_of_getElem? (i := 878) (by decide +kernel))) (by decide +kernel)
theorem ww_380 : Cond.fieldLink "BorrowedVoiceModel" 61 "BorrowedVoiceModel" "line" "[I" ∈ gtb := gtb_of (List.mem_append_right _ (List.mem_of_getElem? (i := 644) (by decide +kernel))) (by decide +kernel)
theorem ww_381 : Cond.fieldLink "BorrowedVoiceModel" 64 "BorrowedVoiceModel" "bestLine" "[I" ∈ gtb := gtb_of (List.mem_append_right _ (List.mem_of_getElem? (i := 645) (by decide +kernel))) (by decide +kernel)
theorem ww_382 : Cond.methodLink "BorrowedVoiceModel" 224 ⟨"BorrowedVoiceModel", "nextLine", "()Z"⟩ ∈ gtb := gtb_of (List.mem_append_right _ (List.mem_of_getElem? (i := 906) (by decide +kernel))) (by decide +kernel)
theorem ww_383 : Cond.selects "BorrowedVoiceModel" ⟨"BorrowedVoiceModel", "nextLine", "()Z"⟩ ⟨"BorrowedVoiceModel", "nextLine", "()Z"⟩ ∈ gtb := gtb_of (List.mem_append_left _ (List.mem_of_getElem? (i := 53) (by decide +kernel))) (by decide +kernel)
theorem ww_384 : Cond.instanceMethod ⟨"BorrowedVoiceModel", "nextLine", "()Z"⟩ ∈ gtb := gtb_of (List.mem_append_right _ (List.mem_of_getElem? (i := 908) (by decide +kernel))) (by decide +kernel)
theorem ww_385 : Cond.methodLink "BorrowedVoiceModel" 227 ⟨"BorrowedVoiceModel", "ringOf", "(I)I"⟩ ∈ gtb := gtb_of (List.mem_append_right _ (List.mem_of_getElem? (i := 918) (by decide +kernel))) (by decide +kernel)
theorem ww_386 : Cond.selects "BorrowedVoiceModel" ⟨"BorrowedVoiceModel", "ringOf", "(I)I"⟩ ⟨"BorrowedVoiceModel", "ringOf", "(I)I"⟩ ∈ gtb := gtb_of (List.mem_append_left _ (List.mem_of_getElem? (i := 54) (by decide +kernel))) (by decide +kernel)
theorem ww_387 : Cond.instanceMethod ⟨"BorrowedVoiceModel", "ringOf", "(I)I"⟩ ∈ gtb := gtb_of (List.mem_append_right _ (List.mem_of_getElem? (i := 920) (by decide +kernel))) (by decide +kernel)
theorem ww_388 : Cond.methodLink "BorrowedVoiceModel" 230 ⟨"BorrowedVoiceModel", "isSwap", "(II)Z"⟩ ∈ gtb := gtb_of (List.mem_append_right _ (List.mem_of_getElem? (i := 930) (by decide +kernel))) (by decide +kernel)
theorem ww_389 : Cond.selects "BorrowedVoiceModel" ⟨"BorrowedVoiceModel", "isSwap", "(II)Z"⟩ ⟨"BorrowedVoiceModel", "isSwap", "(II)Z"⟩ ∈ gtb := gtb_of (List.mem_append_left _ (List.mem_of_getElem? (i := 55) (by decide +kernel))) (by decide +kernel)
theorem ww_390 : Cond.instanceMethod ⟨"BorrowedVoiceModel", "isSwap", "(II)Z"⟩ ∈ gtb := gtb_of (List.mem_append_right _ (List.mem_of_getElem? (i := 932) (by decide +kernel))) (by decide +kernel)
theorem ww_391 : Cond.methodLink "BorrowedVoiceModel" 233 ⟨"BorrowedVoiceModel", "puts", "()V"⟩ ∈ gtb := gtb_of (List.mem_append_right _ (List.mem_of_getElem? (i := 938) (by decide +kernel))) (by decide +kernel)
theorem ww_392 : Cond.selects "BorrowedVoiceModel" ⟨"BorrowedVoiceModel", "puts", "()V"⟩ ⟨"BorrowedVoiceModel", "puts", "()V"⟩ ∈ gtb := gtb_of (List.mem_append_left _ (List.mem_of_getElem? (i := 56) (by decide +kernel))) (by decide +kernel)
theorem ww_393 : Cond.instanceMethod ⟨"BorrowedVoiceModel", "puts", "()V"⟩ ∈ gtb := gtb_of (List.mem_append_right _ (List.mem_of_getElem? (i := 940) (by decide +kernel))) (by decide +kernel)
theorem ww_394 : Cond.methodLink "BorrowedVoiceModel" 236 ⟨"BorrowedVoiceModel", "firstSwap", "()I"⟩ ∈ gtb := gtb_of (List.mem_append_right _ (List.mem_of_getElem? (i := 942) (by decide +kernel))) (by decide +kernel)
theorem ww_395 : Cond.selects "BorrowedVoiceModel" ⟨"BorrowedVoiceModel", "firstSwap", "()I"⟩ ⟨"BorrowedVoiceModel", "firstSwap", "()I"⟩ ∈ gtb := gtb_of (List.mem_append_left _ (List.mem_of_getElem? (i := 57) (by decide +kernel))) (by decide +kernel)
theorem ww_396 : Cond.instanceMethod ⟨"BorrowedVoiceModel", "firstSwap", "()I"⟩ ∈ gtb := gtb_of (List.mem_append_right _ (List.mem_of_getElem? (i := 944) (by decide +kernel))) (by decide +kernel)
theorem ww_397 : Cond.methodLink "BorrowedVoiceModel" 239 ⟨"BorrowedVoiceModel", "back", "()V"⟩ ∈ gtb := gtb_of (List.mem_append_right _ (List.mem_of_getElem? (i := 946) (by decide +kernel))) (by decide +kernel)
theorem ww_398 : Cond.selects "BorrowedVoiceModel" ⟨"BorrowedVoiceModel", "back", "()V"⟩ ⟨"BorrowedVoiceModel", "back", "()V"⟩ ∈ gtb := gtb_of (List.mem_append_left _ (List.mem_of_getElem? (i := 58) (by decide +kernel))) (by decide +kernel)
theorem ww_399 : Cond.instanceMethod ⟨"BorrowedVoiceModel", "back", "()V"⟩ ∈ gtb := gtb_of (List.mem_append_right _ (List.mem_of_getElem? (i := 948) (by decide +kernel))) (by decide +kernel)
theorem ww_400 : Cond.fieldLink "BorrowedVoiceModel" 31 "BorrowedVoiceModel" "noteVoice" "[I" ∈ gtb := gtb_of (List.mem_append_right _ (List.mem_of_getElem? (i := 629) (by decide +kernel))) (by decide +kernel)
theorem ww_401 : Cond.fieldLink "BorrowedVoiceModel" 34 "BorrowedVoiceModel" "noteUsed" "[I" ∈ gtb := gtb_of (List.mem_append_right _ (List.mem_of_getElem? (i := 630) (by decide +kernel))) (by decide +kernel)
theorem ww_402 : Cond.fieldLink "BorrowedVoiceModel" 37 "BorrowedVoiceModel" "noteDay" "[I" ∈ gtb := gtb_of (List.mem_append_right _ (List.mem_of_getElem? (i := 631) (by decide +kernel))) (by decide +kernel)
theorem ww_403 : Cond.fieldLink "BorrowedVoiceModel" 40 "BorrowedVoiceModel" "noteSort" "[I" ∈ gtb := gtb_of (List.mem_append_right _ (List.mem_of_getElem? (i := 632) (by decide +kernel))) (by decide +kernel)
theorem ww_404 : Cond.fieldLink "BorrowedVoiceModel" 43 "BorrowedVoiceModel" "noteWords" "[I" ∈ gtb := gtb_of (List.mem_append_right _ (List.mem_of_getElem? (i := 633) (by decide +kernel))) (by decide +kernel)
theorem ww_405 : Cond.methodLink "BorrowedVoiceModel" 242 ⟨"BorrowedVoiceModel", "kindsOf", "(I)I"⟩ ∈ gtb := gtb_of (List.mem_append_right _ (List.mem_of_getElem? (i := 970) (by decide +kernel))) (by decide +kernel)
theorem ww_406 : Cond.selects "BorrowedVoiceModel" ⟨"BorrowedVoiceModel", "kindsOf", "(I)I"⟩ ⟨"BorrowedVoiceModel", "kindsOf", "(I)I"⟩ ∈ gtb := gtb_of (List.mem_append_left _ (List.mem_of_getElem? (i := 59) (by decide +kernel))) (by decide +kernel)
theorem ww_407 : Cond.instanceMethod ⟨"BorrowedVoiceModel", "kindsOf", "(I)I"⟩ ∈ gtb := gtb_of (List.mem_append_right _ (List.mem_of_getElem? (i := 972) (by decide +kernel))) (by decide +kernel)
theorem ww_408 : Cond.methodLink "BorrowedVoiceModel" 245 ⟨"BorrowedVoiceModel", "has", "(II)Z"⟩ ∈ gtb := gtb_of (List.mem_append_right _ (List.mem_of_getElem? (i := 982) (by decide +kernel))) (by decide +kernel)
theorem ww_409 : Cond.static ⟨"BorrowedVoiceModel", "has", "(II)Z"⟩ ∈ gtb := gtb_of (List.mem_append_right _ (List.mem_of_getElem? (i := 983) (by decide +kernel))) (by decide +kernel)
theorem ww_410 : Cond.methodLink "BorrowedVoiceModel" 248 ⟨"BorrowedVoiceModel", "alike", "(IIII)I"⟩ ∈ gtb := gtb_of (List.mem_append_right _ (List.mem_of_getElem? (i := 978) (by decide +kernel))) (by decide +kernel)
theorem ww_411 : Cond.selects "BorrowedVoiceModel" ⟨"BorrowedVoiceModel", "alike", "(IIII)I"⟩ ⟨"BorrowedVoiceModel", "alike", "(IIII)I"⟩ ∈ gtb := gtb_of (List.mem_append_left _ (List.mem_of_getElem? (i := 60) (by decide +kernel))) (by decide +kernel)
theorem ww_412 : Cond.instanceMethod ⟨"BorrowedVoiceModel", "alike", "(IIII)I"⟩ ∈ gtb := gtb_of (List.mem_append_right _ (List.mem_of_getElem? (i := 980) (by decide +kernel))) (by decide +kernel)
theorem ww_413 : Cond.methodLink "BorrowedVoiceModel" 252 ⟨"BorrowedVoiceModel", "gets", "(IIZZZ)I"⟩ ∈ gtb := gtb_of (List.mem_append_right _ (List.mem_of_getElem? (i := 993) (by decide +kernel))) (by decide +kernel)
theorem ww_414 : Cond.selects "BorrowedVoiceModel" ⟨"BorrowedVoiceModel", "gets", "(IIZZZ)I"⟩ ⟨"BorrowedVoiceModel", "gets", "(IIZZZ)I"⟩ ∈ gtb := gtb_of (List.mem_append_left _ (List.mem_of_getElem? (i := 61) (by decide +kernel))) (by decide +kernel)
theorem ww_415 : Cond.instanceMethod ⟨"BorrowedVoiceModel", "gets", "(IIZZZ)I"⟩ ∈ gtb := gtb_of (List.mem_append_right _ (List.mem_of_getElem? (i := 995) (by decide +kernel))) (by decide +kernel)
theorem ww_416 : Cond.fieldLink "BorrowedVoiceModel" 256 "BorrowedVoiceModel" "above" "J" ∈ gtb := gtb_of (List.mem_append_right _ (List.mem_of_getElem? (i := 646) (by decide +kernel))) (by decide +kernel)
theorem ww_417 : Cond.fieldLink "BorrowedVoiceModel" 67 "BorrowedVoiceModel" "below" "J" ∈ gtb := gtb_of (List.mem_append_right _ (List.mem_of_getElem? (i := 647) (by decide +kernel))) (by decide +kernel)
theorem ww_418 : Cond.methodLink "BorrowedVoiceModel" 259 ⟨"BorrowedVoiceModel", "atCounter", "()I"⟩ ∈ gtb := gtb_of (List.mem_append_right _ (List.mem_of_getElem? (i := 1001) (by decide +kernel))) (by decide +kernel)
theorem ww_419 : Cond.selects "BorrowedVoiceModel" ⟨"BorrowedVoiceModel", "atCounter", "()I"⟩ ⟨"BorrowedVoiceModel", "atCounter", "()I"⟩ ∈ gtb := gtb_of (List.mem_append_left _ (List.mem_of_getElem? (i := 62) (by decide +kernel))) (by decide +kernel)
theorem ww_420 : Cond.instanceMethod ⟨"BorrowedVoiceModel", "atCounter", "()I"⟩ ∈ gtb := gtb_of (List.mem_append_right _ (List.mem_of_getElem? (i := 1003) (by decide +kernel))) (by decide +kernel)
theorem ww_421 : Cond.constantLong "BorrowedVoiceModel" 262 (10) ∈ gtb := gtb_of (List.mem_append_right _ (List.mem_of_getElem? (i := 1005) (by decide +kernel))) (by decide +kernel)
theorem ww_422 : Cond.methodLink "BorrowedVoiceModel" 264 ⟨"BorrowedVoiceModel", "bits", "(I)I"⟩ ∈ gtb := gtb_of (List.mem_append_right _ (List.mem_of_getElem? (i := 1006) (by decide +kernel))) (by decide +kernel)
theorem ww_423 : Cond.static ⟨"BorrowedVoiceModel", "bits", "(I)I"⟩ ∈ gtb := gtb_of (List.mem_append_right _ (List.mem_of_getElem? (i := 1007) (by decide +kernel))) (by decide +kernel)
theorem ww_424 : Cond.methodLink "BorrowedVoiceModel" 267 ⟨"BorrowedVoiceModel", "lay", "(JJ)V"⟩ ∈ gtb := gtb_of (List.mem_append_right _ (List.mem_of_getElem? (i := 1009) (by decide +kernel))) (by decide +kernel)
theorem ww_425 : Cond.selects "BorrowedVoiceModel" ⟨"BorrowedVoiceModel", "lay", "(JJ)V"⟩ ⟨"BorrowedVoiceModel", "lay", "(JJ)V"⟩ ∈ gtb := gtb_of (List.mem_append_left _ (List.mem_of_getElem? (i := 63) (by decide +kernel))) (by decide +kernel)
theorem ww_426 : Cond.instanceMethod ⟨"BorrowedVoiceModel", "lay", "(JJ)V"⟩ ∈ gtb := gtb_of (List.mem_append_right _ (List.mem_of_getElem? (i := 1011) (by decide +kernel))) (by decide +kernel)
theorem ww_427 : Cond.constant "BorrowedVoiceModel" 271 (999999) ∈ gtb := gtb_of (List.mem_append_right _ (List.mem_of_getElem? (i := 1017) (by decide +kernel))) (by decide +kernel)
theorem ww_428 : Cond.constantLong "BorrowedVoiceModel" 272 (1103515245) ∈ gtb := gtb_of (List.mem_append_right _ (List.mem_of_getElem? (i := 1018) (by decide +kernel))) (by decide +kernel)
theorem ww_429 : Cond.constantLong "BorrowedVoiceModel" 274 (12345) ∈ gtb := gtb_of (List.mem_append_right _ (List.mem_of_getElem? (i := 1019) (by decide +kernel))) (by decide +kernel)
theorem ww_430 : Cond.constantLong "BorrowedVoiceModel" 276 (2147483648) ∈ gtb := gtb_of (List.mem_append_right _ (List.mem_of_getElem? (i := 1020) (by decide +kernel))) (by decide +kernel)
theorem ww_431 : Cond.constantLong "BorrowedVoiceModel" 278 (65536) ∈ gtb := gtb_of (List.mem_append_right _ (List.mem_of_getElem? (i := 1021) (by decide +kernel))) (by decide +kernel)
theorem ww_432 : Cond.fieldLink "BorrowedVoiceModel" 74 "BorrowedVoiceModel" "isKept" "[I" ∈ gtb := gtb_of (List.mem_append_right _ (List.mem_of_getElem? (i := 649) (by decide +kernel))) (by decide +kernel)
theorem ww_433 : Cond.fieldLink "BorrowedVoiceModel" 71 "BorrowedVoiceModel" "images" "[I" ∈ gtb := gtb_of (List.mem_append_right _ (List.mem_of_getElem? (i := 648) (by decide +kernel))) (by decide +kernel)
theorem ww_434 : Cond.methodLink "BorrowedVoiceModel" 280 ⟨"BorrowedVoiceModel", "allSlipped", "()I"⟩ ∈ gtb := gtb_of (List.mem_append_right _ (List.mem_of_getElem? (i := 1046) (by decide +kernel))) (by decide +kernel)
theorem ww_435 : Cond.selects "BorrowedVoiceModel" ⟨"BorrowedVoiceModel", "allSlipped", "()I"⟩ ⟨"BorrowedVoiceModel", "allSlipped", "()I"⟩ ∈ gtb := gtb_of (List.mem_append_left _ (List.mem_of_getElem? (i := 65) (by decide +kernel))) (by decide +kernel)
theorem ww_436 : Cond.instanceMethod ⟨"BorrowedVoiceModel", "allSlipped", "()I"⟩ ∈ gtb := gtb_of (List.mem_append_right _ (List.mem_of_getElem? (i := 1048) (by decide +kernel))) (by decide +kernel)
theorem ww_437 : Cond.methodLink "BorrowedVoiceModel" 283 ⟨"BorrowedVoiceModel", "countOf", "(I)I"⟩ ∈ gtb := gtb_of (List.mem_append_right _ (List.mem_of_getElem? (i := 1042) (by decide +kernel))) (by decide +kernel)
theorem ww_438 : Cond.selects "BorrowedVoiceModel" ⟨"BorrowedVoiceModel", "countOf", "(I)I"⟩ ⟨"BorrowedVoiceModel", "countOf", "(I)I"⟩ ∈ gtb := gtb_of (List.mem_append_left _ (List.mem_of_getElem? (i := 64) (by decide +kernel))) (by decide +kernel)
theorem ww_439 : Cond.instanceMethod ⟨"BorrowedVoiceModel", "countOf", "(I)I"⟩ ∈ gtb := gtb_of (List.mem_append_right _ (List.mem_of_getElem? (i := 1044) (by decide +kernel))) (by decide +kernel)
theorem ww_440 : Cond.constantLong "BorrowedVoiceModel" 286 (31) ∈ gtb := gtb_of (List.mem_append_right _ (List.mem_of_getElem? (i := 1059) (by decide +kernel))) (by decide +kernel)
theorem ww_441 : Cond.fieldLink "BorrowedVoiceModel" 288 "BorrowedVoiceModel" "h0" "J" ∈ gtb := gtb_of (List.mem_append_right _ (List.mem_of_getElem? (i := 650) (by decide +kernel))) (by decide +kernel)
theorem ww_442 : Cond.constantLong "BorrowedVoiceModel" 291 (1297) ∈ gtb := gtb_of (List.mem_append_right _ (List.mem_of_getElem? (i := 1054) (by decide +kernel))) (by decide +kernel)
theorem ww_443 : Cond.methodLink "BorrowedVoiceModel" 293 ⟨"BorrowedVoiceModel", "mix", "(J)V"⟩ ∈ gtb := gtb_of (List.mem_append_right _ (List.mem_of_getElem? (i := 1055) (by decide +kernel))) (by decide +kernel)
theorem ww_444 : Cond.selects "BorrowedVoiceModel" ⟨"BorrowedVoiceModel", "mix", "(J)V"⟩ ⟨"BorrowedVoiceModel", "mix", "(J)V"⟩ ∈ gtb := gtb_of (List.mem_append_left _ (List.mem_of_getElem? (i := 66) (by decide +kernel))) (by decide +kernel)
theorem ww_445 : Cond.instanceMethod ⟨"BorrowedVoiceModel", "mix", "(J)V"⟩ ∈ gtb := gtb_of (List.mem_append_right _ (List.mem_of_getElem? (i := 1057) (by decide +kernel))) (by decide +kernel)
theorem ww_446 : Cond.constant "java/lang/Integer" 265 (1431655765) ∈ gtb := gtb_of (List.mem_append_right _ (List.mem_of_getElem? (i := 420) (by decide +kernel))) (by decide +kernel)
theorem ww_447 : Cond.constant "java/lang/Integer" 266 (858993459) ∈ gtb := gtb_of (List.mem_append_right _ (List.mem_of_getElem? (i := 421) (by decide +kernel))) (by decide +kernel)
theorem ww_448 : Cond.constant "java/lang/Integer" 267 (252645135) ∈ gtb := gtb_of (List.mem_append_right _ (List.mem_of_getElem? (i := 422) (by decide +kernel))) (by decide +kernel)
theorem ww_449 : Cond.initialized "BorrowedVoice$House" ∈ gtb := gtb_of (List.mem_append_right _ (List.mem_of_getElem? (i := 2) (by decide +kernel))) (by decide +kernel)
theorem ww_450 : Cond.initialized "BorrowedVoice$Kinds" ∈ gtb := gtb_of (List.mem_append_right _ (List.mem_of_getElem? (i := 10) (by decide +kernel))) (by decide +kernel)
theorem ww_451 : Cond.initialized "BorrowedVoice$Reader" ∈ gtb := gtb_of (List.mem_append_right _ (List.mem_of_getElem? (i := 3) (by decide +kernel))) (by decide +kernel)
theorem ww_452 : Cond.initialized "BorrowedVoice" ∈ gtb := gtb_of (List.mem_append_right _ (List.mem_of_getElem? (i := 1) (by decide +kernel))) (by decide +kernel)
theorem ww_453 : Cond.initialized "BorrowedVoiceModel" ∈ gtb := gtb_of (List.mem_append_right _ (List.mem_of_getElem? (i := 4) (by decide +kernel))) (by decide +kernel)
theorem ww_454 : Cond.initialized "java/lang/Integer" ∈ gtb := gtb_of (List.mem_append_right _ (List.mem_of_getElem? (i := 12) (by decide +kernel))) (by decide +kernel)
theorem mkX0_empty : MDok mdX0_empty 0 := ⟨by decide +kernel, gtb_of (List.mem_append_right _ (List.mem_of_getElem? (i := 154) (by decide +kernel))) (by decide +kernel), ww_449, by decide +kernel, by decide +kernel, by decide +kernel⟩
theorem mkX0_becomeLike : MDok mdX0_becomeLike 1 := ⟨by decide +kernel, gtb_of (List.mem_append_right _ (List.mem_of_getElem? (i := 311) (by decide +kernel))) (by decide +kernel), ww_449, by decide +kernel, by decide +kernel, by decide +kernel⟩
theorem mkX0_welcome : MDok mdX0_welcome 3 := ⟨by decide +kernel, gtb_of (List.mem_append_right _ (List.mem_of_getElem? (i := 176) (by decide +kernel))) (by decide +kernel), ww_449, by decide +kernel, by decide +kernel, by decide +kernel⟩
theorem mkX0_voiceWith : MDok mdX0_voiceWith 1 := ⟨by decide +kernel, gtb_of (List.mem_append_right _ (List.mem_of_getElem? (i := 292) (by decide +kernel))) (by decide +kernel), ww_449, by decide +kernel, by decide +kernel, by decide +kernel⟩
theorem mkX0_give : MDok mdX0_give 2 := ⟨by decide +kernel, gtb_of (List.mem_append_right _ (List.mem_of_getElem? (i := 305) (by decide +kernel))) (by decide +kernel), ww_449, by decide +kernel, by decide +kernel, by decide +kernel⟩
theorem mkX0_putDown : MDok mdX0_putDown 1 := ⟨by decide +kernel, gtb_of (List.mem_append_right _ (List.mem_of_getElem? (i := 296) (by decide +kernel))) (by decide +kernel), ww_449, by decide +kernel, by decide +kernel, by decide +kernel⟩
theorem mkX0_isWithAnother : MDok mdX0_isWithAnother 1 := ⟨by decide +kernel, gtb_of (List.mem_append_right _ (List.mem_of_getElem? (i := 353) (by decide +kernel))) (by decide +kernel), ww_449, by decide +kernel, by decide +kernel, by decide +kernel⟩
theorem mkX0_goOneEvening : MDok mdX0_goOneEvening 0 := ⟨by decide +kernel, gtb_of (List.mem_append_right _ (List.mem_of_getElem? (i := 349) (by decide +kernel))) (by decide +kernel), ww_449, by decide +kernel, by decide +kernel, by decide +kernel⟩
theorem mkX0_keepPast : MDok mdX0_keepPast 0 := ⟨by decide +kernel, gtb_of (List.mem_append_right _ (List.mem_of_getElem? (i := 334) (by decide +kernel))) (by decide +kernel), ww_449, by decide +kernel, by decide +kernel, by decide +kernel⟩
theorem mkX0_goBack : MDok mdX0_goBack 0 := ⟨by decide +kernel, gtb_of (List.mem_append_right _ (List.mem_of_getElem? (i := 373) (by decide +kernel))) (by decide +kernel), ww_449, by decide +kernel, by decide +kernel, by decide +kernel⟩
theorem mkX0_soundOf : MDok mdX0_soundOf 1 := ⟨by decide +kernel, gtb_of (List.mem_append_right _ (List.mem_of_getElem? (i := 389) (by decide +kernel))) (by decide +kernel), ww_449, by decide +kernel, by decide +kernel, by decide +kernel⟩
theorem mkX0_fitWith : MDok mdX0_fitWith 2 := ⟨by decide +kernel, gtb_of (List.mem_append_right _ (List.mem_of_getElem? (i := 385) (by decide +kernel))) (by decide +kernel), ww_449, by decide +kernel, by decide +kernel, by decide +kernel⟩
theorem mkX0_fitNow : MDok mdX0_fitNow 1 := ⟨by decide +kernel, gtb_of (List.mem_append_right _ (List.mem_of_getElem? (i := 381) (by decide +kernel))) (by decide +kernel), ww_449, by decide +kernel, by decide +kernel, by decide +kernel⟩
theorem mkX0_leastFit : MDok mdX0_leastFit 0 := ⟨by decide +kernel, gtb_of (List.mem_append_right _ (List.mem_of_getElem? (i := 483) (by decide +kernel))) (by decide +kernel), ww_449, by decide +kernel, by decide +kernel, by decide +kernel⟩
theorem mkX0_ringFrom : MDok mdX0_ringFrom 1 := ⟨by decide +kernel, gtb_of (List.mem_append_right _ (List.mem_of_getElem? (i := 442) (by decide +kernel))) (by decide +kernel), ww_449, by decide +kernel, by decide +kernel, by decide +kernel⟩
theorem mkX0_ringsOfTwoOrMore : MDok mdX0_ringsOfTwoOrMore 0 := ⟨by decide +kernel, gtb_of (List.mem_append_right _ (List.mem_of_getElem? (i := 438) (by decide +kernel))) (by decide +kernel), ww_449, by decide +kernel, by decide +kernel, by decide +kernel⟩
theorem mkX0_isFirstOfRing : MDok mdX0_isFirstOfRing 1 := ⟨by decide +kernel, gtb_of (List.mem_append_right _ (List.mem_of_getElem? (i := 446) (by decide +kernel))) (by decide +kernel), ww_449, by decide +kernel, by decide +kernel, by decide +kernel⟩
theorem mkX0_bothWouldRather : MDok mdX0_bothWouldRather 2 := ⟨by decide +kernel, gtb_of (List.mem_append_right _ (List.mem_of_getElem? (i := 463) (by decide +kernel))) (by decide +kernel), ww_449, by decide +kernel, by decide +kernel, by decide +kernel⟩
theorem mkX0_howManySwaps : MDok mdX0_howManySwaps 0 := ⟨by decide +kernel, gtb_of (List.mem_append_right _ (List.mem_of_getElem? (i := 459) (by decide +kernel))) (by decide +kernel), ww_449, by decide +kernel, by decide +kernel, by decide +kernel⟩
theorem mkX0_swapAt : MDok mdX0_swapAt 1 := ⟨by decide +kernel, gtb_of (List.mem_append_right _ (List.mem_of_getElem? (i := 467) (by decide +kernel))) (by decide +kernel), ww_449, by decide +kernel, by decide +kernel, by decide +kernel⟩
theorem mkX0_exchange : MDok mdX0_exchange 2 := ⟨by decide +kernel, gtb_of (List.mem_append_right _ (List.mem_of_getElem? (i := 475) (by decide +kernel))) (by decide +kernel), ww_449, by decide +kernel, by decide +kernel, by decide +kernel⟩
theorem mkX0_writeDown : MDok mdX0_writeDown 5 := ⟨by decide +kernel, gtb_of (List.mem_append_right _ (List.mem_of_getElem? (i := 498) (by decide +kernel))) (by decide +kernel), ww_449, by decide +kernel, by decide +kernel, by decide +kernel⟩
theorem mkX0_kindsByNotes : MDok mdX0_kindsByNotes 1 := ⟨by decide +kernel, gtb_of (List.mem_append_right _ (List.mem_of_getElem? (i := 510) (by decide +kernel))) (by decide +kernel), ww_449, by decide +kernel, by decide +kernel, by decide +kernel⟩
theorem mkX0_isSoByNote : MDok mdX0_isSoByNote 2 := ⟨by decide +kernel, gtb_of (List.mem_append_right _ (List.mem_of_getElem? (i := 514) (by decide +kernel))) (by decide +kernel), ww_449, by decide +kernel, by decide +kernel, by decide +kernel⟩
theorem mkX0_lendOrLeave : MDok mdX0_lendOrLeave 2 := ⟨by decide +kernel, gtb_of (List.mem_append_right _ (List.mem_of_getElem? (i := 568) (by decide +kernel))) (by decide +kernel), ww_449, by decide +kernel, by decide +kernel, by decide +kernel⟩
theorem mkX0_atCounter : MDok mdX0_atCounter 0 := ⟨by decide +kernel, gtb_of (List.mem_append_right _ (List.mem_of_getElem? (i := 542) (by decide +kernel))) (by decide +kernel), ww_449, by decide +kernel, by decide +kernel, by decide +kernel⟩
theorem mkX0_allSlipped : MDok mdX0_allSlipped 0 := ⟨by decide +kernel, gtb_of (List.mem_append_right _ (List.mem_of_getElem? (i := 597) (by decide +kernel))) (by decide +kernel), ww_449, by decide +kernel, by decide +kernel, by decide +kernel⟩
theorem mkX0_digestOn : MDok mdX0_digestOn 1 := ⟨by decide +kernel, gtb_of (List.mem_append_right _ (List.mem_of_getElem? (i := 607) (by decide +kernel))) (by decide +kernel), ww_449, by decide +kernel, by decide +kernel, by decide +kernel⟩
theorem mkX1_soundOf : MDok mdX1_soundOf 3 := ⟨by decide +kernel, gtb_of (List.mem_append_right _ (List.mem_of_getElem? (i := 392) (by decide +kernel))) (by decide +kernel), ww_450, by decide +kernel, by decide +kernel, by decide +kernel⟩
theorem mkX1_wordsOf : MDok mdX1_wordsOf 2 := ⟨by decide +kernel, gtb_of (List.mem_append_right _ (List.mem_of_getElem? (i := 356) (by decide +kernel))) (by decide +kernel), ww_450, by decide +kernel, by decide +kernel, by decide +kernel⟩
theorem mkX1_plainWords : MDok mdX1_plainWords 1 := ⟨by decide +kernel, gtb_of (List.mem_append_right _ (List.mem_of_getElem? (i := 362) (by decide +kernel))) (by decide +kernel), ww_450, by decide +kernel, by decide +kernel, by decide +kernel⟩
theorem mkX1_trebleWords : MDok mdX1_trebleWords 1 := ⟨by decide +kernel, gtb_of (List.mem_append_right _ (List.mem_of_getElem? (i := 359) (by decide +kernel))) (by decide +kernel), ww_450, by decide +kernel, by decide +kernel, by decide +kernel⟩
theorem mkX1_mostAlike : MDok mdX1_mostAlike 4 := ⟨by decide +kernel, gtb_of (List.mem_append_right _ (List.mem_of_getElem? (i := 521) (by decide +kernel))) (by decide +kernel), ww_450, by decide +kernel, by decide +kernel, by decide +kernel⟩
theorem mkX2_append : MDok mdX2_append 1 := ⟨by decide +kernel, gtb_of (List.mem_append_right _ (List.mem_of_getElem? (i := 184) (by decide +kernel))) (by decide +kernel), ww_451, by decide +kernel, by decide +kernel, by decide +kernel⟩
theorem mkX2_readInto : MDok mdX2_readInto 1 := ⟨by decide +kernel, gtb_of (List.mem_append_right _ (List.mem_of_getElem? (i := 196) (by decide +kernel))) (by decide +kernel), ww_451, by decide +kernel, by decide +kernel, by decide +kernel⟩
theorem mkX2_isCounter : MDok mdX2_isCounter 0 := ⟨by decide +kernel, gtb_of (List.mem_append_right _ (List.mem_of_getElem? (i := 212) (by decide +kernel))) (by decide +kernel), ww_451, by decide +kernel, by decide +kernel, by decide +kernel⟩
theorem mkX2_isItem : MDok mdX2_isItem 1 := ⟨by decide +kernel, gtb_of (List.mem_append_right _ (List.mem_of_getElem? (i := 273) (by decide +kernel))) (by decide +kernel), ww_451, by decide +kernel, by decide +kernel, by decide +kernel⟩
theorem mkX2_isOne : MDok mdX2_isOne 1 := ⟨by decide +kernel, gtb_of (List.mem_append_right _ (List.mem_of_getElem? (i := 278) (by decide +kernel))) (by decide +kernel), ww_451, by decide +kernel, by decide +kernel, by decide +kernel⟩
theorem mkX2_isLeave : MDok mdX2_isLeave 1 := ⟨by decide +kernel, gtb_of (List.mem_append_right _ (List.mem_of_getElem? (i := 288) (by decide +kernel))) (by decide +kernel), ww_451, by decide +kernel, by decide +kernel, by decide +kernel⟩
theorem mkX2_isLend : MDok mdX2_isLend 1 := ⟨by decide +kernel, gtb_of (List.mem_append_right _ (List.mem_of_getElem? (i := 301) (by decide +kernel))) (by decide +kernel), ww_451, by decide +kernel, by decide +kernel, by decide +kernel⟩
theorem mkX2_isNumberBelow : MDok mdX2_isNumberBelow 1 := ⟨by decide +kernel, gtb_of (List.mem_append_right _ (List.mem_of_getElem? (i := 282) (by decide +kernel))) (by decide +kernel), ww_451, by decide +kernel, by decide +kernel, by decide +kernel⟩
theorem mkX2_isStop : MDok mdX2_isStop 0 := ⟨by decide +kernel, gtb_of (List.mem_append_right _ (List.mem_of_getElem? (i := 269) (by decide +kernel))) (by decide +kernel), ww_451, by decide +kernel, by decide +kernel, by decide +kernel⟩
theorem mkX2_isWord : MDok mdX2_isWord 1 := ⟨by decide +kernel, gtb_of (List.mem_append_right _ (List.mem_of_getElem? (i := 217) (by decide +kernel))) (by decide +kernel), ww_451, by decide +kernel, by decide +kernel, by decide +kernel⟩
theorem mkX2_step : MDok mdX2_step 0 := ⟨by decide +kernel, gtb_of (List.mem_append_right _ (List.mem_of_getElem? (i := 201) (by decide +kernel))) (by decide +kernel), ww_451, by decide +kernel, by decide +kernel, by decide +kernel⟩
theorem mkX2_tokenBegunBy : MDok mdX2_tokenBegunBy 1 := ⟨by decide +kernel, gtb_of (List.mem_append_right _ (List.mem_of_getElem? (i := 204) (by decide +kernel))) (by decide +kernel), ww_451, by decide +kernel, by decide +kernel, by decide +kernel⟩
theorem mkX2_takeValue : MDok mdX2_takeValue 0 := ⟨by decide +kernel, gtb_of (List.mem_append_right _ (List.mem_of_getElem? (i := 208) (by decide +kernel))) (by decide +kernel), ww_451, by decide +kernel, by decide +kernel, by decide +kernel⟩
theorem mkX3_counter : MDok mdX3_counter 0 := ⟨by decide +kernel, gtb_of (List.mem_append_right _ (List.mem_of_getElem? (i := 150) (by decide +kernel))) (by decide +kernel), ww_452, by decide +kernel, by decide +kernel, by decide +kernel⟩
theorem mkX3_one : MDok mdX3_one 3 := ⟨by decide +kernel, gtb_of (List.mem_append_right _ (List.mem_of_getElem? (i := 158) (by decide +kernel))) (by decide +kernel), ww_452, by decide +kernel, by decide +kernel, by decide +kernel⟩
theorem mkX3_type : MDok mdX3_type 1 := ⟨by decide +kernel, gtb_of (List.mem_append_right _ (List.mem_of_getElem? (i := 180) (by decide +kernel))) (by decide +kernel), ww_452, by decide +kernel, by decide +kernel, by decide +kernel⟩
theorem mkX3_clear : MDok mdX3_clear 0 := ⟨by decide +kernel, gtb_of (List.mem_append_right _ (List.mem_of_getElem? (i := 188) (by decide +kernel))) (by decide +kernel), ww_452, by decide +kernel, by decide +kernel, by decide +kernel⟩
theorem mkX3_read : MDok mdX3_read 0 := ⟨by decide +kernel, gtb_of (List.mem_append_right _ (List.mem_of_getElem? (i := 192) (by decide +kernel))) (by decide +kernel), ww_452, by decide +kernel, by decide +kernel, by decide +kernel⟩
theorem mkX3_lend : MDok mdX3_lend 2 := ⟨by decide +kernel, gtb_of (List.mem_append_right _ (List.mem_of_getElem? (i := 318) (by decide +kernel))) (by decide +kernel), ww_452, by decide +kernel, by decide +kernel, by decide +kernel⟩
theorem mkX3_leave : MDok mdX3_leave 1 := ⟨by decide +kernel, gtb_of (List.mem_append_right _ (List.mem_of_getElem? (i := 339) (by decide +kernel))) (by decide +kernel), ww_452, by decide +kernel, by decide +kernel, by decide +kernel⟩
theorem mkX3_evening : MDok mdX3_evening 1 := ⟨by decide +kernel, gtb_of (List.mem_append_right _ (List.mem_of_getElem? (i := 345) (by decide +kernel))) (by decide +kernel), ww_452, by decide +kernel, by decide +kernel, by decide +kernel⟩
theorem mkX3_undo : MDok mdX3_undo 0 := ⟨by decide +kernel, gtb_of (List.mem_append_right _ (List.mem_of_getElem? (i := 369) (by decide +kernel))) (by decide +kernel), ww_452, by decide +kernel, by decide +kernel, by decide +kernel⟩
theorem mkX3_of : MDok mdX3_of 2 := ⟨by decide +kernel, gtb_of (List.mem_append_right _ (List.mem_of_getElem? (i := 377) (by decide +kernel))) (by decide +kernel), ww_452, by decide +kernel, by decide +kernel, by decide +kernel⟩
theorem mkX3_about : MDok mdX3_about 2 := ⟨by decide +kernel, gtb_of (List.mem_append_right _ (List.mem_of_getElem? (i := 402) (by decide +kernel))) (by decide +kernel), ww_452, by decide +kernel, by decide +kernel, by decide +kernel⟩
theorem mkX3_fit : MDok mdX3_fit 2 := ⟨by decide +kernel, gtb_of (List.mem_append_right _ (List.mem_of_getElem? (i := 407) (by decide +kernel))) (by decide +kernel), ww_452, by decide +kernel, by decide +kernel, by decide +kernel⟩
theorem mkX3_best : MDok mdX3_best 1 := ⟨by decide +kernel, gtb_of (List.mem_append_right _ (List.mem_of_getElem? (i := 412) (by decide +kernel))) (by decide +kernel), ww_452, by decide +kernel, by decide +kernel, by decide +kernel⟩
theorem mkX3_dumb : MDok mdX3_dumb 0 := ⟨by decide +kernel, gtb_of (List.mem_append_right _ (List.mem_of_getElem? (i := 430) (by decide +kernel))) (by decide +kernel), ww_452, by decide +kernel, by decide +kernel, by decide +kernel⟩
theorem mkX3_own : MDok mdX3_own 0 := ⟨by decide +kernel, gtb_of (List.mem_append_right _ (List.mem_of_getElem? (i := 434) (by decide +kernel))) (by decide +kernel), ww_452, by decide +kernel, by decide +kernel, by decide +kernel⟩
theorem mkX3_ring : MDok mdX3_ring 1 := ⟨by decide +kernel, gtb_of (List.mem_append_right _ (List.mem_of_getElem? (i := 450) (by decide +kernel))) (by decide +kernel), ww_452, by decide +kernel, by decide +kernel, by decide +kernel⟩
theorem mkX3_swaps : MDok mdX3_swaps 1 := ⟨by decide +kernel, gtb_of (List.mem_append_right _ (List.mem_of_getElem? (i := 455) (by decide +kernel))) (by decide +kernel), ww_452, by decide +kernel, by decide +kernel, by decide +kernel⟩
theorem mkX3_steps : MDok mdX3_steps 0 := ⟨by decide +kernel, gtb_of (List.mem_append_right _ (List.mem_of_getElem? (i := 471) (by decide +kernel))) (by decide +kernel), ww_452, by decide +kernel, by decide +kernel, by decide +kernel⟩
theorem mkX3_worst : MDok mdX3_worst 1 := ⟨by decide +kernel, gtb_of (List.mem_append_right _ (List.mem_of_getElem? (i := 479) (by decide +kernel))) (by decide +kernel), ww_452, by decide +kernel, by decide +kernel, by decide +kernel⟩
theorem mkX3_slips : MDok mdX3_slips 2 := ⟨by decide +kernel, gtb_of (List.mem_append_right _ (List.mem_of_getElem? (i := 488) (by decide +kernel))) (by decide +kernel), ww_452, by decide +kernel, by decide +kernel, by decide +kernel⟩
theorem mkX3_note : MDok mdX3_note 5 := ⟨by decide +kernel, gtb_of (List.mem_append_right _ (List.mem_of_getElem? (i := 494) (by decide +kernel))) (by decide +kernel), ww_452, by decide +kernel, by decide +kernel, by decide +kernel⟩
theorem mkX3_forget : MDok mdX3_forget 0 := ⟨by decide +kernel, gtb_of (List.mem_append_right _ (List.mem_of_getElem? (i := 502) (by decide +kernel))) (by decide +kernel), ww_452, by decide +kernel, by decide +kernel, by decide +kernel⟩
theorem mkX3_is : MDok mdX3_is 1 := ⟨by decide +kernel, gtb_of (List.mem_append_right _ (List.mem_of_getElem? (i := 506) (by decide +kernel))) (by decide +kernel), ww_452, by decide +kernel, by decide +kernel, by decide +kernel⟩
theorem mkX3_listen : MDok mdX3_listen 1 := ⟨by decide +kernel, gtb_of (List.mem_append_right _ (List.mem_of_getElem? (i := 518) (by decide +kernel))) (by decide +kernel), ww_452, by decide +kernel, by decide +kernel, by decide +kernel⟩
theorem mkX3_whose : MDok mdX3_whose 1 := ⟨by decide +kernel, gtb_of (List.mem_append_right _ (List.mem_of_getElem? (i := 527) (by decide +kernel))) (by decide +kernel), ww_452, by decide +kernel, by decide +kernel, by decide +kernel⟩
theorem mkX3_asks : MDok mdX3_asks 3 := ⟨by decide +kernel, gtb_of (List.mem_append_right _ (List.mem_of_getElem? (i := 531) (by decide +kernel))) (by decide +kernel), ww_452, by decide +kernel, by decide +kernel, by decide +kernel⟩
theorem mkX3_thieves : MDok mdX3_thieves 2 := ⟨by decide +kernel, gtb_of (List.mem_append_right _ (List.mem_of_getElem? (i := 538) (by decide +kernel))) (by decide +kernel), ww_452, by decide +kernel, by decide +kernel, by decide +kernel⟩
theorem mkX3_lents : MDok mdX3_lents 2 := ⟨by decide +kernel, gtb_of (List.mem_append_right _ (List.mem_of_getElem? (i := 556) (by decide +kernel))) (by decide +kernel), ww_452, by decide +kernel, by decide +kernel, by decide +kernel⟩
theorem mkX3_part : MDok mdX3_part 1 := ⟨by decide +kernel, gtb_of (List.mem_append_right _ (List.mem_of_getElem? (i := 573) (by decide +kernel))) (by decide +kernel), ww_452, by decide +kernel, by decide +kernel, by decide +kernel⟩
theorem mkX3_image : MDok mdX3_image 1 := ⟨by decide +kernel, gtb_of (List.mem_append_right _ (List.mem_of_getElem? (i := 577) (by decide +kernel))) (by decide +kernel), ww_452, by decide +kernel, by decide +kernel, by decide +kernel⟩
theorem mkX3_from : MDok mdX3_from 1 := ⟨by decide +kernel, gtb_of (List.mem_append_right _ (List.mem_of_getElem? (i := 581) (by decide +kernel))) (by decide +kernel), ww_452, by decide +kernel, by decide +kernel, by decide +kernel⟩
theorem mkX3_status : MDok mdX3_status 1 := ⟨by decide +kernel, gtb_of (List.mem_append_right _ (List.mem_of_getElem? (i := 585) (by decide +kernel))) (by decide +kernel), ww_452, by decide +kernel, by decide +kernel, by decide +kernel⟩
theorem mkX3_count : MDok mdX3_count 1 := ⟨by decide +kernel, gtb_of (List.mem_append_right _ (List.mem_of_getElem? (i := 589) (by decide +kernel))) (by decide +kernel), ww_452, by decide +kernel, by decide +kernel, by decide +kernel⟩
theorem mkX3_digest : MDok mdX3_digest 0 := ⟨by decide +kernel, gtb_of (List.mem_append_right _ (List.mem_of_getElem? (i := 601) (by decide +kernel))) (by decide +kernel), ww_452, by decide +kernel, by decide +kernel, by decide +kernel⟩
theorem mkX3_bad : MDok mdX3_bad 0 := ⟨by decide +kernel, gtb_of (List.mem_append_right _ (List.mem_of_getElem? (i := 168) (by decide +kernel))) (by decide +kernel), ww_452, by decide +kernel, by decide +kernel, by decide +kernel⟩
theorem mkX3_badByTen : MDok mdX3_badByTen 0 := ⟨by decide +kernel, gtb_of (List.mem_append_right _ (List.mem_of_getElem? (i := 326) (by decide +kernel))) (by decide +kernel), ww_452, by decide +kernel, by decide +kernel, by decide +kernel⟩
theorem mkX3_no : MDok mdX3_no 0 := ⟨by decide +kernel, gtb_of (List.mem_append_right _ (List.mem_of_getElem? (i := 330) (by decide +kernel))) (by decide +kernel), ww_452, by decide +kernel, by decide +kernel, by decide +kernel⟩
theorem mkX3_full : MDok mdX3_full 0 := ⟨by decide +kernel, gtb_of (List.mem_append_right _ (List.mem_of_getElem? (i := 172) (by decide +kernel))) (by decide +kernel), ww_452, by decide +kernel, by decide +kernel, by decide +kernel⟩
theorem mkX3_within : MDok mdX3_within 3 := ⟨by decide +kernel, gtb_of (List.mem_append_right _ (List.mem_of_getElem? (i := 161) (by decide +kernel))) (by decide +kernel), ww_452, by decide +kernel, by decide +kernel, by decide +kernel⟩
theorem mkX3_isSort : MDok mdX3_isSort 1 := ⟨by decide +kernel, gtb_of (List.mem_append_right _ (List.mem_of_getElem? (i := 164) (by decide +kernel))) (by decide +kernel), ww_452, by decide +kernel, by decide +kernel, by decide +kernel⟩
theorem mkX3_isThere : MDok mdX3_isThere 1 := ⟨by decide +kernel, gtb_of (List.mem_append_right _ (List.mem_of_getElem? (i := 322) (by decide +kernel))) (by decide +kernel), ww_452, by decide +kernel, by decide +kernel, by decide +kernel⟩
theorem mkX3_howMany : MDok mdX3_howMany 1 := ⟨by decide +kernel, gtb_of (List.mem_append_right _ (List.mem_of_getElem? (i := 593) (by decide +kernel))) (by decide +kernel), ww_452, by decide +kernel, by decide +kernel, by decide +kernel⟩
theorem mkX3_findBest : MDok mdX3_findBest 0 := ⟨by decide +kernel, gtb_of (List.mem_append_right _ (List.mem_of_getElem? (i := 416) (by decide +kernel))) (by decide +kernel), ww_452, by decide +kernel, by decide +kernel, by decide +kernel⟩
theorem mkX3_bestVoiceOf : MDok mdX3_bestVoiceOf 1 := ⟨by decide +kernel, gtb_of (List.mem_append_right _ (List.mem_of_getElem? (i := 426) (by decide +kernel))) (by decide +kernel), ww_452, by decide +kernel, by decide +kernel, by decide +kernel⟩
theorem mkX3_isContent : MDok mdX3_isContent 3 := ⟨by decide +kernel, gtb_of (List.mem_append_right _ (List.mem_of_getElem? (i := 534) (by decide +kernel))) (by decide +kernel), ww_452, by decide +kernel, by decide +kernel, by decide +kernel⟩
theorem mkX3_power : MDok mdX3_power 2 := ⟨by decide +kernel, gtb_of (List.mem_append_right _ (List.mem_of_getElem? (i := 545) (by decide +kernel))) (by decide +kernel), ww_452, by decide +kernel, by decide +kernel, by decide +kernel⟩
theorem mkX3_setFraction : MDok mdX3_setFraction 2 := ⟨by decide +kernel, gtb_of (List.mem_append_right _ (List.mem_of_getElem? (i := 549) (by decide +kernel))) (by decide +kernel), ww_452, by decide +kernel, by decide +kernel, by decide +kernel⟩
theorem mkX3_greatestCommonDivisor : MDok mdX3_greatestCommonDivisor 2 := ⟨by decide +kernel, gtb_of (List.mem_append_right _ (List.mem_of_getElem? (i := 552) (by decide +kernel))) (by decide +kernel), ww_452, by decide +kernel, by decide +kernel, by decide +kernel⟩
theorem mkX3_nextOfSeed : MDok mdX3_nextOfSeed 1 := ⟨by decide +kernel, gtb_of (List.mem_append_right _ (List.mem_of_getElem? (i := 560) (by decide +kernel))) (by decide +kernel), ww_452, by decide +kernel, by decide +kernel, by decide +kernel⟩
theorem mkX4_bad : MDok mdX4_bad 0 := ⟨by decide +kernel, gtb_of (List.mem_append_right _ (List.mem_of_getElem? (i := 730) (by decide +kernel))) (by decide +kernel), ww_453, by decide +kernel, by decide +kernel, by decide +kernel⟩
theorem mkX4_ten : MDok mdX4_ten 0 := ⟨by decide +kernel, gtb_of (List.mem_append_right _ (List.mem_of_getElem? (i := 824) (by decide +kernel))) (by decide +kernel), ww_453, by decide +kernel, by decide +kernel, by decide +kernel⟩
theorem mkX4_no : MDok mdX4_no 0 := ⟨by decide +kernel, gtb_of (List.mem_append_right _ (List.mem_of_getElem? (i := 828) (by decide +kernel))) (by decide +kernel), ww_453, by decide +kernel, by decide +kernel, by decide +kernel⟩
theorem mkX4_full : MDok mdX4_full 0 := ⟨by decide +kernel, gtb_of (List.mem_append_right _ (List.mem_of_getElem? (i := 734) (by decide +kernel))) (by decide +kernel), ww_453, by decide +kernel, by decide +kernel, by decide +kernel⟩
theorem mkX4_in : MDok mdX4_in 3 := ⟨by decide +kernel, gtb_of (List.mem_append_right _ (List.mem_of_getElem? (i := 726) (by decide +kernel))) (by decide +kernel), ww_453, by decide +kernel, by decide +kernel, by decide +kernel⟩
theorem mkX4_has : MDok mdX4_has 2 := ⟨by decide +kernel, gtb_of (List.mem_append_right _ (List.mem_of_getElem? (i := 984) (by decide +kernel))) (by decide +kernel), ww_453, by decide +kernel, by decide +kernel, by decide +kernel⟩
theorem mkX4_begin : MDok mdX4_begin 0 := ⟨by decide +kernel, gtb_of (List.mem_append_right _ (List.mem_of_getElem? (i := 618) (by decide +kernel))) (by decide +kernel), ww_453, by decide +kernel, by decide +kernel, by decide +kernel⟩
theorem mkX4_isOne : MDok mdX4_isOne 1 := ⟨by decide +kernel, gtb_of (List.mem_append_right _ (List.mem_of_getElem? (i := 820) (by decide +kernel))) (by decide +kernel), ww_453, by decide +kernel, by decide +kernel, by decide +kernel⟩
theorem mkX4_counter : MDok mdX4_counter 0 := ⟨by decide +kernel, gtb_of (List.mem_append_right _ (List.mem_of_getElem? (i := 719) (by decide +kernel))) (by decide +kernel), ww_453, by decide +kernel, by decide +kernel, by decide +kernel⟩
theorem mkX4_addOne : MDok mdX4_addOne 3 := ⟨by decide +kernel, gtb_of (List.mem_append_right _ (List.mem_of_getElem? (i := 738) (by decide +kernel))) (by decide +kernel), ww_453, by decide +kernel, by decide +kernel, by decide +kernel⟩
theorem mkX4_one : MDok mdX4_one 3 := ⟨by decide +kernel, gtb_of (List.mem_append_right _ (List.mem_of_getElem? (i := 723) (by decide +kernel))) (by decide +kernel), ww_453, by decide +kernel, by decide +kernel, by decide +kernel⟩
theorem mkX4_type : MDok mdX4_type 1 := ⟨by decide +kernel, gtb_of (List.mem_append_right _ (List.mem_of_getElem? (i := 742) (by decide +kernel))) (by decide +kernel), ww_453, by decide +kernel, by decide +kernel, by decide +kernel⟩
theorem mkX4_clear : MDok mdX4_clear 0 := ⟨by decide +kernel, gtb_of (List.mem_append_right _ (List.mem_of_getElem? (i := 746) (by decide +kernel))) (by decide +kernel), ww_453, by decide +kernel, by decide +kernel, by decide +kernel⟩
theorem mkX4_here : MDok mdX4_here 0 := ⟨by decide +kernel, gtb_of (List.mem_append_right _ (List.mem_of_getElem? (i := 762) (by decide +kernel))) (by decide +kernel), ww_453, by decide +kernel, by decide +kernel, by decide +kernel⟩
theorem mkX4_skip : MDok mdX4_skip 0 := ⟨by decide +kernel, gtb_of (List.mem_append_right _ (List.mem_of_getElem? (i := 758) (by decide +kernel))) (by decide +kernel), ww_453, by decide +kernel, by decide +kernel, by decide +kernel⟩
theorem mkX4_isLetter : MDok mdX4_isLetter 1 := ⟨by decide +kernel, gtb_of (List.mem_append_right _ (List.mem_of_getElem? (i := 773) (by decide +kernel))) (by decide +kernel), ww_453, by decide +kernel, by decide +kernel, by decide +kernel⟩
theorem mkX4_isFigure : MDok mdX4_isFigure 1 := ⟨by decide +kernel, gtb_of (List.mem_append_right _ (List.mem_of_getElem? (i := 800) (by decide +kernel))) (by decide +kernel), ww_453, by decide +kernel, by decide +kernel, by decide +kernel⟩
theorem mkX4_wordSize : MDok mdX4_wordSize 0 := ⟨by decide +kernel, gtb_of (List.mem_append_right _ (List.mem_of_getElem? (i := 770) (by decide +kernel))) (by decide +kernel), ww_453, by decide +kernel, by decide +kernel, by decide +kernel⟩
theorem mkX4_letter : MDok mdX4_letter 1 := ⟨by decide +kernel, gtb_of (List.mem_append_right _ (List.mem_of_getElem? (i := 781) (by decide +kernel))) (by decide +kernel), ww_453, by decide +kernel, by decide +kernel, by decide +kernel⟩
theorem mkX4_spells : MDok mdX4_spells 4 := ⟨by decide +kernel, gtb_of (List.mem_append_right _ (List.mem_of_getElem? (i := 777) (by decide +kernel))) (by decide +kernel), ww_453, by decide +kernel, by decide +kernel, by decide +kernel⟩
theorem mkX4_wordHere : MDok mdX4_wordHere 0 := ⟨by decide +kernel, gtb_of (List.mem_append_right _ (List.mem_of_getElem? (i := 766) (by decide +kernel))) (by decide +kernel), ww_453, by decide +kernel, by decide +kernel, by decide +kernel⟩
theorem mkX4_number : MDok mdX4_number 2 := ⟨by decide +kernel, gtb_of (List.mem_append_right _ (List.mem_of_getElem? (i := 797) (by decide +kernel))) (by decide +kernel), ww_453, by decide +kernel, by decide +kernel, by decide +kernel⟩
theorem mkX4_ends : MDok mdX4_ends 0 := ⟨by decide +kernel, gtb_of (List.mem_append_right _ (List.mem_of_getElem? (i := 785) (by decide +kernel))) (by decide +kernel), ww_453, by decide +kernel, by decide +kernel, by decide +kernel⟩
theorem mkX4_readsOne : MDok mdX4_readsOne 0 := ⟨by decide +kernel, gtb_of (List.mem_append_right _ (List.mem_of_getElem? (i := 793) (by decide +kernel))) (by decide +kernel), ww_453, by decide +kernel, by decide +kernel, by decide +kernel⟩
theorem mkX4_readVoice : MDok mdX4_readVoice 1 := ⟨by decide +kernel, gtb_of (List.mem_append_right _ (List.mem_of_getElem? (i := 808) (by decide +kernel))) (by decide +kernel), ww_453, by decide +kernel, by decide +kernel, by decide +kernel⟩
theorem mkX4_readsLeave : MDok mdX4_readsLeave 0 := ⟨by decide +kernel, gtb_of (List.mem_append_right _ (List.mem_of_getElem? (i := 804) (by decide +kernel))) (by decide +kernel), ww_453, by decide +kernel, by decide +kernel, by decide +kernel⟩
theorem mkX4_readsLend : MDok mdX4_readsLend 0 := ⟨by decide +kernel, gtb_of (List.mem_append_right _ (List.mem_of_getElem? (i := 812) (by decide +kernel))) (by decide +kernel), ww_453, by decide +kernel, by decide +kernel, by decide +kernel⟩
theorem mkX4_readsItem : MDok mdX4_readsItem 0 := ⟨by decide +kernel, gtb_of (List.mem_append_right _ (List.mem_of_getElem? (i := 789) (by decide +kernel))) (by decide +kernel), ww_453, by decide +kernel, by decide +kernel, by decide +kernel⟩
theorem mkX4_readsCounter : MDok mdX4_readsCounter 0 := ⟨by decide +kernel, gtb_of (List.mem_append_right _ (List.mem_of_getElem? (i := 754) (by decide +kernel))) (by decide +kernel), ww_453, by decide +kernel, by decide +kernel, by decide +kernel⟩
theorem mkX4_read : MDok mdX4_read 0 := ⟨by decide +kernel, gtb_of (List.mem_append_right _ (List.mem_of_getElem? (i := 750) (by decide +kernel))) (by decide +kernel), ww_453, by decide +kernel, by decide +kernel, by decide +kernel⟩
theorem mkX4_lesser : MDok mdX4_lesser 2 := ⟨by decide +kernel, gtb_of (List.mem_append_right _ (List.mem_of_getElem? (i := 893) (by decide +kernel))) (by decide +kernel), ww_453, by decide +kernel, by decide +kernel, by decide +kernel⟩
theorem mkX4_soundBy : MDok mdX4_soundBy 3 := ⟨by decide +kernel, gtb_of (List.mem_append_right _ (List.mem_of_getElem? (i := 890) (by decide +kernel))) (by decide +kernel), ww_453, by decide +kernel, by decide +kernel, by decide +kernel⟩
theorem mkX4_slipBy : MDok mdX4_slipBy 2 := ⟨by decide +kernel, gtb_of (List.mem_append_right _ (List.mem_of_getElem? (i := 863) (by decide +kernel))) (by decide +kernel), ww_453, by decide +kernel, by decide +kernel, by decide +kernel⟩
theorem mkX4_sound : MDok mdX4_sound 1 := ⟨by decide +kernel, gtb_of (List.mem_append_right _ (List.mem_of_getElem? (i := 887) (by decide +kernel))) (by decide +kernel), ww_453, by decide +kernel, by decide +kernel, by decide +kernel⟩
theorem mkX4_fitWith : MDok mdX4_fitWith 2 := ⟨by decide +kernel, gtb_of (List.mem_append_right _ (List.mem_of_getElem? (i := 883) (by decide +kernel))) (by decide +kernel), ww_453, by decide +kernel, by decide +kernel, by decide +kernel⟩
theorem mkX4_voiceOf : MDok mdX4_voiceOf 1 := ⟨by decide +kernel, gtb_of (List.mem_append_right _ (List.mem_of_getElem? (i := 844) (by decide +kernel))) (by decide +kernel), ww_453, by decide +kernel, by decide +kernel, by decide +kernel⟩
theorem mkX4_fitNow : MDok mdX4_fitNow 1 := ⟨by decide +kernel, gtb_of (List.mem_append_right _ (List.mem_of_getElem? (i := 879) (by decide +kernel))) (by decide +kernel), ww_453, by decide +kernel, by decide +kernel, by decide +kernel⟩
theorem mkX4_lays : MDok mdX4_lays 2 := ⟨by decide +kernel, gtb_of (List.mem_append_right _ (List.mem_of_getElem? (i := 836) (by decide +kernel))) (by decide +kernel), ww_453, by decide +kernel, by decide +kernel, by decide +kernel⟩
theorem mkX4_takes : MDok mdX4_takes 2 := ⟨by decide +kernel, gtb_of (List.mem_append_right _ (List.mem_of_getElem? (i := 871) (by decide +kernel))) (by decide +kernel), ww_453, by decide +kernel, by decide +kernel, by decide +kernel⟩
theorem mkX4_notes : MDok mdX4_notes 0 := ⟨by decide +kernel, gtb_of (List.mem_append_right _ (List.mem_of_getElem? (i := 832) (by decide +kernel))) (by decide +kernel), ww_453, by decide +kernel, by decide +kernel, by decide +kernel⟩
theorem mkX4_puts : MDok mdX4_puts 0 := ⟨by decide +kernel, gtb_of (List.mem_append_right _ (List.mem_of_getElem? (i := 941) (by decide +kernel))) (by decide +kernel), ww_453, by decide +kernel, by decide +kernel, by decide +kernel⟩
theorem mkX4_back : MDok mdX4_back 0 := ⟨by decide +kernel, gtb_of (List.mem_append_right _ (List.mem_of_getElem? (i := 949) (by decide +kernel))) (by decide +kernel), ww_453, by decide +kernel, by decide +kernel, by decide +kernel⟩
theorem mkX4_leaves : MDok mdX4_leaves 1 := ⟨by decide +kernel, gtb_of (List.mem_append_right _ (List.mem_of_getElem? (i := 848) (by decide +kernel))) (by decide +kernel), ww_453, by decide +kernel, by decide +kernel, by decide +kernel⟩
theorem mkX4_lends : MDok mdX4_lends 2 := ⟨by decide +kernel, gtb_of (List.mem_append_right _ (List.mem_of_getElem? (i := 840) (by decide +kernel))) (by decide +kernel), ww_453, by decide +kernel, by decide +kernel, by decide +kernel⟩
theorem mkX4_pass : MDok mdX4_pass 0 := ⟨by decide +kernel, gtb_of (List.mem_append_right _ (List.mem_of_getElem? (i := 860) (by decide +kernel))) (by decide +kernel), ww_453, by decide +kernel, by decide +kernel, by decide +kernel⟩
theorem mkX4_lend : MDok mdX4_lend 2 := ⟨by decide +kernel, gtb_of (List.mem_append_right _ (List.mem_of_getElem? (i := 816) (by decide +kernel))) (by decide +kernel), ww_453, by decide +kernel, by decide +kernel, by decide +kernel⟩
theorem mkX4_leave : MDok mdX4_leave 1 := ⟨by decide +kernel, gtb_of (List.mem_append_right _ (List.mem_of_getElem? (i := 852) (by decide +kernel))) (by decide +kernel), ww_453, by decide +kernel, by decide +kernel, by decide +kernel⟩
theorem mkX4_evening : MDok mdX4_evening 1 := ⟨by decide +kernel, gtb_of (List.mem_append_right _ (List.mem_of_getElem? (i := 856) (by decide +kernel))) (by decide +kernel), ww_453, by decide +kernel, by decide +kernel, by decide +kernel⟩
theorem mkX4_undo : MDok mdX4_undo 0 := ⟨by decide +kernel, gtb_of (List.mem_append_right _ (List.mem_of_getElem? (i := 867) (by decide +kernel))) (by decide +kernel), ww_453, by decide +kernel, by decide +kernel, by decide +kernel⟩
theorem mkX4_of : MDok mdX4_of 2 := ⟨by decide +kernel, gtb_of (List.mem_append_right _ (List.mem_of_getElem? (i := 875) (by decide +kernel))) (by decide +kernel), ww_453, by decide +kernel, by decide +kernel, by decide +kernel⟩
theorem mkX4_about : MDok mdX4_about 2 := ⟨by decide +kernel, gtb_of (List.mem_append_right _ (List.mem_of_getElem? (i := 897) (by decide +kernel))) (by decide +kernel), ww_453, by decide +kernel, by decide +kernel, by decide +kernel⟩
theorem mkX4_fit : MDok mdX4_fit 2 := ⟨by decide +kernel, gtb_of (List.mem_append_right _ (List.mem_of_getElem? (i := 901) (by decide +kernel))) (by decide +kernel), ww_453, by decide +kernel, by decide +kernel, by decide +kernel⟩
theorem mkX4_nextLine : MDok mdX4_nextLine 0 := ⟨by decide +kernel, gtb_of (List.mem_append_right _ (List.mem_of_getElem? (i := 909) (by decide +kernel))) (by decide +kernel), ww_453, by decide +kernel, by decide +kernel, by decide +kernel⟩
theorem mkX4_best : MDok mdX4_best 1 := ⟨by decide +kernel, gtb_of (List.mem_append_right _ (List.mem_of_getElem? (i := 905) (by decide +kernel))) (by decide +kernel), ww_453, by decide +kernel, by decide +kernel, by decide +kernel⟩
theorem mkX4_dumb : MDok mdX4_dumb 0 := ⟨by decide +kernel, gtb_of (List.mem_append_right _ (List.mem_of_getElem? (i := 913) (by decide +kernel))) (by decide +kernel), ww_453, by decide +kernel, by decide +kernel, by decide +kernel⟩
theorem mkX4_ringOf : MDok mdX4_ringOf 1 := ⟨by decide +kernel, gtb_of (List.mem_append_right _ (List.mem_of_getElem? (i := 921) (by decide +kernel))) (by decide +kernel), ww_453, by decide +kernel, by decide +kernel, by decide +kernel⟩
theorem mkX4_own : MDok mdX4_own 0 := ⟨by decide +kernel, gtb_of (List.mem_append_right _ (List.mem_of_getElem? (i := 917) (by decide +kernel))) (by decide +kernel), ww_453, by decide +kernel, by decide +kernel, by decide +kernel⟩
theorem mkX4_ring : MDok mdX4_ring 1 := ⟨by decide +kernel, gtb_of (List.mem_append_right _ (List.mem_of_getElem? (i := 925) (by decide +kernel))) (by decide +kernel), ww_453, by decide +kernel, by decide +kernel, by decide +kernel⟩
theorem mkX4_isSwap : MDok mdX4_isSwap 2 := ⟨by decide +kernel, gtb_of (List.mem_append_right _ (List.mem_of_getElem? (i := 933) (by decide +kernel))) (by decide +kernel), ww_453, by decide +kernel, by decide +kernel, by decide +kernel⟩
theorem mkX4_swaps : MDok mdX4_swaps 1 := ⟨by decide +kernel, gtb_of (List.mem_append_right _ (List.mem_of_getElem? (i := 929) (by decide +kernel))) (by decide +kernel), ww_453, by decide +kernel, by decide +kernel, by decide +kernel⟩
theorem mkX4_firstSwap : MDok mdX4_firstSwap 0 := ⟨by decide +kernel, gtb_of (List.mem_append_right _ (List.mem_of_getElem? (i := 945) (by decide +kernel))) (by decide +kernel), ww_453, by decide +kernel, by decide +kernel, by decide +kernel⟩
theorem mkX4_steps : MDok mdX4_steps 0 := ⟨by decide +kernel, gtb_of (List.mem_append_right _ (List.mem_of_getElem? (i := 937) (by decide +kernel))) (by decide +kernel), ww_453, by decide +kernel, by decide +kernel, by decide +kernel⟩
theorem mkX4_worst : MDok mdX4_worst 1 := ⟨by decide +kernel, gtb_of (List.mem_append_right _ (List.mem_of_getElem? (i := 953) (by decide +kernel))) (by decide +kernel), ww_453, by decide +kernel, by decide +kernel, by decide +kernel⟩
theorem mkX4_slips : MDok mdX4_slips 2 := ⟨by decide +kernel, gtb_of (List.mem_append_right _ (List.mem_of_getElem? (i := 957) (by decide +kernel))) (by decide +kernel), ww_453, by decide +kernel, by decide +kernel, by decide +kernel⟩
theorem mkX4_note : MDok mdX4_note 5 := ⟨by decide +kernel, gtb_of (List.mem_append_right _ (List.mem_of_getElem? (i := 961) (by decide +kernel))) (by decide +kernel), ww_453, by decide +kernel, by decide +kernel, by decide +kernel⟩
theorem mkX4_forget : MDok mdX4_forget 0 := ⟨by decide +kernel, gtb_of (List.mem_append_right _ (List.mem_of_getElem? (i := 965) (by decide +kernel))) (by decide +kernel), ww_453, by decide +kernel, by decide +kernel, by decide +kernel⟩
theorem mkX4_kindsOf : MDok mdX4_kindsOf 1 := ⟨by decide +kernel, gtb_of (List.mem_append_right _ (List.mem_of_getElem? (i := 973) (by decide +kernel))) (by decide +kernel), ww_453, by decide +kernel, by decide +kernel, by decide +kernel⟩
theorem mkX4_is : MDok mdX4_is 1 := ⟨by decide +kernel, gtb_of (List.mem_append_right _ (List.mem_of_getElem? (i := 969) (by decide +kernel))) (by decide +kernel), ww_453, by decide +kernel, by decide +kernel, by decide +kernel⟩
theorem mkX4_alike : MDok mdX4_alike 4 := ⟨by decide +kernel, gtb_of (List.mem_append_right _ (List.mem_of_getElem? (i := 981) (by decide +kernel))) (by decide +kernel), ww_453, by decide +kernel, by decide +kernel, by decide +kernel⟩
theorem mkX4_listen : MDok mdX4_listen 1 := ⟨by decide +kernel, gtb_of (List.mem_append_right _ (List.mem_of_getElem? (i := 977) (by decide +kernel))) (by decide +kernel), ww_453, by decide +kernel, by decide +kernel, by decide +kernel⟩
theorem mkX4_whose : MDok mdX4_whose 1 := ⟨by decide +kernel, gtb_of (List.mem_append_right _ (List.mem_of_getElem? (i := 988) (by decide +kernel))) (by decide +kernel), ww_453, by decide +kernel, by decide +kernel, by decide +kernel⟩
theorem mkX4_gets : MDok mdX4_gets 5 := ⟨by decide +kernel, gtb_of (List.mem_append_right _ (List.mem_of_getElem? (i := 996) (by decide +kernel))) (by decide +kernel), ww_453, by decide +kernel, by decide +kernel, by decide +kernel⟩
theorem mkX4_asks : MDok mdX4_asks 3 := ⟨by decide +kernel, gtb_of (List.mem_append_right _ (List.mem_of_getElem? (i := 992) (by decide +kernel))) (by decide +kernel), ww_453, by decide +kernel, by decide +kernel, by decide +kernel⟩
theorem mkX4_lay : MDok mdX4_lay 2 := ⟨by decide +kernel, gtb_of (List.mem_append_right _ (List.mem_of_getElem? (i := 1012) (by decide +kernel))) (by decide +kernel), ww_453, by decide +kernel, by decide +kernel, by decide +kernel⟩
theorem mkX4_atCounter : MDok mdX4_atCounter 0 := ⟨by decide +kernel, gtb_of (List.mem_append_right _ (List.mem_of_getElem? (i := 1004) (by decide +kernel))) (by decide +kernel), ww_453, by decide +kernel, by decide +kernel, by decide +kernel⟩
theorem mkX4_bits : MDok mdX4_bits 1 := ⟨by decide +kernel, gtb_of (List.mem_append_right _ (List.mem_of_getElem? (i := 1008) (by decide +kernel))) (by decide +kernel), ww_453, by decide +kernel, by decide +kernel, by decide +kernel⟩
theorem mkX4_thieves : MDok mdX4_thieves 2 := ⟨by decide +kernel, gtb_of (List.mem_append_right _ (List.mem_of_getElem? (i := 1000) (by decide +kernel))) (by decide +kernel), ww_453, by decide +kernel, by decide +kernel, by decide +kernel⟩
theorem mkX4_lents : MDok mdX4_lents 2 := ⟨by decide +kernel, gtb_of (List.mem_append_right _ (List.mem_of_getElem? (i := 1016) (by decide +kernel))) (by decide +kernel), ww_453, by decide +kernel, by decide +kernel, by decide +kernel⟩
theorem mkX4_part : MDok mdX4_part 1 := ⟨by decide +kernel, gtb_of (List.mem_append_right _ (List.mem_of_getElem? (i := 1025) (by decide +kernel))) (by decide +kernel), ww_453, by decide +kernel, by decide +kernel, by decide +kernel⟩
theorem mkX4_image : MDok mdX4_image 1 := ⟨by decide +kernel, gtb_of (List.mem_append_right _ (List.mem_of_getElem? (i := 1029) (by decide +kernel))) (by decide +kernel), ww_453, by decide +kernel, by decide +kernel, by decide +kernel⟩
theorem mkX4_from : MDok mdX4_from 1 := ⟨by decide +kernel, gtb_of (List.mem_append_right _ (List.mem_of_getElem? (i := 1033) (by decide +kernel))) (by decide +kernel), ww_453, by decide +kernel, by decide +kernel, by decide +kernel⟩
theorem mkX4_status : MDok mdX4_status 1 := ⟨by decide +kernel, gtb_of (List.mem_append_right _ (List.mem_of_getElem? (i := 1037) (by decide +kernel))) (by decide +kernel), ww_453, by decide +kernel, by decide +kernel, by decide +kernel⟩
theorem mkX4_allSlipped : MDok mdX4_allSlipped 0 := ⟨by decide +kernel, gtb_of (List.mem_append_right _ (List.mem_of_getElem? (i := 1049) (by decide +kernel))) (by decide +kernel), ww_453, by decide +kernel, by decide +kernel, by decide +kernel⟩
theorem mkX4_countOf : MDok mdX4_countOf 1 := ⟨by decide +kernel, gtb_of (List.mem_append_right _ (List.mem_of_getElem? (i := 1045) (by decide +kernel))) (by decide +kernel), ww_453, by decide +kernel, by decide +kernel, by decide +kernel⟩
theorem mkX4_count : MDok mdX4_count 1 := ⟨by decide +kernel, gtb_of (List.mem_append_right _ (List.mem_of_getElem? (i := 1041) (by decide +kernel))) (by decide +kernel), ww_453, by decide +kernel, by decide +kernel, by decide +kernel⟩
theorem mkX4_mix : MDok mdX4_mix 1 := ⟨by decide +kernel, gtb_of (List.mem_append_right _ (List.mem_of_getElem? (i := 1058) (by decide +kernel))) (by decide +kernel), ww_453, by decide +kernel, by decide +kernel, by decide +kernel⟩
theorem mkX4_digest : MDok mdX4_digest 0 := ⟨by decide +kernel, gtb_of (List.mem_append_right _ (List.mem_of_getElem? (i := 1053) (by decide +kernel))) (by decide +kernel), ww_453, by decide +kernel, by decide +kernel, by decide +kernel⟩
theorem mkJ6_bitCount_0f7a4 : MDok mdJ6_bitCount_0f7a4 1 := ⟨by decide +kernel, gtb_of (List.mem_append_right _ (List.mem_of_getElem? (i := 419) (by decide +kernel))) (by decide +kernel), ww_454, by decide +kernel, by decide +kernel, by decide +kernel⟩
theorem ww_code_max : Cond.code Lib.Math.max.name Lib.Math.max.code 2 (some .int) ∈ gtb := gtb_of (List.mem_append_right _ (List.mem_of_getElem? (i := 365) (by decide +kernel))) (by decide +kernel)
theorem ww_code_min : Cond.code Lib.Math.min.name Lib.Math.min.code 2 (some .int) ∈ gtb := gtb_of (List.mem_append_right _ (List.mem_of_getElem? (i := 395) (by decide +kernel))) (by decide +kernel)
theorem ww_code_abs : Cond.code Lib.Math.abs.name Lib.Math.abs.code 1 (some .int) ∈ gtb := gtb_of (List.mem_append_right _ (List.mem_of_getElem? (i := 398) (by decide +kernel))) (by decide +kernel)
theorem inX0 : ∀ w ∈ wsX00, w ∈ gtb := by
  have h : ∀ w ∈ wsX00, w ∈ lw_tbl ∧ goodWord w = true := by decide +kernel
  exact fun w hw => gtb_of (h w hw).1 (h w hw).2
theorem cfX0 : CF 0 RX0 TX0 12 tyX0 := ⟨by decide, rfl, inX0, tyX0_ok, nmX0⟩
theorem inX2 : ∀ w ∈ wsX20, w ∈ gtb := by
  have h : ∀ w ∈ wsX20, w ∈ lw_tbl ∧ goodWord w = true := by decide +kernel
  exact fun w hw => gtb_of (h w hw).1 (h w hw).2
theorem cfX2 : CF 1 RX2 TX2 6 tyX2 := ⟨by decide, rfl, inX2, tyX2_ok, nmX2⟩
theorem inX3 : ∀ w ∈ wsX30, w ∈ gtb := by
  have h : ∀ w ∈ wsX30, w ∈ lw_tbl ∧ goodWord w = true := by decide +kernel
  exact fun w hw => gtb_of (h w hw).1 (h w hw).2
theorem cfX3 : CF 2 RX3 TX3 14 tyX3 := ⟨by decide, rfl, inX3, tyX3_ok, nmX3⟩
theorem inX4 : ∀ w ∈ wsX40, w ∈ gtb := by
  have h : ∀ w ∈ wsX40, w ∈ lw_tbl ∧ goodWord w = true := by decide +kernel
  exact fun w hw => gtb_of (h w hw).1 (h w hw).2
theorem cfX4 : CF 3 RX4 TX4 32 tyX4 := ⟨by decide, rfl, inX4, tyX4_ok, nmX4⟩
theorem lsw_X3_of_23 : ∀ x : Int32, ((23 : Nat) : Int) + Op.lookupswitch.offset (#[((0 : Int), (25 : Int)), (1, 35)]).toList 44 x.toInt = (swL [(0, 48), (1, 58)] 67 x : Int) := by
  intro x
  simp only [Op.lookupswitch.offset, swL]
  by_cases h0 : x.toInt = 0
  · simp [h0]
  · by_cases h1 : x.toInt = 1
    · simp [h1]
    · simp [h0, h1, Ne.symm h0, Ne.symm h1, eq_comm]
theorem nd_ok {I : Nat → Option MD} {d : MD} {k : Nat} {l r : Nat → Option AI} (h1 : ∀ pc ai, l pc = some ai → AIok I d pc ai) (h2 : ∀ pc ai, r pc = some ai → AIok I d pc ai) : ∀ pc ai, nd k l r pc = some ai → AIok I d pc ai := by
  intro pc ai h
  unfold nd at h
  cases hb : Nat.ble pc k with
  | true => rw [hb] at h; exact h1 pc ai h
  | false => rw [hb] at h; exact h2 pc ai h
theorem lf_ok {I : Nat → Option MD} {d : MD} {k : Nat} {a : AI} (h0 : AIok I d k a) : ∀ pc ai, lf k a pc = some ai → AIok I d pc ai := by
  intro pc ai h
  unfold lf at h
  cases hb : Nat.beq pc k with
  | true =>
    rw [hb] at h
    cases h
    have := Nat.eq_of_beq_eq_true hb
    subst this
    exact h0
  | false => rw [hb] at h; cases h
theorem lfI_ok {I : Nat → Option MD} {d : MD} {k : Nat} {f : St → Option St} (h0 : SndI d.1.cls d.2.1 d.2.2.1 d.2.2.2.2.1 d.2.2.2.2.2 k f) : ∀ pc ai, lf k (.inl f) pc = some ai → AIok I d pc ai := lf_ok h0
theorem lfR_ok {I : Nat → Option MD} {d : MD} {k j : Nat} (h0 : RetOK d k j) : ∀ pc ai, lf k (.inr (.inl j)) pc = some ai → AIok I d pc ai := lf_ok h0
theorem lfC_ok {I : Nat → Option MD} {d : MD} {k y na mx rc : Nat} (h0 : CallOK I d k y na mx rc) : ∀ pc ai, lf k (.inr (.inr (y, na, mx, rc))) pc = some ai → AIok I d pc ai := lf_ok h0
def MOK (P : PT) (J I : Nat → Option MD) : Prop := ∀ m pc ai, P m pc = some ai → ∃ d, J m = some d ∧ AIok I d pc ai
theorem nm_ok {I : Nat → Option MD} {k : Nat} {l r : PT} {l' r' : Nat → Option MD} (h1 : MOK l l' I) (h2 : MOK r r' I) : MOK (nm k l r) (im k l' r') I := by
  intro m pc ai h
  unfold nm at h
  unfold im
  cases hb : Nat.ble m k with
  | true => rw [hb] at h; exact h1 m pc ai h
  | false => rw [hb] at h; exact h2 m pc ai h
theorem lm_ok {I : Nat → Option MD} {k : Nat} {t : Nat → Option AI} {d : MD} (h1 : ∀ pc ai, t pc = some ai → AIok I d pc ai) : MOK (lm k t) (il k d) I := by
  intro m pc ai h
  unfold lm at h
  unfold il
  cases hb : Nat.beq m k with
  | true => rw [hb] at h; exact ⟨d, rfl, h1 pc ai h⟩
  | false => rw [hb] at h; cases h
