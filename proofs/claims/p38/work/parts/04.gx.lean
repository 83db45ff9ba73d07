set_option maxRecDepth 20000 in
theorem ggX0_fill_X1_signDigest : GoodIn wsX0_fill wsX1_signDigest := goodIn_r _ [13, 14, 15, 44, 45, 46] (by decide +kernel) (by decide +kernel)
set_option maxRecDepth 20000 in
theorem gX0_fill_X1_signDigest : GoodIn wsX0_fill (wsV RX0 19 RX1 yX1_signDigest wsX1_signDigest) := goodIn_app (goodIn_of _ (by decide +kernel)) ggX0_fill_X1_signDigest
set_option maxRecDepth 20000 in
theorem ggX0_fill_X1_blockCount : GoodIn wsX0_fill wsX1_blockCount := goodIn_r _ [19, 14, 44, 45, 46] (by decide +kernel) (by decide +kernel)
set_option maxRecDepth 20000 in
theorem gX0_fill_X1_blockCount : GoodIn wsX0_fill (wsV RX0 34 RX1 yX1_blockCount wsX1_blockCount) := goodIn_app (goodIn_of _ (by decide +kernel)) ggX0_fill_X1_blockCount
set_option maxRecDepth 20000 in
theorem ggX0_fill_X1_blockSum : GoodIn wsX0_fill wsX1_blockSum := goodIn_r _ [23, 14, 15, 44, 45, 46] (by decide +kernel) (by decide +kernel)
set_option maxRecDepth 20000 in
theorem gX0_fill_X1_blockSum : GoodIn wsX0_fill (wsV RX0 39 RX1 yX1_blockSum wsX1_blockSum) := goodIn_app (goodIn_of _ (by decide +kernel)) ggX0_fill_X1_blockSum
set_option maxRecDepth 20000 in
theorem ggX0_fill_X1_signSum : GoodIn wsX0_fill wsX1_signSum := goodIn_r _ [27, 14, 15, 44, 45, 46] (by decide +kernel) (by decide +kernel)
set_option maxRecDepth 20000 in
theorem gX0_fill_X1_signSum : GoodIn wsX0_fill (wsV RX0 43 RX1 yX1_signSum wsX1_signSum) := goodIn_app (goodIn_of _ (by decide +kernel)) ggX0_fill_X1_signSum
set_option maxRecDepth 20000 in
theorem ggX0_fill_X1_weightedSum : GoodIn wsX0_fill wsX1_weightedSum := goodIn_r _ [31, 14, 15, 44, 45, 46] (by decide +kernel) (by decide +kernel)
set_option maxRecDepth 20000 in
theorem gX0_fill_X1_weightedSum : GoodIn wsX0_fill (wsV RX0 48 RX1 yX1_weightedSum wsX1_weightedSum) := goodIn_app (goodIn_of _ (by decide +kernel)) ggX0_fill_X1_weightedSum
set_option maxRecDepth 20000 in
theorem ggX0_fill_X2_chainedSeal : GoodIn wsX0_fill wsX2_chainedSeal := goodIn_r _ [34, 35] (by decide +kernel) (by decide +kernel)
set_option maxRecDepth 20000 in
theorem gX0_fill_X2_chainedSeal_n53 : GoodIn wsX0_fill (wsX2_chainedSeal) := ggX0_fill_X2_chainedSeal
set_option maxRecDepth 20000 in
theorem ggX0_fits_X1_signDigest : GoodIn wsX0_fits wsX1_signDigest := goodIn_r _ [6, 7, 8, 17, 18, 19] (by decide +kernel) (by decide +kernel)
set_option maxRecDepth 20000 in
theorem gX0_fits_X1_signDigest : GoodIn wsX0_fits (wsV RX0 19 RX1 yX1_signDigest wsX1_signDigest) := goodIn_app (goodIn_of _ (by decide +kernel)) ggX0_fits_X1_signDigest
set_option maxRecDepth 20000 in
theorem ggX0_tornBlockCount_X0_isTorn : GoodIn wsX0_tornBlockCount wsX0_isTorn := goodIn_r _ [5, 6, 7, 8, 9, 10, 11, 12, 13, 14, 15, 16, 17, 18, 19, 20, 21, 22, 23, 24, 25, 26, 27, 28, 29] (by decide +kernel) (by decide +kernel)
set_option maxRecDepth 20000 in
theorem gX0_tornBlockCount_X0_isTorn : GoodIn wsX0_tornBlockCount (wsV RX0 60 RX0 yX0_isTorn wsX0_isTorn) := goodIn_app (goodIn_of _ (by decide +kernel)) ggX0_tornBlockCount_X0_isTorn
set_option maxRecDepth 20000 in
theorem ggX0_firstTornBlock_X0_isTorn : GoodIn wsX0_firstTornBlock wsX0_isTorn := goodIn_r _ [5, 6, 7, 8, 9, 10, 11, 12, 13, 14, 15, 16, 17, 18, 19, 20, 21, 22, 23, 24, 25, 26, 27, 28, 29] (by decide +kernel) (by decide +kernel)
set_option maxRecDepth 20000 in
theorem gX0_firstTornBlock_X0_isTorn : GoodIn wsX0_firstTornBlock (wsV RX0 60 RX0 yX0_isTorn wsX0_isTorn) := goodIn_app (goodIn_of _ (by decide +kernel)) ggX0_firstTornBlock_X0_isTorn
set_option maxRecDepth 20000 in
theorem ggX0_isTorn_X1_blockCount : GoodIn wsX0_isTorn wsX1_blockCount := goodIn_r _ [7, 8, 22, 23, 24] (by decide +kernel) (by decide +kernel)
set_option maxRecDepth 20000 in
theorem gX0_isTorn_X1_blockCount : GoodIn wsX0_isTorn (wsV RX0 34 RX1 yX1_blockCount wsX1_blockCount) := goodIn_app (goodIn_of _ (by decide +kernel)) ggX0_isTorn_X1_blockCount
set_option maxRecDepth 20000 in
theorem ggX0_isTorn_X1_blockSum : GoodIn wsX0_isTorn wsX1_blockSum := goodIn_r _ [12, 8, 13, 22, 23, 24] (by decide +kernel) (by decide +kernel)
set_option maxRecDepth 20000 in
theorem gX0_isTorn_X1_blockSum : GoodIn wsX0_isTorn (wsV RX0 39 RX1 yX1_blockSum wsX1_blockSum) := goodIn_app (goodIn_of _ (by decide +kernel)) ggX0_isTorn_X1_blockSum
set_option maxRecDepth 20000 in
theorem ggX0_lostInSum_X1_signSum : GoodIn wsX0_lostInSum wsX1_signSum := goodIn_r _ [6, 7, 8, 17, 18, 19] (by decide +kernel) (by decide +kernel)
set_option maxRecDepth 20000 in
theorem gX0_lostInSum_X1_signSum : GoodIn wsX0_lostInSum (wsV RX0 43 RX1 yX1_signSum wsX1_signSum) := goodIn_app (goodIn_of _ (by decide +kernel)) ggX0_lostInSum_X1_signSum
set_option maxRecDepth 20000 in
theorem ggX0_placeOfChange_X0_lostInSum : GoodIn wsX0_placeOfChange wsX0_lostInSum := goodIn_r _ [7, 8, 9, 10, 11, 12, 13, 14, 15, 32, 33, 34, 35, 36, 37, 38, 39, 29, 30, 31] (by decide +kernel) (by decide +kernel)
set_option maxRecDepth 20000 in
theorem gX0_placeOfChange_X0_lostInSum : GoodIn wsX0_placeOfChange (wsV RX0 64 RX0 yX0_lostInSum wsX0_lostInSum) := goodIn_app (goodIn_of _ (by decide +kernel)) ggX0_placeOfChange_X0_lostInSum
set_option maxRecDepth 20000 in
theorem ggX0_placeOfChange_X0_fits : GoodIn wsX0_placeOfChange wsX0_fits := goodIn_r _ [19, 20, 21, 22, 23, 12, 24, 14, 15, 32, 33, 34, 35, 36, 37, 38, 39, 29, 30, 31] (by decide +kernel) (by decide +kernel)
set_option maxRecDepth 20000 in
theorem gX0_placeOfChange_X0_fits : GoodIn wsX0_placeOfChange (wsV RX0 68 RX0 yX0_fits wsX0_fits) := goodIn_app (goodIn_of _ (by decide +kernel)) ggX0_placeOfChange_X0_fits
set_option maxRecDepth 20000 in
theorem ggX0_placeOfChange_X1_weightedSum : GoodIn wsX0_placeOfChange wsX1_weightedSum := goodIn_r _ [28, 14, 15, 29, 30, 31] (by decide +kernel) (by decide +kernel)
set_option maxRecDepth 20000 in
theorem gX0_placeOfChange_X1_weightedSum : GoodIn wsX0_placeOfChange (wsV RX0 48 RX1 yX1_weightedSum wsX1_weightedSum) := goodIn_app (goodIn_of _ (by decide +kernel)) ggX0_placeOfChange_X1_weightedSum
set_option maxRecDepth 20000 in
theorem ggX1_sameSumPairs_X1_fillWindowSums : GoodIn wsX1_sameSumPairs wsX1_fillWindowSums := goodIn_r _ [6, 7, 1, 8, 9, 10, 5, 11, 12, 13, 14, 15] (by decide +kernel) (by decide +kernel)
set_option maxRecDepth 20000 in
theorem gX1_sameSumPairs_X1_fillWindowSums : GoodIn wsX1_sameSumPairs (wsV RX1 22 RX1 yX1_fillWindowSums wsX1_fillWindowSums) := goodIn_app (goodIn_of _ (by decide +kernel)) ggX1_sameSumPairs_X1_fillWindowSums
set_option maxRecDepth 20000 in
theorem ggX1_falseAlarmPairs_X1_fillWindowSums : GoodIn wsX1_falseAlarmPairs wsX1_fillWindowSums := goodIn_r _ [6, 7, 1, 8, 9, 10, 5, 11, 12, 17, 18, 19] (by decide +kernel) (by decide +kernel)
set_option maxRecDepth 20000 in
theorem gX1_falseAlarmPairs_X1_fillWindowSums : GoodIn wsX1_falseAlarmPairs (wsV RX1 22 RX1 yX1_fillWindowSums wsX1_fillWindowSums) := goodIn_app (goodIn_of _ (by decide +kernel)) ggX1_falseAlarmPairs_X1_fillWindowSums
set_option maxRecDepth 20000 in
theorem ggX1_falseAlarmPairs_X1_sameRun : GoodIn wsX1_falseAlarmPairs wsX1_sameRun := goodIn_r _ [16, 12, 17, 18, 19] (by decide +kernel) (by decide +kernel)
set_option maxRecDepth 20000 in
theorem gX1_falseAlarmPairs_X1_sameRun : GoodIn wsX1_falseAlarmPairs (wsV RX1 26 RX1 yX1_sameRun wsX1_sameRun) := goodIn_app (goodIn_of _ (by decide +kernel)) ggX1_falseAlarmPairs_X1_sameRun
set_option maxRecDepth 20000 in
theorem ggX1_fillWindowSums_X1_windowSum : GoodIn wsX1_fillWindowSums wsX1_windowSum := goodIn_r _ [7, 8, 9, 10, 11] (by decide +kernel) (by decide +kernel)
set_option maxRecDepth 20000 in
theorem gX1_fillWindowSums_X1_windowSum : GoodIn wsX1_fillWindowSums (wsV RX1 30 RX1 yX1_windowSum wsX1_windowSum) := goodIn_app (goodIn_of _ (by decide +kernel)) ggX1_fillWindowSums_X1_windowSum
set_option maxRecDepth 20000 in
theorem ggX1_firstPlaceOf_X1_sameRun : GoodIn wsX1_firstPlaceOf wsX1_sameRun := goodIn_r _ [6, 7, 8, 9, 10] (by decide +kernel) (by decide +kernel)
set_option maxRecDepth 20000 in
theorem gX1_firstPlaceOf_X1_sameRun : GoodIn wsX1_firstPlaceOf (wsV RX1 26 RX1 yX1_sameRun wsX1_sameRun) := goodIn_app (goodIn_of _ (by decide +kernel)) ggX1_firstPlaceOf_X1_sameRun
set_option maxRecDepth 20000 in
theorem ggX1_hasSameSigns_X1_sameRun : GoodIn wsX1_hasSameSigns wsX1_sameRun := goodIn_r _ [6, 7, 8, 9, 10] (by decide +kernel) (by decide +kernel)
set_option maxRecDepth 20000 in
theorem gX1_hasSameSigns_X1_sameRun : GoodIn wsX1_hasSameSigns (wsV RX1 26 RX1 yX1_sameRun wsX1_sameRun) := goodIn_app (goodIn_of _ (by decide +kernel)) ggX1_hasSameSigns_X1_sameRun
set_option maxRecDepth 20000 in
theorem ggX1_worstPlace_X1_signDigest : GoodIn wsX1_worstPlace wsX1_signDigest := goodIn_r _ [11, 1, 2, 12, 13, 14] (by decide +kernel) (by decide +kernel)
set_option maxRecDepth 20000 in
theorem gX1_worstPlace_X1_signDigest : GoodIn wsX1_worstPlace (wsV RX1 34 RX1 yX1_signDigest wsX1_signDigest) := goodIn_app (goodIn_of _ (by decide +kernel)) ggX1_worstPlace_X1_signDigest
set_option maxRecDepth 20000 in
theorem ggX2_init_X1_init : GoodIn wsX2_init wsX1_init := goodIn_r _ [13, 14, 2, 3, 15, 16, 17, 26, 27, 28] (by decide +kernel) (by decide +kernel)
set_option maxRecDepth 20000 in
theorem gX2_init_X1_init_n21 : GoodIn wsX2_init (wsX1_init) := ggX2_init_X1_init
set_option maxRecDepth 20000 in
theorem ggX2_init_X0_init : GoodIn wsX2_init wsX0_init := goodIn_r _ [19, 20, 2, 3, 15, 21, 29, 30, 31, 32, 33, 34, 35, 36] (by decide +kernel) (by decide +kernel)
set_option maxRecDepth 20000 in
theorem gX2_init_X0_init_n22 : GoodIn wsX2_init (wsX0_init) := ggX2_init_X0_init
set_option maxRecDepth 20000 in
theorem ggX2_addLetter_X2_requireRoomForLetter : GoodIn wsX2_addLetter wsX2_requireRoomForLetter := goodIn_ca (goodIn_r _ [6, 7, 8, 1, 9, 10, 11, 12] (by decide +kernel) (by decide +kernel)) (goodIn_sub (fun _ h => List.mem_cons_of_mem _ (List.mem_append_right _ h)) (by decide +kernel))
set_option maxRecDepth 20000 in
theorem gX2_addLetter_X2_requireRoomForLetter : GoodIn wsX2_addLetter (wsV RX2 23 RX2 yX2_requireRoomForLetter wsX2_requireRoomForLetter) := goodIn_app (goodIn_of _ (by decide +kernel)) ggX2_addLetter_X2_requireRoomForLetter
set_option maxRecDepth 20000 in
theorem ggX2_copyLetter_X2_requireLetter : GoodIn wsX2_copyLetter wsX2_requireLetter := goodIn_ca (goodIn_r _ [7, 8, 9, 2, 1, 23, 24, 25, 26] (by decide +kernel) (by decide +kernel)) (goodIn_sub (fun _ h => List.mem_cons_of_mem _ (List.mem_append_left _ (List.mem_append_right _ h))) (by decide +kernel))
set_option maxRecDepth 20000 in
theorem gX2_copyLetter_X2_requireLetter : GoodIn wsX2_copyLetter (wsV RX2 30 RX2 yX2_requireLetter wsX2_requireLetter) := goodIn_app (goodIn_of _ (by decide +kernel)) ggX2_copyLetter_X2_requireLetter
set_option maxRecDepth 20000 in
theorem ggX2_copyLetter_X2_requireRoomForLetter : GoodIn wsX2_copyLetter wsX2_requireRoomForLetter := goodIn_ca (goodIn_r _ [13, 14, 15, 2, 23, 24, 25, 26] (by decide +kernel) (by decide +kernel)) (goodIn_sub (fun _ h => List.mem_cons_of_mem _ (List.mem_append_right _ h)) (by decide +kernel))
set_option maxRecDepth 20000 in
theorem gX2_copyLetter_X2_requireRoomForLetter : GoodIn wsX2_copyLetter (wsV RX2 23 RX2 yX2_requireRoomForLetter wsX2_requireRoomForLetter) := goodIn_app (goodIn_of _ (by decide +kernel)) ggX2_copyLetter_X2_requireRoomForLetter
set_option maxRecDepth 20000 in
theorem ggX2_copyLetter_X1_copySigns : GoodIn wsX2_copyLetter wsX1_copySigns := goodIn_r _ [20, 21, 22, 27, 28, 29] (by decide +kernel) (by decide +kernel)
set_option maxRecDepth 20000 in
theorem gX2_copyLetter_X1_copySigns : GoodIn wsX2_copyLetter (wsV RX2 34 RX1 yX1_copySigns wsX1_copySigns) := goodIn_app (goodIn_of _ (by decide +kernel)) ggX2_copyLetter_X1_copySigns
set_option maxRecDepth 20000 in
theorem ggX2_write_X2_requireLetter : GoodIn wsX2_write wsX2_requireLetter := goodIn_ca (goodIn_r _ [7, 8, 9, 10, 11, 27, 28, 29, 30] (by decide +kernel) (by decide +kernel)) (goodIn_sub (fun _ h => List.mem_cons_of_mem _ (List.mem_append_left _ (List.mem_append_right _ h))) (by decide +kernel))
set_option maxRecDepth 20000 in
theorem gX2_write_X2_requireLetter : GoodIn wsX2_write (wsV RX2 30 RX2 yX2_requireLetter wsX2_requireLetter) := goodIn_app (goodIn_of _ (by decide +kernel)) ggX2_write_X2_requireLetter
set_option maxRecDepth 20000 in
theorem ggX2_write_X2_requireWrittenSign : GoodIn wsX2_write wsX2_requireWrittenSign := goodIn_ca (goodIn_r _ [14, 15, 16] (by decide +kernel) (by decide +kernel)) (goodIn_sub (fun _ h => List.mem_cons_of_mem _ (List.mem_append_right _ h)) (by decide +kernel))
set_option maxRecDepth 20000 in
theorem gX2_write_X2_requireWrittenSign : GoodIn wsX2_write (va_wsS RX2 38 yX2_requireWrittenSign wsX2_requireWrittenSign) := goodIn_app (goodIn_of _ (by decide +kernel)) ggX2_write_X2_requireWrittenSign
set_option maxRecDepth 20000 in
theorem ggX2_write_X1_append : GoodIn wsX2_write wsX1_append := goodIn_r _ [21, 22, 23, 24, 25, 26] (by decide +kernel) (by decide +kernel)
set_option maxRecDepth 20000 in
theorem gX2_write_X1_append : GoodIn wsX2_write (wsV RX2 52 RX1 yX1_append wsX1_append) := goodIn_app (goodIn_of _ (by decide +kernel)) ggX2_write_X1_append
set_option maxRecDepth 20000 in
theorem ggX2_erase_X2_requireLetter : GoodIn wsX2_erase wsX2_requireLetter := goodIn_ca (goodIn_r _ [5, 6, 7, 8, 9, 22, 23, 24, 25] (by decide +kernel) (by decide +kernel)) (goodIn_sub (fun _ h => List.mem_cons_of_mem _ (List.mem_append_left _ (List.mem_append_right _ h))) (by decide +kernel))
set_option maxRecDepth 20000 in
theorem gX2_erase_X2_requireLetter : GoodIn wsX2_erase (wsV RX2 30 RX2 yX2_requireLetter wsX2_requireLetter) := goodIn_app (goodIn_of _ (by decide +kernel)) ggX2_erase_X2_requireLetter
set_option maxRecDepth 20000 in
theorem ggX2_erase_X2_requireSigns : GoodIn wsX2_erase wsX2_requireSigns := goodIn_ca (goodIn_r _ [12, 13, 14, 26, 27, 28] (by decide +kernel) (by decide +kernel)) (goodIn_sub (fun _ h => List.mem_cons_of_mem _ (List.mem_append_right _ h)) (by decide +kernel))
set_option maxRecDepth 20000 in
theorem gX2_erase_X2_requireSigns : GoodIn wsX2_erase (va_wsS RX2 55 yX2_requireSigns wsX2_requireSigns) := goodIn_app (goodIn_of _ (by decide +kernel)) ggX2_erase_X2_requireSigns
set_option maxRecDepth 20000 in
theorem ggX2_erase_X1_removeLast : GoodIn wsX2_erase wsX1_removeLast := goodIn_r _ [19, 20, 21, 26, 27, 28] (by decide +kernel) (by decide +kernel)
set_option maxRecDepth 20000 in
theorem gX2_erase_X1_removeLast : GoodIn wsX2_erase (wsV RX2 58 RX1 yX1_removeLast wsX1_removeLast) := goodIn_app (goodIn_of _ (by decide +kernel)) ggX2_erase_X1_removeLast
set_option maxRecDepth 20000 in
theorem ggX2_forge_X2_requireLetterWithPlace : GoodIn wsX2_forge wsX2_requireLetterWithPlace := goodIn_ca (goodIn_r _ [7, 8, 9, 10, 11, 12, 6, 13, 14, 15, 22, 23, 24, 25, 26, 27, 28] (by decide +kernel) (by decide +kernel)) (goodIn_sub (fun _ h => List.mem_cons_of_mem _ (List.mem_append_right _ h)) (by decide +kernel))
set_option maxRecDepth 20000 in
theorem gX2_forge_X2_requireLetterWithPlace : GoodIn wsX2_forge (wsV RX2 62 RX2 yX2_requireLetterWithPlace wsX2_requireLetterWithPlace) := goodIn_app (goodIn_of _ (by decide +kernel)) ggX2_forge_X2_requireLetterWithPlace
set_option maxRecDepth 20000 in
theorem ggX2_forge_X1_replace : GoodIn wsX2_forge wsX1_replace := goodIn_r _ [20, 21, 22, 23, 24] (by decide +kernel) (by decide +kernel)
set_option maxRecDepth 20000 in
theorem gX2_forge_X1_replace : GoodIn wsX2_forge (wsV RX2 72 RX1 yX1_replace wsX1_replace) := goodIn_app (goodIn_of _ (by decide +kernel)) ggX2_forge_X1_replace
set_option maxRecDepth 20000 in
theorem ggX2_tear_X2_requireLetterWithPlace : GoodIn wsX2_tear wsX2_requireLetterWithPlace := goodIn_ca (goodIn_r _ [7, 8, 9, 10, 11, 12, 6, 13, 14, 15, 22, 23, 24, 25, 26, 27, 28] (by decide +kernel) (by decide +kernel)) (goodIn_sub (fun _ h => List.mem_cons_of_mem _ (List.mem_append_right _ h)) (by decide +kernel))
set_option maxRecDepth 20000 in
theorem gX2_tear_X2_requireLetterWithPlace : GoodIn wsX2_tear (wsV RX2 62 RX2 yX2_requireLetterWithPlace wsX2_requireLetterWithPlace) := goodIn_app (goodIn_of _ (by decide +kernel)) ggX2_tear_X2_requireLetterWithPlace
set_option maxRecDepth 20000 in
theorem ggX2_tear_X1_replace : GoodIn wsX2_tear wsX1_replace := goodIn_r _ [20, 21, 22, 23, 24] (by decide +kernel) (by decide +kernel)
set_option maxRecDepth 20000 in
theorem gX2_tear_X1_replace : GoodIn wsX2_tear (wsV RX2 72 RX1 yX1_replace wsX1_replace) := goodIn_app (goodIn_of _ (by decide +kernel)) ggX2_tear_X1_replace
set_option maxRecDepth 20000 in
theorem ggX2_mend_X2_requireLetterWithPlace : GoodIn wsX2_mend wsX2_requireLetterWithPlace := goodIn_ca (goodIn_r _ [7, 8, 9, 10, 11, 12, 6, 13, 14, 15, 32, 33, 34, 35, 36, 37, 38] (by decide +kernel) (by decide +kernel)) (goodIn_sub (fun _ h => List.mem_cons_of_mem _ (List.mem_append_left _ (List.mem_append_right _ h))) (by decide +kernel))
set_option maxRecDepth 20000 in
theorem gX2_mend_X2_requireLetterWithPlace : GoodIn wsX2_mend (wsV RX2 62 RX2 yX2_requireLetterWithPlace wsX2_requireLetterWithPlace) := goodIn_app (goodIn_of _ (by decide +kernel)) ggX2_mend_X2_requireLetterWithPlace
set_option maxRecDepth 20000 in
theorem ggX2_mend_X2_requireWrittenSign : GoodIn wsX2_mend wsX2_requireWrittenSign := goodIn_ca (goodIn_r _ [18, 19, 20] (by decide +kernel) (by decide +kernel)) (goodIn_sub (fun _ h => List.mem_cons_of_mem _ (List.mem_append_right _ h)) (by decide +kernel))
set_option maxRecDepth 20000 in
theorem gX2_mend_X2_requireWrittenSign : GoodIn wsX2_mend (va_wsS RX2 38 yX2_requireWrittenSign wsX2_requireWrittenSign) := goodIn_app (goodIn_of _ (by decide +kernel)) ggX2_mend_X2_requireWrittenSign
set_option maxRecDepth 20000 in
theorem ggX2_mend_X1_replace : GoodIn wsX2_mend wsX1_replace := goodIn_r _ [25, 26, 32, 33, 34] (by decide +kernel) (by decide +kernel)
set_option maxRecDepth 20000 in
theorem gX2_mend_X1_replace : GoodIn wsX2_mend (wsV RX2 72 RX1 yX1_replace wsX1_replace) := goodIn_app (goodIn_of _ (by decide +kernel)) ggX2_mend_X1_replace
set_option maxRecDepth 20000 in
theorem ggX2_mend_X1_countOf : GoodIn wsX2_mend wsX1_countOf := goodIn_r _ [30, 31, 26, 32, 33, 34] (by decide +kernel) (by decide +kernel)
set_option maxRecDepth 20000 in
theorem gX2_mend_X1_countOf : GoodIn wsX2_mend (wsV RX2 80 RX1 yX1_countOf wsX1_countOf) := goodIn_app (goodIn_of _ (by decide +kernel)) ggX2_mend_X1_countOf
set_option maxRecDepth 20000 in
theorem ggX2_seal_X2_requireLetter : GoodIn wsX2_seal wsX2_requireLetter := goodIn_ca (goodIn_r _ [9, 10, 11, 12, 13, 60, 61, 62, 63] (by decide +kernel) (by decide +kernel)) (goodIn_sub (fun _ h => List.mem_cons_of_mem _ (List.mem_append_right _ h)) (by decide +kernel))
set_option maxRecDepth 20000 in
theorem gX2_seal_X2_requireLetter : GoodIn wsX2_seal (wsV RX2 30 RX2 yX2_requireLetter wsX2_requireLetter) := goodIn_app (goodIn_of _ (by decide +kernel)) ggX2_seal_X2_requireLetter
set_option maxRecDepth 20000 in
theorem ggX2_seal_X2_requireSigns : GoodIn wsX2_seal wsX2_requireSigns := goodIn_ca (goodIn_r _ [16, 1, 2, 64, 65, 66] (by decide +kernel) (by decide +kernel)) (goodIn_sub (fun _ h => List.mem_cons_of_mem _ (List.mem_append_left _ (List.mem_append_right _ h))) (by decide +kernel))
set_option maxRecDepth 20000 in
theorem gX2_seal_X2_requireSigns : GoodIn wsX2_seal (va_wsS RX2 55 yX2_requireSigns wsX2_requireSigns) := goodIn_app (goodIn_of _ (by decide +kernel)) ggX2_seal_X2_requireSigns
set_option maxRecDepth 20000 in
theorem ggX2_seal_X2_lastSeal : GoodIn wsX2_seal wsX2_lastSeal := goodIn_r _ [20, 3, 4, 60, 61, 62, 63, 67, 68, 69, 70, 71, 72, 73, 74] (by decide +kernel) (by decide +kernel)
set_option maxRecDepth 20000 in
theorem gX2_seal_X2_lastSeal : GoodIn wsX2_seal (wsV RX2 89 RX2 yX2_lastSeal wsX2_lastSeal) := goodIn_app (goodIn_of _ (by decide +kernel)) ggX2_seal_X2_lastSeal
set_option maxRecDepth 20000 in
theorem ggX2_seal_X0_fill : GoodIn wsX2_seal wsX0_fill := goodIn_r _ [25, 26, 27, 28, 29, 30, 31, 32, 33, 34, 35, 36, 37, 38, 39, 40, 41, 42, 43, 44, 45, 46, 47, 48, 49, 50, 51, 52, 53, 54, 55, 56, 57, 8, 58, 59, 67, 68, 69, 70, 71, 72, 73, 74, 64, 65, 66] (by decide +kernel) (by decide +kernel)
set_option maxRecDepth 20000 in
theorem gX2_seal_X0_fill : GoodIn wsX2_seal (wsV RX2 92 RX0 yX0_fill wsX0_fill) := goodIn_app (goodIn_of _ (by decide +kernel)) ggX2_seal_X0_fill
set_option maxRecDepth 20000 in
theorem ggX2_signsOf_X2_requireLetter : GoodIn wsX2_signsOf wsX2_requireLetter := goodIn_ca (goodIn_r _ [5, 6, 7, 8, 9, 13, 14, 15, 16] (by decide +kernel) (by decide +kernel)) (goodIn_sub (fun _ h => List.mem_cons_of_mem _ (List.mem_append_right _ h)) (by decide +kernel))
set_option maxRecDepth 20000 in
theorem gX2_signsOf_X2_requireLetter : GoodIn wsX2_signsOf (wsV RX2 30 RX2 yX2_requireLetter wsX2_requireLetter) := goodIn_app (goodIn_of _ (by decide +kernel)) ggX2_signsOf_X2_requireLetter
set_option maxRecDepth 20000 in
theorem ggX2_commasOf_X2_requireLetter : GoodIn wsX2_commasOf wsX2_requireLetter := goodIn_ca (goodIn_r _ [5, 6, 7, 8, 9, 17, 18, 19, 20] (by decide +kernel) (by decide +kernel)) (goodIn_sub (fun _ h => List.mem_cons_of_mem _ (List.mem_append_right _ h)) (by decide +kernel))
set_option maxRecDepth 20000 in
theorem gX2_commasOf_X2_requireLetter : GoodIn wsX2_commasOf (wsV RX2 30 RX2 yX2_requireLetter wsX2_requireLetter) := goodIn_app (goodIn_of _ (by decide +kernel)) ggX2_commasOf_X2_requireLetter
set_option maxRecDepth 20000 in
theorem ggX2_commasOf_X1_countOf : GoodIn wsX2_commasOf wsX1_countOf := goodIn_r _ [14, 15, 16, 21, 22, 23] (by decide +kernel) (by decide +kernel)
set_option maxRecDepth 20000 in
theorem gX2_commasOf_X1_countOf : GoodIn wsX2_commasOf (wsV RX2 80 RX1 yX1_countOf wsX1_countOf) := goodIn_app (goodIn_of _ (by decide +kernel)) ggX2_commasOf_X1_countOf
set_option maxRecDepth 20000 in
theorem ggX2_tearsOf_X2_requireLetter : GoodIn wsX2_tearsOf wsX2_requireLetter := goodIn_ca (goodIn_r _ [5, 6, 7, 8, 9, 17, 18, 19, 20] (by decide +kernel) (by decide +kernel)) (goodIn_sub (fun _ h => List.mem_cons_of_mem _ (List.mem_append_right _ h)) (by decide +kernel))
set_option maxRecDepth 20000 in
theorem gX2_tearsOf_X2_requireLetter : GoodIn wsX2_tearsOf (wsV RX2 30 RX2 yX2_requireLetter wsX2_requireLetter) := goodIn_app (goodIn_of _ (by decide +kernel)) ggX2_tearsOf_X2_requireLetter
set_option maxRecDepth 20000 in
theorem ggX2_tearsOf_X1_countOf : GoodIn wsX2_tearsOf wsX1_countOf := goodIn_r _ [14, 15, 16, 21, 22, 23] (by decide +kernel) (by decide +kernel)
set_option maxRecDepth 20000 in
theorem gX2_tearsOf_X1_countOf : GoodIn wsX2_tearsOf (wsV RX2 80 RX1 yX1_countOf wsX1_countOf) := goodIn_app (goodIn_of _ (by decide +kernel)) ggX2_tearsOf_X1_countOf
set_option maxRecDepth 20000 in
theorem ggX2_digestOf_X2_requireLetter : GoodIn wsX2_digestOf wsX2_requireLetter := goodIn_ca (goodIn_r _ [5, 6, 7, 8, 9, 17, 18, 19, 20] (by decide +kernel) (by decide +kernel)) (goodIn_sub (fun _ h => List.mem_cons_of_mem _ (List.mem_append_right _ h)) (by decide +kernel))
set_option maxRecDepth 20000 in
theorem gX2_digestOf_X2_requireLetter : GoodIn wsX2_digestOf (wsV RX2 30 RX2 yX2_requireLetter wsX2_requireLetter) := goodIn_app (goodIn_of _ (by decide +kernel)) ggX2_digestOf_X2_requireLetter
set_option maxRecDepth 20000 in
theorem ggX2_digestOf_X1_signDigest : GoodIn wsX2_digestOf wsX1_signDigest := goodIn_r _ [14, 15, 16, 21, 22, 23] (by decide +kernel) (by decide +kernel)
set_option maxRecDepth 20000 in
theorem gX2_digestOf_X1_signDigest : GoodIn wsX2_digestOf (wsV RX2 101 RX1 yX1_signDigest wsX1_signDigest) := goodIn_app (goodIn_of _ (by decide +kernel)) ggX2_digestOf_X1_signDigest
set_option maxRecDepth 20000 in
theorem ggX2_signAt_X2_requireLetterWithPlace : GoodIn wsX2_signAt wsX2_requireLetterWithPlace := goodIn_ca (goodIn_r _ [5, 6, 7, 8, 9, 10, 4, 11, 12, 13, 14, 15, 16, 17, 18, 19, 20] (by decide +kernel) (by decide +kernel)) (goodIn_sub (fun _ h => List.mem_cons_of_mem _ (List.mem_append_right _ h)) (by decide +kernel))
set_option maxRecDepth 20000 in
theorem gX2_signAt_X2_requireLetterWithPlace : GoodIn wsX2_signAt (wsV RX2 62 RX2 yX2_requireLetterWithPlace wsX2_requireLetterWithPlace) := goodIn_app (goodIn_of _ (by decide +kernel)) ggX2_signAt_X2_requireLetterWithPlace
set_option maxRecDepth 20000 in
theorem ggX2_sumOf_X2_requireLetter : GoodIn wsX2_sumOf wsX2_requireLetter := goodIn_ca (goodIn_r _ [7, 8, 9, 10, 11, 21, 22, 23, 24] (by decide +kernel) (by decide +kernel)) (goodIn_sub (fun _ h => List.mem_cons_of_mem _ (List.mem_append_right _ h)) (by decide +kernel))
set_option maxRecDepth 20000 in
theorem gX2_sumOf_X2_requireLetter : GoodIn wsX2_sumOf (wsV RX2 30 RX2 yX2_requireLetter wsX2_requireLetter) := goodIn_app (goodIn_of _ (by decide +kernel)) ggX2_sumOf_X2_requireLetter
set_option maxRecDepth 20000 in
theorem ggX2_sumOf_X1_windowSum : GoodIn wsX2_sumOf wsX1_windowSum := goodIn_r _ [16, 17, 18, 19, 20] (by decide +kernel) (by decide +kernel)
set_option maxRecDepth 20000 in
theorem gX2_sumOf_X1_windowSum : GoodIn wsX2_sumOf (wsV RX2 109 RX1 yX1_windowSum wsX1_windowSum) := goodIn_app (goodIn_of _ (by decide +kernel)) ggX2_sumOf_X1_windowSum
set_option maxRecDepth 20000 in
theorem ggX2_sameSums_X2_requireLetter : GoodIn wsX2_sameSums wsX2_requireLetter := goodIn_ca (goodIn_r _ [5, 6, 7, 8, 9, 31, 32, 33, 34] (by decide +kernel) (by decide +kernel)) (goodIn_sub (fun _ h => List.mem_cons_of_mem _ (List.mem_append_left _ (List.mem_append_right _ h))) (by decide +kernel))
set_option maxRecDepth 20000 in
theorem gX2_sameSums_X2_requireLetter : GoodIn wsX2_sameSums (wsV RX2 30 RX2 yX2_requireLetter wsX2_requireLetter) := goodIn_app (goodIn_of _ (by decide +kernel)) ggX2_sameSums_X2_requireLetter
set_option maxRecDepth 20000 in
theorem ggX2_sameSums_X2_requireWindowLength : GoodIn wsX2_sameSums wsX2_requireWindowLength := goodIn_ca (goodIn_r _ [12, 13, 14] (by decide +kernel) (by decide +kernel)) (goodIn_sub (fun _ h => List.mem_cons_of_mem _ (List.mem_append_right _ h)) (by decide +kernel))
set_option maxRecDepth 20000 in
theorem gX2_sameSums_X2_requireWindowLength : GoodIn wsX2_sameSums (va_wsS RX2 112 yX2_requireWindowLength wsX2_requireWindowLength) := goodIn_app (goodIn_of _ (by decide +kernel)) ggX2_sameSums_X2_requireWindowLength
set_option maxRecDepth 20000 in
theorem ggX2_sameSums_X1_sameSumPairs : GoodIn wsX2_sameSums wsX1_sameSumPairs := goodIn_r _ [19, 20, 21, 22, 23, 18, 24, 25, 26, 27, 28, 29, 30, 35, 36, 37] (by decide +kernel) (by decide +kernel)
set_option maxRecDepth 20000 in
theorem gX2_sameSums_X1_sameSumPairs : GoodIn wsX2_sameSums (wsV RX2 115 RX1 yX1_sameSumPairs wsX1_sameSumPairs) := goodIn_app (goodIn_of _ (by decide +kernel)) ggX2_sameSums_X1_sameSumPairs
set_option maxRecDepth 20000 in
theorem ggX2_falseAlarms_X2_requireLetter : GoodIn wsX2_falseAlarms wsX2_requireLetter := goodIn_ca (goodIn_r _ [5, 6, 7, 8, 9, 35, 36, 37, 38] (by decide +kernel) (by decide +kernel)) (goodIn_sub (fun _ h => List.mem_cons_of_mem _ (List.mem_append_left _ (List.mem_append_right _ h))) (by decide +kernel))
set_option maxRecDepth 20000 in
theorem gX2_falseAlarms_X2_requireLetter : GoodIn wsX2_falseAlarms (wsV RX2 30 RX2 yX2_requireLetter wsX2_requireLetter) := goodIn_app (goodIn_of _ (by decide +kernel)) ggX2_falseAlarms_X2_requireLetter
set_option maxRecDepth 20000 in
theorem ggX2_falseAlarms_X2_requireWindowLength : GoodIn wsX2_falseAlarms wsX2_requireWindowLength := goodIn_ca (goodIn_r _ [12, 13, 14] (by decide +kernel) (by decide +kernel)) (goodIn_sub (fun _ h => List.mem_cons_of_mem _ (List.mem_append_right _ h)) (by decide +kernel))
set_option maxRecDepth 20000 in
theorem gX2_falseAlarms_X2_requireWindowLength : GoodIn wsX2_falseAlarms (va_wsS RX2 112 yX2_requireWindowLength wsX2_requireWindowLength) := goodIn_app (goodIn_of _ (by decide +kernel)) ggX2_falseAlarms_X2_requireWindowLength
set_option maxRecDepth 20000 in
theorem ggX2_falseAlarms_X1_falseAlarmPairs : GoodIn wsX2_falseAlarms wsX1_falseAlarmPairs := goodIn_r _ [19, 20, 21, 22, 23, 18, 24, 25, 26, 27, 28, 29, 30, 31, 32, 33, 34, 39, 40, 41] (by decide +kernel) (by decide +kernel)
set_option maxRecDepth 20000 in
theorem gX2_falseAlarms_X1_falseAlarmPairs : GoodIn wsX2_falseAlarms (wsV RX2 118 RX1 yX1_falseAlarmPairs wsX1_falseAlarmPairs) := goodIn_app (goodIn_of _ (by decide +kernel)) ggX2_falseAlarms_X1_falseAlarmPairs
set_option maxRecDepth 20000 in
theorem ggX2_firstOf_X2_requireLetter : GoodIn wsX2_firstOf wsX2_requireLetter := goodIn_ca (goodIn_r _ [5, 6, 7, 8, 9, 26, 27, 28, 29] (by decide +kernel) (by decide +kernel)) (goodIn_sub (fun _ h => List.mem_cons_of_mem _ (List.mem_append_left _ (List.mem_append_right _ h))) (by decide +kernel))
set_option maxRecDepth 20000 in
theorem gX2_firstOf_X2_requireLetter : GoodIn wsX2_firstOf (wsV RX2 30 RX2 yX2_requireLetter wsX2_requireLetter) := goodIn_app (goodIn_of _ (by decide +kernel)) ggX2_firstOf_X2_requireLetter
set_option maxRecDepth 20000 in
theorem ggX2_firstOf_X2_requireSigns : GoodIn wsX2_firstOf wsX2_requireSigns := goodIn_ca (goodIn_r _ [12, 13, 14, 30, 31, 32] (by decide +kernel) (by decide +kernel)) (goodIn_sub (fun _ h => List.mem_cons_of_mem _ (List.mem_append_right _ h)) (by decide +kernel))
set_option maxRecDepth 20000 in
theorem gX2_firstOf_X2_requireSigns : GoodIn wsX2_firstOf (va_wsS RX2 55 yX2_requireSigns wsX2_requireSigns) := goodIn_app (goodIn_of _ (by decide +kernel)) ggX2_firstOf_X2_requireSigns
set_option maxRecDepth 20000 in
theorem ggX2_firstOf_X1_firstPlaceOf : GoodIn wsX2_firstOf wsX1_firstPlaceOf := goodIn_r _ [19, 20, 21, 22, 23, 18, 24, 25, 30, 31, 32] (by decide +kernel) (by decide +kernel)
set_option maxRecDepth 20000 in
theorem gX2_firstOf_X1_firstPlaceOf : GoodIn wsX2_firstOf (wsV RX2 121 RX1 yX1_firstPlaceOf wsX1_firstPlaceOf) := goodIn_app (goodIn_of _ (by decide +kernel)) ggX2_firstOf_X1_firstPlaceOf
set_option maxRecDepth 20000 in
theorem ggX2_doubles_X1_signDigest : GoodIn wsX2_doubles wsX1_signDigest := goodIn_r _ [7, 8, 9, 22, 23, 24] (by decide +kernel) (by decide +kernel)
set_option maxRecDepth 20000 in
theorem gX2_doubles_X1_signDigest : GoodIn wsX2_doubles (wsV RX2 101 RX1 yX1_signDigest wsX1_signDigest) := goodIn_app (goodIn_of _ (by decide +kernel)) ggX2_doubles_X1_signDigest
set_option maxRecDepth 20000 in
theorem ggX2_doubles_X1_hasSameSigns : GoodIn wsX2_doubles wsX1_hasSameSigns := goodIn_r _ [13, 8, 14, 15, 16, 6, 17, 9, 22, 23, 24] (by decide +kernel) (by decide +kernel)
set_option maxRecDepth 20000 in
theorem gX2_doubles_X1_hasSameSigns : GoodIn wsX2_doubles (wsV RX2 125 RX1 yX1_hasSameSigns wsX1_hasSameSigns) := goodIn_app (goodIn_of _ (by decide +kernel)) ggX2_doubles_X1_hasSameSigns
set_option maxRecDepth 20000 in
theorem ggX2_letterIn_X2_requireEnvelope : GoodIn wsX2_letterIn wsX2_requireEnvelope := goodIn_ca (goodIn_r _ [5, 6, 7, 8, 9, 18, 19, 20, 21] (by decide +kernel) (by decide +kernel)) (goodIn_sub (fun _ h => List.mem_cons_of_mem _ (List.mem_append_right _ h)) (by decide +kernel))
set_option maxRecDepth 20000 in
theorem gX2_letterIn_X2_requireEnvelope : GoodIn wsX2_letterIn (wsV RX2 129 RX2 yX2_requireEnvelope wsX2_requireEnvelope) := goodIn_app (goodIn_of _ (by decide +kernel)) ggX2_letterIn_X2_requireEnvelope
set_option maxRecDepth 20000 in
theorem ggX2_digestIn_X2_requireEnvelope : GoodIn wsX2_digestIn wsX2_requireEnvelope := goodIn_ca (goodIn_r _ [5, 6, 7, 8, 9, 18, 19, 20, 21] (by decide +kernel) (by decide +kernel)) (goodIn_sub (fun _ h => List.mem_cons_of_mem _ (List.mem_append_right _ h)) (by decide +kernel))
set_option maxRecDepth 20000 in
theorem gX2_digestIn_X2_requireEnvelope : GoodIn wsX2_digestIn (wsV RX2 129 RX2 yX2_requireEnvelope wsX2_requireEnvelope) := goodIn_app (goodIn_of _ (by decide +kernel)) ggX2_digestIn_X2_requireEnvelope
set_option maxRecDepth 20000 in
theorem ggX2_sealOf_X2_requireEnvelope : GoodIn wsX2_sealOf wsX2_requireEnvelope := goodIn_ca (goodIn_r _ [5, 6, 7, 8, 9, 18, 19, 20, 21] (by decide +kernel) (by decide +kernel)) (goodIn_sub (fun _ h => List.mem_cons_of_mem _ (List.mem_append_right _ h)) (by decide +kernel))
set_option maxRecDepth 20000 in
theorem gX2_sealOf_X2_requireEnvelope : GoodIn wsX2_sealOf (wsV RX2 129 RX2 yX2_requireEnvelope wsX2_requireEnvelope) := goodIn_app (goodIn_of _ (by decide +kernel)) ggX2_sealOf_X2_requireEnvelope
set_option maxRecDepth 20000 in
theorem ggX2_isWhole_X2_requireEnvelope : GoodIn wsX2_isWhole wsX2_requireEnvelope := goodIn_ca (goodIn_r _ [6, 7, 8, 9, 10, 24, 25, 26, 27] (by decide +kernel) (by decide +kernel)) (goodIn_sub (fun _ h => List.mem_cons_of_mem _ (List.mem_append_right _ h)) (by decide +kernel))
set_option maxRecDepth 20000 in
theorem gX2_isWhole_X2_requireEnvelope : GoodIn wsX2_isWhole (wsV RX2 129 RX2 yX2_requireEnvelope wsX2_requireEnvelope) := goodIn_app (goodIn_of _ (by decide +kernel)) ggX2_isWhole_X2_requireEnvelope
set_option maxRecDepth 20000 in
theorem ggX2_isWhole_X0_fits : GoodIn wsX2_isWhole wsX0_fits := goodIn_r _ [15, 16, 17, 18, 19, 20, 21, 22, 23, 28, 29, 30, 31, 32, 33, 34, 35, 36, 37, 38] (by decide +kernel) (by decide +kernel)
set_option maxRecDepth 20000 in
theorem gX2_isWhole_X0_fits : GoodIn wsX2_isWhole (wsV RX2 139 RX0 yX0_fits wsX0_fits) := goodIn_app (goodIn_of _ (by decide +kernel)) ggX2_isWhole_X0_fits
set_option maxRecDepth 20000 in
theorem ggX2_firstBroken_X0_fits : GoodIn wsX2_firstBroken wsX0_fits := goodIn_r _ [8, 9, 10, 11, 12, 13, 14, 15, 16, 21, 22, 23, 24, 25, 26, 27, 28, 29, 30, 31] (by decide +kernel) (by decide +kernel)
set_option maxRecDepth 20000 in
theorem gX2_firstBroken_X0_fits : GoodIn wsX2_firstBroken (wsV RX2 139 RX0 yX0_fits wsX0_fits) := goodIn_app (goodIn_of _ (by decide +kernel)) ggX2_firstBroken_X0_fits
set_option maxRecDepth 20000 in
theorem ggX2_tornBlocks_X2_requireEnvelope : GoodIn wsX2_tornBlocks wsX2_requireEnvelope := goodIn_ca (goodIn_r _ [6, 7, 8, 9, 10, 33, 34, 35, 36] (by decide +kernel) (by decide +kernel)) (goodIn_sub (fun _ h => List.mem_cons_of_mem _ (List.mem_append_right _ h)) (by decide +kernel))
set_option maxRecDepth 20000 in
theorem gX2_tornBlocks_X2_requireEnvelope : GoodIn wsX2_tornBlocks (wsV RX2 129 RX2 yX2_requireEnvelope wsX2_requireEnvelope) := goodIn_app (goodIn_of _ (by decide +kernel)) ggX2_tornBlocks_X2_requireEnvelope
set_option maxRecDepth 20000 in
theorem ggX2_tornBlocks_X0_tornBlockCount : GoodIn wsX2_tornBlocks wsX0_tornBlockCount := goodIn_r _ [15, 16, 17, 18, 14, 19, 20, 21, 22, 23, 24, 25, 26, 27, 28, 29, 30, 31, 32, 37, 38, 39, 40, 41, 42, 43, 44, 45, 46, 47] (by decide +kernel) (by decide +kernel)
set_option maxRecDepth 20000 in
theorem gX2_tornBlocks_X0_tornBlockCount : GoodIn wsX2_tornBlocks (wsV RX2 142 RX0 yX0_tornBlockCount wsX0_tornBlockCount) := goodIn_app (goodIn_of _ (by decide +kernel)) ggX2_tornBlocks_X0_tornBlockCount
set_option maxRecDepth 20000 in
theorem ggX2_firstTorn_X2_requireEnvelope : GoodIn wsX2_firstTorn wsX2_requireEnvelope := goodIn_ca (goodIn_r _ [6, 7, 8, 9, 10, 33, 34, 35, 36] (by decide +kernel) (by decide +kernel)) (goodIn_sub (fun _ h => List.mem_cons_of_mem _ (List.mem_append_right _ h)) (by decide +kernel))
set_option maxRecDepth 20000 in
theorem gX2_firstTorn_X2_requireEnvelope : GoodIn wsX2_firstTorn (wsV RX2 129 RX2 yX2_requireEnvelope wsX2_requireEnvelope) := goodIn_app (goodIn_of _ (by decide +kernel)) ggX2_firstTorn_X2_requireEnvelope
set_option maxRecDepth 20000 in
theorem ggX2_firstTorn_X0_firstTornBlock : GoodIn wsX2_firstTorn wsX0_firstTornBlock := goodIn_r _ [15, 16, 17, 18, 14, 19, 20, 21, 22, 23, 24, 25, 26, 27, 28, 29, 30, 31, 32, 37, 38, 39, 40, 41, 42, 43, 44, 45, 46, 47] (by decide +kernel) (by decide +kernel)
set_option maxRecDepth 20000 in
theorem gX2_firstTorn_X0_firstTornBlock : GoodIn wsX2_firstTorn (wsV RX2 145 RX0 yX0_firstTornBlock wsX0_firstTornBlock) := goodIn_app (goodIn_of _ (by decide +kernel)) ggX2_firstTorn_X0_firstTornBlock
set_option maxRecDepth 20000 in
theorem ggX2_changedPlace_X2_requireEnvelope : GoodIn wsX2_changedPlace wsX2_requireEnvelope := goodIn_ca (goodIn_r _ [6, 7, 8, 9, 10, 43, 44, 45, 46] (by decide +kernel) (by decide +kernel)) (goodIn_sub (fun _ h => List.mem_cons_of_mem _ (List.mem_append_right _ h)) (by decide +kernel))
set_option maxRecDepth 20000 in
theorem gX2_changedPlace_X2_requireEnvelope : GoodIn wsX2_changedPlace (wsV RX2 129 RX2 yX2_requireEnvelope wsX2_requireEnvelope) := goodIn_app (goodIn_of _ (by decide +kernel)) ggX2_changedPlace_X2_requireEnvelope
set_option maxRecDepth 20000 in
theorem ggX2_changedPlace_X0_placeOfChange : GoodIn wsX2_changedPlace wsX0_placeOfChange := goodIn_r _ [15, 16, 17, 18, 19, 20, 14, 21, 22, 23, 24, 25, 26, 27, 28, 29, 30, 31, 32, 33, 34, 35, 36, 37, 38, 39, 40, 41, 42, 55, 56, 57, 47, 48, 49, 50, 51, 52, 53, 54] (by decide +kernel) (by decide +kernel)
set_option maxRecDepth 20000 in
theorem gX2_changedPlace_X0_placeOfChange : GoodIn wsX2_changedPlace (wsV RX2 148 RX0 yX0_placeOfChange wsX0_placeOfChange) := goodIn_app (goodIn_of _ (by decide +kernel)) ggX2_changedPlace_X0_placeOfChange
set_option maxRecDepth 20000 in
theorem ggX2_changedSign_X2_requireEnvelope : GoodIn wsX2_changedSign wsX2_requireEnvelope := goodIn_ca (goodIn_r _ [8, 9, 10, 11, 12, 46, 47, 48, 49] (by decide +kernel) (by decide +kernel)) (goodIn_sub (fun _ h => List.mem_cons_of_mem _ (List.mem_append_right _ h)) (by decide +kernel))
set_option maxRecDepth 20000 in
theorem gX2_changedSign_X2_requireEnvelope : GoodIn wsX2_changedSign (wsV RX2 129 RX2 yX2_requireEnvelope wsX2_requireEnvelope) := goodIn_app (goodIn_of _ (by decide +kernel)) ggX2_changedSign_X2_requireEnvelope
set_option maxRecDepth 20000 in
theorem ggX2_changedSign_X0_placeOfChange : GoodIn wsX2_changedSign wsX0_placeOfChange := goodIn_r _ [17, 18, 19, 20, 21, 22, 16, 23, 24, 25, 26, 27, 28, 29, 30, 31, 32, 33, 34, 35, 36, 37, 38, 39, 40, 41, 42, 43, 44, 58, 59, 60, 50, 51, 52, 53, 54, 55, 56, 57] (by decide +kernel) (by decide +kernel)
set_option maxRecDepth 20000 in
theorem gX2_changedSign_X0_placeOfChange : GoodIn wsX2_changedSign (wsV RX2 148 RX0 yX0_placeOfChange wsX0_placeOfChange) := goodIn_app (goodIn_of _ (by decide +kernel)) ggX2_changedSign_X0_placeOfChange
set_option maxRecDepth 20000 in
theorem ggX2_changedSign_X0_lostInSum : GoodIn wsX2_changedSign wsX0_lostInSum := goodIn_r _ [23, 24, 25, 26, 27, 28, 29, 30, 31, 50, 51, 52, 53, 54, 55, 56, 57, 58, 59, 60] (by decide +kernel) (by decide +kernel)
set_option maxRecDepth 20000 in
theorem gX2_changedSign_X0_lostInSum : GoodIn wsX2_changedSign (wsV RX2 153 RX0 yX0_lostInSum wsX0_lostInSum) := goodIn_app (goodIn_of _ (by decide +kernel)) ggX2_changedSign_X0_lostInSum
set_option maxRecDepth 20000 in
theorem ggX2_unnoticed_X2_requireLetter : GoodIn wsX2_unnoticed wsX2_requireLetter := goodIn_ca (goodIn_r _ [5, 6, 7, 8, 9, 17, 18, 19, 20] (by decide +kernel) (by decide +kernel)) (goodIn_sub (fun _ h => List.mem_cons_of_mem _ (List.mem_append_right _ h)) (by decide +kernel))
set_option maxRecDepth 20000 in
theorem gX2_unnoticed_X2_requireLetter : GoodIn wsX2_unnoticed (wsV RX2 30 RX2 yX2_requireLetter wsX2_requireLetter) := goodIn_app (goodIn_of _ (by decide +kernel)) ggX2_unnoticed_X2_requireLetter
set_option maxRecDepth 20000 in
theorem ggX2_unnoticed_X1_unnoticedPlaces : GoodIn wsX2_unnoticed wsX1_unnoticedPlaces := goodIn_r _ [14, 15, 16, 21, 22, 23] (by decide +kernel) (by decide +kernel)
set_option maxRecDepth 20000 in
theorem gX2_unnoticed_X1_unnoticedPlaces : GoodIn wsX2_unnoticed (wsV RX2 159 RX1 yX1_unnoticedPlaces wsX1_unnoticedPlaces) := goodIn_app (goodIn_of _ (by decide +kernel)) ggX2_unnoticed_X1_unnoticedPlaces
set_option maxRecDepth 20000 in
theorem ggX2_worstTear_X2_requireLetter : GoodIn wsX2_worstTear wsX2_requireLetter := goodIn_ca (goodIn_r _ [5, 6, 7, 8, 9, 25, 26, 27, 28] (by decide +kernel) (by decide +kernel)) (goodIn_sub (fun _ h => List.mem_cons_of_mem _ (List.mem_append_right _ h)) (by decide +kernel))
set_option maxRecDepth 20000 in
theorem gX2_worstTear_X2_requireLetter : GoodIn wsX2_worstTear (wsV RX2 30 RX2 yX2_requireLetter wsX2_requireLetter) := goodIn_app (goodIn_of _ (by decide +kernel)) ggX2_worstTear_X2_requireLetter
set_option maxRecDepth 20000 in
theorem ggX2_worstTear_X1_worstPlace : GoodIn wsX2_worstTear wsX1_worstPlace := goodIn_r _ [14, 15, 16, 17, 18, 19, 20, 21, 22, 23, 13, 24, 29, 30, 31] (by decide +kernel) (by decide +kernel)
set_option maxRecDepth 20000 in
theorem gX2_worstTear_X1_worstPlace : GoodIn wsX2_worstTear (wsV RX2 162 RX1 yX1_worstPlace wsX1_worstPlace) := goodIn_app (goodIn_of _ (by decide +kernel)) ggX2_worstTear_X1_worstPlace
set_option maxRecDepth 20000 in
theorem ggX2_digest_X2_doubles : GoodIn wsX2_digest wsX2_doubles := goodIn_r _ [11, 3, 5, 12, 13, 14, 15, 16, 17, 18, 19, 20, 21, 22, 23, 24, 25, 26, 121, 122, 123, 124, 125, 126, 127] (by decide +kernel) (by decide +kernel)
set_option maxRecDepth 20000 in
theorem gX2_digest_X2_doubles : GoodIn wsX2_digest (wsV RX2 169 RX2 yX2_doubles wsX2_doubles) := goodIn_app (goodIn_of _ (by decide +kernel)) ggX2_digest_X2_doubles
set_option maxRecDepth 20000 in
theorem ggX2_digest_X2_firstBroken : GoodIn wsX2_digest wsX2_firstBroken := goodIn_r _ [30, 4, 6, 5, 31, 32, 33, 34, 35, 36, 37, 13, 14, 15, 16, 17, 18, 121, 122, 123, 124, 128, 129, 130, 131, 132, 133, 134, 135, 125, 126, 127] (by decide +kernel) (by decide +kernel)
set_option maxRecDepth 20000 in
theorem gX2_digest_X2_firstBroken : GoodIn wsX2_digest (wsV RX2 172 RX2 yX2_firstBroken wsX2_firstBroken) := goodIn_app (goodIn_of _ (by decide +kernel)) ggX2_digest_X2_firstBroken
set_option maxRecDepth 20000 in
theorem ggX2_digest_X2_withLetter : GoodIn wsX2_digest wsX2_withLetter := goodIn_r _ [40, 2, 41, 42, 43, 15, 44, 17, 18, 12, 13, 14, 16, 45, 46, 47, 48, 49, 50, 51, 52, 53, 54, 55, 56, 57, 58, 59, 60, 61, 23, 24, 25, 26, 62, 63, 64, 65, 66, 67, 68, 69, 70, 71, 72, 73, 74, 125, 126, 127] (by decide +kernel) (by decide +kernel)
set_option maxRecDepth 20000 in
theorem gX2_digest_X2_withLetter : GoodIn wsX2_digest (va_wsS RX2 175 yX2_withLetter wsX2_withLetter) := goodIn_app (goodIn_of _ (by decide +kernel)) ggX2_digest_X2_withLetter
set_option maxRecDepth 20000 in
theorem ggX2_digest_X2_withEnvelope : GoodIn wsX2_digest wsX2_withEnvelope := goodIn_r _ [78, 5, 2, 31, 32, 33, 34, 35, 36, 37, 13, 14, 15, 16, 17, 18, 79, 80, 81, 82, 83, 84, 85, 86, 87, 88, 89, 90, 91, 92, 93, 94, 95, 96, 97, 98, 99, 100, 101, 102, 103, 104, 105, 106, 107, 108, 109, 110, 111, 112, 113, 114, 115, 116, 117, 118, 119, 120, 121, 122, 123, 124, 128, 129, 130, 131, 132, 133, 134, 135, 125, 126, 127] (by decide +kernel) (by decide +kernel)
set_option maxRecDepth 20000 in
theorem gX2_digest_X2_withEnvelope : GoodIn wsX2_digest (wsV RX2 179 RX2 yX2_withEnvelope wsX2_withEnvelope) := goodIn_app (goodIn_of _ (by decide +kernel)) ggX2_digest_X2_withEnvelope
set_option maxRecDepth 20000 in
theorem ggX2_withLetter_X1_countOf : GoodIn wsX2_withLetter wsX1_countOf := goodIn_r _ [6, 7, 8, 47, 48, 49] (by decide +kernel) (by decide +kernel)
set_option maxRecDepth 20000 in
theorem gX2_withLetter_X1_countOf : GoodIn wsX2_withLetter (wsV RX2 80 RX1 yX1_countOf wsX1_countOf) := goodIn_app (goodIn_of _ (by decide +kernel)) ggX2_withLetter_X1_countOf
set_option maxRecDepth 20000 in
theorem ggX2_withLetter_X1_signDigest : GoodIn wsX2_withLetter wsX1_signDigest := goodIn_r _ [12, 7, 8, 47, 48, 49] (by decide +kernel) (by decide +kernel)
set_option maxRecDepth 20000 in
theorem gX2_withLetter_X1_signDigest : GoodIn wsX2_withLetter (wsV RX2 101 RX1 yX1_signDigest wsX1_signDigest) := goodIn_app (goodIn_of _ (by decide +kernel)) ggX2_withLetter_X1_signDigest
set_option maxRecDepth 20000 in
theorem ggX2_withLetter_X1_sameSumPairs : GoodIn wsX2_withLetter wsX1_sameSumPairs := goodIn_r _ [16, 17, 18, 19, 20, 5, 21, 7, 22, 23, 24, 25, 8, 47, 48, 49] (by decide +kernel) (by decide +kernel)
set_option maxRecDepth 20000 in
theorem gX2_withLetter_X1_sameSumPairs : GoodIn wsX2_withLetter (wsV RX2 115 RX1 yX1_sameSumPairs wsX1_sameSumPairs) := goodIn_app (goodIn_of _ (by decide +kernel)) ggX2_withLetter_X1_sameSumPairs
set_option maxRecDepth 20000 in
theorem ggX2_withLetter_X1_falseAlarmPairs : GoodIn wsX2_withLetter wsX1_falseAlarmPairs := goodIn_r _ [29, 17, 18, 19, 20, 5, 21, 7, 22, 23, 24, 25, 8, 30, 31, 32, 33, 47, 48, 49] (by decide +kernel) (by decide +kernel)
set_option maxRecDepth 20000 in
theorem gX2_withLetter_X1_falseAlarmPairs : GoodIn wsX2_withLetter (wsV RX2 118 RX1 yX1_falseAlarmPairs wsX1_falseAlarmPairs) := goodIn_app (goodIn_of _ (by decide +kernel)) ggX2_withLetter_X1_falseAlarmPairs
set_option maxRecDepth 20000 in
theorem ggX2_withLetter_X1_unnoticedPlaces : GoodIn wsX2_withLetter wsX1_unnoticedPlaces := goodIn_r _ [37, 7, 8, 47, 48, 49] (by decide +kernel) (by decide +kernel)
set_option maxRecDepth 20000 in
theorem gX2_withLetter_X1_unnoticedPlaces : GoodIn wsX2_withLetter (wsV RX2 159 RX1 yX1_unnoticedPlaces wsX1_unnoticedPlaces) := goodIn_app (goodIn_of _ (by decide +kernel)) ggX2_withLetter_X1_unnoticedPlaces
set_option maxRecDepth 20000 in
theorem ggX2_withLetter_X1_worstPlace : GoodIn wsX2_withLetter wsX1_worstPlace := goodIn_r _ [41, 7, 8, 42, 43, 44, 45, 46, 10, 11, 5, 12, 47, 48, 49] (by decide +kernel) (by decide +kernel)
set_option maxRecDepth 20000 in
theorem gX2_withLetter_X1_worstPlace : GoodIn wsX2_withLetter (wsV RX2 162 RX1 yX1_worstPlace wsX1_worstPlace) := goodIn_app (goodIn_of _ (by decide +kernel)) ggX2_withLetter_X1_worstPlace
set_option maxRecDepth 20000 in
theorem ggX2_withEnvelope_X0_fits : GoodIn wsX2_withEnvelope wsX0_fits := goodIn_r _ [7, 8, 9, 10, 11, 12, 13, 14, 15, 62, 63, 64, 65, 66, 67, 68, 69, 70, 71, 72] (by decide +kernel) (by decide +kernel)
set_option maxRecDepth 20000 in
theorem gX2_withEnvelope_X0_fits : GoodIn wsX2_withEnvelope (wsV RX2 139 RX0 yX0_fits wsX0_fits) := goodIn_app (goodIn_of _ (by decide +kernel)) ggX2_withEnvelope_X0_fits
set_option maxRecDepth 20000 in
theorem ggX2_withEnvelope_X0_tornBlockCount : GoodIn wsX2_withEnvelope wsX0_tornBlockCount := goodIn_r _ [19, 20, 21, 22, 6, 23, 24, 25, 26, 27, 28, 12, 29, 14, 30, 31, 32, 33, 15, 62, 63, 64, 65, 66, 67, 68, 69, 70, 71, 72] (by decide +kernel) (by decide +kernel)
set_option maxRecDepth 20000 in
theorem gX2_withEnvelope_X0_tornBlockCount : GoodIn wsX2_withEnvelope (wsV RX2 142 RX0 yX0_tornBlockCount wsX0_tornBlockCount) := goodIn_app (goodIn_of _ (by decide +kernel)) ggX2_withEnvelope_X0_tornBlockCount
set_option maxRecDepth 20000 in
theorem ggX2_withEnvelope_X0_firstTornBlock : GoodIn wsX2_withEnvelope wsX0_firstTornBlock := goodIn_r _ [37, 20, 21, 22, 6, 23, 24, 25, 26, 27, 28, 12, 29, 14, 30, 31, 32, 33, 15, 62, 63, 64, 65, 66, 67, 68, 69, 70, 71, 72] (by decide +kernel) (by decide +kernel)
set_option maxRecDepth 20000 in
theorem gX2_withEnvelope_X0_firstTornBlock : GoodIn wsX2_withEnvelope (wsV RX2 145 RX0 yX0_firstTornBlock wsX0_firstTornBlock) := goodIn_app (goodIn_of _ (by decide +kernel)) ggX2_withEnvelope_X0_firstTornBlock
set_option maxRecDepth 20000 in
theorem ggX2_withEnvelope_X0_placeOfChange : GoodIn wsX2_withEnvelope wsX0_placeOfChange := goodIn_r _ [41, 42, 43, 44, 45, 46, 6, 47, 48, 49, 50, 51, 12, 52, 14, 15, 53, 4, 5, 7, 8, 9, 10, 11, 13, 54, 55, 56, 57, 70, 71, 72, 62, 63, 64, 65, 66, 67, 68, 69] (by decide +kernel) (by decide +kernel)
set_option maxRecDepth 20000 in
theorem gX2_withEnvelope_X0_placeOfChange : GoodIn wsX2_withEnvelope (wsV RX2 148 RX0 yX0_placeOfChange wsX0_placeOfChange) := goodIn_app (goodIn_of _ (by decide +kernel)) ggX2_withEnvelope_X0_placeOfChange
set_option maxRecDepth 20000 in
theorem ggX2_requireLetterWithPlace_X2_requireLetter : GoodIn wsX2_requireLetterWithPlace wsX2_requireLetter := goodIn_ca (goodIn_r _ [7, 1, 2, 8, 9, 13, 14, 15, 16] (by decide +kernel) (by decide +kernel)) (goodIn_sub (fun _ h => List.mem_cons_of_mem _ (List.mem_append_right _ h)) (by decide +kernel))
set_option maxRecDepth 20000 in
theorem gX2_requireLetterWithPlace_X2_requireLetter : GoodIn wsX2_requireLetterWithPlace (wsV RX2 30 RX2 yX2_requireLetter wsX2_requireLetter) := goodIn_app (goodIn_of _ (by decide +kernel)) ggX2_requireLetterWithPlace_X2_requireLetter
