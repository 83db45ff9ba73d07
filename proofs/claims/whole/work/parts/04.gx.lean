set_option maxRecDepth 20000 in
theorem ggX0_fill_X1_signDigest : GoodIn wsX0_fill wsX1_signDigest := goodIn_r _ [13, 14, 15, 44, 45, 46] (by decide +kernel) (by decide +kernel)
set_option maxRecDepth 20000 in
theorem gX0_fill_X1_signDigest : GoodIn wsX0_fill (wsV RX0 19 RX1 yX1_signDigest wsX1_signDigest) := goodIn_app (goodIn_of _ (by decide +kernel)) ggX0_fill_X1_signDigest
set_option maxRecDepth 20000 in
theorem ggX0_fill_X1_blockCount : GoodIn wsX0_fill wsX1_blockCount := goodIn_r _ [19, 14, 44, 45, 46] (by decide +kernel) (by decide +kernel)
set_option maxRecDepth 20000 in
theorem gX0_fill_X1_blockCount : GoodIn wsX0_fill (wsV RX0 34 RX1 yX1_blockCount wsX1_blockCount) := goodIn_app (goodIn_of _ (by decide +kernel)) ggX0_fill_X1_blockCount
set_option maxRecDepth 20000 in
theorem ggX0_fill_X1_blockSum : GoodIn wsX0_fill wsX1_blockSum := goodIn_r _ [23, 14, 15, 44, 45, 46] (by decide +kernel) (by decide +kernel)
set_option maxRecDepth 20000 in
theorem gX0_fill_X1_blockSum : GoodIn wsX0_fill (wsV RX0 39 RX1 yX1_blockSum wsX1_blockSum) := goodIn_app (goodIn_of _ (by decide +kernel)) ggX0_fill_X1_blockSum
set_option maxRecDepth 20000 in
theorem ggX0_fill_X1_signSum : GoodIn wsX0_fill wsX1_signSum := goodIn_r _ [27, 14, 15, 44, 45, 46] (by decide +kernel) (by decide +kernel)
set_option maxRecDepth 20000 in
theorem gX0_fill_X1_signSum : GoodIn wsX0_fill (wsV RX0 43 RX1 yX1_signSum wsX1_signSum) := goodIn_app (goodIn_of _ (by decide +kernel)) ggX0_fill_X1_signSum
set_option maxRecDepth 20000 in
theorem ggX0_fill_X1_weightedSum : GoodIn wsX0_fill wsX1_weightedSum := goodIn_r _ [31, 14, 15, 44, 45, 46] (by decide +kernel) (by decide +kernel)
set_option maxRecDepth 20000 in
theorem gX0_fill_X1_weightedSum : GoodIn wsX0_fill (wsV RX0 48 RX1 yX1_weightedSum wsX1_weightedSum) := goodIn_app (goodIn_of _ (by decide +kernel)) ggX0_fill_X1_weightedSum
set_option maxRecDepth 20000 in
theorem ggX0_fill_X2_chainedSeal : GoodIn wsX0_fill wsX2_chainedSeal := goodIn_r _ [34, 35] (by decide +kernel) (by decide +kernel)
set_option maxRecDepth 20000 in
theorem gX0_fill_X2_chainedSeal_n53 : GoodIn wsX0_fill (wsX2_chainedSeal) := ggX0_fill_X2_chainedSeal
set_option maxRecDepth 20000 in
theorem ggX0_fits_X1_signDigest : GoodIn wsX0_fits wsX1_signDigest := goodIn_r _ [6, 7, 8, 17, 18, 19] (by decide +kernel) (by decide +kernel)
set_option maxRecDepth 20000 in
theorem gX0_fits_X1_signDigest : GoodIn wsX0_fits (wsV RX0 19 RX1 yX1_signDigest wsX1_signDigest) := goodIn_app (goodIn_of _ (by decide +kernel)) ggX0_fits_X1_signDigest
set_option maxRecDepth 20000 in
theorem ggX0_tornBlockCount_X0_isTorn : GoodIn wsX0_tornBlockCount wsX0_isTorn := goodIn_r _ [5, 6, 7, 8, 9, 10, 11, 12, 13, 14, 15, 16, 17, 18, 19, 20, 21, 22, 23, 24, 25, 26, 27, 28, 29] (by decide +kernel) (by decide +kernel)
set_option maxRecDepth 20000 in
theorem gX0_tornBlockCount_X0_isTorn : GoodIn wsX0_tornBlockCount (wsV RX0 60 RX0 yX0_isTorn wsX0_isTorn) := goodIn_app (goodIn_of _ (by decide +kernel)) ggX0_tornBlockCount_X0_isTorn
set_option maxRecDepth 20000 in
theorem ggX0_firstTornBlock_X0_isTorn : GoodIn wsX0_firstTornBlock wsX0_isTorn := goodIn_r _ [5, 6, 7, 8, 9, 10, 11, 12, 13, 14, 15, 16, 17, 18, 19, 20, 21, 22, 23, 24, 25, 26, 27, 28, 29] (by decide +kernel) (by decide +kernel)
set_option maxRecDepth 20000 in
theorem gX0_firstTornBlock_X0_isTorn : GoodIn wsX0_firstTornBlock (wsV RX0 60 RX0 yX0_isTorn wsX0_isTorn) := goodIn_app (goodIn_of _ (by decide +kernel)) ggX0_firstTornBlock_X0_isTorn
set_option maxRecDepth 20000 in
theorem ggX0_isTorn_X1_blockCount : GoodIn wsX0_isTorn wsX1_blockCount := goodIn_r _ [7, 8, 22, 23, 24] (by decide +kernel) (by decide +kernel)
set_option maxRecDepth 20000 in
theorem gX0_isTorn_X1_blockCount : GoodIn wsX0_isTorn (wsV RX0 34 RX1 yX1_blockCount wsX1_blockCount) := goodIn_app (goodIn_of _ (by decide +kernel)) ggX0_isTorn_X1_blockCount
set_option maxRecDepth 20000 in
theorem ggX0_isTorn_X1_blockSum : GoodIn wsX0_isTorn wsX1_blockSum := goodIn_r _ [12, 8, 13, 22, 23, 24] (by decide +kernel) (by decide +kernel)
set_option maxRecDepth 20000 in
theorem gX0_isTorn_X1_blockSum : GoodIn wsX0_isTorn (wsV RX0 39 RX1 yX1_blockSum wsX1_blockSum) := goodIn_app (goodIn_of _ (by decide +kernel)) ggX0_isTorn_X1_blockSum
set_option maxRecDepth 20000 in
theorem ggX0_lostInSum_X1_signSum : GoodIn wsX0_lostInSum wsX1_signSum := goodIn_r _ [6, 7, 8, 17, 18, 19] (by decide +kernel) (by decide +kernel)
set_option maxRecDepth 20000 in
theorem gX0_lostInSum_X1_signSum : GoodIn wsX0_lostInSum (wsV RX0 43 RX1 yX1_signSum wsX1_signSum) := goodIn_app (goodIn_of _ (by decide +kernel)) ggX0_lostInSum_X1_signSum
set_option maxRecDepth 20000 in
theorem ggX0_placeOfChange_X0_lostInSum : GoodIn wsX0_placeOfChange wsX0_lostInSum := goodIn_r _ [7, 8, 9, 10, 11, 12, 13, 14, 15, 32, 33, 34, 35, 36, 37, 38, 39, 29, 30, 31] (by decide +kernel) (by decide +kernel)
set_option maxRecDepth 20000 in
theorem gX0_placeOfChange_X0_lostInSum : GoodIn wsX0_placeOfChange (wsV RX0 64 RX0 yX0_lostInSum wsX0_lostInSum) := goodIn_app (goodIn_of _ (by decide +kernel)) ggX0_placeOfChange_X0_lostInSum
set_option maxRecDepth 20000 in
theorem ggX0_placeOfChange_X0_fits : GoodIn wsX0_placeOfChange wsX0_fits := goodIn_r _ [19, 20, 21, 22, 23, 12, 24, 14, 15, 32, 33, 34, 35, 36, 37, 38, 39, 29, 30, 31] (by decide +kernel) (by decide +kernel)
set_option maxRecDepth 20000 in
theorem gX0_placeOfChange_X0_fits : GoodIn wsX0_placeOfChange (wsV RX0 68 RX0 yX0_fits wsX0_fits) := goodIn_app (goodIn_of _ (by decide +kernel)) ggX0_placeOfChange_X0_fits
set_option maxRecDepth 20000 in
theorem ggX0_placeOfChange_X1_weightedSum : GoodIn wsX0_placeOfChange wsX1_weightedSum := goodIn_r _ [28, 14, 15, 29, 30, 31] (by decide +kernel) (by decide +kernel)
set_option maxRecDepth 20000 in
theorem gX0_placeOfChange_X1_weightedSum : GoodIn wsX0_placeOfChange (wsV RX0 48 RX1 yX1_weightedSum wsX1_weightedSum) := goodIn_app (goodIn_of _ (by decide +kernel)) ggX0_placeOfChange_X1_weightedSum
set_option maxRecDepth 20000 in
theorem ggX1_sameSumPairs_X1_fillWindowSums : GoodIn wsX1_sameSumPairs wsX1_fillWindowSums := goodIn_r _ [6, 7, 1, 8, 9, 10, 5, 11, 12, 13, 14, 15] (by decide +kernel) (by decide +kernel)
set_option maxRecDepth 20000 in
theorem gX1_sameSumPairs_X1_fillWindowSums : GoodIn wsX1_sameSumPairs (wsV RX1 22 RX1 yX1_fillWindowSums wsX1_fillWindowSums) := goodIn_app (goodIn_of _ (by decide +kernel)) ggX1_sameSumPairs_X1_fillWindowSums
set_option maxRecDepth 20000 in
theorem ggX1_falseAlarmPairs_X1_fillWindowSums : GoodIn wsX1_falseAlarmPairs wsX1_fillWindowSums := goodIn_r _ [6, 7, 1, 8, 9, 10, 5, 11, 12, 17, 18, 19] (by decide +kernel) (by decide +kernel)
set_option maxRecDepth 20000 in
theorem gX1_falseAlarmPairs_X1_fillWindowSums : GoodIn wsX1_falseAlarmPairs (wsV RX1 22 RX1 yX1_fillWindowSums wsX1_fillWindowSums) := goodIn_app (goodIn_of _ (by decide +kernel)) ggX1_falseAlarmPairs_X1_fillWindowSums
set_option maxRecDepth 20000 in
theorem ggX1_falseAlarmPairs_X1_sameRun : GoodIn wsX1_falseAlarmPairs wsX1_sameRun := goodIn_r _ [16, 12, 17, 18, 19] (by decide +kernel) (by decide +kernel)
set_option maxRecDepth 20000 in
theorem gX1_falseAlarmPairs_X1_sameRun : GoodIn wsX1_falseAlarmPairs (wsV RX1 26 RX1 yX1_sameRun wsX1_sameRun) := goodIn_app (goodIn_of _ (by decide +kernel)) ggX1_falseAlarmPairs_X1_sameRun
set_option maxRecDepth 20000 in
theorem ggX1_fillWindowSums_X1_windowSum : GoodIn wsX1_fillWindowSums wsX1_windowSum := goodIn_r _ [7, 8, 9, 10, 11] (by decide +kernel) (by decide +kernel)
set_option maxRecDepth 20000 in
theorem gX1_fillWindowSums_X1_windowSum : GoodIn wsX1_fillWindowSums (wsV RX1 30 RX1 yX1_windowSum wsX1_windowSum) := goodIn_app (goodIn_of _ (by decide +kernel)) ggX1_fillWindowSums_X1_windowSum
set_option maxRecDepth 20000 in
theorem ggX1_firstPlaceOf_X1_sameRun : GoodIn wsX1_firstPlaceOf wsX1_sameRun := goodIn_r _ [6, 7, 8, 9, 10] (by decide +kernel) (by decide +kernel)
set_option maxRecDepth 20000 in
theorem gX1_firstPlaceOf_X1_sameRun : GoodIn wsX1_firstPlaceOf (wsV RX1 26 RX1 yX1_sameRun wsX1_sameRun) := goodIn_app (goodIn_of _ (by decide +kernel)) ggX1_firstPlaceOf_X1_sameRun
set_option maxRecDepth 20000 in
theorem ggX1_hasSameSigns_X1_sameRun : GoodIn wsX1_hasSameSigns wsX1_sameRun := goodIn_r _ [6, 7, 8, 9, 10] (by decide +kernel) (by decide +kernel)
set_option maxRecDepth 20000 in
theorem gX1_hasSameSigns_X1_sameRun : GoodIn wsX1_hasSameSigns (wsV RX1 26 RX1 yX1_sameRun wsX1_sameRun) := goodIn_app (goodIn_of _ (by decide +kernel)) ggX1_hasSameSigns_X1_sameRun
set_option maxRecDepth 20000 in
theorem ggX1_worstPlace_X1_signDigest : GoodIn wsX1_worstPlace wsX1_signDigest := goodIn_r _ [11, 1, 2, 12, 13, 14] (by decide +kernel) (by decide +kernel)
set_option maxRecDepth 20000 in
theorem gX1_worstPlace_X1_signDigest : GoodIn wsX1_worstPlace (wsV RX1 34 RX1 yX1_signDigest wsX1_signDigest) := goodIn_app (goodIn_of _ (by decide +kernel)) ggX1_worstPlace_X1_signDigest
set_option maxRecDepth 20000 in
theorem ggX2_init_X1_init : GoodIn wsX2_init wsX1_init := goodIn_r _ [13, 14, 2, 3, 15, 16, 17, 26, 27, 28] (by decide +kernel) (by decide +kernel)
set_option maxRecDepth 20000 in
theorem gX2_init_X1_init_n21 : GoodIn wsX2_init (wsX1_init) := ggX2_init_X1_init
set_option maxRecDepth 20000 in
theorem ggX2_init_X0_init : GoodIn wsX2_init wsX0_init := goodIn_r _ [19, 20, 2, 3, 15, 21, 29, 30, 31, 32, 33, 34, 35, 36] (by decide +kernel) (by decide +kernel)
set_option maxRecDepth 20000 in
theorem gX2_init_X0_init_n22 : GoodIn wsX2_init (wsX0_init) := ggX2_init_X0_init
set_option maxRecDepth 20000 in
theorem ggX2_addLetter_X2_requireRoomForLetter : GoodIn wsX2_addLetter wsX2_requireRoomForLetter := goodIn_ca (goodIn_r _ [6, 7, 8, 1, 9, 10, 11, 12] (by decide +kernel) (by decide +kernel)) (goodIn_sub (fun _ h => List.mem_cons_of_mem _ (List.mem_append_right _ h)) (by decide +kernel))
set_option maxRecDepth 20000 in
theorem gX2_addLetter_X2_requireRoomForLetter : GoodIn wsX2_addLetter (wsV RX2 23 RX2 yX2_requireRoomForLetter wsX2_requireRoomForLetter) := goodIn_app (goodIn_of _ (by decide +kernel)) ggX2_addLetter_X2_requireRoomForLetter
set_option maxRecDepth 20000 in
theorem ggX2_copyLetter_X2_requireLetter : GoodIn wsX2_copyLetter wsX2_requireLetter := goodIn_ca (goodIn_r _ [7, 8, 9, 2, 1, 23, 24, 25, 26] (by decide +kernel) (by decide +kernel)) (goodIn_sub (fun _ h => List.mem_cons_of_mem _ (List.mem_append_left _ (List.mem_append_right _ h))) (by decide +kernel))
set_option maxRecDepth 20000 in
theorem gX2_copyLetter_X2_requireLetter : GoodIn wsX2_copyLetter (wsV RX2 30 RX2 yX2_requireLetter wsX2_requireLetter) := goodIn_app (goodIn_of _ (by decide +kernel)) ggX2_copyLetter_X2_requireLetter
set_option maxRecDepth 20000 in
theorem ggX2_copyLetter_X2_requireRoomForLetter : GoodIn wsX2_copyLetter wsX2_requireRoomForLetter := goodIn_ca (goodIn_r _ [13, 14, 15, 2, 23, 24, 25, 26] (by decide +kernel) (by decide +kernel)) (goodIn_sub (fun _ h => List.mem_cons_of_mem _ (List.mem_append_right _ h)) (by decide +kernel))
set_option maxRecDepth 20000 in
theorem gX2_copyLetter_X2_requireRoomForLetter : GoodIn wsX2_copyLetter (wsV RX2 23 RX2 yX2_requireRoomForLetter wsX2_requireRoomForLetter) := goodIn_app (goodIn_of _ (by decide +kernel)) ggX2_copyLetter_X2_requireRoomForLetter
set_option maxRecDepth 20000 in
theorem ggX2_copyLetter_X1_copySigns : GoodIn wsX2_copyLetter wsX1_copySigns := goodIn_r _ [20, 21, 22, 27, 28, 29] (by decide +kernel) (by decide +kernel)
set_option maxRecDepth 20000 in
theorem gX2_copyLetter_X1_copySigns : GoodIn wsX2_copyLetter (wsV RX2 34 RX1 yX1_copySigns wsX1_copySigns) := goodIn_app (goodIn_of _ (by decide +kernel)) ggX2_copyLetter_X1_copySigns
set_option maxRecDepth 20000 in
theorem ggX2_write_X2_requireLetter : GoodIn wsX2_write wsX2_requireLetter := goodIn_ca (goodIn_r _ [7, 8, 9, 10, 11, 27, 28, 29, 30] (by decide +kernel) (by decide +kernel)) (goodIn_sub (fun _ h => List.mem_cons_of_mem _ (List.mem_append_left _ (List.mem_append_right _ h))) (by decide +kernel))
set_option maxRecDepth 20000 in
theorem gX2_write_X2_requireLetter : GoodIn wsX2_write (wsV RX2 30 RX2 yX2_requireLetter wsX2_requireLetter) := goodIn_app (goodIn_of _ (by decide +kernel)) ggX2_write_X2_requireLetter
set_option maxRecDepth 20000 in
theorem ggX2_write_X2_requireWrittenSign : GoodIn wsX2_write wsX2_requireWrittenSign := goodIn_ca (goodIn_r _ [14, 15, 16] (by decide +kernel) (by decide +kernel)) (goodIn_sub (fun _ h => List.mem_cons_of_mem _ (List.mem_append_right _ h)) (by decide +kernel))
set_option maxRecDepth 20000 in
theorem gX2_write_X2_requireWrittenSign : GoodIn wsX2_write (va_wsS RX2 38 yX2_requireWrittenSign wsX2_requireWrittenSign) := goodIn_app (goodIn_of _ (by decide +kernel)) ggX2_write_X2_requireWrittenSign
set_option maxRecDepth 20000 in
theorem ggX2_write_X1_append : GoodIn wsX2_write wsX1_append := goodIn_r _ [21, 22, 23, 24, 25, 26] (by decide +kernel) (by decide +kernel)
set_option maxRecDepth 20000 in
theorem gX2_write_X1_append : GoodIn wsX2_write (wsV RX2 52 RX1 yX1_append wsX1_append) := goodIn_app (goodIn_of _ (by decide +kernel)) ggX2_write_X1_append
set_option maxRecDepth 20000 in
theorem ggX2_erase_X2_requireLetter : GoodIn wsX2_erase wsX2_requireLetter := goodIn_ca (goodIn_r _ [5, 6, 7, 8, 9, 22, 23, 24, 25] (by decide +kernel) (by decide +kernel)) (goodIn_sub (fun _ h => List.mem_cons_of_mem _ (List.mem_append_left _ (List.mem_append_right _ h))) (by decide +kernel))
set_option maxRecDepth 20000 in
theorem gX2_erase_X2_requireLetter : GoodIn wsX2_erase (wsV RX2 30 RX2 yX2_requireLetter wsX2_requireLetter) := goodIn_app (goodIn_of _ (by decide +kernel)) ggX2_erase_X2_requireLetter
set_option maxRecDepth 20000 in
theorem ggX2_erase_X2_requireSigns : GoodIn wsX2_erase wsX2_requireSigns := goodIn_ca (goodIn_r _ [12, 13, 14, 26, 27, 28] (by decide +kernel) (by decide +kernel)) (goodIn_sub (fun _ h => List.mem_cons_of_mem _ (List.mem_append_right _ h)) (by decide +kernel))
set_option maxRecDepth 20000 in
theorem gX2_erase_X2_requireSigns : GoodIn wsX2_erase (va_wsS RX2 55 yX2_requireSigns wsX2_requireSigns) := goodIn_app (goodIn_of _ (by decide +kernel)) ggX2_erase_X2_requireSigns
set_option maxRecDepth 20000 in
theorem ggX2_erase_X1_removeLast : GoodIn wsX2_erase wsX1_removeLast := goodIn_r _ [19, 20, 21, 26, 27, 28] (by decide +kernel) (by decide +kernel)
set_option maxRecDepth 20000 in
theorem gX2_erase_X1_removeLast : GoodIn wsX2_erase (wsV RX2 58 RX1 yX1_removeLast wsX1_removeLast) := goodIn_app (goodIn_of _ (by decide +kernel)) ggX2_erase_X1_removeLast
set_option maxRecDepth 20000 in
theorem ggX2_forge_X2_requireLetterWithPlace : GoodIn wsX2_forge wsX2_requireLetterWithPlace := goodIn_ca (goodIn_r _ [7, 8, 9, 10, 11, 12, 6, 13, 14, 15, 22, 23, 24, 25, 26, 27, 28] (by decide +kernel) (by decide +kernel)) (goodIn_sub (fun _ h => List.mem_cons_of_mem _ (List.mem_append_right _ h)) (by decide +kernel))
set_option maxRecDepth 20000 in
theorem gX2_forge_X2_requireLetterWithPlace : GoodIn wsX2_forge (wsV RX2 62 RX2 yX2_requireLetterWithPlace wsX2_requireLetterWithPlace) := goodIn_app (goodIn_of _ (by decide +kernel)) ggX2_forge_X2_requireLetterWithPlace
set_option maxRecDepth 20000 in
theorem ggX2_forge_X1_replace : GoodIn wsX2_forge wsX1_replace := goodIn_r _ [20, 21, 22, 23, 24] (by decide +kernel) (by decide +kernel)
set_option maxRecDepth 20000 in
theorem gX2_forge_X1_replace : GoodIn wsX2_forge (wsV RX2 72 RX1 yX1_replace wsX1_replace) := goodIn_app (goodIn_of _ (by decide +kernel)) ggX2_forge_X1_replace
set_option maxRecDepth 20000 in
theorem ggX2_tear_X2_requireLetterWithPlace : GoodIn wsX2_tear wsX2_requireLetterWithPlace := goodIn_ca (goodIn_r _ [7, 8, 9, 10, 11, 12, 6, 13, 14, 15, 22, 23, 24, 25, 26, 27, 28] (by decide +kernel) (by decide +kernel)) (goodIn_sub (fun _ h => List.mem_cons_of_mem _ (List.mem_append_right _ h)) (by decide +kernel))
set_option maxRecDepth 20000 in
theorem gX2_tear_X2_requireLetterWithPlace : GoodIn wsX2_tear (wsV RX2 62 RX2 yX2_requireLetterWithPlace wsX2_requireLetterWithPlace) := goodIn_app (goodIn_of _ (by decide +kernel)) ggX2_tear_X2_requireLetterWithPlace
set_option maxRecDepth 20000 in
theorem ggX2_tear_X1_replace : GoodIn wsX2_tear wsX1_replace := goodIn_r _ [20, 21, 22, 23, 24] (by decide +kernel) (by decide +kernel)
set_option maxRecDepth 20000 in
theorem gX2_tear_X1_replace : GoodIn wsX2_tear (wsV RX2 72 RX1 yX1_replace wsX1_replace) := goodIn_app (goodIn_of _ (by decide +kernel)) ggX2_tear_X1_replace
set_option maxRecDepth 20000 in
theorem ggX2_mend_X2_requireLetterWithPlace : GoodIn wsX2_mend wsX2_requireLetterWithPlace := goodIn_ca (goodIn_r _ [7, 8, 9, 10, 11, 12, 6, 13, 14, 15, 32, 33, 34, 35, 36, 37, 38] (by decide +kernel) (by decide +kernel)) (goodIn_sub (fun _ h => List.mem_cons_of_mem _ (List.mem_append_left _ (List.mem_append_right _ h))) (by decide +kernel))
set_option maxRecDepth 20000 in
theorem gX2_mend_X2_requireLetterWithPlace : GoodIn wsX2_mend (wsV RX2 62 RX2 yX2_requireLetterWithPlace wsX2_requireLetterWithPlace) := goodIn_app (goodIn_of _ (by decide +kernel)) ggX2_mend_X2_requireLetterWithPlace
set_option maxRecDepth 20000 in
theorem ggX2_mend_X2_requireWrittenSign : GoodIn wsX2_mend wsX2_requireWrittenSign := goodIn_ca (goodIn_r _ [18, 19, 20] (by decide +kernel) (by decide +kernel)) (goodIn_sub (fun _ h => List.mem_cons_of_mem _ (List.mem_append_right _ h)) (by decide +kernel))
set_option maxRecDepth 20000 in
theorem gX2_mend_X2_requireWrittenSign : GoodIn wsX2_mend (va_wsS RX2 38 yX2_requireWrittenSign wsX2_requireWrittenSign) := goodIn_app (goodIn_of _ (by decide +kernel)) ggX2_mend_X2_requireWrittenSign
set_option maxRecDepth 20000 in
theorem ggX2_mend_X1_replace : GoodIn wsX2_mend wsX1_replace := goodIn_r _ [25, 26, 32, 33, 34] (by decide +kernel) (by decide +kernel)
set_option maxRecDepth 20000 in
theorem gX2_mend_X1_replace : GoodIn wsX2_mend (wsV RX2 72 RX1 yX1_replace wsX1_replace) := goodIn_app (goodIn_of _ (by decide +kernel)) ggX2_mend_X1_replace
set_option maxRecDepth 20000 in
theorem ggX2_mend_X1_countOf : GoodIn wsX2_mend wsX1_countOf := goodIn_r _ [30, 31, 26, 32, 33, 34] (by decide +kernel) (by decide +kernel)
set_option maxRecDepth 20000 in
theorem gX2_mend_X1_countOf : GoodIn wsX2_mend (wsV RX2 80 RX1 yX1_countOf wsX1_countOf) := goodIn_app (goodIn_of _ (by decide +kernel)) ggX2_mend_X1_countOf
set_option maxRecDepth 20000 in
theorem ggX2_seal_X2_requireLetter : GoodIn wsX2_seal wsX2_requireLetter := goodIn_ca (goodIn_r _ [9, 10, 11, 12, 13, 60, 61, 62, 63] (by decide +kernel) (by decide +kernel)) (goodIn_sub (fun _ h => List.mem_cons_of_mem _ (List.mem_append_right _ h)) (by decide +kernel))
set_option maxRecDepth 20000 in
theorem gX2_seal_X2_requireLetter : GoodIn wsX2_seal (wsV RX2 30 RX2 yX2_requireLetter wsX2_requireLetter) := goodIn_app (goodIn_of _ (by decide +kernel)) ggX2_seal_X2_requireLetter
set_option maxRecDepth 20000 in
theorem ggX2_seal_X2_requireSigns : GoodIn wsX2_seal wsX2_requireSigns := goodIn_ca (goodIn_r _ [16, 1, 2, 64, 65, 66] (by decide +kernel) (by decide +kernel)) (goodIn_sub (fun _ h => List.mem_cons_of_mem _ (List.mem_append_left _ (List.mem_append_right _ h))) (by decide +kernel))
set_option maxRecDepth 20000 in
theorem gX2_seal_X2_requireSigns : GoodIn wsX2_seal (va_wsS RX2 55 yX2_requireSigns wsX2_requireSigns) := goodIn_app (goodIn_of _ (by decide +kernel)) ggX2_seal_X2_requireSigns
set_option maxRecDepth 20000 in
theorem ggX2_seal_X2_lastSeal : GoodIn wsX2_seal wsX2_lastSeal := goodIn_r _ [20, 3, 4, 60, 61, 62, 63, 67, 68, 69, 70, 71, 72, 73, 74] (by decide +kernel) (by decide +kernel)
set_option maxRecDepth 20000 in
theorem gX2_seal_X2_lastSeal : GoodIn wsX2_seal (wsV RX2 89 RX2 yX2_lastSeal wsX2_lastSeal) := goodIn_app (goodIn_of _ (by decide +kernel)) ggX2_seal_X2_lastSeal
set_option maxRecDepth 20000 in
theorem ggX2_seal_X0_fill : GoodIn wsX2_seal wsX0_fill := goodIn_r _ [25, 26, 27, 28, 29, 30, 31, 32, 33, 34, 35, 36, 37, 38, 39, 40, 41, 42, 43, 44, 45, 46, 47, 48, 49, 50, 51, 52, 53, 54, 55, 56, 57, 8, 58, 59, 67, 68, 69, 70, 71, 72, 73, 74, 64, 65, 66] (by decide +kernel) (by decide +kernel)
set_option maxRecDepth 20000 in
theorem gX2_seal_X0_fill : GoodIn wsX2_seal (wsV RX2 92 RX0 yX0_fill wsX0_fill) := goodIn_app (goodIn_of _ (by decide +kernel)) ggX2_seal_X0_fill
set_option maxRecDepth 20000 in
theorem ggX2_signsOf_X2_requireLetter : GoodIn wsX2_signsOf wsX2_requireLetter := goodIn_ca (goodIn_r _ [5, 6, 7, 8, 9, 13, 14, 15, 16] (by decide +kernel) (by decide +kernel)) (goodIn_sub (fun _ h => List.mem_cons_of_mem _ (List.mem_append_right _ h)) (by decide +kernel))
set_option maxRecDepth 20000 in
theorem gX2_signsOf_X2_requireLetter : GoodIn wsX2_signsOf (wsV RX2 30 RX2 yX2_requireLetter wsX2_requireLetter) := goodIn_app (goodIn_of _ (by decide +kernel)) ggX2_signsOf_X2_requireLetter
set_option maxRecDepth 20000 in
theorem ggX2_commasOf_X2_requireLetter : GoodIn wsX2_commasOf wsX2_requireLetter := goodIn_ca (goodIn_r _ [5, 6, 7, 8, 9, 17, 18, 19, 20] (by decide +kernel) (by decide +kernel)) (goodIn_sub (fun _ h => List.mem_cons_of_mem _ (List.mem_append_right _ h)) (by decide +kernel))
set_option maxRecDepth 20000 in
theorem gX2_commasOf_X2_requireLetter : GoodIn wsX2_commasOf (wsV RX2 30 RX2 yX2_requireLetter wsX2_requireLetter) := goodIn_app (goodIn_of _ (by decide +kernel)) ggX2_commasOf_X2_requireLetter
set_option maxRecDepth 20000 in
theorem ggX2_commasOf_X1_countOf : GoodIn wsX2_commasOf wsX1_countOf := goodIn_r _ [14, 15, 16, 21, 22, 23] (by decide +kernel) (by decide +kernel)
set_option maxRecDepth 20000 in
theorem gX2_commasOf_X1_countOf : GoodIn wsX2_commasOf (wsV RX2 80 RX1 yX1_countOf wsX1_countOf) := goodIn_app (goodIn_of _ (by decide +kernel)) ggX2_commasOf_X1_countOf
set_option maxRecDepth 20000 in
theorem ggX2_tearsOf_X2_requireLetter : GoodIn wsX2_tearsOf wsX2_requireLetter := goodIn_ca (goodIn_r _ [5, 6, 7, 8, 9, 17, 18, 19, 20] (by decide +kernel) (by decide +kernel)) (goodIn_sub (fun _ h => List.mem_cons_of_mem _ (List.mem_append_right _ h)) (by decide +kernel))
set_option maxRecDepth 20000 in
theorem gX2_tearsOf_X2_requireLetter : GoodIn wsX2_tearsOf (wsV RX2 30 RX2 yX2_requireLetter wsX2_requireLetter) := goodIn_app (goodIn_of _ (by decide +kernel)) ggX2_tearsOf_X2_requireLetter
set_option maxRecDepth 20000 in
theorem ggX2_tearsOf_X1_countOf : GoodIn wsX2_tearsOf wsX1_countOf := goodIn_r _ [14, 15, 16, 21, 22, 23] (by decide +kernel) (by decide +kernel)
set_option maxRecDepth 20000 in
theorem gX2_tearsOf_X1_countOf : GoodIn wsX2_tearsOf (wsV RX2 80 RX1 yX1_countOf wsX1_countOf) := goodIn_app (goodIn_of _ (by decide +kernel)) ggX2_tearsOf_X1_countOf
set_option maxRecDepth 20000 in
theorem ggX2_digestOf_X2_requireLetter : GoodIn wsX2_digestOf wsX2_requireLetter := goodIn_ca (goodIn_r _ [5, 6, 7, 8, 9, 17, 18, 19, 20] (by decide +kernel) (by decide +kernel)) (goodIn_sub (fun _ h => List.mem_cons_of_mem _ (List.mem_append_right _ h)) (by decide +kernel))
set_option maxRecDepth 20000 in
theorem gX2_digestOf_X2_requireLetter : GoodIn wsX2_digestOf (wsV RX2 30 RX2 yX2_requireLetter wsX2_requireLetter) := goodIn_app (goodIn_of _ (by decide +kernel)) ggX2_digestOf_X2_requireLetter
set_option maxRecDepth 20000 in
theorem ggX2_digestOf_X1_signDigest : GoodIn wsX2_digestOf wsX1_signDigest := goodIn_r _ [14, 15, 16, 21, 22, 23] (by decide +kernel) (by decide +kernel)
set_option maxRecDepth 20000 in
theorem gX2_digestOf_X1_signDigest : GoodIn wsX2_digestOf (wsV RX2 101 RX1 yX1_signDigest wsX1_signDigest) := goodIn_app (goodIn_of _ (by decide +kernel)) ggX2_digestOf_X1_signDigest
set_option maxRecDepth 20000 in
theorem ggX2_signAt_X2_requireLetterWithPlace : GoodIn wsX2_signAt wsX2_requireLetterWithPlace := goodIn_ca (goodIn_r _ [5, 6, 7, 8, 9, 10, 4, 11, 12, 13, 14, 15, 16, 17, 18, 19, 20] (by decide +kernel) (by decide +kernel)) (goodIn_sub (fun _ h => List.mem_cons_of_mem _ (List.mem_append_right _ h)) (by decide +kernel))
set_option maxRecDepth 20000 in
theorem gX2_signAt_X2_requireLetterWithPlace : GoodIn wsX2_signAt (wsV RX2 62 RX2 yX2_requireLetterWithPlace wsX2_requireLetterWithPlace) := goodIn_app (goodIn_of _ (by decide +kernel)) ggX2_signAt_X2_requireLetterWithPlace
set_option maxRecDepth 20000 in
theorem ggX2_sumOf_X2_requireLetter : GoodIn wsX2_sumOf wsX2_requireLetter := goodIn_ca (goodIn_r _ [7, 8, 9, 10, 11, 21, 22, 23, 24] (by decide +kernel) (by decide +kernel)) (goodIn_sub (fun _ h => List.mem_cons_of_mem _ (List.mem_append_right _ h)) (by decide +kernel))
set_option maxRecDepth 20000 in
theorem gX2_sumOf_X2_requireLetter : GoodIn wsX2_sumOf (wsV RX2 30 RX2 yX2_requireLetter wsX2_requireLetter) := goodIn_app (goodIn_of _ (by decide +kernel)) ggX2_sumOf_X2_requireLetter
set_option maxRecDepth 20000 in
theorem ggX2_sumOf_X1_windowSum : GoodIn wsX2_sumOf wsX1_windowSum := goodIn_r _ [16, 17, 18, 19, 20] (by decide +kernel) (by decide +kernel)
set_option maxRecDepth 20000 in
theorem gX2_sumOf_X1_windowSum : GoodIn wsX2_sumOf (wsV RX2 109 RX1 yX1_windowSum wsX1_windowSum) := goodIn_app (goodIn_of _ (by decide +kernel)) ggX2_sumOf_X1_windowSum
set_option maxRecDepth 20000 in
theorem ggX2_sameSums_X2_requireLetter : GoodIn wsX2_sameSums wsX2_requireLetter := goodIn_ca (goodIn_r _ [5, 6, 7, 8, 9, 31, 32, 33, 34] (by decide +kernel) (by decide +kernel)) (goodIn_sub (fun _ h => List.mem_cons_of_mem _ (List.mem_append_left _ (List.mem_append_right _ h))) (by decide +kernel))
set_option maxRecDepth 20000 in
theorem gX2_sameSums_X2_requireLetter : GoodIn wsX2_sameSums (wsV RX2 30 RX2 yX2_requireLetter wsX2_requireLetter) := goodIn_app (goodIn_of _ (by decide +kernel)) ggX2_sameSums_X2_requireLetter
set_option maxRecDepth 20000 in
theorem ggX2_sameSums_X2_requireWindowLength : GoodIn wsX2_sameSums wsX2_requireWindowLength := goodIn_ca (goodIn_r _ [12, 13, 14] (by decide +kernel) (by decide +kernel)) (goodIn_sub (fun _ h => List.mem_cons_of_mem _ (List.mem_append_right _ h)) (by decide +kernel))
set_option maxRecDepth 20000 in
theorem gX2_sameSums_X2_requireWindowLength : GoodIn wsX2_sameSums (va_wsS RX2 112 yX2_requireWindowLength wsX2_requireWindowLength) := goodIn_app (goodIn_of _ (by decide +kernel)) ggX2_sameSums_X2_requireWindowLength
set_option maxRecDepth 20000 in
theorem ggX2_sameSums_X1_sameSumPairs : GoodIn wsX2_sameSums wsX1_sameSumPairs := goodIn_r _ [19, 20, 21, 22, 23, 18, 24, 25, 26, 27, 28, 29, 30, 35, 36, 37] (by decide +kernel) (by decide +kernel)
set_option maxRecDepth 20000 in
theorem gX2_sameSums_X1_sameSumPairs : GoodIn wsX2_sameSums (wsV RX2 115 RX1 yX1_sameSumPairs wsX1_sameSumPairs) := goodIn_app (goodIn_of _ (by decide +kernel)) ggX2_sameSums_X1_sameSumPairs
set_option maxRecDepth 20000 in
theorem ggX2_falseAlarms_X2_requireLetter : GoodIn wsX2_falseAlarms wsX2_requireLetter := goodIn_ca (goodIn_r _ [5, 6, 7, 8, 9, 35, 36, 37, 38] (by decide +kernel) (by decide +kernel)) (goodIn_sub (fun _ h => List.mem_cons_of_mem _ (List.mem_append_left _ (List.mem_append_right _ h))) (by decide +kernel))
set_option maxRecDepth 20000 in
theorem gX2_falseAlarms_X2_requireLetter : GoodIn wsX2_falseAlarms (wsV RX2 30 RX2 yX2_requireLetter wsX2_requireLetter) := goodIn_app (goodIn_of _ (by decide +kernel)) ggX2_falseAlarms_X2_requireLetter
set_option maxRecDepth 20000 in
theorem ggX2_falseAlarms_X2_requireWindowLength : GoodIn wsX2_falseAlarms wsX2_requireWindowLength := goodIn_ca (goodIn_r _ [12, 13, 14] (by decide +kernel) (by decide +kernel)) (goodIn_sub (fun _ h => List.mem_cons_of_mem _ (List.mem_append_right _ h)) (by decide +kernel))
set_option maxRecDepth 20000 in
theorem gX2_falseAlarms_X2_requireWindowLength : GoodIn wsX2_falseAlarms (va_wsS RX2 112 yX2_requireWindowLength wsX2_requireWindowLength) := goodIn_app (goodIn_of _ (by decide +kernel)) ggX2_falseAlarms_X2_requireWindowLength
set_option maxRecDepth 20000 in
theorem ggX2_falseAlarms_X1_falseAlarmPairs : GoodIn wsX2_falseAlarms wsX1_falseAlarmPairs := goodIn_r _ [19, 20, 21, 22, 23, 18, 24, 25, 26, 27, 28, 29, 30, 31, 32, 33, 34, 39, 40, 41] (by decide +kernel) (by decide +kernel)
set_option maxRecDepth 20000 in
theorem gX2_falseAlarms_X1_falseAlarmPairs : GoodIn wsX2_falseAlarms (wsV RX2 118 RX1 yX1_falseAlarmPairs wsX1_falseAlarmPairs) := goodIn_app (goodIn_of _ (by decide +kernel)) ggX2_falseAlarms_X1_falseAlarmPairs
set_option maxRecDepth 20000 in
theorem ggX2_firstOf_X2_requireLetter : GoodIn wsX2_firstOf wsX2_requireLetter := goodIn_ca (goodIn_r _ [5, 6, 7, 8, 9, 26, 27, 28, 29] (by decide +kernel) (by decide +kernel)) (goodIn_sub (fun _ h => List.mem_cons_of_mem _ (List.mem_append_left _ (List.mem_append_right _ h))) (by decide +kernel))
set_option maxRecDepth 20000 in
theorem gX2_firstOf_X2_requireLetter : GoodIn wsX2_firstOf (wsV RX2 30 RX2 yX2_requireLetter wsX2_requireLetter) := goodIn_app (goodIn_of _ (by decide +kernel)) ggX2_firstOf_X2_requireLetter
set_option maxRecDepth 20000 in
theorem ggX2_firstOf_X2_requireSigns : GoodIn wsX2_firstOf wsX2_requireSigns := goodIn_ca (goodIn_r _ [12, 13, 14, 30, 31, 32] (by decide +kernel) (by decide +kernel)) (goodIn_sub (fun _ h => List.mem_cons_of_mem _ (List.mem_append_right _ h)) (by decide +kernel))
set_option maxRecDepth 20000 in
theorem gX2_firstOf_X2_requireSigns : GoodIn wsX2_firstOf (va_wsS RX2 55 yX2_requireSigns wsX2_requireSigns) := goodIn_app (goodIn_of _ (by decide +kernel)) ggX2_firstOf_X2_requireSigns
set_option maxRecDepth 20000 in
theorem ggX2_firstOf_X1_firstPlaceOf : GoodIn wsX2_firstOf wsX1_firstPlaceOf := goodIn_r _ [19, 20, 21, 22, 23, 18, 24, 25, 30, 31, 32] (by decide +kernel) (by decide +kernel)
set_option maxRecDepth 20000 in
theorem gX2_firstOf_X1_firstPlaceOf : GoodIn wsX2_firstOf (wsV RX2 121 RX1 yX1_firstPlaceOf wsX1_firstPlaceOf) := goodIn_app (goodIn_of _ (by decide +kernel)) ggX2_firstOf_X1_firstPlaceOf
set_option maxRecDepth 20000 in
theorem ggX2_doubles_X1_signDigest : GoodIn wsX2_doubles wsX1_signDigest := goodIn_r _ [7, 8, 9, 22, 23, 24] (by decide +kernel) (by decide +kernel)
set_option maxRecDepth 20000 in
theorem gX2_doubles_X1_signDigest : GoodIn wsX2_doubles (wsV RX2 101 RX1 yX1_signDigest wsX1_signDigest) := goodIn_app (goodIn_of _ (by decide +kernel)) ggX2_doubles_X1_signDigest
set_option maxRecDepth 20000 in
theorem ggX2_doubles_X1_hasSameSigns : GoodIn wsX2_doubles wsX1_hasSameSigns := goodIn_r _ [13, 8, 14, 15, 16, 6, 17, 9, 22, 23, 24] (by decide +kernel) (by decide +kernel)
set_option maxRecDepth 20000 in
theorem gX2_doubles_X1_hasSameSigns : GoodIn wsX2_doubles (wsV RX2 125 RX1 yX1_hasSameSigns wsX1_hasSameSigns) := goodIn_app (goodIn_of _ (by decide +kernel)) ggX2_doubles_X1_hasSameSigns
set_option maxRecDepth 20000 in
theorem ggX2_letterIn_X2_requireEnvelope : GoodIn wsX2_letterIn wsX2_requireEnvelope := goodIn_ca (goodIn_r _ [5, 6, 7, 8, 9, 18, 19, 20, 21] (by decide +kernel) (by decide +kernel)) (goodIn_sub (fun _ h => List.mem_cons_of_mem _ (List.mem_append_right _ h)) (by decide +kernel))
set_option maxRecDepth 20000 in
theorem gX2_letterIn_X2_requireEnvelope : GoodIn wsX2_letterIn (wsV RX2 129 RX2 yX2_requireEnvelope wsX2_requireEnvelope) := goodIn_app (goodIn_of _ (by decide +kernel)) ggX2_letterIn_X2_requireEnvelope
set_option maxRecDepth 20000 in
theorem ggX2_digestIn_X2_requireEnvelope : GoodIn wsX2_digestIn wsX2_requireEnvelope := goodIn_ca (goodIn_r _ [5, 6, 7, 8, 9, 18, 19, 20, 21] (by decide +kernel) (by decide +kernel)) (goodIn_sub (fun _ h => List.mem_cons_of_mem _ (List.mem_append_right _ h)) (by decide +kernel))
set_option maxRecDepth 20000 in
theorem gX2_digestIn_X2_requireEnvelope : GoodIn wsX2_digestIn (wsV RX2 129 RX2 yX2_requireEnvelope wsX2_requireEnvelope) := goodIn_app (goodIn_of _ (by decide +kernel)) ggX2_digestIn_X2_requireEnvelope
set_option maxRecDepth 20000 in
theorem ggX2_sealOf_X2_requireEnvelope : GoodIn wsX2_sealOf wsX2_requireEnvelope := goodIn_ca (goodIn_r _ [5, 6, 7, 8, 9, 18, 19, 20, 21] (by decide +kernel) (by decide +kernel)) (goodIn_sub (fun _ h => List.mem_cons_of_mem _ (List.mem_append_right _ h)) (by decide +kernel))
set_option maxRecDepth 20000 in
theorem gX2_sealOf_X2_requireEnvelope : GoodIn wsX2_sealOf (wsV RX2 129 RX2 yX2_requireEnvelope wsX2_requireEnvelope) := goodIn_app (goodIn_of _ (by decide +kernel)) ggX2_sealOf_X2_requireEnvelope
set_option maxRecDepth 20000 in
theorem ggX2_isWhole_X2_requireEnvelope : GoodIn wsX2_isWhole wsX2_requireEnvelope := goodIn_ca (goodIn_r _ [6, 7, 8, 9, 10, 24, 25, 26, 27] (by decide +kernel) (by decide +kernel)) (goodIn_sub (fun _ h => List.mem_cons_of_mem _ (List.mem_append_right _ h)) (by decide +kernel))
set_option maxRecDepth 20000 in
theorem gX2_isWhole_X2_requireEnvelope : GoodIn wsX2_isWhole (wsV RX2 129 RX2 yX2_requireEnvelope wsX2_requireEnvelope) := goodIn_app (goodIn_of _ (by decide +kernel)) ggX2_isWhole_X2_requireEnvelope
set_option maxRecDepth 20000 in
theorem ggX2_isWhole_X0_fits : GoodIn wsX2_isWhole wsX0_fits := goodIn_r _ [15, 16, 17, 18, 19, 20, 21, 22, 23, 28, 29, 30, 31, 32, 33, 34, 35, 36, 37, 38] (by decide +kernel) (by decide +kernel)
set_option maxRecDepth 20000 in
theorem gX2_isWhole_X0_fits : GoodIn wsX2_isWhole (wsV RX2 139 RX0 yX0_fits wsX0_fits) := goodIn_app (goodIn_of _ (by decide +kernel)) ggX2_isWhole_X0_fits
set_option maxRecDepth 20000 in
theorem ggX2_firstBroken_X0_fits : GoodIn wsX2_firstBroken wsX0_fits := goodIn_r _ [8, 9, 10, 11, 12, 13, 14, 15, 16, 21, 22, 23, 24, 25, 26, 27, 28, 29, 30, 31] (by decide +kernel) (by decide +kernel)
set_option maxRecDepth 20000 in
theorem gX2_firstBroken_X0_fits : GoodIn wsX2_firstBroken (wsV RX2 139 RX0 yX0_fits wsX0_fits) := goodIn_app (goodIn_of _ (by decide +kernel)) ggX2_firstBroken_X0_fits
set_option maxRecDepth 20000 in
theorem ggX2_tornBlocks_X2_requireEnvelope : GoodIn wsX2_tornBlocks wsX2_requireEnvelope := goodIn_ca (goodIn_r _ [6, 7, 8, 9, 10, 33, 34, 35, 36] (by decide +kernel) (by decide +kernel)) (goodIn_sub (fun _ h => List.mem_cons_of_mem _ (List.mem_append_right _ h)) (by decide +kernel))
set_option maxRecDepth 20000 in
theorem gX2_tornBlocks_X2_requireEnvelope : GoodIn wsX2_tornBlocks (wsV RX2 129 RX2 yX2_requireEnvelope wsX2_requireEnvelope) := goodIn_app (goodIn_of _ (by decide +kernel)) ggX2_tornBlocks_X2_requireEnvelope
set_option maxRecDepth 20000 in
theorem ggX2_tornBlocks_X0_tornBlockCount : GoodIn wsX2_tornBlocks wsX0_tornBlockCount := goodIn_r _ [15, 16, 17, 18, 14, 19, 20, 21, 22, 23, 24, 25, 26, 27, 28, 29, 30, 31, 32, 37, 38, 39, 40, 41, 42, 43, 44, 45, 46, 47] (by decide +kernel) (by decide +kernel)
set_option maxRecDepth 20000 in
theorem gX2_tornBlocks_X0_tornBlockCount : GoodIn wsX2_tornBlocks (wsV RX2 142 RX0 yX0_tornBlockCount wsX0_tornBlockCount) := goodIn_app (goodIn_of _ (by decide +kernel)) ggX2_tornBlocks_X0_tornBlockCount
set_option maxRecDepth 20000 in
theorem ggX2_firstTorn_X2_requireEnvelope : GoodIn wsX2_firstTorn wsX2_requireEnvelope := goodIn_ca (goodIn_r _ [6, 7, 8, 9, 10, 33, 34, 35, 36] (by decide +kernel) (by decide +kernel)) (goodIn_sub (fun _ h => List.mem_cons_of_mem _ (List.mem_append_right _ h)) (by decide +kernel))
set_option maxRecDepth 20000 in
theorem gX2_firstTorn_X2_requireEnvelope : GoodIn wsX2_firstTorn (wsV RX2 129 RX2 yX2_requireEnvelope wsX2_requireEnvelope) := goodIn_app (goodIn_of _ (by decide +kernel)) ggX2_firstTorn_X2_requireEnvelope
set_option maxRecDepth 20000 in
theorem ggX2_firstTorn_X0_firstTornBlock : GoodIn wsX2_firstTorn wsX0_firstTornBlock := goodIn_r _ [15, 16, 17, 18, 14, 19, 20, 21, 22, 23, 24, 25, 26, 27, 28, 29, 30, 31, 32, 37, 38, 39, 40, 41, 42, 43, 44, 45, 46, 47] (by decide +kernel) (by decide +kernel)
set_option maxRecDepth 20000 in
theorem gX2_firstTorn_X0_firstTornBlock : GoodIn wsX2_firstTorn (wsV RX2 145 RX0 yX0_firstTornBlock wsX0_firstTornBlock) := goodIn_app (goodIn_of _ (by decide +kernel)) ggX2_firstTorn_X0_firstTornBlock
set_option maxRecDepth 20000 in
theorem ggX2_changedPlace_X2_requireEnvelope : GoodIn wsX2_changedPlace wsX2_requireEnvelope := goodIn_ca (goodIn_r _ [6, 7, 8, 9, 10, 43, 44, 45, 46] (by decide +kernel) (by decide +kernel)) (goodIn_sub (fun _ h => List.mem_cons_of_mem _ (List.mem_append_right _ h)) (by decide +kernel))
set_option maxRecDepth 20000 in
theorem gX2_changedPlace_X2_requireEnvelope : GoodIn wsX2_changedPlace (wsV RX2 129 RX2 yX2_requireEnvelope wsX2_requireEnvelope) := goodIn_app (goodIn_of _ (by decide +kernel)) ggX2_changedPlace_X2_requireEnvelope
set_option maxRecDepth 20000 in
theorem ggX2_changedPlace_X0_placeOfChange : GoodIn wsX2_changedPlace wsX0_placeOfChange := goodIn_r _ [15, 16, 17, 18, 19, 20, 14, 21, 22, 23, 24, 25, 26, 27, 28, 29, 30, 31, 32, 33, 34, 35, 36, 37, 38, 39, 40, 41, 42, 55, 56, 57, 47, 48, 49, 50, 51, 52, 53, 54] (by decide +kernel) (by decide +kernel)
set_option maxRecDepth 20000 in
theorem gX2_changedPlace_X0_placeOfChange : GoodIn wsX2_changedPlace (wsV RX2 148 RX0 yX0_placeOfChange wsX0_placeOfChange) := goodIn_app (goodIn_of _ (by decide +kernel)) ggX2_changedPlace_X0_placeOfChange
set_option maxRecDepth 20000 in
theorem ggX2_changedSign_X2_requireEnvelope : GoodIn wsX2_changedSign wsX2_requireEnvelope := goodIn_ca (goodIn_r _ [8, 9, 10, 11, 12, 46, 47, 48, 49] (by decide +kernel) (by decide +kernel)) (goodIn_sub (fun _ h => List.mem_cons_of_mem _ (List.mem_append_right _ h)) (by decide +kernel))
set_option maxRecDepth 20000 in
theorem gX2_changedSign_X2_requireEnvelope : GoodIn wsX2_changedSign (wsV RX2 129 RX2 yX2_requireEnvelope wsX2_requireEnvelope) := goodIn_app (goodIn_of _ (by decide +kernel)) ggX2_changedSign_X2_requireEnvelope
set_option maxRecDepth 20000 in
theorem ggX2_changedSign_X0_placeOfChange : GoodIn wsX2_changedSign wsX0_placeOfChange := goodIn_r _ [17, 18, 19, 20, 21, 22, 16, 23, 24, 25, 26, 27, 28, 29, 30, 31, 32, 33, 34, 35, 36, 37, 38, 39, 40, 41, 42, 43, 44, 58, 59, 60, 50, 51, 52, 53, 54, 55, 56, 57] (by decide +kernel) (by decide +kernel)
set_option maxRecDepth 20000 in
theorem gX2_changedSign_X0_placeOfChange : GoodIn wsX2_changedSign (wsV RX2 148 RX0 yX0_placeOfChange wsX0_placeOfChange) := goodIn_app (goodIn_of _ (by decide +kernel)) ggX2_changedSign_X0_placeOfChange
set_option maxRecDepth 20000 in
theorem ggX2_changedSign_X0_lostInSum : GoodIn wsX2_changedSign wsX0_lostInSum := goodIn_r _ [23, 24, 25, 26, 27, 28, 29, 30, 31, 50, 51, 52, 53, 54, 55, 56, 57, 58, 59, 60] (by decide +kernel) (by decide +kernel)
set_option maxRecDepth 20000 in
theorem gX2_changedSign_X0_lostInSum : GoodIn wsX2_changedSign (wsV RX2 153 RX0 yX0_lostInSum wsX0_lostInSum) := goodIn_app (goodIn_of _ (by decide +kernel)) ggX2_changedSign_X0_lostInSum
set_option maxRecDepth 20000 in
theorem ggX2_wouldSeal_X2_requireLetter : GoodIn wsX2_wouldSeal wsX2_requireLetter := goodIn_ca (goodIn_r _ [5, 6, 7, 8, 9, 32, 33, 34, 35] (by decide +kernel) (by decide +kernel)) (goodIn_sub (fun _ h => List.mem_cons_of_mem _ (List.mem_append_left _ (List.mem_append_right _ h))) (by decide +kernel))
set_option maxRecDepth 20000 in
theorem gX2_wouldSeal_X2_requireLetter : GoodIn wsX2_wouldSeal (wsV RX2 30 RX2 yX2_requireLetter wsX2_requireLetter) := goodIn_app (goodIn_of _ (by decide +kernel)) ggX2_wouldSeal_X2_requireLetter
set_option maxRecDepth 20000 in
theorem ggX2_wouldSeal_X2_requireSigns : GoodIn wsX2_wouldSeal wsX2_requireSigns := goodIn_ca (goodIn_r _ [12, 13, 14, 36, 37, 38] (by decide +kernel) (by decide +kernel)) (goodIn_sub (fun _ h => List.mem_cons_of_mem _ (List.mem_append_right _ h)) (by decide +kernel))
set_option maxRecDepth 20000 in
theorem gX2_wouldSeal_X2_requireSigns : GoodIn wsX2_wouldSeal (va_wsS RX2 55 yX2_requireSigns wsX2_requireSigns) := goodIn_app (goodIn_of _ (by decide +kernel)) ggX2_wouldSeal_X2_requireSigns
set_option maxRecDepth 20000 in
theorem ggX2_wouldSeal_X2_lastSeal : GoodIn wsX2_wouldSeal wsX2_lastSeal := goodIn_r _ [18, 19, 20, 32, 33, 34, 35, 39, 40, 41, 42, 43, 44, 45, 46] (by decide +kernel) (by decide +kernel)
set_option maxRecDepth 20000 in
theorem gX2_wouldSeal_X2_lastSeal : GoodIn wsX2_wouldSeal (wsV RX2 89 RX2 yX2_lastSeal wsX2_lastSeal) := goodIn_app (goodIn_of _ (by decide +kernel)) ggX2_wouldSeal_X2_lastSeal
set_option maxRecDepth 20000 in
theorem ggX2_wouldSeal_X1_signDigest : GoodIn wsX2_wouldSeal wsX1_signDigest := goodIn_r _ [25, 26, 27, 36, 37, 38] (by decide +kernel) (by decide +kernel)
set_option maxRecDepth 20000 in
theorem gX2_wouldSeal_X1_signDigest : GoodIn wsX2_wouldSeal (wsV RX2 101 RX1 yX1_signDigest wsX1_signDigest) := goodIn_app (goodIn_of _ (by decide +kernel)) ggX2_wouldSeal_X1_signDigest
set_option maxRecDepth 20000 in
theorem ggX2_wouldSeal_X2_chainedSeal : GoodIn wsX2_wouldSeal wsX2_chainedSeal := goodIn_r _ [30, 31] (by decide +kernel) (by decide +kernel)
set_option maxRecDepth 20000 in
theorem gX2_wouldSeal_X2_chainedSeal : GoodIn wsX2_wouldSeal (va_wsS RX2 156 yX2_chainedSeal wsX2_chainedSeal) := goodIn_app (goodIn_of _ (by decide +kernel)) ggX2_wouldSeal_X2_chainedSeal
set_option maxRecDepth 20000 in
theorem ggX2_unnoticed_X2_requireLetter : GoodIn wsX2_unnoticed wsX2_requireLetter := goodIn_ca (goodIn_r _ [5, 6, 7, 8, 9, 17, 18, 19, 20] (by decide +kernel) (by decide +kernel)) (goodIn_sub (fun _ h => List.mem_cons_of_mem _ (List.mem_append_right _ h)) (by decide +kernel))
set_option maxRecDepth 20000 in
theorem gX2_unnoticed_X2_requireLetter : GoodIn wsX2_unnoticed (wsV RX2 30 RX2 yX2_requireLetter wsX2_requireLetter) := goodIn_app (goodIn_of _ (by decide +kernel)) ggX2_unnoticed_X2_requireLetter
set_option maxRecDepth 20000 in
theorem ggX2_unnoticed_X1_unnoticedPlaces : GoodIn wsX2_unnoticed wsX1_unnoticedPlaces := goodIn_r _ [14, 15, 16, 21, 22, 23] (by decide +kernel) (by decide +kernel)
set_option maxRecDepth 20000 in
theorem gX2_unnoticed_X1_unnoticedPlaces : GoodIn wsX2_unnoticed (wsV RX2 159 RX1 yX1_unnoticedPlaces wsX1_unnoticedPlaces) := goodIn_app (goodIn_of _ (by decide +kernel)) ggX2_unnoticed_X1_unnoticedPlaces
set_option maxRecDepth 20000 in
theorem ggX2_worstTear_X2_requireLetter : GoodIn wsX2_worstTear wsX2_requireLetter := goodIn_ca (goodIn_r _ [5, 6, 7, 8, 9, 25, 26, 27, 28] (by decide +kernel) (by decide +kernel)) (goodIn_sub (fun _ h => List.mem_cons_of_mem _ (List.mem_append_right _ h)) (by decide +kernel))
set_option maxRecDepth 20000 in
theorem gX2_worstTear_X2_requireLetter : GoodIn wsX2_worstTear (wsV RX2 30 RX2 yX2_requireLetter wsX2_requireLetter) := goodIn_app (goodIn_of _ (by decide +kernel)) ggX2_worstTear_X2_requireLetter
set_option maxRecDepth 20000 in
theorem ggX2_worstTear_X1_worstPlace : GoodIn wsX2_worstTear wsX1_worstPlace := goodIn_r _ [14, 15, 16, 17, 18, 19, 20, 21, 22, 23, 13, 24, 29, 30, 31] (by decide +kernel) (by decide +kernel)
set_option maxRecDepth 20000 in
theorem gX2_worstTear_X1_worstPlace : GoodIn wsX2_worstTear (wsV RX2 162 RX1 yX1_worstPlace wsX1_worstPlace) := goodIn_app (goodIn_of _ (by decide +kernel)) ggX2_worstTear_X1_worstPlace
set_option maxRecDepth 20000 in
theorem ggX2_digest_X2_doubles : GoodIn wsX2_digest wsX2_doubles := goodIn_r _ [11, 3, 5, 12, 13, 14, 15, 16, 17, 18, 19, 20, 21, 22, 23, 24, 25, 26, 121, 122, 123, 124, 125, 126, 127] (by decide +kernel) (by decide +kernel)
set_option maxRecDepth 20000 in
theorem gX2_digest_X2_doubles : GoodIn wsX2_digest (wsV RX2 169 RX2 yX2_doubles wsX2_doubles) := goodIn_app (goodIn_of _ (by decide +kernel)) ggX2_digest_X2_doubles
set_option maxRecDepth 20000 in
theorem ggX2_digest_X2_firstBroken : GoodIn wsX2_digest wsX2_firstBroken := goodIn_r _ [30, 4, 6, 5, 31, 32, 33, 34, 35, 36, 37, 13, 14, 15, 16, 17, 18, 121, 122, 123, 124, 128, 129, 130, 131, 132, 133, 134, 135, 125, 126, 127] (by decide +kernel) (by decide +kernel)
set_option maxRecDepth 20000 in
theorem gX2_digest_X2_firstBroken : GoodIn wsX2_digest (wsV RX2 172 RX2 yX2_firstBroken wsX2_firstBroken) := goodIn_app (goodIn_of _ (by decide +kernel)) ggX2_digest_X2_firstBroken
set_option maxRecDepth 20000 in
theorem ggX2_digest_X2_withLetter : GoodIn wsX2_digest wsX2_withLetter := goodIn_r _ [40, 2, 41, 42, 43, 15, 44, 17, 18, 12, 13, 14, 16, 45, 46, 47, 48, 49, 50, 51, 52, 53, 54, 55, 56, 57, 58, 59, 60, 61, 23, 24, 25, 26, 62, 63, 64, 65, 66, 67, 68, 69, 70, 71, 72, 73, 74, 125, 126, 127] (by decide +kernel) (by decide +kernel)
set_option maxRecDepth 20000 in
theorem gX2_digest_X2_withLetter : GoodIn wsX2_digest (va_wsS RX2 175 yX2_withLetter wsX2_withLetter) := goodIn_app (goodIn_of _ (by decide +kernel)) ggX2_digest_X2_withLetter
set_option maxRecDepth 20000 in
theorem ggX2_digest_X2_withEnvelope : GoodIn wsX2_digest wsX2_withEnvelope := goodIn_r _ [78, 5, 2, 31, 32, 33, 34, 35, 36, 37, 13, 14, 15, 16, 17, 18, 79, 80, 81, 82, 83, 84, 85, 86, 87, 88, 89, 90, 91, 92, 93, 94, 95, 96, 97, 98, 99, 100, 101, 102, 103, 104, 105, 106, 107, 108, 109, 110, 111, 112, 113, 114, 115, 116, 117, 118, 119, 120, 121, 122, 123, 124, 128, 129, 130, 131, 132, 133, 134, 135, 125, 126, 127] (by decide +kernel) (by decide +kernel)
set_option maxRecDepth 20000 in
theorem gX2_digest_X2_withEnvelope : GoodIn wsX2_digest (wsV RX2 179 RX2 yX2_withEnvelope wsX2_withEnvelope) := goodIn_app (goodIn_of _ (by decide +kernel)) ggX2_digest_X2_withEnvelope
set_option maxRecDepth 20000 in
theorem ggX2_withLetter_X1_countOf : GoodIn wsX2_withLetter wsX1_countOf := goodIn_r _ [6, 7, 8, 47, 48, 49] (by decide +kernel) (by decide +kernel)
set_option maxRecDepth 20000 in
theorem gX2_withLetter_X1_countOf : GoodIn wsX2_withLetter (wsV RX2 80 RX1 yX1_countOf wsX1_countOf) := goodIn_app (goodIn_of _ (by decide +kernel)) ggX2_withLetter_X1_countOf
set_option maxRecDepth 20000 in
theorem ggX2_withLetter_X1_signDigest : GoodIn wsX2_withLetter wsX1_signDigest := goodIn_r _ [12, 7, 8, 47, 48, 49] (by decide +kernel) (by decide +kernel)
set_option maxRecDepth 20000 in
theorem gX2_withLetter_X1_signDigest : GoodIn wsX2_withLetter (wsV RX2 101 RX1 yX1_signDigest wsX1_signDigest) := goodIn_app (goodIn_of _ (by decide +kernel)) ggX2_withLetter_X1_signDigest
set_option maxRecDepth 20000 in
theorem ggX2_withLetter_X1_sameSumPairs : GoodIn wsX2_withLetter wsX1_sameSumPairs := goodIn_r _ [16, 17, 18, 19, 20, 5, 21, 7, 22, 23, 24, 25, 8, 47, 48, 49] (by decide +kernel) (by decide +kernel)
set_option maxRecDepth 20000 in
theorem gX2_withLetter_X1_sameSumPairs : GoodIn wsX2_withLetter (wsV RX2 115 RX1 yX1_sameSumPairs wsX1_sameSumPairs) := goodIn_app (goodIn_of _ (by decide +kernel)) ggX2_withLetter_X1_sameSumPairs
set_option maxRecDepth 20000 in
theorem ggX2_withLetter_X1_falseAlarmPairs : GoodIn wsX2_withLetter wsX1_falseAlarmPairs := goodIn_r _ [29, 17, 18, 19, 20, 5, 21, 7, 22, 23, 24, 25, 8, 30, 31, 32, 33, 47, 48, 49] (by decide +kernel) (by decide +kernel)
set_option maxRecDepth 20000 in
theorem gX2_withLetter_X1_falseAlarmPairs : GoodIn wsX2_withLetter (wsV RX2 118 RX1 yX1_falseAlarmPairs wsX1_falseAlarmPairs) := goodIn_app (goodIn_of _ (by decide +kernel)) ggX2_withLetter_X1_falseAlarmPairs
set_option maxRecDepth 20000 in
theorem ggX2_withLetter_X1_unnoticedPlaces : GoodIn wsX2_withLetter wsX1_unnoticedPlaces := goodIn_r _ [37, 7, 8, 47, 48, 49] (by decide +kernel) (by decide +kernel)
set_option maxRecDepth 20000 in
theorem gX2_withLetter_X1_unnoticedPlaces : GoodIn wsX2_withLetter (wsV RX2 159 RX1 yX1_unnoticedPlaces wsX1_unnoticedPlaces) := goodIn_app (goodIn_of _ (by decide +kernel)) ggX2_withLetter_X1_unnoticedPlaces
set_option maxRecDepth 20000 in
theorem ggX2_withLetter_X1_worstPlace : GoodIn wsX2_withLetter wsX1_worstPlace := goodIn_r _ [41, 7, 8, 42, 43, 44, 45, 46, 10, 11, 5, 12, 47, 48, 49] (by decide +kernel) (by decide +kernel)
set_option maxRecDepth 20000 in
theorem gX2_withLetter_X1_worstPlace : GoodIn wsX2_withLetter (wsV RX2 162 RX1 yX1_worstPlace wsX1_worstPlace) := goodIn_app (goodIn_of _ (by decide +kernel)) ggX2_withLetter_X1_worstPlace
set_option maxRecDepth 20000 in
theorem ggX2_withEnvelope_X0_fits : GoodIn wsX2_withEnvelope wsX0_fits := goodIn_r _ [7, 8, 9, 10, 11, 12, 13, 14, 15, 62, 63, 64, 65, 66, 67, 68, 69, 70, 71, 72] (by decide +kernel) (by decide +kernel)
set_option maxRecDepth 20000 in
theorem gX2_withEnvelope_X0_fits : GoodIn wsX2_withEnvelope (wsV RX2 139 RX0 yX0_fits wsX0_fits) := goodIn_app (goodIn_of _ (by decide +kernel)) ggX2_withEnvelope_X0_fits
set_option maxRecDepth 20000 in
theorem ggX2_withEnvelope_X0_tornBlockCount : GoodIn wsX2_withEnvelope wsX0_tornBlockCount := goodIn_r _ [19, 20, 21, 22, 6, 23, 24, 25, 26, 27, 28, 12, 29, 14, 30, 31, 32, 33, 15, 62, 63, 64, 65, 66, 67, 68, 69, 70, 71, 72] (by decide +kernel) (by decide +kernel)
set_option maxRecDepth 20000 in
theorem gX2_withEnvelope_X0_tornBlockCount : GoodIn wsX2_withEnvelope (wsV RX2 142 RX0 yX0_tornBlockCount wsX0_tornBlockCount) := goodIn_app (goodIn_of _ (by decide +kernel)) ggX2_withEnvelope_X0_tornBlockCount
set_option maxRecDepth 20000 in
theorem ggX2_withEnvelope_X0_firstTornBlock : GoodIn wsX2_withEnvelope wsX0_firstTornBlock := goodIn_r _ [37, 20, 21, 22, 6, 23, 24, 25, 26, 27, 28, 12, 29, 14, 30, 31, 32, 33, 15, 62, 63, 64, 65, 66, 67, 68, 69, 70, 71, 72] (by decide +kernel) (by decide +kernel)
set_option maxRecDepth 20000 in
theorem gX2_withEnvelope_X0_firstTornBlock : GoodIn wsX2_withEnvelope (wsV RX2 145 RX0 yX0_firstTornBlock wsX0_firstTornBlock) := goodIn_app (goodIn_of _ (by decide +kernel)) ggX2_withEnvelope_X0_firstTornBlock
set_option maxRecDepth 20000 in
theorem ggX2_withEnvelope_X0_placeOfChange : GoodIn wsX2_withEnvelope wsX0_placeOfChange := goodIn_r _ [41, 42, 43, 44, 45, 46, 6, 47, 48, 49, 50, 51, 12, 52, 14, 15, 53, 4, 5, 7, 8, 9, 10, 11, 13, 54, 55, 56, 57, 70, 71, 72, 62, 63, 64, 65, 66, 67, 68, 69] (by decide +kernel) (by decide +kernel)
set_option maxRecDepth 20000 in
theorem gX2_withEnvelope_X0_placeOfChange : GoodIn wsX2_withEnvelope (wsV RX2 148 RX0 yX0_placeOfChange wsX0_placeOfChange) := goodIn_app (goodIn_of _ (by decide +kernel)) ggX2_withEnvelope_X0_placeOfChange
set_option maxRecDepth 20000 in
theorem ggX2_requireLetterWithPlace_X2_requireLetter : GoodIn wsX2_requireLetterWithPlace wsX2_requireLetter := goodIn_ca (goodIn_r _ [7, 1, 2, 8, 9, 13, 14, 15, 16] (by decide +kernel) (by decide +kernel)) (goodIn_sub (fun _ h => List.mem_cons_of_mem _ (List.mem_append_right _ h)) (by decide +kernel))
set_option maxRecDepth 20000 in
theorem gX2_requireLetterWithPlace_X2_requireLetter : GoodIn wsX2_requireLetterWithPlace (wsV RX2 30 RX2 yX2_requireLetter wsX2_requireLetter) := goodIn_app (goodIn_of _ (by decide +kernel)) ggX2_requireLetterWithPlace_X2_requireLetter
set_option maxRecDepth 20000 in
theorem ggX3_isLetter_X3_isFrom : GoodIn wsX3_isLetter wsX3_isFrom := goodIn_r _ [5] (by decide +kernel) (by decide +kernel)
set_option maxRecDepth 20000 in
theorem gX3_isLetter_X3_isFrom : GoodIn wsX3_isLetter (va_wsS RX3 44 yX3_isFrom wsX3_isFrom) := goodIn_app (goodIn_of _ (by decide +kernel)) ggX3_isLetter_X3_isFrom
set_option maxRecDepth 20000 in
theorem ggX3_isEnvelope_X3_isFrom : GoodIn wsX3_isEnvelope wsX3_isFrom := goodIn_r _ [5] (by decide +kernel) (by decide +kernel)
set_option maxRecDepth 20000 in
theorem gX3_isEnvelope_X3_isFrom : GoodIn wsX3_isEnvelope (va_wsS RX3 44 yX3_isFrom wsX3_isFrom) := goodIn_app (goodIn_of _ (by decide +kernel)) ggX3_isEnvelope_X3_isFrom
set_option maxRecDepth 20000 in
theorem ggX3_isPlace_X3_isLetter : GoodIn wsX3_isPlace wsX3_isLetter := goodIn_r _ [6, 7, 8, 9, 5, 10, 11, 12, 13, 14, 15, 16, 17, 18, 19, 20, 21, 22] (by decide +kernel) (by decide +kernel)
set_option maxRecDepth 20000 in
theorem gX3_isPlace_X3_isLetter : GoodIn wsX3_isPlace (wsV RX3 51 RX3 yX3_isLetter wsX3_isLetter) := goodIn_app (goodIn_of _ (by decide +kernel)) ggX3_isPlace_X3_isLetter
set_option maxRecDepth 20000 in
theorem ggX3_isPlace_X3_isFrom : GoodIn wsX3_isPlace wsX3_isFrom := goodIn_r _ [10] (by decide +kernel) (by decide +kernel)
set_option maxRecDepth 20000 in
theorem gX3_isPlace_X3_isFrom : GoodIn wsX3_isPlace (va_wsS RX3 44 yX3_isFrom wsX3_isFrom) := goodIn_app (goodIn_of _ (by decide +kernel)) ggX3_isPlace_X3_isFrom
set_option maxRecDepth 20000 in
theorem ggX3_digestWith_X3_at : GoodIn wsX3_digestWith wsX3_at := goodIn_r _ [6, 7, 8, 9, 10, 11, 12, 13, 14, 15, 16, 17, 18, 19] (by decide +kernel) (by decide +kernel)
set_option maxRecDepth 20000 in
theorem gX3_digestWith_X3_at : GoodIn wsX3_digestWith (wsV RX3 55 RX3 yX3_at wsX3_at) := goodIn_app (goodIn_of _ (by decide +kernel)) ggX3_digestWith_X3_at
set_option maxRecDepth 20000 in
theorem ggX3_digestNow_X3_digestWith : GoodIn wsX3_digestNow wsX3_digestWith := goodIn_r _ [5, 6, 7, 8, 9, 4, 10, 11, 12, 13, 14, 15, 16, 17, 18, 19, 20, 21, 22, 23] (by decide +kernel) (by decide +kernel)
set_option maxRecDepth 20000 in
theorem gX3_digestNow_X3_digestWith : GoodIn wsX3_digestNow (wsV RX3 59 RX3 yX3_digestWith wsX3_digestWith) := goodIn_app (goodIn_of _ (by decide +kernel)) ggX3_digestNow_X3_digestWith
set_option maxRecDepth 20000 in
theorem ggX3_window_X3_at : GoodIn wsX3_window wsX3_at := goodIn_r _ [5, 6, 7, 8, 9, 10, 11, 12, 13, 14, 15, 16, 17, 18] (by decide +kernel) (by decide +kernel)
set_option maxRecDepth 20000 in
theorem gX3_window_X3_at : GoodIn wsX3_window (wsV RX3 55 RX3 yX3_at wsX3_at) := goodIn_app (goodIn_of _ (by decide +kernel)) ggX3_window_X3_at
set_option maxRecDepth 20000 in
theorem ggX3_block_X3_at : GoodIn wsX3_block wsX3_at := goodIn_r _ [6, 7, 8, 9, 10, 11, 12, 13, 14, 15, 16, 17, 18, 19] (by decide +kernel) (by decide +kernel)
set_option maxRecDepth 20000 in
theorem gX3_block_X3_at : GoodIn wsX3_block (wsV RX3 55 RX3 yX3_at wsX3_at) := goodIn_app (goodIn_of _ (by decide +kernel)) ggX3_block_X3_at
set_option maxRecDepth 20000 in
theorem ggX3_sum_X3_at : GoodIn wsX3_sum wsX3_at := goodIn_r _ [6, 7, 8, 9, 10, 11, 12, 13, 14, 15, 16, 17, 18, 19] (by decide +kernel) (by decide +kernel)
set_option maxRecDepth 20000 in
theorem gX3_sum_X3_at : GoodIn wsX3_sum (wsV RX3 55 RX3 yX3_at wsX3_at) := goodIn_app (goodIn_of _ (by decide +kernel)) ggX3_sum_X3_at
set_option maxRecDepth 20000 in
theorem ggX3_count_X3_at : GoodIn wsX3_count wsX3_at := goodIn_r _ [6, 7, 8, 9, 10, 11, 12, 13, 14, 15, 16, 17, 18, 19] (by decide +kernel) (by decide +kernel)
set_option maxRecDepth 20000 in
theorem gX3_count_X3_at : GoodIn wsX3_count (wsV RX3 55 RX3 yX3_at wsX3_at) := goodIn_app (goodIn_of _ (by decide +kernel)) ggX3_count_X3_at
set_option maxRecDepth 20000 in
theorem ggX3_addLetter_X3_no : GoodIn wsX3_addLetter wsX3_no := goodIn_r _ [8, 1, 9, 10, 11, 12, 13, 14, 15, 16, 17, 18, 19, 20] (by decide +kernel) (by decide +kernel)
set_option maxRecDepth 20000 in
theorem gX3_addLetter_X3_no : GoodIn wsX3_addLetter (wsV RX3 63 RX3 yX3_no wsX3_no) := goodIn_app (goodIn_of _ (by decide +kernel)) ggX3_addLetter_X3_no
set_option maxRecDepth 20000 in
theorem ggX3_copyLetter_X3_isLetter : GoodIn wsX3_copyLetter wsX3_isLetter := goodIn_r _ [13, 2, 14, 15, 12, 16, 21, 22, 23, 24, 25, 26, 27, 28, 29, 30, 31, 32] (by decide +kernel) (by decide +kernel)
set_option maxRecDepth 20000 in
theorem gX3_copyLetter_X3_isLetter : GoodIn wsX3_copyLetter (wsV RX3 51 RX3 yX3_isLetter wsX3_isLetter) := goodIn_app (goodIn_of _ (by decide +kernel)) ggX3_copyLetter_X3_isLetter
set_option maxRecDepth 20000 in
theorem ggX3_copyLetter_X3_no : GoodIn wsX3_copyLetter wsX3_no := goodIn_r _ [20, 1, 21, 22, 23, 24, 25, 26, 27, 28, 29, 30, 31, 32] (by decide +kernel) (by decide +kernel)
set_option maxRecDepth 20000 in
theorem gX3_copyLetter_X3_no : GoodIn wsX3_copyLetter (wsV RX3 63 RX3 yX3_no wsX3_no) := goodIn_app (goodIn_of _ (by decide +kernel)) ggX3_copyLetter_X3_no
set_option maxRecDepth 20000 in
theorem ggX3_write_X3_isLetter : GoodIn wsX3_write wsX3_isLetter := goodIn_r _ [8, 9, 10, 11, 7, 12, 17, 18, 19, 20, 21, 22, 23, 24, 25, 26, 27, 28] (by decide +kernel) (by decide +kernel)
set_option maxRecDepth 20000 in
theorem gX3_write_X3_isLetter : GoodIn wsX3_write (wsV RX3 51 RX3 yX3_isLetter wsX3_isLetter) := goodIn_app (goodIn_of _ (by decide +kernel)) ggX3_write_X3_isLetter
set_option maxRecDepth 20000 in
theorem ggX3_write_X3_no : GoodIn wsX3_write wsX3_no := goodIn_r _ [16, 1, 17, 18, 19, 20, 21, 22, 23, 24, 25, 26, 27, 28] (by decide +kernel) (by decide +kernel)
set_option maxRecDepth 20000 in
theorem gX3_write_X3_no : GoodIn wsX3_write (wsV RX3 63 RX3 yX3_no wsX3_no) := goodIn_app (goodIn_of _ (by decide +kernel)) ggX3_write_X3_no
set_option maxRecDepth 20000 in
theorem ggX3_write_X3_isFrom : GoodIn wsX3_write wsX3_isFrom := goodIn_r _ [12] (by decide +kernel) (by decide +kernel)
set_option maxRecDepth 20000 in
theorem gX3_write_X3_isFrom : GoodIn wsX3_write (va_wsS RX3 44 yX3_isFrom wsX3_isFrom) := goodIn_app (goodIn_of _ (by decide +kernel)) ggX3_write_X3_isFrom
set_option maxRecDepth 20000 in
theorem ggX3_erase_X3_isLetter : GoodIn wsX3_erase wsX3_isLetter := goodIn_r _ [7, 8, 9, 10, 6, 11, 21, 22, 23, 24, 25, 26, 27, 28, 29, 30, 31, 32] (by decide +kernel) (by decide +kernel)
set_option maxRecDepth 20000 in
theorem gX3_erase_X3_isLetter : GoodIn wsX3_erase (wsV RX3 51 RX3 yX3_isLetter wsX3_isLetter) := goodIn_app (goodIn_of _ (by decide +kernel)) ggX3_erase_X3_isLetter
set_option maxRecDepth 20000 in
theorem ggX3_erase_X3_no : GoodIn wsX3_erase wsX3_no := goodIn_r _ [15, 1, 21, 22, 23, 24, 25, 26, 27, 28, 29, 30, 31, 32] (by decide +kernel) (by decide +kernel)
set_option maxRecDepth 20000 in
theorem gX3_erase_X3_no : GoodIn wsX3_erase (wsV RX3 63 RX3 yX3_no wsX3_no) := goodIn_app (goodIn_of _ (by decide +kernel)) ggX3_erase_X3_no
set_option maxRecDepth 20000 in
theorem ggX3_erase_X3_at : GoodIn wsX3_erase wsX3_at := goodIn_r _ [19, 20, 21, 22, 23, 24, 25, 26, 27, 28, 29, 30, 31, 32] (by decide +kernel) (by decide +kernel)
set_option maxRecDepth 20000 in
theorem gX3_erase_X3_at : GoodIn wsX3_erase (wsV RX3 55 RX3 yX3_at wsX3_at) := goodIn_app (goodIn_of _ (by decide +kernel)) ggX3_erase_X3_at
set_option maxRecDepth 20000 in
theorem ggX3_changed_X3_isPlace : GoodIn wsX3_changed wsX3_isPlace := goodIn_r _ [7, 8, 9, 10, 11, 6, 12, 13, 14, 15, 16, 25, 26, 27, 28, 29, 30, 31, 32, 33, 34, 35, 36] (by decide +kernel) (by decide +kernel)
set_option maxRecDepth 20000 in
theorem gX3_changed_X3_isPlace : GoodIn wsX3_changed (wsV RX3 73 RX3 yX3_isPlace wsX3_isPlace) := goodIn_app (goodIn_of _ (by decide +kernel)) ggX3_changed_X3_isPlace
set_option maxRecDepth 20000 in
theorem ggX3_changed_X3_no : GoodIn wsX3_changed wsX3_no := goodIn_r _ [20, 1, 25, 26, 27, 28, 29, 30, 31, 32, 33, 34, 35, 36] (by decide +kernel) (by decide +kernel)
set_option maxRecDepth 20000 in
theorem gX3_changed_X3_no : GoodIn wsX3_changed (wsV RX3 63 RX3 yX3_no wsX3_no) := goodIn_app (goodIn_of _ (by decide +kernel)) ggX3_changed_X3_no
set_option maxRecDepth 20000 in
theorem ggX3_changed_X3_at : GoodIn wsX3_changed wsX3_at := goodIn_r _ [24, 2, 25, 26, 27, 28, 29, 30, 31, 32, 33, 34, 35, 36] (by decide +kernel) (by decide +kernel)
set_option maxRecDepth 20000 in
theorem gX3_changed_X3_at : GoodIn wsX3_changed (wsV RX3 55 RX3 yX3_at wsX3_at) := goodIn_app (goodIn_of _ (by decide +kernel)) ggX3_changed_X3_at
set_option maxRecDepth 20000 in
theorem ggX3_forge_X3_changed : GoodIn wsX3_forge wsX3_changed := goodIn_r _ [5, 6, 7, 8, 9, 10, 4, 11, 12, 13, 14, 15, 16, 17, 18, 19, 20, 21, 22, 23, 24, 25, 26, 27, 28, 29, 30, 31, 32, 33, 34, 35, 36, 37, 38, 39, 40] (by decide +kernel) (by decide +kernel)
set_option maxRecDepth 20000 in
theorem gX3_forge_X3_changed : GoodIn wsX3_forge (wsV RX3 77 RX3 yX3_changed wsX3_changed) := goodIn_app (goodIn_of _ (by decide +kernel)) ggX3_forge_X3_changed
set_option maxRecDepth 20000 in
theorem ggX3_tear_X3_changed : GoodIn wsX3_tear wsX3_changed := goodIn_r _ [5, 6, 7, 8, 9, 10, 4, 11, 12, 13, 14, 15, 16, 17, 18, 19, 20, 21, 22, 23, 24, 25, 26, 27, 28, 29, 30, 31, 32, 33, 34, 35, 36, 37, 38, 39, 40] (by decide +kernel) (by decide +kernel)
set_option maxRecDepth 20000 in
theorem gX3_tear_X3_changed : GoodIn wsX3_tear (wsV RX3 77 RX3 yX3_changed wsX3_changed) := goodIn_app (goodIn_of _ (by decide +kernel)) ggX3_tear_X3_changed
set_option maxRecDepth 20000 in
theorem ggX3_mend_X3_isPlace : GoodIn wsX3_mend wsX3_isPlace := goodIn_r _ [7, 8, 9, 10, 11, 6, 12, 13, 14, 15, 16, 29, 30, 31, 32, 33, 34, 35, 36, 37, 38, 39, 40] (by decide +kernel) (by decide +kernel)
set_option maxRecDepth 20000 in
theorem gX3_mend_X3_isPlace : GoodIn wsX3_mend (wsV RX3 73 RX3 yX3_isPlace wsX3_isPlace) := goodIn_app (goodIn_of _ (by decide +kernel)) ggX3_mend_X3_isPlace
set_option maxRecDepth 20000 in
theorem ggX3_mend_X3_no : GoodIn wsX3_mend wsX3_no := goodIn_r _ [20, 1, 29, 30, 31, 32, 33, 34, 35, 36, 37, 38, 39, 40] (by decide +kernel) (by decide +kernel)
set_option maxRecDepth 20000 in
theorem gX3_mend_X3_no : GoodIn wsX3_mend (wsV RX3 63 RX3 yX3_no wsX3_no) := goodIn_app (goodIn_of _ (by decide +kernel)) ggX3_mend_X3_no
set_option maxRecDepth 20000 in
theorem ggX3_mend_X3_isFrom : GoodIn wsX3_mend wsX3_isFrom := goodIn_r _ [16] (by decide +kernel) (by decide +kernel)
set_option maxRecDepth 20000 in
theorem gX3_mend_X3_isFrom : GoodIn wsX3_mend (va_wsS RX3 44 yX3_isFrom wsX3_isFrom) := goodIn_app (goodIn_of _ (by decide +kernel)) ggX3_mend_X3_isFrom
set_option maxRecDepth 20000 in
theorem ggX3_mend_X3_at : GoodIn wsX3_mend wsX3_at := goodIn_r _ [24, 2, 29, 30, 31, 32, 33, 34, 35, 36, 37, 38, 39, 40] (by decide +kernel) (by decide +kernel)
set_option maxRecDepth 20000 in
theorem gX3_mend_X3_at : GoodIn wsX3_mend (wsV RX3 55 RX3 yX3_at wsX3_at) := goodIn_app (goodIn_of _ (by decide +kernel)) ggX3_mend_X3_at
set_option maxRecDepth 20000 in
theorem ggX3_mend_X3_count : GoodIn wsX3_mend wsX3_count := goodIn_r _ [28, 8, 21, 22, 23, 6, 24, 2, 29, 30, 31, 32, 33, 34, 35, 36, 37, 38, 39, 40] (by decide +kernel) (by decide +kernel)
set_option maxRecDepth 20000 in
theorem gX3_mend_X3_count : GoodIn wsX3_mend (wsV RX3 80 RX3 yX3_count wsX3_count) := goodIn_app (goodIn_of _ (by decide +kernel)) ggX3_mend_X3_count
set_option maxRecDepth 20000 in
theorem ggX3_seal_X3_isLetter : GoodIn wsX3_seal wsX3_isLetter := goodIn_r _ [15, 16, 17, 18, 14, 19, 50, 51, 52, 53, 54, 55, 56, 57, 58, 59, 60, 61] (by decide +kernel) (by decide +kernel)
set_option maxRecDepth 20000 in
theorem gX3_seal_X3_isLetter : GoodIn wsX3_seal (wsV RX3 51 RX3 yX3_isLetter wsX3_isLetter) := goodIn_app (goodIn_of _ (by decide +kernel)) ggX3_seal_X3_isLetter
set_option maxRecDepth 20000 in
theorem ggX3_seal_X3_no : GoodIn wsX3_seal wsX3_no := goodIn_r _ [23, 1, 50, 51, 52, 53, 54, 55, 56, 57, 58, 59, 60, 61] (by decide +kernel) (by decide +kernel)
set_option maxRecDepth 20000 in
theorem gX3_seal_X3_no : GoodIn wsX3_seal (wsV RX3 63 RX3 yX3_no wsX3_no) := goodIn_app (goodIn_of _ (by decide +kernel)) ggX3_seal_X3_no
set_option maxRecDepth 20000 in
theorem ggX3_seal_X3_digestNow : GoodIn wsX3_seal wsX3_digestNow := goodIn_r _ [27, 28, 29, 30, 14, 31, 3, 32, 33, 34, 35, 36, 50, 51, 52, 53, 54, 55, 56, 57, 58, 59, 60, 61] (by decide +kernel) (by decide +kernel)
set_option maxRecDepth 20000 in
theorem gX3_seal_X3_digestNow : GoodIn wsX3_seal (wsV RX3 84 RX3 yX3_digestNow wsX3_digestNow) := goodIn_app (goodIn_of _ (by decide +kernel)) ggX3_seal_X3_digestNow
set_option maxRecDepth 20000 in
theorem ggX3_seal_X3_block : GoodIn wsX3_seal wsX3_block := goodIn_r _ [40, 3, 32, 33, 34, 14, 35, 36, 50, 51, 52, 53, 54, 55, 56, 57, 58, 59, 60, 61] (by decide +kernel) (by decide +kernel)
set_option maxRecDepth 20000 in
theorem gX3_seal_X3_block : GoodIn wsX3_seal (wsV RX3 87 RX3 yX3_block wsX3_block) := goodIn_app (goodIn_of _ (by decide +kernel)) ggX3_seal_X3_block
set_option maxRecDepth 20000 in
theorem ggX3_seal_X3_sum : GoodIn wsX3_seal wsX3_sum := goodIn_r _ [44, 3, 32, 33, 34, 14, 35, 36, 50, 51, 52, 53, 54, 55, 56, 57, 58, 59, 60, 61] (by decide +kernel) (by decide +kernel)
set_option maxRecDepth 20000 in
theorem gX3_seal_X3_sum : GoodIn wsX3_seal (wsV RX3 90 RX3 yX3_sum wsX3_sum) := goodIn_app (goodIn_of _ (by decide +kernel)) ggX3_seal_X3_sum
set_option maxRecDepth 20000 in
theorem ggX3_seal_X3_sealWith : GoodIn wsX3_seal wsX3_sealWith := goodIn_r _ [48, 2, 10, 49, 50, 51, 52, 53, 54, 55, 56, 57, 58, 59, 60, 61] (by decide +kernel) (by decide +kernel)
set_option maxRecDepth 20000 in
theorem gX3_seal_X3_sealWith : GoodIn wsX3_seal (wsV RX3 94 RX3 yX3_sealWith wsX3_sealWith) := goodIn_app (goodIn_of _ (by decide +kernel)) ggX3_seal_X3_sealWith
set_option maxRecDepth 20000 in
theorem ggX3_unseal_X3_no : GoodIn wsX3_unseal wsX3_no := goodIn_r _ [8, 1, 9, 10, 11, 12, 13, 14, 15, 16, 17, 18, 19, 20] (by decide +kernel) (by decide +kernel)
set_option maxRecDepth 20000 in
theorem gX3_unseal_X3_no : GoodIn wsX3_unseal (wsV RX3 63 RX3 yX3_no wsX3_no) := goodIn_app (goodIn_of _ (by decide +kernel)) ggX3_unseal_X3_no
set_option maxRecDepth 20000 in
theorem ggX3_letters_X3_ok : GoodIn wsX3_letters wsX3_ok := goodIn_r _ [6, 7, 8, 9, 10, 11, 12, 13, 14, 15, 16, 17, 18, 19] (by decide +kernel) (by decide +kernel)
set_option maxRecDepth 20000 in
theorem gX3_letters_X3_ok : GoodIn wsX3_letters (wsV RX3 97 RX3 yX3_ok wsX3_ok) := goodIn_app (goodIn_of _ (by decide +kernel)) ggX3_letters_X3_ok
set_option maxRecDepth 20000 in
theorem ggX3_signsOf_X3_isLetter : GoodIn wsX3_signsOf wsX3_isLetter := goodIn_r _ [7, 8, 9, 10, 6, 11, 16, 17, 18, 19, 20, 21, 22, 23, 24, 25, 26, 27] (by decide +kernel) (by decide +kernel)
set_option maxRecDepth 20000 in
theorem gX3_signsOf_X3_isLetter : GoodIn wsX3_signsOf (wsV RX3 51 RX3 yX3_isLetter wsX3_isLetter) := goodIn_app (goodIn_of _ (by decide +kernel)) ggX3_signsOf_X3_isLetter
set_option maxRecDepth 20000 in
theorem ggX3_signsOf_X3_no : GoodIn wsX3_signsOf wsX3_no := goodIn_r _ [15, 1, 16, 17, 18, 19, 20, 21, 22, 23, 24, 25, 26, 27] (by decide +kernel) (by decide +kernel)
set_option maxRecDepth 20000 in
theorem gX3_signsOf_X3_no : GoodIn wsX3_signsOf (wsV RX3 63 RX3 yX3_no wsX3_no) := goodIn_app (goodIn_of _ (by decide +kernel)) ggX3_signsOf_X3_no
set_option maxRecDepth 20000 in
theorem ggX3_commasOf_X3_isLetter : GoodIn wsX3_commasOf wsX3_isLetter := goodIn_r _ [6, 7, 8, 9, 5, 10, 25, 26, 27, 28, 29, 30, 31, 32, 33, 34, 35, 36] (by decide +kernel) (by decide +kernel)
set_option maxRecDepth 20000 in
theorem gX3_commasOf_X3_isLetter : GoodIn wsX3_commasOf (wsV RX3 51 RX3 yX3_isLetter wsX3_isLetter) := goodIn_app (goodIn_of _ (by decide +kernel)) ggX3_commasOf_X3_isLetter
set_option maxRecDepth 20000 in
theorem ggX3_commasOf_X3_count : GoodIn wsX3_commasOf wsX3_count := goodIn_r _ [14, 15, 16, 17, 18, 5, 19, 20, 25, 26, 27, 28, 29, 30, 31, 32, 33, 34, 35, 36] (by decide +kernel) (by decide +kernel)
set_option maxRecDepth 20000 in
theorem gX3_commasOf_X3_count : GoodIn wsX3_commasOf (wsV RX3 80 RX3 yX3_count wsX3_count) := goodIn_app (goodIn_of _ (by decide +kernel)) ggX3_commasOf_X3_count
set_option maxRecDepth 20000 in
theorem ggX3_commasOf_X3_no : GoodIn wsX3_commasOf wsX3_no := goodIn_r _ [24, 1, 25, 26, 27, 28, 29, 30, 31, 32, 33, 34, 35, 36] (by decide +kernel) (by decide +kernel)
set_option maxRecDepth 20000 in
theorem gX3_commasOf_X3_no : GoodIn wsX3_commasOf (wsV RX3 63 RX3 yX3_no wsX3_no) := goodIn_app (goodIn_of _ (by decide +kernel)) ggX3_commasOf_X3_no
set_option maxRecDepth 20000 in
theorem ggX3_tearsOf_X3_isLetter : GoodIn wsX3_tearsOf wsX3_isLetter := goodIn_r _ [6, 7, 8, 9, 5, 10, 25, 26, 27, 28, 29, 30, 31, 32, 33, 34, 35, 36] (by decide +kernel) (by decide +kernel)
set_option maxRecDepth 20000 in
theorem gX3_tearsOf_X3_isLetter : GoodIn wsX3_tearsOf (wsV RX3 51 RX3 yX3_isLetter wsX3_isLetter) := goodIn_app (goodIn_of _ (by decide +kernel)) ggX3_tearsOf_X3_isLetter
set_option maxRecDepth 20000 in
theorem ggX3_tearsOf_X3_count : GoodIn wsX3_tearsOf wsX3_count := goodIn_r _ [14, 15, 16, 17, 18, 5, 19, 20, 25, 26, 27, 28, 29, 30, 31, 32, 33, 34, 35, 36] (by decide +kernel) (by decide +kernel)
set_option maxRecDepth 20000 in
theorem gX3_tearsOf_X3_count : GoodIn wsX3_tearsOf (wsV RX3 80 RX3 yX3_count wsX3_count) := goodIn_app (goodIn_of _ (by decide +kernel)) ggX3_tearsOf_X3_count
set_option maxRecDepth 20000 in
theorem ggX3_tearsOf_X3_no : GoodIn wsX3_tearsOf wsX3_no := goodIn_r _ [24, 1, 25, 26, 27, 28, 29, 30, 31, 32, 33, 34, 35, 36] (by decide +kernel) (by decide +kernel)
set_option maxRecDepth 20000 in
theorem gX3_tearsOf_X3_no : GoodIn wsX3_tearsOf (wsV RX3 63 RX3 yX3_no wsX3_no) := goodIn_app (goodIn_of _ (by decide +kernel)) ggX3_tearsOf_X3_no
set_option maxRecDepth 20000 in
theorem ggX3_digestOf_X3_isLetter : GoodIn wsX3_digestOf wsX3_isLetter := goodIn_r _ [6, 7, 8, 9, 5, 10, 29, 30, 31, 32, 33, 34, 35, 36, 37, 38, 39, 40] (by decide +kernel) (by decide +kernel)
set_option maxRecDepth 20000 in
theorem gX3_digestOf_X3_isLetter : GoodIn wsX3_digestOf (wsV RX3 51 RX3 yX3_isLetter wsX3_isLetter) := goodIn_app (goodIn_of _ (by decide +kernel)) ggX3_digestOf_X3_isLetter
set_option maxRecDepth 20000 in
theorem ggX3_digestOf_X3_digestNow : GoodIn wsX3_digestOf wsX3_digestNow := goodIn_r _ [14, 15, 16, 17, 5, 18, 19, 20, 21, 22, 23, 24, 29, 30, 31, 32, 33, 34, 35, 36, 37, 38, 39, 40] (by decide +kernel) (by decide +kernel)
set_option maxRecDepth 20000 in
theorem gX3_digestOf_X3_digestNow : GoodIn wsX3_digestOf (wsV RX3 84 RX3 yX3_digestNow wsX3_digestNow) := goodIn_app (goodIn_of _ (by decide +kernel)) ggX3_digestOf_X3_digestNow
set_option maxRecDepth 20000 in
theorem ggX3_digestOf_X3_no : GoodIn wsX3_digestOf wsX3_no := goodIn_r _ [28, 1, 29, 30, 31, 32, 33, 34, 35, 36, 37, 38, 39, 40] (by decide +kernel) (by decide +kernel)
set_option maxRecDepth 20000 in
theorem gX3_digestOf_X3_no : GoodIn wsX3_digestOf (wsV RX3 63 RX3 yX3_no wsX3_no) := goodIn_app (goodIn_of _ (by decide +kernel)) ggX3_digestOf_X3_no
set_option maxRecDepth 20000 in
theorem ggX3_signAt_X3_isPlace : GoodIn wsX3_signAt wsX3_isPlace := goodIn_r _ [6, 7, 8, 9, 10, 5, 11, 12, 13, 14, 15, 25, 26, 27, 28, 29, 30, 31, 32, 33, 34, 35, 36] (by decide +kernel) (by decide +kernel)
set_option maxRecDepth 20000 in
theorem gX3_signAt_X3_isPlace : GoodIn wsX3_signAt (wsV RX3 73 RX3 yX3_isPlace wsX3_isPlace) := goodIn_app (goodIn_of _ (by decide +kernel)) ggX3_signAt_X3_isPlace
set_option maxRecDepth 20000 in
theorem ggX3_signAt_X3_at : GoodIn wsX3_signAt wsX3_at := goodIn_r _ [19, 20, 25, 26, 27, 28, 29, 30, 31, 32, 33, 34, 35, 36] (by decide +kernel) (by decide +kernel)
set_option maxRecDepth 20000 in
theorem gX3_signAt_X3_at : GoodIn wsX3_signAt (wsV RX3 55 RX3 yX3_at wsX3_at) := goodIn_app (goodIn_of _ (by decide +kernel)) ggX3_signAt_X3_at
set_option maxRecDepth 20000 in
theorem ggX3_signAt_X3_no : GoodIn wsX3_signAt wsX3_no := goodIn_r _ [24, 1, 25, 26, 27, 28, 29, 30, 31, 32, 33, 34, 35, 36] (by decide +kernel) (by decide +kernel)
set_option maxRecDepth 20000 in
theorem gX3_signAt_X3_no : GoodIn wsX3_signAt (wsV RX3 63 RX3 yX3_no wsX3_no) := goodIn_app (goodIn_of _ (by decide +kernel)) ggX3_signAt_X3_no
set_option maxRecDepth 20000 in
theorem ggX3_sumOf_X3_isLetter : GoodIn wsX3_sumOf wsX3_isLetter := goodIn_r _ [7, 8, 9, 10, 6, 11, 25, 26, 27, 28, 29, 30, 31, 32, 33, 34, 35, 36] (by decide +kernel) (by decide +kernel)
set_option maxRecDepth 20000 in
theorem gX3_sumOf_X3_isLetter : GoodIn wsX3_sumOf (wsV RX3 51 RX3 yX3_isLetter wsX3_isLetter) := goodIn_app (goodIn_of _ (by decide +kernel)) ggX3_sumOf_X3_isLetter
set_option maxRecDepth 20000 in
theorem ggX3_sumOf_X3_no : GoodIn wsX3_sumOf wsX3_no := goodIn_r _ [15, 1, 25, 26, 27, 28, 29, 30, 31, 32, 33, 34, 35, 36] (by decide +kernel) (by decide +kernel)
set_option maxRecDepth 20000 in
theorem gX3_sumOf_X3_no : GoodIn wsX3_sumOf (wsV RX3 63 RX3 yX3_no wsX3_no) := goodIn_app (goodIn_of _ (by decide +kernel)) ggX3_sumOf_X3_no
set_option maxRecDepth 20000 in
theorem ggX3_sumOf_X3_isFrom : GoodIn wsX3_sumOf wsX3_isFrom := goodIn_r _ [11] (by decide +kernel) (by decide +kernel)
set_option maxRecDepth 20000 in
theorem gX3_sumOf_X3_isFrom : GoodIn wsX3_sumOf (va_wsS RX3 44 yX3_isFrom wsX3_isFrom) := goodIn_app (goodIn_of _ (by decide +kernel)) ggX3_sumOf_X3_isFrom
set_option maxRecDepth 20000 in
theorem ggX3_sumOf_X3_window : GoodIn wsX3_sumOf wsX3_window := goodIn_r _ [19, 20, 21, 22, 6, 23, 24, 25, 26, 27, 28, 29, 30, 31, 32, 33, 34, 35, 36] (by decide +kernel) (by decide +kernel)
set_option maxRecDepth 20000 in
theorem gX3_sumOf_X3_window : GoodIn wsX3_sumOf (wsV RX3 100 RX3 yX3_window wsX3_window) := goodIn_app (goodIn_of _ (by decide +kernel)) ggX3_sumOf_X3_window
set_option maxRecDepth 20000 in
theorem ggX3_isAlike_X3_at : GoodIn wsX3_isAlike wsX3_at := goodIn_r _ [5, 6, 7, 8, 9, 10, 11, 12, 13, 14, 15, 16, 17, 18] (by decide +kernel) (by decide +kernel)
set_option maxRecDepth 20000 in
theorem gX3_isAlike_X3_at : GoodIn wsX3_isAlike (wsV RX3 55 RX3 yX3_at wsX3_at) := goodIn_app (goodIn_of _ (by decide +kernel)) ggX3_isAlike_X3_at
set_option maxRecDepth 20000 in
theorem ggX3_pairs_X3_window : GoodIn wsX3_pairs wsX3_window := goodIn_r _ [6, 7, 8, 9, 5, 10, 11, 16, 17, 18, 19, 20, 21, 22, 23, 24, 25, 26, 27] (by decide +kernel) (by decide +kernel)
set_option maxRecDepth 20000 in
theorem gX3_pairs_X3_window : GoodIn wsX3_pairs (wsV RX3 100 RX3 yX3_window wsX3_window) := goodIn_app (goodIn_of _ (by decide +kernel)) ggX3_pairs_X3_window
set_option maxRecDepth 20000 in
theorem ggX3_pairs_X3_isAlike : GoodIn wsX3_pairs wsX3_isAlike := goodIn_r _ [15, 7, 8, 9, 5, 10, 11, 16, 17, 18, 19, 20, 21, 22, 23, 24, 25, 26, 27] (by decide +kernel) (by decide +kernel)
set_option maxRecDepth 20000 in
theorem gX3_pairs_X3_isAlike : GoodIn wsX3_pairs (wsV RX3 103 RX3 yX3_isAlike wsX3_isAlike) := goodIn_app (goodIn_of _ (by decide +kernel)) ggX3_pairs_X3_isAlike
set_option maxRecDepth 20000 in
theorem ggX3_pairsOf_X3_isLetter : GoodIn wsX3_pairsOf wsX3_isLetter := goodIn_r _ [6, 7, 8, 9, 5, 10, 33, 34, 35, 36, 37, 38, 39, 40, 41, 42, 43, 44] (by decide +kernel) (by decide +kernel)
set_option maxRecDepth 20000 in
theorem gX3_pairsOf_X3_isLetter : GoodIn wsX3_pairsOf (wsV RX3 51 RX3 yX3_isLetter wsX3_isLetter) := goodIn_app (goodIn_of _ (by decide +kernel)) ggX3_pairsOf_X3_isLetter
set_option maxRecDepth 20000 in
theorem ggX3_pairsOf_X3_no : GoodIn wsX3_pairsOf wsX3_no := goodIn_r _ [14, 1, 33, 34, 35, 36, 37, 38, 39, 40, 41, 42, 43, 44] (by decide +kernel) (by decide +kernel)
set_option maxRecDepth 20000 in
theorem gX3_pairsOf_X3_no : GoodIn wsX3_pairsOf (wsV RX3 63 RX3 yX3_no wsX3_no) := goodIn_app (goodIn_of _ (by decide +kernel)) ggX3_pairsOf_X3_no
set_option maxRecDepth 20000 in
theorem ggX3_pairsOf_X3_isFrom : GoodIn wsX3_pairsOf wsX3_isFrom := goodIn_r _ [10] (by decide +kernel) (by decide +kernel)
set_option maxRecDepth 20000 in
theorem gX3_pairsOf_X3_isFrom : GoodIn wsX3_pairsOf (va_wsS RX3 44 yX3_isFrom wsX3_isFrom) := goodIn_app (goodIn_of _ (by decide +kernel)) ggX3_pairsOf_X3_isFrom
set_option maxRecDepth 20000 in
theorem ggX3_pairsOf_X3_pairs : GoodIn wsX3_pairsOf wsX3_pairs := goodIn_r _ [18, 19, 20, 21, 22, 5, 23, 24, 25, 26, 27, 28, 29, 30, 31, 32, 33, 34, 35, 36, 37, 38, 39, 40, 41, 42, 43, 44] (by decide +kernel) (by decide +kernel)
set_option maxRecDepth 20000 in
theorem gX3_pairsOf_X3_pairs : GoodIn wsX3_pairsOf (wsV RX3 107 RX3 yX3_pairs wsX3_pairs) := goodIn_app (goodIn_of _ (by decide +kernel)) ggX3_pairsOf_X3_pairs
set_option maxRecDepth 20000 in
theorem ggX3_sameSums_X3_pairsOf : GoodIn wsX3_sameSums wsX3_pairsOf := goodIn_r _ [5, 6, 7, 8, 9, 4, 10, 11, 12, 13, 14, 15, 16, 17, 18, 19, 20, 21, 22, 23, 24, 25, 26, 27, 28, 29, 30, 31, 32, 33, 34, 35, 36, 37, 38, 39, 40, 41, 42, 43, 44, 45, 46, 47, 48] (by decide +kernel) (by decide +kernel)
set_option maxRecDepth 20000 in
theorem gX3_sameSums_X3_pairsOf : GoodIn wsX3_sameSums (wsV RX3 111 RX3 yX3_pairsOf wsX3_pairsOf) := goodIn_app (goodIn_of _ (by decide +kernel)) ggX3_sameSums_X3_pairsOf
set_option maxRecDepth 20000 in
theorem ggX3_falseAlarms_X3_pairsOf : GoodIn wsX3_falseAlarms wsX3_pairsOf := goodIn_r _ [5, 6, 7, 8, 9, 4, 10, 11, 12, 13, 14, 15, 16, 17, 18, 19, 20, 21, 22, 23, 24, 25, 26, 27, 28, 29, 30, 31, 32, 33, 34, 35, 36, 37, 38, 39, 40, 41, 42, 43, 44, 45, 46, 47, 48] (by decide +kernel) (by decide +kernel)
set_option maxRecDepth 20000 in
theorem gX3_falseAlarms_X3_pairsOf : GoodIn wsX3_falseAlarms (wsV RX3 111 RX3 yX3_pairsOf wsX3_pairsOf) := goodIn_app (goodIn_of _ (by decide +kernel)) ggX3_falseAlarms_X3_pairsOf
set_option maxRecDepth 20000 in
theorem ggX3_hasFrom_X3_at : GoodIn wsX3_hasFrom wsX3_at := goodIn_r _ [6, 7, 8, 9, 10, 11, 12, 13, 14, 15, 16, 17, 18, 19] (by decide +kernel) (by decide +kernel)
set_option maxRecDepth 20000 in
theorem gX3_hasFrom_X3_at : GoodIn wsX3_hasFrom (wsV RX3 55 RX3 yX3_at wsX3_at) := goodIn_app (goodIn_of _ (by decide +kernel)) ggX3_hasFrom_X3_at
set_option maxRecDepth 20000 in
theorem ggX3_first_X3_hasFrom : GoodIn wsX3_first wsX3_hasFrom := goodIn_r _ [6, 1, 7, 8, 9, 5, 10, 11, 12, 13, 14, 15, 16, 17, 18, 19, 20, 21, 22, 23] (by decide +kernel) (by decide +kernel)
set_option maxRecDepth 20000 in
theorem gX3_first_X3_hasFrom : GoodIn wsX3_first (wsV RX3 114 RX3 yX3_hasFrom wsX3_hasFrom) := goodIn_app (goodIn_of _ (by decide +kernel)) ggX3_first_X3_hasFrom
set_option maxRecDepth 20000 in
theorem ggX3_firstOf_X3_isLetter : GoodIn wsX3_firstOf wsX3_isLetter := goodIn_r _ [7, 8, 9, 10, 6, 11, 29, 30, 31, 32, 33, 34, 35, 36, 37, 38, 39, 40] (by decide +kernel) (by decide +kernel)
set_option maxRecDepth 20000 in
theorem gX3_firstOf_X3_isLetter : GoodIn wsX3_firstOf (wsV RX3 51 RX3 yX3_isLetter wsX3_isLetter) := goodIn_app (goodIn_of _ (by decide +kernel)) ggX3_firstOf_X3_isLetter
set_option maxRecDepth 20000 in
theorem ggX3_firstOf_X3_no : GoodIn wsX3_firstOf wsX3_no := goodIn_r _ [15, 1, 29, 30, 31, 32, 33, 34, 35, 36, 37, 38, 39, 40] (by decide +kernel) (by decide +kernel)
set_option maxRecDepth 20000 in
theorem gX3_firstOf_X3_no : GoodIn wsX3_firstOf (wsV RX3 63 RX3 yX3_no wsX3_no) := goodIn_app (goodIn_of _ (by decide +kernel)) ggX3_firstOf_X3_no
set_option maxRecDepth 20000 in
theorem ggX3_firstOf_X3_first : GoodIn wsX3_firstOf wsX3_first := goodIn_r _ [19, 2, 20, 21, 22, 6, 23, 24, 25, 26, 27, 28, 29, 30, 31, 32, 33, 34, 35, 36, 37, 38, 39, 40] (by decide +kernel) (by decide +kernel)
set_option maxRecDepth 20000 in
theorem gX3_firstOf_X3_first : GoodIn wsX3_firstOf (wsV RX3 117 RX3 yX3_first wsX3_first) := goodIn_app (goodIn_of _ (by decide +kernel)) ggX3_firstOf_X3_first
set_option maxRecDepth 20000 in
theorem ggX3_doublesNow_X3_digestNow : GoodIn wsX3_doublesNow wsX3_digestNow := goodIn_r _ [7, 8, 9, 10, 6, 11, 2, 12, 13, 14, 15, 16, 21, 22, 23, 24, 25, 26, 27, 28, 29, 30, 31, 32] (by decide +kernel) (by decide +kernel)
set_option maxRecDepth 20000 in
theorem gX3_doublesNow_X3_digestNow : GoodIn wsX3_doublesNow (wsV RX3 84 RX3 yX3_digestNow wsX3_digestNow) := goodIn_app (goodIn_of _ (by decide +kernel)) ggX3_doublesNow_X3_digestNow
set_option maxRecDepth 20000 in
theorem ggX3_doublesNow_X3_hasFrom : GoodIn wsX3_doublesNow wsX3_hasFrom := goodIn_r _ [20, 2, 12, 13, 14, 6, 15, 16, 21, 22, 23, 24, 25, 26, 27, 28, 29, 30, 31, 32] (by decide +kernel) (by decide +kernel)
set_option maxRecDepth 20000 in
theorem gX3_doublesNow_X3_hasFrom : GoodIn wsX3_doublesNow (wsV RX3 114 RX3 yX3_hasFrom wsX3_hasFrom) := goodIn_app (goodIn_of _ (by decide +kernel)) ggX3_doublesNow_X3_hasFrom
set_option maxRecDepth 20000 in
theorem ggX3_doubles_X3_doublesNow : GoodIn wsX3_doubles wsX3_doublesNow := goodIn_r _ [5, 6, 7, 8, 9, 10, 4, 11, 12, 13, 14, 15, 16, 17, 18, 19, 20, 21, 22, 23, 24, 30, 31, 32, 33, 34, 35, 36, 37, 38, 39, 40, 41] (by decide +kernel) (by decide +kernel)
set_option maxRecDepth 20000 in
theorem gX3_doubles_X3_doublesNow : GoodIn wsX3_doubles (wsV RX3 120 RX3 yX3_doublesNow wsX3_doublesNow) := goodIn_app (goodIn_of _ (by decide +kernel)) ggX3_doubles_X3_doublesNow
set_option maxRecDepth 20000 in
theorem ggX3_doubles_X3_ok : GoodIn wsX3_doubles wsX3_ok := goodIn_r _ [28, 29, 30, 31, 32, 33, 34, 35, 36, 37, 38, 39, 40, 41] (by decide +kernel) (by decide +kernel)
set_option maxRecDepth 20000 in
theorem gX3_doubles_X3_ok : GoodIn wsX3_doubles (wsV RX3 97 RX3 yX3_ok wsX3_ok) := goodIn_app (goodIn_of _ (by decide +kernel)) ggX3_doubles_X3_ok
set_option maxRecDepth 20000 in
theorem ggX3_envelopes_X3_ok : GoodIn wsX3_envelopes wsX3_ok := goodIn_r _ [6, 7, 8, 9, 10, 11, 12, 13, 14, 15, 16, 17, 18, 19] (by decide +kernel) (by decide +kernel)
set_option maxRecDepth 20000 in
theorem gX3_envelopes_X3_ok : GoodIn wsX3_envelopes (wsV RX3 97 RX3 yX3_ok wsX3_ok) := goodIn_app (goodIn_of _ (by decide +kernel)) ggX3_envelopes_X3_ok
set_option maxRecDepth 20000 in
theorem ggX3_ofEnvelope_X3_isEnvelope : GoodIn wsX3_ofEnvelope wsX3_isEnvelope := goodIn_r _ [6, 7, 8, 9, 5, 10, 15, 16, 17, 18, 19, 20, 21, 22, 23, 24, 25, 26] (by decide +kernel) (by decide +kernel)
set_option maxRecDepth 20000 in
theorem gX3_ofEnvelope_X3_isEnvelope : GoodIn wsX3_ofEnvelope (wsV RX3 124 RX3 yX3_isEnvelope wsX3_isEnvelope) := goodIn_app (goodIn_of _ (by decide +kernel)) ggX3_ofEnvelope_X3_isEnvelope
set_option maxRecDepth 20000 in
theorem ggX3_ofEnvelope_X3_no : GoodIn wsX3_ofEnvelope wsX3_no := goodIn_r _ [14, 1, 15, 16, 17, 18, 19, 20, 21, 22, 23, 24, 25, 26] (by decide +kernel) (by decide +kernel)
set_option maxRecDepth 20000 in
theorem gX3_ofEnvelope_X3_no : GoodIn wsX3_ofEnvelope (wsV RX3 63 RX3 yX3_no wsX3_no) := goodIn_app (goodIn_of _ (by decide +kernel)) ggX3_ofEnvelope_X3_no
set_option maxRecDepth 20000 in
theorem ggX3_letterIn_X3_ofEnvelope : GoodIn wsX3_letterIn wsX3_ofEnvelope := goodIn_r _ [6, 7, 8, 9, 10, 5, 11, 12, 13, 14, 15, 16, 17, 18, 19, 20, 21, 22, 23, 24, 25, 26, 27, 28, 29, 30, 31] (by decide +kernel) (by decide +kernel)
set_option maxRecDepth 20000 in
theorem gX3_letterIn_X3_ofEnvelope : GoodIn wsX3_letterIn (wsV RX3 127 RX3 yX3_ofEnvelope wsX3_ofEnvelope) := goodIn_app (goodIn_of _ (by decide +kernel)) ggX3_letterIn_X3_ofEnvelope
set_option maxRecDepth 20000 in
theorem ggX3_digestIn_X3_ofEnvelope : GoodIn wsX3_digestIn wsX3_ofEnvelope := goodIn_r _ [6, 7, 8, 9, 10, 5, 11, 12, 13, 14, 15, 16, 17, 18, 19, 20, 21, 22, 23, 24, 25, 26, 27, 28, 29, 30, 31] (by decide +kernel) (by decide +kernel)
set_option maxRecDepth 20000 in
theorem gX3_digestIn_X3_ofEnvelope : GoodIn wsX3_digestIn (wsV RX3 127 RX3 yX3_ofEnvelope wsX3_ofEnvelope) := goodIn_app (goodIn_of _ (by decide +kernel)) ggX3_digestIn_X3_ofEnvelope
set_option maxRecDepth 20000 in
theorem ggX3_sealOf_X3_ofEnvelope : GoodIn wsX3_sealOf wsX3_ofEnvelope := goodIn_r _ [6, 7, 8, 9, 10, 5, 11, 12, 13, 14, 15, 16, 17, 18, 19, 20, 21, 22, 23, 24, 25, 26, 27, 28, 29, 30, 31] (by decide +kernel) (by decide +kernel)
set_option maxRecDepth 20000 in
theorem gX3_sealOf_X3_ofEnvelope : GoodIn wsX3_sealOf (wsV RX3 127 RX3 yX3_ofEnvelope wsX3_ofEnvelope) := goodIn_app (goodIn_of _ (by decide +kernel)) ggX3_sealOf_X3_ofEnvelope
set_option maxRecDepth 20000 in
theorem ggX3_isAsWritten_X3_digestNow : GoodIn wsX3_isAsWritten wsX3_digestNow := goodIn_r _ [7, 8, 9, 10, 6, 11, 12, 13, 14, 15, 16, 17, 18, 19, 20, 21, 22, 23, 24, 25, 26, 27, 28, 29] (by decide +kernel) (by decide +kernel)
set_option maxRecDepth 20000 in
theorem gX3_isAsWritten_X3_digestNow : GoodIn wsX3_isAsWritten (wsV RX3 84 RX3 yX3_digestNow wsX3_digestNow) := goodIn_app (goodIn_of _ (by decide +kernel)) ggX3_isAsWritten_X3_digestNow
set_option maxRecDepth 20000 in
theorem ggX3_isWhole_X3_isEnvelope : GoodIn wsX3_isWhole wsX3_isEnvelope := goodIn_r _ [6, 7, 8, 9, 5, 10, 31, 32, 33, 34, 35, 36, 37, 38, 39, 40, 41, 42] (by decide +kernel) (by decide +kernel)
set_option maxRecDepth 20000 in
theorem gX3_isWhole_X3_isEnvelope : GoodIn wsX3_isWhole (wsV RX3 124 RX3 yX3_isEnvelope wsX3_isEnvelope) := goodIn_app (goodIn_of _ (by decide +kernel)) ggX3_isWhole_X3_isEnvelope
set_option maxRecDepth 20000 in
theorem ggX3_isWhole_X3_isAsWritten : GoodIn wsX3_isWhole wsX3_isAsWritten := goodIn_r _ [14, 15, 16, 17, 18, 19, 5, 20, 21, 22, 23, 24, 25, 26, 27, 28, 29, 30, 31, 32, 33, 34, 35, 36, 37, 38, 39, 40, 41, 42] (by decide +kernel) (by decide +kernel)
set_option maxRecDepth 20000 in
theorem gX3_isWhole_X3_isAsWritten : GoodIn wsX3_isWhole (wsV RX3 131 RX3 yX3_isAsWritten wsX3_isAsWritten) := goodIn_app (goodIn_of _ (by decide +kernel)) ggX3_isWhole_X3_isAsWritten
set_option maxRecDepth 20000 in
theorem ggX3_broken_X3_isAsWritten : GoodIn wsX3_broken wsX3_isAsWritten := goodIn_r _ [6, 7, 8, 9, 10, 11, 5, 12, 13, 14, 15, 16, 17, 18, 19, 20, 21, 22, 23, 24, 25, 26, 27, 28, 29, 30, 31, 32, 33, 34] (by decide +kernel) (by decide +kernel)
set_option maxRecDepth 20000 in
theorem gX3_broken_X3_isAsWritten : GoodIn wsX3_broken (wsV RX3 131 RX3 yX3_isAsWritten wsX3_isAsWritten) := goodIn_app (goodIn_of _ (by decide +kernel)) ggX3_broken_X3_isAsWritten
set_option maxRecDepth 20000 in
theorem ggX3_firstBroken_X3_broken : GoodIn wsX3_firstBroken wsX3_broken := goodIn_r _ [5, 6, 7, 8, 9, 4, 10, 11, 12, 13, 14, 15, 16, 17, 18, 19, 20, 21, 22, 23, 24, 25, 26, 32, 33, 34, 35, 36, 37, 38, 39, 40, 41, 42, 43] (by decide +kernel) (by decide +kernel)
set_option maxRecDepth 20000 in
theorem gX3_firstBroken_X3_broken : GoodIn wsX3_firstBroken (wsV RX3 134 RX3 yX3_broken wsX3_broken) := goodIn_app (goodIn_of _ (by decide +kernel)) ggX3_firstBroken_X3_broken
set_option maxRecDepth 20000 in
theorem ggX3_firstBroken_X3_ok : GoodIn wsX3_firstBroken wsX3_ok := goodIn_r _ [30, 31, 32, 33, 34, 35, 36, 37, 38, 39, 40, 41, 42, 43] (by decide +kernel) (by decide +kernel)
set_option maxRecDepth 20000 in
theorem gX3_firstBroken_X3_ok : GoodIn wsX3_firstBroken (wsV RX3 97 RX3 yX3_ok wsX3_ok) := goodIn_app (goodIn_of _ (by decide +kernel)) ggX3_firstBroken_X3_ok
set_option maxRecDepth 20000 in
theorem ggX3_isTorn_X3_blocksOf : GoodIn wsX3_isTorn wsX3_blocksOf := goodIn_r _ [8] (by decide +kernel) (by decide +kernel)
set_option maxRecDepth 20000 in
theorem gX3_isTorn_X3_blocksOf : GoodIn wsX3_isTorn (va_wsS RX3 137 yX3_blocksOf wsX3_blocksOf) := goodIn_app (goodIn_of _ (by decide +kernel)) ggX3_isTorn_X3_blocksOf
set_option maxRecDepth 20000 in
theorem ggX3_isTorn_X3_block : GoodIn wsX3_isTorn wsX3_block := goodIn_r _ [12, 2, 13, 14, 15, 7, 16, 17, 18, 19, 20, 21, 22, 23, 24, 25, 26, 27, 28, 29] (by decide +kernel) (by decide +kernel)
set_option maxRecDepth 20000 in
theorem gX3_isTorn_X3_block : GoodIn wsX3_isTorn (wsV RX3 87 RX3 yX3_block wsX3_block) := goodIn_app (goodIn_of _ (by decide +kernel)) ggX3_isTorn_X3_block
set_option maxRecDepth 20000 in
theorem ggX3_torn_X3_isTorn : GoodIn wsX3_torn wsX3_isTorn := goodIn_r _ [5, 6, 7, 8, 9, 10, 11, 4, 12, 13, 14, 15, 16, 17, 18, 19, 20, 21, 22, 23, 24, 25, 26, 27, 28, 29, 30, 31, 32, 33] (by decide +kernel) (by decide +kernel)
set_option maxRecDepth 20000 in
theorem gX3_torn_X3_isTorn : GoodIn wsX3_torn (wsV RX3 140 RX3 yX3_isTorn wsX3_isTorn) := goodIn_app (goodIn_of _ (by decide +kernel)) ggX3_torn_X3_isTorn
set_option maxRecDepth 20000 in
theorem ggX3_tornBlocks_X3_isEnvelope : GoodIn wsX3_tornBlocks wsX3_isEnvelope := goodIn_r _ [6, 7, 8, 9, 5, 10, 39, 40, 41, 42, 43, 44, 45, 46, 47, 48, 49, 50] (by decide +kernel) (by decide +kernel)
set_option maxRecDepth 20000 in
theorem gX3_tornBlocks_X3_isEnvelope : GoodIn wsX3_tornBlocks (wsV RX3 124 RX3 yX3_isEnvelope wsX3_isEnvelope) := goodIn_app (goodIn_of _ (by decide +kernel)) ggX3_tornBlocks_X3_isEnvelope
set_option maxRecDepth 20000 in
theorem ggX3_tornBlocks_X3_torn : GoodIn wsX3_tornBlocks wsX3_torn := goodIn_r _ [14, 15, 16, 17, 5, 18, 19, 20, 21, 22, 23, 24, 25, 26, 27, 28, 29, 30, 31, 32, 33, 34, 39, 40, 41, 42, 43, 44, 45, 46, 47, 48, 49, 50] (by decide +kernel) (by decide +kernel)
set_option maxRecDepth 20000 in
theorem gX3_tornBlocks_X3_torn : GoodIn wsX3_tornBlocks (wsV RX3 143 RX3 yX3_torn wsX3_torn) := goodIn_app (goodIn_of _ (by decide +kernel)) ggX3_tornBlocks_X3_torn
set_option maxRecDepth 20000 in
theorem ggX3_tornBlocks_X3_no : GoodIn wsX3_tornBlocks wsX3_no := goodIn_r _ [38, 1, 39, 40, 41, 42, 43, 44, 45, 46, 47, 48, 49, 50] (by decide +kernel) (by decide +kernel)
set_option maxRecDepth 20000 in
theorem gX3_tornBlocks_X3_no : GoodIn wsX3_tornBlocks (wsV RX3 63 RX3 yX3_no wsX3_no) := goodIn_app (goodIn_of _ (by decide +kernel)) ggX3_tornBlocks_X3_no
set_option maxRecDepth 20000 in
theorem ggX3_firstTorn_X3_isEnvelope : GoodIn wsX3_firstTorn wsX3_isEnvelope := goodIn_r _ [6, 7, 8, 9, 5, 10, 39, 40, 41, 42, 43, 44, 45, 46, 47, 48, 49, 50] (by decide +kernel) (by decide +kernel)
set_option maxRecDepth 20000 in
theorem gX3_firstTorn_X3_isEnvelope : GoodIn wsX3_firstTorn (wsV RX3 124 RX3 yX3_isEnvelope wsX3_isEnvelope) := goodIn_app (goodIn_of _ (by decide +kernel)) ggX3_firstTorn_X3_isEnvelope
set_option maxRecDepth 20000 in
theorem ggX3_firstTorn_X3_torn : GoodIn wsX3_firstTorn wsX3_torn := goodIn_r _ [14, 15, 16, 17, 5, 18, 19, 20, 21, 22, 23, 24, 25, 26, 27, 28, 29, 30, 31, 32, 33, 34, 39, 40, 41, 42, 43, 44, 45, 46, 47, 48, 49, 50] (by decide +kernel) (by decide +kernel)
set_option maxRecDepth 20000 in
theorem gX3_firstTorn_X3_torn : GoodIn wsX3_firstTorn (wsV RX3 143 RX3 yX3_torn wsX3_torn) := goodIn_app (goodIn_of _ (by decide +kernel)) ggX3_firstTorn_X3_torn
set_option maxRecDepth 20000 in
theorem ggX3_firstTorn_X3_no : GoodIn wsX3_firstTorn wsX3_no := goodIn_r _ [38, 1, 39, 40, 41, 42, 43, 44, 45, 46, 47, 48, 49, 50] (by decide +kernel) (by decide +kernel)
set_option maxRecDepth 20000 in
theorem gX3_firstTorn_X3_no : GoodIn wsX3_firstTorn (wsV RX3 63 RX3 yX3_no wsX3_no) := goodIn_app (goodIn_of _ (by decide +kernel)) ggX3_firstTorn_X3_no
set_option maxRecDepth 20000 in
theorem ggX3_changedAt_X3_sum : GoodIn wsX3_changedAt wsX3_sum := goodIn_r _ [10, 5, 11, 12, 13, 9, 14, 15, 41, 42, 43, 44, 45, 46, 47, 48, 49, 50, 51, 52] (by decide +kernel) (by decide +kernel)
set_option maxRecDepth 20000 in
theorem gX3_changedAt_X3_sum : GoodIn wsX3_changedAt (wsV RX3 90 RX3 yX3_sum wsX3_sum) := goodIn_app (goodIn_of _ (by decide +kernel)) ggX3_changedAt_X3_sum
set_option maxRecDepth 20000 in
theorem ggX3_changedAt_X3_isAsWritten : GoodIn wsX3_changedAt wsX3_isAsWritten := goodIn_r _ [19, 1, 20, 21, 22, 23, 9, 24, 25, 26, 27, 28, 5, 11, 12, 13, 14, 15, 41, 42, 43, 44, 45, 46, 47, 48, 49, 50, 51, 52] (by decide +kernel) (by decide +kernel)
set_option maxRecDepth 20000 in
theorem gX3_changedAt_X3_isAsWritten : GoodIn wsX3_changedAt (wsV RX3 131 RX3 yX3_isAsWritten wsX3_isAsWritten) := goodIn_app (goodIn_of _ (by decide +kernel)) ggX3_changedAt_X3_isAsWritten
set_option maxRecDepth 20000 in
theorem ggX3_changedAt_X3_isPlace : GoodIn wsX3_changedAt wsX3_isPlace := goodIn_r _ [32, 5, 33, 34, 35, 9, 36, 37, 38, 39, 40, 41, 42, 43, 44, 45, 46, 47, 48, 49, 50, 51, 52] (by decide +kernel) (by decide +kernel)
set_option maxRecDepth 20000 in
theorem gX3_changedAt_X3_isPlace : GoodIn wsX3_changedAt (wsV RX3 73 RX3 yX3_isPlace wsX3_isPlace) := goodIn_app (goodIn_of _ (by decide +kernel)) ggX3_changedAt_X3_isPlace
set_option maxRecDepth 20000 in
theorem ggX3_changedAt_X3_at : GoodIn wsX3_changedAt wsX3_at := goodIn_r _ [14, 15, 41, 42, 43, 44, 45, 46, 47, 48, 49, 50, 51, 52] (by decide +kernel) (by decide +kernel)
set_option maxRecDepth 20000 in
theorem gX3_changedAt_X3_at : GoodIn wsX3_changedAt (wsV RX3 55 RX3 yX3_at wsX3_at) := goodIn_app (goodIn_of _ (by decide +kernel)) ggX3_changedAt_X3_at
set_option maxRecDepth 20000 in
theorem ggX3_changedAt_X3_isFrom : GoodIn wsX3_changedAt wsX3_isFrom := goodIn_r _ [40] (by decide +kernel) (by decide +kernel)
set_option maxRecDepth 20000 in
theorem gX3_changedAt_X3_isFrom : GoodIn wsX3_changedAt (va_wsS RX3 44 yX3_isFrom wsX3_isFrom) := goodIn_app (goodIn_of _ (by decide +kernel)) ggX3_changedAt_X3_isFrom
set_option maxRecDepth 20000 in
theorem ggX3_changedPlace_X3_isEnvelope : GoodIn wsX3_changedPlace wsX3_isEnvelope := goodIn_r _ [6, 7, 8, 9, 5, 10, 55, 56, 57, 58, 59, 60, 61, 62, 63, 64, 65, 66] (by decide +kernel) (by decide +kernel)
set_option maxRecDepth 20000 in
theorem gX3_changedPlace_X3_isEnvelope : GoodIn wsX3_changedPlace (wsV RX3 124 RX3 yX3_isEnvelope wsX3_isEnvelope) := goodIn_app (goodIn_of _ (by decide +kernel)) ggX3_changedPlace_X3_isEnvelope
set_option maxRecDepth 20000 in
theorem ggX3_changedPlace_X3_changedAt : GoodIn wsX3_changedPlace wsX3_changedAt := goodIn_r _ [14, 15, 16, 17, 18, 19, 20, 21, 22, 5, 23, 24, 25, 26, 27, 28, 29, 30, 31, 32, 33, 34, 35, 36, 37, 38, 39, 40, 41, 42, 43, 44, 45, 46, 47, 48, 49, 50, 8, 9, 10, 55, 56, 57, 58, 59, 60, 61, 62, 63, 64, 65, 66] (by decide +kernel) (by decide +kernel)
set_option maxRecDepth 20000 in
theorem gX3_changedPlace_X3_changedAt : GoodIn wsX3_changedPlace (wsV RX3 146 RX3 yX3_changedAt wsX3_changedAt) := goodIn_app (goodIn_of _ (by decide +kernel)) ggX3_changedPlace_X3_changedAt
set_option maxRecDepth 20000 in
theorem ggX3_changedPlace_X3_no : GoodIn wsX3_changedPlace wsX3_no := goodIn_r _ [54, 1, 55, 56, 57, 58, 59, 60, 61, 62, 63, 64, 65, 66] (by decide +kernel) (by decide +kernel)
set_option maxRecDepth 20000 in
theorem gX3_changedPlace_X3_no : GoodIn wsX3_changedPlace (wsV RX3 63 RX3 yX3_no wsX3_no) := goodIn_app (goodIn_of _ (by decide +kernel)) ggX3_changedPlace_X3_no
set_option maxRecDepth 20000 in
theorem ggX3_changedSign_X3_isEnvelope : GoodIn wsX3_changedSign wsX3_isEnvelope := goodIn_r _ [8, 9, 10, 11, 7, 12, 55, 56, 57, 58, 59, 60, 61, 62, 63, 64, 65, 66] (by decide +kernel) (by decide +kernel)
set_option maxRecDepth 20000 in
theorem gX3_changedSign_X3_isEnvelope : GoodIn wsX3_changedSign (wsV RX3 124 RX3 yX3_isEnvelope wsX3_isEnvelope) := goodIn_app (goodIn_of _ (by decide +kernel)) ggX3_changedSign_X3_isEnvelope
set_option maxRecDepth 20000 in
theorem ggX3_changedSign_X3_no : GoodIn wsX3_changedSign wsX3_no := goodIn_r _ [16, 1, 55, 56, 57, 58, 59, 60, 61, 62, 63, 64, 65, 66] (by decide +kernel) (by decide +kernel)
set_option maxRecDepth 20000 in
theorem gX3_changedSign_X3_no : GoodIn wsX3_changedSign (wsV RX3 63 RX3 yX3_no wsX3_no) := goodIn_app (goodIn_of _ (by decide +kernel)) ggX3_changedSign_X3_no
set_option maxRecDepth 20000 in
theorem ggX3_changedSign_X3_changedAt : GoodIn wsX3_changedSign wsX3_changedAt := goodIn_r _ [20, 2, 3, 21, 22, 23, 24, 25, 26, 7, 27, 28, 29, 30, 31, 32, 33, 34, 35, 36, 37, 38, 39, 40, 41, 42, 43, 44, 45, 46, 47, 48, 49, 50, 51, 52, 53, 54, 10, 11, 12, 55, 56, 57, 58, 59, 60, 61, 62, 63, 64, 65, 66] (by decide +kernel) (by decide +kernel)
set_option maxRecDepth 20000 in
theorem gX3_changedSign_X3_changedAt : GoodIn wsX3_changedSign (wsV RX3 146 RX3 yX3_changedAt wsX3_changedAt) := goodIn_app (goodIn_of _ (by decide +kernel)) ggX3_changedSign_X3_changedAt
set_option maxRecDepth 20000 in
theorem ggX3_changedSign_X3_at : GoodIn wsX3_changedSign wsX3_at := goodIn_r _ [31, 32, 55, 56, 57, 58, 59, 60, 61, 62, 63, 64, 65, 66] (by decide +kernel) (by decide +kernel)
set_option maxRecDepth 20000 in
theorem gX3_changedSign_X3_at : GoodIn wsX3_changedSign (wsV RX3 55 RX3 yX3_at wsX3_at) := goodIn_app (goodIn_of _ (by decide +kernel)) ggX3_changedSign_X3_at
set_option maxRecDepth 20000 in
theorem ggX3_changedSign_X3_sum : GoodIn wsX3_changedSign wsX3_sum := goodIn_r _ [27, 23, 28, 29, 30, 7, 31, 32, 55, 56, 57, 58, 59, 60, 61, 62, 63, 64, 65, 66] (by decide +kernel) (by decide +kernel)
set_option maxRecDepth 20000 in
theorem gX3_changedSign_X3_sum : GoodIn wsX3_changedSign (wsV RX3 90 RX3 yX3_sum wsX3_sum) := goodIn_app (goodIn_of _ (by decide +kernel)) ggX3_changedSign_X3_sum
set_option maxRecDepth 20000 in
theorem ggX3_wouldSeal_X3_isLetter : GoodIn wsX3_wouldSeal wsX3_isLetter := goodIn_r _ [7, 8, 9, 10, 6, 11, 36, 37, 38, 39, 40, 41, 42, 43, 44, 45, 46, 47] (by decide +kernel) (by decide +kernel)
set_option maxRecDepth 20000 in
theorem gX3_wouldSeal_X3_isLetter : GoodIn wsX3_wouldSeal (wsV RX3 51 RX3 yX3_isLetter wsX3_isLetter) := goodIn_app (goodIn_of _ (by decide +kernel)) ggX3_wouldSeal_X3_isLetter
set_option maxRecDepth 20000 in
theorem ggX3_wouldSeal_X3_no : GoodIn wsX3_wouldSeal wsX3_no := goodIn_r _ [15, 1, 36, 37, 38, 39, 40, 41, 42, 43, 44, 45, 46, 47] (by decide +kernel) (by decide +kernel)
set_option maxRecDepth 20000 in
theorem gX3_wouldSeal_X3_no : GoodIn wsX3_wouldSeal (wsV RX3 63 RX3 yX3_no wsX3_no) := goodIn_app (goodIn_of _ (by decide +kernel)) ggX3_wouldSeal_X3_no
set_option maxRecDepth 20000 in
theorem ggX3_wouldSeal_X3_digestNow : GoodIn wsX3_wouldSeal wsX3_digestNow := goodIn_r _ [19, 20, 21, 22, 6, 23, 2, 24, 25, 26, 27, 28, 36, 37, 38, 39, 40, 41, 42, 43, 44, 45, 46, 47] (by decide +kernel) (by decide +kernel)
set_option maxRecDepth 20000 in
theorem gX3_wouldSeal_X3_digestNow : GoodIn wsX3_wouldSeal (wsV RX3 84 RX3 yX3_digestNow wsX3_digestNow) := goodIn_app (goodIn_of _ (by decide +kernel)) ggX3_wouldSeal_X3_digestNow
set_option maxRecDepth 20000 in
theorem ggX3_wouldSeal_X3_sealWith : GoodIn wsX3_wouldSeal wsX3_sealWith := goodIn_r _ [32, 33, 34, 35, 36, 37, 38, 39, 40, 41, 42, 43, 44, 45, 46, 47] (by decide +kernel) (by decide +kernel)
set_option maxRecDepth 20000 in
theorem gX3_wouldSeal_X3_sealWith : GoodIn wsX3_wouldSeal (wsV RX3 94 RX3 yX3_sealWith wsX3_sealWith) := goodIn_app (goodIn_of _ (by decide +kernel)) ggX3_wouldSeal_X3_sealWith
set_option maxRecDepth 20000 in
theorem ggX3_unnoticedIn_X3_at : GoodIn wsX3_unnoticedIn wsX3_at := goodIn_r _ [6, 7, 8, 9, 10, 11, 12, 13, 14, 15, 16, 17, 18, 19] (by decide +kernel) (by decide +kernel)
set_option maxRecDepth 20000 in
theorem gX3_unnoticedIn_X3_at : GoodIn wsX3_unnoticedIn (wsV RX3 55 RX3 yX3_at wsX3_at) := goodIn_app (goodIn_of _ (by decide +kernel)) ggX3_unnoticedIn_X3_at
set_option maxRecDepth 20000 in
theorem ggX3_unnoticed_X3_isLetter : GoodIn wsX3_unnoticed wsX3_isLetter := goodIn_r _ [6, 7, 8, 9, 5, 10, 25, 26, 27, 28, 29, 30, 31, 32, 33, 34, 35, 36] (by decide +kernel) (by decide +kernel)
set_option maxRecDepth 20000 in
theorem gX3_unnoticed_X3_isLetter : GoodIn wsX3_unnoticed (wsV RX3 51 RX3 yX3_isLetter wsX3_isLetter) := goodIn_app (goodIn_of _ (by decide +kernel)) ggX3_unnoticed_X3_isLetter
set_option maxRecDepth 20000 in
theorem ggX3_unnoticed_X3_unnoticedIn : GoodIn wsX3_unnoticed wsX3_unnoticedIn := goodIn_r _ [14, 15, 16, 17, 18, 5, 19, 20, 25, 26, 27, 28, 29, 30, 31, 32, 33, 34, 35, 36] (by decide +kernel) (by decide +kernel)
set_option maxRecDepth 20000 in
theorem gX3_unnoticed_X3_unnoticedIn : GoodIn wsX3_unnoticed (wsV RX3 149 RX3 yX3_unnoticedIn wsX3_unnoticedIn) := goodIn_app (goodIn_of _ (by decide +kernel)) ggX3_unnoticed_X3_unnoticedIn
set_option maxRecDepth 20000 in
theorem ggX3_unnoticed_X3_no : GoodIn wsX3_unnoticed wsX3_no := goodIn_r _ [24, 1, 25, 26, 27, 28, 29, 30, 31, 32, 33, 34, 35, 36] (by decide +kernel) (by decide +kernel)
set_option maxRecDepth 20000 in
theorem gX3_unnoticed_X3_no : GoodIn wsX3_unnoticed (wsV RX3 63 RX3 yX3_no wsX3_no) := goodIn_app (goodIn_of _ (by decide +kernel)) ggX3_unnoticed_X3_no
set_option maxRecDepth 20000 in
theorem ggX3_worst_X3_at : GoodIn wsX3_worst wsX3_at := goodIn_r _ [10, 11, 20, 21, 22, 23, 24, 25, 26, 27, 28, 29, 30, 31] (by decide +kernel) (by decide +kernel)
set_option maxRecDepth 20000 in
theorem gX3_worst_X3_at : GoodIn wsX3_worst (wsV RX3 55 RX3 yX3_at wsX3_at) := goodIn_app (goodIn_of _ (by decide +kernel)) ggX3_worst_X3_at
set_option maxRecDepth 20000 in
theorem ggX3_worst_X3_digestWith : GoodIn wsX3_worst wsX3_digestWith := goodIn_r _ [15, 1, 6, 7, 8, 9, 10, 11, 20, 21, 22, 23, 24, 25, 26, 27, 28, 29, 30, 31] (by decide +kernel) (by decide +kernel)
set_option maxRecDepth 20000 in
theorem gX3_worst_X3_digestWith : GoodIn wsX3_worst (wsV RX3 59 RX3 yX3_digestWith wsX3_digestWith) := goodIn_app (goodIn_of _ (by decide +kernel)) ggX3_worst_X3_digestWith
set_option maxRecDepth 20000 in
theorem ggX3_worst_X3_digestNow : GoodIn wsX3_worst wsX3_digestNow := goodIn_r _ [19, 12, 13, 14, 9, 15, 1, 6, 7, 8, 10, 11, 20, 21, 22, 23, 24, 25, 26, 27, 28, 29, 30, 31] (by decide +kernel) (by decide +kernel)
set_option maxRecDepth 20000 in
theorem gX3_worst_X3_digestNow : GoodIn wsX3_worst (wsV RX3 84 RX3 yX3_digestNow wsX3_digestNow) := goodIn_app (goodIn_of _ (by decide +kernel)) ggX3_worst_X3_digestNow
set_option maxRecDepth 20000 in
theorem ggX3_worstTear_X3_isLetter : GoodIn wsX3_worstTear wsX3_isLetter := goodIn_r _ [6, 7, 8, 9, 5, 10, 37, 38, 39, 40, 41, 42, 43, 44, 45, 46, 47, 48] (by decide +kernel) (by decide +kernel)
set_option maxRecDepth 20000 in
theorem gX3_worstTear_X3_isLetter : GoodIn wsX3_worstTear (wsV RX3 51 RX3 yX3_isLetter wsX3_isLetter) := goodIn_app (goodIn_of _ (by decide +kernel)) ggX3_worstTear_X3_isLetter
set_option maxRecDepth 20000 in
theorem ggX3_worstTear_X3_worst : GoodIn wsX3_worstTear wsX3_worst := goodIn_r _ [14, 15, 16, 17, 18, 19, 20, 21, 22, 5, 23, 24, 25, 26, 27, 28, 29, 30, 31, 32, 37, 38, 39, 40, 41, 42, 43, 44, 45, 46, 47, 48] (by decide +kernel) (by decide +kernel)
set_option maxRecDepth 20000 in
theorem gX3_worstTear_X3_worst : GoodIn wsX3_worstTear (wsV RX3 157 RX3 yX3_worst wsX3_worst) := goodIn_app (goodIn_of _ (by decide +kernel)) ggX3_worstTear_X3_worst
set_option maxRecDepth 20000 in
theorem ggX3_worstTear_X3_no : GoodIn wsX3_worstTear wsX3_no := goodIn_r _ [36, 1, 37, 38, 39, 40, 41, 42, 43, 44, 45, 46, 47, 48] (by decide +kernel) (by decide +kernel)
set_option maxRecDepth 20000 in
theorem gX3_worstTear_X3_no : GoodIn wsX3_worstTear (wsV RX3 63 RX3 yX3_no wsX3_no) := goodIn_app (goodIn_of _ (by decide +kernel)) ggX3_worstTear_X3_no
set_option maxRecDepth 20000 in
theorem ggX3_digest_X3_doublesNow : GoodIn wsX3_digest wsX3_doublesNow := goodIn_r _ [15, 3, 7, 16, 17, 18, 14, 19, 20, 21, 22, 23, 24, 25, 26, 27, 28, 29, 30, 31, 32, 107, 108, 109, 110, 111, 112, 113, 114, 115, 116, 117, 118] (by decide +kernel) (by decide +kernel)
set_option maxRecDepth 20000 in
theorem gX3_digest_X3_doublesNow : GoodIn wsX3_digest (wsV RX3 120 RX3 yX3_doublesNow wsX3_doublesNow) := goodIn_app (goodIn_of _ (by decide +kernel)) ggX3_digest_X3_doublesNow
set_option maxRecDepth 20000 in
theorem ggX3_digest_X3_broken : GoodIn wsX3_digest wsX3_broken := goodIn_r _ [36, 5, 37, 38, 39, 14, 40, 8, 9, 16, 17, 18, 19, 20, 21, 22, 23, 7, 24, 25, 26, 27, 28, 107, 108, 109, 110, 111, 112, 113, 114, 115, 116, 117, 118] (by decide +kernel) (by decide +kernel)
set_option maxRecDepth 20000 in
theorem gX3_digest_X3_broken : GoodIn wsX3_digest (wsV RX3 134 RX3 yX3_broken wsX3_broken) := goodIn_app (goodIn_of _ (by decide +kernel)) ggX3_digest_X3_broken
set_option maxRecDepth 20000 in
theorem ggX3_digest_X3_count : GoodIn wsX3_digest wsX3_count := goodIn_r _ [44, 7, 24, 25, 26, 14, 27, 28, 107, 108, 109, 110, 111, 112, 113, 114, 115, 116, 117, 118] (by decide +kernel) (by decide +kernel)
set_option maxRecDepth 20000 in
theorem gX3_digest_X3_count : GoodIn wsX3_digest (wsV RX3 80 RX3 yX3_count wsX3_count) := goodIn_app (goodIn_of _ (by decide +kernel)) ggX3_digest_X3_count
set_option maxRecDepth 20000 in
theorem ggX3_digest_X3_digestNow : GoodIn wsX3_digest wsX3_digestNow := goodIn_r _ [19, 20, 21, 22, 14, 23, 7, 24, 25, 26, 27, 28, 107, 108, 109, 110, 111, 112, 113, 114, 115, 116, 117, 118] (by decide +kernel) (by decide +kernel)
set_option maxRecDepth 20000 in
theorem gX3_digest_X3_digestNow : GoodIn wsX3_digest (wsV RX3 84 RX3 yX3_digestNow wsX3_digestNow) := goodIn_app (goodIn_of _ (by decide +kernel)) ggX3_digest_X3_digestNow
set_option maxRecDepth 20000 in
theorem ggX3_digest_X3_pairs : GoodIn wsX3_digest wsX3_pairs := goodIn_r _ [48, 7, 49, 50, 51, 14, 52, 24, 25, 26, 27, 28, 53, 54, 55, 56, 107, 108, 109, 110, 111, 112, 113, 114, 115, 116, 117, 118] (by decide +kernel) (by decide +kernel)
set_option maxRecDepth 20000 in
theorem gX3_digest_X3_pairs : GoodIn wsX3_digest (wsV RX3 107 RX3 yX3_pairs wsX3_pairs) := goodIn_app (goodIn_of _ (by decide +kernel)) ggX3_digest_X3_pairs
set_option maxRecDepth 20000 in
theorem ggX3_digest_X3_unnoticedIn : GoodIn wsX3_digest wsX3_unnoticedIn := goodIn_r _ [60, 7, 24, 25, 26, 14, 27, 28, 107, 108, 109, 110, 111, 112, 113, 114, 115, 116, 117, 118] (by decide +kernel) (by decide +kernel)
set_option maxRecDepth 20000 in
theorem gX3_digest_X3_unnoticedIn : GoodIn wsX3_digest (wsV RX3 149 RX3 yX3_unnoticedIn wsX3_unnoticedIn) := goodIn_app (goodIn_of _ (by decide +kernel)) ggX3_digest_X3_unnoticedIn
set_option maxRecDepth 20000 in
theorem ggX3_digest_X3_worst : GoodIn wsX3_digest wsX3_worst := goodIn_r _ [64, 7, 65, 66, 67, 68, 24, 25, 26, 14, 27, 28, 20, 21, 22, 23, 16, 17, 18, 19, 107, 108, 109, 110, 111, 112, 113, 114, 115, 116, 117, 118] (by decide +kernel) (by decide +kernel)
set_option maxRecDepth 20000 in
theorem gX3_digest_X3_worst : GoodIn wsX3_digest (wsV RX3 157 RX3 yX3_worst wsX3_worst) := goodIn_app (goodIn_of _ (by decide +kernel)) ggX3_digest_X3_worst
set_option maxRecDepth 20000 in
theorem ggX3_digest_X3_isAsWritten : GoodIn wsX3_digest wsX3_isAsWritten := goodIn_r _ [40, 8, 9, 16, 17, 18, 14, 19, 20, 21, 22, 23, 7, 24, 25, 26, 27, 28, 107, 108, 109, 110, 111, 112, 113, 114, 115, 116, 117, 118] (by decide +kernel) (by decide +kernel)
set_option maxRecDepth 20000 in
theorem gX3_digest_X3_isAsWritten : GoodIn wsX3_digest (wsV RX3 131 RX3 yX3_isAsWritten wsX3_isAsWritten) := goodIn_app (goodIn_of _ (by decide +kernel)) ggX3_digest_X3_isAsWritten
set_option maxRecDepth 20000 in
theorem ggX3_digest_X3_torn : GoodIn wsX3_digest wsX3_torn := goodIn_r _ [72, 73, 74, 75, 14, 76, 77, 7, 8, 78, 79, 80, 81, 82, 83, 84, 85, 24, 25, 26, 27, 28, 107, 108, 109, 110, 111, 112, 113, 114, 115, 116, 117, 118] (by decide +kernel) (by decide +kernel)
set_option maxRecDepth 20000 in
theorem gX3_digest_X3_torn : GoodIn wsX3_digest (wsV RX3 143 RX3 yX3_torn wsX3_torn) := goodIn_app (goodIn_of _ (by decide +kernel)) ggX3_digest_X3_torn
set_option maxRecDepth 20000 in
theorem ggX3_digest_X3_changedAt : GoodIn wsX3_digest wsX3_changedAt := goodIn_r _ [89, 8, 90, 91, 77, 7, 92, 93, 94, 14, 95, 24, 25, 26, 27, 28, 37, 38, 39, 40, 9, 16, 17, 18, 19, 20, 21, 22, 23, 96, 97, 98, 99, 100, 101, 102, 103, 3, 104, 105, 106, 107, 108, 109, 110, 111, 112, 113, 114, 115, 116, 117, 118] (by decide +kernel) (by decide +kernel)
set_option maxRecDepth 20000 in
theorem gX3_digest_X3_changedAt : GoodIn wsX3_digest (wsV RX3 146 RX3 yX3_changedAt wsX3_changedAt) := goodIn_app (goodIn_of _ (by decide +kernel)) ggX3_digest_X3_changedAt
theorem dJ9_abs_0f7a4_0 : decode cJ9_abs_0f7a4 0 = .ok (.iload_n 0, 1) := by decide +kernel
theorem dJ9_abs_0f7a4_1 : decode cJ9_abs_0f7a4 1 = .ok (.ifCond .ge 8, 3) := by decide +kernel
theorem dJ9_abs_0f7a4_4 : decode cJ9_abs_0f7a4 4 = .ok (.iload_n 0, 1) := by decide +kernel
theorem dJ9_abs_0f7a4_5 : decode cJ9_abs_0f7a4 5 = .ok (.ineg, 1) := by decide +kernel
theorem dJ9_abs_0f7a4_6 : decode cJ9_abs_0f7a4 6 = .ok (.goto 4, 3) := by decide +kernel
theorem dJ9_abs_0f7a4_9 : decode cJ9_abs_0f7a4 9 = .ok (.iload_n 0, 1) := by decide +kernel
theorem dJ9_abs_0f7a4_10 : decode cJ9_abs_0f7a4 10 = .ok (.ireturn, 1) := by decide +kernel
