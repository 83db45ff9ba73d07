set_option maxRecDepth 20000 in
theorem ggL_addLetter_X2_addLetter : GoodIn wsL_addLetter wsX2_addLetter := goodIn_ca (goodIn_r _ [6, 7, 8, 9, 10, 5, 11, 12, 13, 14, 15, 16, 17] (by decide +kernel) (by decide +kernel)) (goodIn_sub (fun _ h => List.mem_cons_of_mem _ (List.mem_append_right _ h)) (by decide +kernel))
set_option maxRecDepth 20000 in
theorem gL_addLetter_X2_addLetter : GoodIn wsL_addLetter (wsV RL 7 RX2 yX2_addLetter wsX2_addLetter) := goodIn_app (goodIn_of _ (by decide +kernel)) ggL_addLetter_X2_addLetter
set_option maxRecDepth 20000 in
theorem ggL_copyLetter_X2_copyLetter : GoodIn wsL_copyLetter wsX2_copyLetter := goodIn_ca (goodIn_ca (goodIn_r _ [7, 8, 9, 10, 11, 12, 6, 13, 14, 15, 16, 17, 18, 19, 20, 21, 22, 23, 24, 25, 26, 27, 28, 29, 30, 31, 32, 33, 34, 35] (by decide +kernel) (by decide +kernel)) (goodIn_sub (fun _ h => List.mem_cons_of_mem _ (List.mem_append_left _ (List.mem_append_right _ h))) (by decide +kernel))) (goodIn_sub (fun _ h => List.mem_cons_of_mem _ (List.mem_append_right _ h)) (by decide +kernel))
set_option maxRecDepth 20000 in
theorem gL_copyLetter_X2_copyLetter : GoodIn wsL_copyLetter (wsV RL 15 RX2 yX2_copyLetter wsX2_copyLetter) := goodIn_app (goodIn_of _ (by decide +kernel)) ggL_copyLetter_X2_copyLetter
set_option maxRecDepth 20000 in
theorem ggL_write_X2_write : GoodIn wsL_write wsX2_write := goodIn_ca (goodIn_ca (goodIn_ca (goodIn_r _ [8, 9, 10, 11, 12, 13, 7, 14, 15, 16, 17, 18, 19, 20, 21, 22, 23, 24, 25, 26, 27, 28, 29, 30, 31, 32, 33, 34, 35, 36, 37] (by decide +kernel) (by decide +kernel)) (goodIn_sub (fun _ h => List.mem_cons_of_mem _ (List.mem_append_left _ (List.mem_append_left _ (List.mem_append_right _ h)))) (by decide +kernel))) (goodIn_sub (fun _ h => List.mem_cons_of_mem _ (List.mem_append_left _ (List.mem_append_right _ h))) (by decide +kernel))) (goodIn_sub (fun _ h => List.mem_cons_of_mem _ (List.mem_append_right _ h)) (by decide +kernel))
set_option maxRecDepth 20000 in
theorem gL_write_X2_write : GoodIn wsL_write (wsV RL 21 RX2 yX2_write wsX2_write) := goodIn_app (goodIn_of _ (by decide +kernel)) ggL_write_X2_write
set_option maxRecDepth 20000 in
theorem ggL_erase_X2_erase : GoodIn wsL_erase wsX2_erase := goodIn_ca (goodIn_ca (goodIn_r _ [7, 8, 9, 10, 6, 11, 12, 13, 14, 15, 16, 17, 18, 19, 20, 21, 22, 23, 24, 25, 26, 27, 28, 29, 30, 31, 32, 33, 34] (by decide +kernel) (by decide +kernel)) (goodIn_sub (fun _ h => List.mem_cons_of_mem _ (List.mem_append_left _ (List.mem_append_right _ h))) (by decide +kernel))) (goodIn_sub (fun _ h => List.mem_cons_of_mem _ (List.mem_append_right _ h)) (by decide +kernel))
set_option maxRecDepth 20000 in
theorem gL_erase_X2_erase : GoodIn wsL_erase (wsV RL 27 RX2 yX2_erase wsX2_erase) := goodIn_app (goodIn_of _ (by decide +kernel)) ggL_erase_X2_erase
set_option maxRecDepth 20000 in
theorem ggL_forge_X2_forge : GoodIn wsL_forge wsX2_forge := goodIn_ca (goodIn_ca (goodIn_r _ [7, 8, 9, 10, 11, 12, 6, 13, 14, 15, 16, 17, 18, 19, 20, 21, 22, 23, 24, 25, 26, 27, 28, 29, 30, 31, 32, 33, 34] (by decide +kernel) (by decide +kernel)) (goodIn_sub (fun _ h => List.mem_cons_of_mem _ (List.mem_append_left _ (List.mem_append_right _ h))) (by decide +kernel))) (goodIn_sub (fun _ h => List.mem_cons_of_mem _ (List.mem_append_right _ h)) (by decide +kernel))
set_option maxRecDepth 20000 in
theorem gL_forge_X2_forge : GoodIn wsL_forge (wsV RL 30 RX2 yX2_forge wsX2_forge) := goodIn_app (goodIn_of _ (by decide +kernel)) ggL_forge_X2_forge
set_option maxRecDepth 20000 in
theorem ggL_tear_X2_tear : GoodIn wsL_tear wsX2_tear := goodIn_ca (goodIn_ca (goodIn_r _ [7, 8, 9, 10, 11, 12, 6, 13, 14, 15, 16, 17, 18, 19, 20, 21, 22, 23, 24, 25, 26, 27, 28, 29, 30, 31, 32, 33, 34] (by decide +kernel) (by decide +kernel)) (goodIn_sub (fun _ h => List.mem_cons_of_mem _ (List.mem_append_left _ (List.mem_append_right _ h))) (by decide +kernel))) (goodIn_sub (fun _ h => List.mem_cons_of_mem _ (List.mem_append_right _ h)) (by decide +kernel))
set_option maxRecDepth 20000 in
theorem gL_tear_X2_tear : GoodIn wsL_tear (wsV RL 33 RX2 yX2_tear wsX2_tear) := goodIn_app (goodIn_of _ (by decide +kernel)) ggL_tear_X2_tear
set_option maxRecDepth 20000 in
theorem ggL_mend_X2_mend : GoodIn wsL_mend wsX2_mend := goodIn_ca (goodIn_ca (goodIn_ca (goodIn_r _ [8, 9, 10, 11, 12, 13, 7, 14, 15, 16, 17, 18, 19, 20, 21, 22, 23, 24, 25, 26, 27, 28, 29, 30, 31, 32, 33, 34, 35, 36, 37, 38, 39, 40, 41, 42, 43, 44, 45] (by decide +kernel) (by decide +kernel)) (goodIn_sub (fun _ h => List.mem_cons_of_mem _ (List.mem_append_left _ (List.mem_append_left _ (List.mem_append_right _ h)))) (by decide +kernel))) (goodIn_sub (fun _ h => List.mem_cons_of_mem _ (List.mem_append_left _ (List.mem_append_right _ h))) (by decide +kernel))) (goodIn_sub (fun _ h => List.mem_cons_of_mem _ (List.mem_append_right _ h)) (by decide +kernel))
set_option maxRecDepth 20000 in
theorem gL_mend_X2_mend : GoodIn wsL_mend (wsV RL 36 RX2 yX2_mend wsX2_mend) := goodIn_app (goodIn_of _ (by decide +kernel)) ggL_mend_X2_mend
set_option maxRecDepth 20000 in
theorem ggL_seal_X2_seal : GoodIn wsL_seal wsX2_seal := goodIn_ca (goodIn_ca (goodIn_r _ [7, 8, 9, 10, 11, 12, 13, 14, 6, 15, 16, 17, 18, 19, 20, 21, 22, 23, 24, 25, 26, 27, 28, 29, 30, 31, 32, 33, 34, 35, 36, 37, 38, 39, 40, 41, 42, 43, 44, 45, 46, 47, 48, 49, 50, 51, 52, 53, 54, 55, 56, 57, 58, 59, 60, 61, 62, 63, 64, 65, 66, 67, 68, 69, 70, 71, 72, 73, 74, 75, 76, 77, 78, 79, 80] (by decide +kernel) (by decide +kernel)) (goodIn_sub (fun _ h => List.mem_cons_of_mem _ (List.mem_append_left _ (List.mem_append_right _ h))) (by decide +kernel))) (goodIn_sub (fun _ h => List.mem_cons_of_mem _ (List.mem_append_right _ h)) (by decide +kernel))
set_option maxRecDepth 20000 in
theorem gL_seal_X2_seal : GoodIn wsL_seal (wsV RL 40 RX2 yX2_seal wsX2_seal) := goodIn_app (goodIn_of _ (by decide +kernel)) ggL_seal_X2_seal
set_option maxRecDepth 20000 in
theorem ggL_unseal_X2_unseal : GoodIn wsL_unseal wsX2_unseal := goodIn_ca (goodIn_r _ [6, 7, 8, 9, 10, 11, 12, 13, 14, 15, 16, 17, 18, 19, 20, 21, 22] (by decide +kernel) (by decide +kernel)) (goodIn_sub (fun _ h => List.mem_cons_of_mem _ (List.mem_append_right _ h)) (by decide +kernel))
set_option maxRecDepth 20000 in
theorem gL_unseal_X2_unseal : GoodIn wsL_unseal (wsV RL 43 RX2 yX2_unseal wsX2_unseal) := goodIn_app (goodIn_of _ (by decide +kernel)) ggL_unseal_X2_unseal
set_option maxRecDepth 20000 in
theorem ggL_signsOf_X2_signsOf : GoodIn wsL_signsOf wsX2_signsOf := goodIn_ca (goodIn_r _ [6, 7, 8, 9, 5, 10, 11, 12, 13, 14, 15, 16, 17, 18, 19, 20, 21] (by decide +kernel) (by decide +kernel)) (goodIn_sub (fun _ h => List.mem_cons_of_mem _ (List.mem_append_right _ h)) (by decide +kernel))
set_option maxRecDepth 20000 in
theorem gL_signsOf_X2_signsOf : GoodIn wsL_signsOf (wsV RL 46 RX2 yX2_signsOf wsX2_signsOf) := goodIn_app (goodIn_of _ (by decide +kernel)) ggL_signsOf_X2_signsOf
set_option maxRecDepth 20000 in
theorem ggL_commasOf_X2_commasOf : GoodIn wsL_commasOf wsX2_commasOf := goodIn_ca (goodIn_r _ [6, 7, 8, 9, 5, 10, 11, 12, 13, 14, 15, 16, 17, 18, 19, 20, 21, 22, 23, 24, 25, 26, 27, 28] (by decide +kernel) (by decide +kernel)) (goodIn_sub (fun _ h => List.mem_cons_of_mem _ (List.mem_append_right _ h)) (by decide +kernel))
set_option maxRecDepth 20000 in
theorem gL_commasOf_X2_commasOf : GoodIn wsL_commasOf (wsV RL 49 RX2 yX2_commasOf wsX2_commasOf) := goodIn_app (goodIn_of _ (by decide +kernel)) ggL_commasOf_X2_commasOf
set_option maxRecDepth 20000 in
theorem ggL_tearsOf_X2_tearsOf : GoodIn wsL_tearsOf wsX2_tearsOf := goodIn_ca (goodIn_r _ [6, 7, 8, 9, 5, 10, 11, 12, 13, 14, 15, 16, 17, 18, 19, 20, 21, 22, 23, 24, 25, 26, 27, 28] (by decide +kernel) (by decide +kernel)) (goodIn_sub (fun _ h => List.mem_cons_of_mem _ (List.mem_append_right _ h)) (by decide +kernel))
set_option maxRecDepth 20000 in
theorem gL_tearsOf_X2_tearsOf : GoodIn wsL_tearsOf (wsV RL 52 RX2 yX2_tearsOf wsX2_tearsOf) := goodIn_app (goodIn_of _ (by decide +kernel)) ggL_tearsOf_X2_tearsOf
set_option maxRecDepth 20000 in
theorem ggL_digestOf_X2_digestOf : GoodIn wsL_digestOf wsX2_digestOf := goodIn_ca (goodIn_r _ [6, 7, 8, 9, 5, 10, 11, 12, 13, 14, 15, 16, 17, 18, 19, 20, 21, 22, 23, 24, 25, 26, 27, 28] (by decide +kernel) (by decide +kernel)) (goodIn_sub (fun _ h => List.mem_cons_of_mem _ (List.mem_append_right _ h)) (by decide +kernel))
set_option maxRecDepth 20000 in
theorem gL_digestOf_X2_digestOf : GoodIn wsL_digestOf (wsV RL 55 RX2 yX2_digestOf wsX2_digestOf) := goodIn_app (goodIn_of _ (by decide +kernel)) ggL_digestOf_X2_digestOf
set_option maxRecDepth 20000 in
theorem ggL_signAt_X2_signAt : GoodIn wsL_signAt wsX2_signAt := goodIn_ca (goodIn_r _ [6, 7, 8, 9, 5, 10, 11, 12, 13, 14, 15, 16, 17, 18, 19, 20, 21, 22, 23, 24, 25] (by decide +kernel) (by decide +kernel)) (goodIn_sub (fun _ h => List.mem_cons_of_mem _ (List.mem_append_right _ h)) (by decide +kernel))
set_option maxRecDepth 20000 in
theorem gL_signAt_X2_signAt : GoodIn wsL_signAt (wsV RL 58 RX2 yX2_signAt wsX2_signAt) := goodIn_app (goodIn_of _ (by decide +kernel)) ggL_signAt_X2_signAt
set_option maxRecDepth 20000 in
theorem ggL_sumOf_X2_sumOf : GoodIn wsL_sumOf wsX2_sumOf := goodIn_ca (goodIn_ca (goodIn_r _ [7, 8, 9, 10, 11, 12, 6, 13, 14, 15, 16, 17, 18, 19, 20, 21, 22, 23, 24, 25, 26, 27, 28, 29, 30] (by decide +kernel) (by decide +kernel)) (goodIn_sub (fun _ h => List.mem_cons_of_mem _ (List.mem_append_left _ (List.mem_append_right _ h))) (by decide +kernel))) (goodIn_sub (fun _ h => List.mem_cons_of_mem _ (List.mem_append_right _ h)) (by decide +kernel))
set_option maxRecDepth 20000 in
theorem gL_sumOf_X2_sumOf : GoodIn wsL_sumOf (wsV RL 61 RX2 yX2_sumOf wsX2_sumOf) := goodIn_app (goodIn_of _ (by decide +kernel)) ggL_sumOf_X2_sumOf
set_option maxRecDepth 20000 in
theorem ggL_sameSums_X2_sameSums : GoodIn wsL_sameSums wsX2_sameSums := goodIn_ca (goodIn_ca (goodIn_r _ [7, 8, 9, 10, 6, 11, 12, 13, 14, 15, 16, 17, 18, 19, 20, 21, 22, 23, 24, 25, 26, 27, 28, 29, 30, 31, 32, 33, 34, 35, 36, 37, 38, 39, 40, 41, 42, 43] (by decide +kernel) (by decide +kernel)) (goodIn_sub (fun _ h => List.mem_cons_of_mem _ (List.mem_append_left _ (List.mem_append_right _ h))) (by decide +kernel))) (goodIn_sub (fun _ h => List.mem_cons_of_mem _ (List.mem_append_right _ h)) (by decide +kernel))
set_option maxRecDepth 20000 in
theorem gL_sameSums_X2_sameSums : GoodIn wsL_sameSums (wsV RL 64 RX2 yX2_sameSums wsX2_sameSums) := goodIn_app (goodIn_of _ (by decide +kernel)) ggL_sameSums_X2_sameSums
set_option maxRecDepth 20000 in
theorem ggL_falseAlarms_X2_falseAlarms : GoodIn wsL_falseAlarms wsX2_falseAlarms := goodIn_ca (goodIn_ca (goodIn_r _ [7, 8, 9, 10, 6, 11, 12, 13, 14, 15, 16, 17, 18, 19, 20, 21, 22, 23, 24, 25, 26, 27, 28, 29, 30, 31, 32, 33, 34, 35, 36, 37, 38, 39, 40, 41, 42, 43, 44, 45, 46, 47] (by decide +kernel) (by decide +kernel)) (goodIn_sub (fun _ h => List.mem_cons_of_mem _ (List.mem_append_left _ (List.mem_append_right _ h))) (by decide +kernel))) (goodIn_sub (fun _ h => List.mem_cons_of_mem _ (List.mem_append_right _ h)) (by decide +kernel))
set_option maxRecDepth 20000 in
theorem gL_falseAlarms_X2_falseAlarms : GoodIn wsL_falseAlarms (wsV RL 67 RX2 yX2_falseAlarms wsX2_falseAlarms) := goodIn_app (goodIn_of _ (by decide +kernel)) ggL_falseAlarms_X2_falseAlarms
set_option maxRecDepth 20000 in
theorem ggL_firstOf_X2_firstOf : GoodIn wsL_firstOf wsX2_firstOf := goodIn_ca (goodIn_ca (goodIn_r _ [7, 8, 9, 10, 6, 11, 12, 13, 14, 15, 16, 17, 18, 19, 20, 21, 22, 23, 24, 25, 26, 27, 28, 29, 30, 31, 32, 33, 34, 35, 36, 37, 38] (by decide +kernel) (by decide +kernel)) (goodIn_sub (fun _ h => List.mem_cons_of_mem _ (List.mem_append_left _ (List.mem_append_right _ h))) (by decide +kernel))) (goodIn_sub (fun _ h => List.mem_cons_of_mem _ (List.mem_append_right _ h)) (by decide +kernel))
set_option maxRecDepth 20000 in
theorem gL_firstOf_X2_firstOf : GoodIn wsL_firstOf (wsV RL 70 RX2 yX2_firstOf wsX2_firstOf) := goodIn_app (goodIn_of _ (by decide +kernel)) ggL_firstOf_X2_firstOf
set_option maxRecDepth 20000 in
theorem ggL_letterIn_X2_letterIn : GoodIn wsL_letterIn wsX2_letterIn := goodIn_ca (goodIn_r _ [6, 7, 8, 9, 5, 10, 11, 12, 13, 14, 15, 16, 17, 18, 19, 20, 21, 22, 23, 24, 25, 26] (by decide +kernel) (by decide +kernel)) (goodIn_sub (fun _ h => List.mem_cons_of_mem _ (List.mem_append_right _ h)) (by decide +kernel))
set_option maxRecDepth 20000 in
theorem gL_letterIn_X2_letterIn : GoodIn wsL_letterIn (wsV RL 73 RX2 yX2_letterIn wsX2_letterIn) := goodIn_app (goodIn_of _ (by decide +kernel)) ggL_letterIn_X2_letterIn
set_option maxRecDepth 20000 in
theorem ggL_digestIn_X2_digestIn : GoodIn wsL_digestIn wsX2_digestIn := goodIn_ca (goodIn_r _ [6, 7, 8, 9, 5, 10, 11, 12, 13, 14, 15, 16, 17, 18, 19, 20, 21, 22, 23, 24, 25, 26] (by decide +kernel) (by decide +kernel)) (goodIn_sub (fun _ h => List.mem_cons_of_mem _ (List.mem_append_right _ h)) (by decide +kernel))
set_option maxRecDepth 20000 in
theorem gL_digestIn_X2_digestIn : GoodIn wsL_digestIn (wsV RL 76 RX2 yX2_digestIn wsX2_digestIn) := goodIn_app (goodIn_of _ (by decide +kernel)) ggL_digestIn_X2_digestIn
set_option maxRecDepth 20000 in
theorem ggL_sealOf_X2_sealOf : GoodIn wsL_sealOf wsX2_sealOf := goodIn_ca (goodIn_r _ [6, 7, 8, 9, 5, 10, 11, 12, 13, 14, 15, 16, 17, 18, 19, 20, 21, 22, 23, 24, 25, 26] (by decide +kernel) (by decide +kernel)) (goodIn_sub (fun _ h => List.mem_cons_of_mem _ (List.mem_append_right _ h)) (by decide +kernel))
set_option maxRecDepth 20000 in
theorem gL_sealOf_X2_sealOf : GoodIn wsL_sealOf (wsV RL 79 RX2 yX2_sealOf wsX2_sealOf) := goodIn_app (goodIn_of _ (by decide +kernel)) ggL_sealOf_X2_sealOf
set_option maxRecDepth 20000 in
theorem ggL_isWhole_X2_isWhole : GoodIn wsL_isWhole wsX2_isWhole := goodIn_ca (goodIn_r _ [6, 7, 8, 9, 10, 5, 11, 12, 13, 14, 15, 16, 17, 18, 19, 20, 21, 22, 23, 24, 25, 26, 27, 28, 29, 30, 31, 32, 33, 34, 35, 36, 37, 38, 39, 40, 41, 42, 43] (by decide +kernel) (by decide +kernel)) (goodIn_sub (fun _ h => List.mem_cons_of_mem _ (List.mem_append_right _ h)) (by decide +kernel))
set_option maxRecDepth 20000 in
theorem gL_isWhole_X2_isWhole : GoodIn wsL_isWhole (wsV RL 82 RX2 yX2_isWhole wsX2_isWhole) := goodIn_app (goodIn_of _ (by decide +kernel)) ggL_isWhole_X2_isWhole
set_option maxRecDepth 20000 in
theorem ggL_tornBlocks_X2_tornBlocks : GoodIn wsL_tornBlocks wsX2_tornBlocks := goodIn_ca (goodIn_r _ [6, 7, 8, 9, 10, 5, 11, 12, 13, 14, 15, 16, 17, 18, 19, 20, 21, 22, 23, 24, 25, 26, 27, 28, 29, 30, 31, 32, 33, 34, 35, 36, 37, 38, 39, 40, 41, 42, 43, 44, 45, 46, 47, 48, 49, 50, 51, 52] (by decide +kernel) (by decide +kernel)) (goodIn_sub (fun _ h => List.mem_cons_of_mem _ (List.mem_append_right _ h)) (by decide +kernel))
set_option maxRecDepth 20000 in
theorem gL_tornBlocks_X2_tornBlocks : GoodIn wsL_tornBlocks (wsV RL 86 RX2 yX2_tornBlocks wsX2_tornBlocks) := goodIn_app (goodIn_of _ (by decide +kernel)) ggL_tornBlocks_X2_tornBlocks
set_option maxRecDepth 20000 in
theorem ggL_firstTorn_X2_firstTorn : GoodIn wsL_firstTorn wsX2_firstTorn := goodIn_ca (goodIn_r _ [6, 7, 8, 9, 10, 5, 11, 12, 13, 14, 15, 16, 17, 18, 19, 20, 21, 22, 23, 24, 25, 26, 27, 28, 29, 30, 31, 32, 33, 34, 35, 36, 37, 38, 39, 40, 41, 42, 43, 44, 45, 46, 47, 48, 49, 50, 51, 52] (by decide +kernel) (by decide +kernel)) (goodIn_sub (fun _ h => List.mem_cons_of_mem _ (List.mem_append_right _ h)) (by decide +kernel))
set_option maxRecDepth 20000 in
theorem gL_firstTorn_X2_firstTorn : GoodIn wsL_firstTorn (wsV RL 89 RX2 yX2_firstTorn wsX2_firstTorn) := goodIn_app (goodIn_of _ (by decide +kernel)) ggL_firstTorn_X2_firstTorn
set_option maxRecDepth 20000 in
theorem ggL_changedPlace_X2_changedPlace : GoodIn wsL_changedPlace wsX2_changedPlace := goodIn_ca (goodIn_r _ [6, 7, 8, 9, 10, 5, 11, 12, 13, 14, 15, 16, 17, 18, 19, 20, 21, 22, 23, 24, 25, 26, 27, 28, 29, 30, 31, 32, 33, 34, 35, 36, 37, 38, 39, 40, 41, 42, 43, 44, 45, 46, 47, 48, 49, 50, 51, 52, 53, 54, 55, 56, 57, 58, 59, 60, 61, 62] (by decide +kernel) (by decide +kernel)) (goodIn_sub (fun _ h => List.mem_cons_of_mem _ (List.mem_append_right _ h)) (by decide +kernel))
set_option maxRecDepth 20000 in
theorem gL_changedPlace_X2_changedPlace : GoodIn wsL_changedPlace (wsV RL 92 RX2 yX2_changedPlace wsX2_changedPlace) := goodIn_app (goodIn_of _ (by decide +kernel)) ggL_changedPlace_X2_changedPlace
set_option maxRecDepth 20000 in
theorem ggL_changedSign_X2_changedSign : GoodIn wsL_changedSign wsX2_changedSign := goodIn_ca (goodIn_ca (goodIn_r _ [7, 8, 9, 10, 11, 12, 13, 6, 14, 15, 16, 17, 18, 19, 20, 21, 22, 23, 24, 25, 26, 27, 28, 29, 30, 31, 32, 33, 34, 35, 36, 37, 38, 39, 40, 41, 42, 43, 44, 45, 46, 47, 48, 49, 50, 51, 52, 53, 54, 55, 56, 57, 58, 59, 60, 61, 62, 63, 64, 65, 66] (by decide +kernel) (by decide +kernel)) (goodIn_sub (fun _ h => List.mem_cons_of_mem _ (List.mem_append_left _ (List.mem_append_right _ h))) (by decide +kernel))) (goodIn_sub (fun _ h => List.mem_cons_of_mem _ (List.mem_append_right _ h)) (by decide +kernel))
set_option maxRecDepth 20000 in
theorem gL_changedSign_X2_changedSign : GoodIn wsL_changedSign (wsV RL 95 RX2 yX2_changedSign wsX2_changedSign) := goodIn_app (goodIn_of _ (by decide +kernel)) ggL_changedSign_X2_changedSign
set_option maxRecDepth 20000 in
theorem ggL_wouldSeal_X2_wouldSeal : GoodIn wsL_wouldSeal wsX2_wouldSeal := goodIn_ca (goodIn_ca (goodIn_r _ [7, 8, 9, 10, 6, 11, 12, 13, 14, 15, 16, 17, 18, 19, 20, 21, 22, 23, 24, 25, 26, 27, 28, 29, 30, 31, 32, 33, 34, 35, 36, 37, 38, 39, 40, 41, 42, 43, 44, 45, 46, 47, 48, 49, 50, 51, 52] (by decide +kernel) (by decide +kernel)) (goodIn_sub (fun _ h => List.mem_cons_of_mem _ (List.mem_append_left _ (List.mem_append_right _ h))) (by decide +kernel))) (goodIn_sub (fun _ h => List.mem_cons_of_mem _ (List.mem_append_right _ h)) (by decide +kernel))
set_option maxRecDepth 20000 in
theorem gL_wouldSeal_X2_wouldSeal : GoodIn wsL_wouldSeal (wsV RL 98 RX2 yX2_wouldSeal wsX2_wouldSeal) := goodIn_app (goodIn_of _ (by decide +kernel)) ggL_wouldSeal_X2_wouldSeal
set_option maxRecDepth 20000 in
theorem ggL_unnoticed_X2_unnoticed : GoodIn wsL_unnoticed wsX2_unnoticed := goodIn_ca (goodIn_r _ [6, 7, 8, 9, 5, 10, 11, 12, 13, 14, 15, 16, 17, 18, 19, 20, 21, 22, 23, 24, 25, 26, 27, 28] (by decide +kernel) (by decide +kernel)) (goodIn_sub (fun _ h => List.mem_cons_of_mem _ (List.mem_append_right _ h)) (by decide +kernel))
set_option maxRecDepth 20000 in
theorem gL_unnoticed_X2_unnoticed : GoodIn wsL_unnoticed (wsV RL 101 RX2 yX2_unnoticed wsX2_unnoticed) := goodIn_app (goodIn_of _ (by decide +kernel)) ggL_unnoticed_X2_unnoticed
set_option maxRecDepth 20000 in
theorem ggL_worstTear_X2_worstTear : GoodIn wsL_worstTear wsX2_worstTear := goodIn_ca (goodIn_r _ [6, 7, 8, 9, 5, 10, 11, 12, 13, 14, 15, 16, 17, 18, 19, 20, 21, 22, 23, 24, 25, 26, 27, 28, 29, 30, 31, 32, 33, 34, 35, 36] (by decide +kernel) (by decide +kernel)) (goodIn_sub (fun _ h => List.mem_cons_of_mem _ (List.mem_append_right _ h)) (by decide +kernel))
set_option maxRecDepth 20000 in
theorem gL_worstTear_X2_worstTear : GoodIn wsL_worstTear (wsV RL 104 RX2 yX2_worstTear wsX2_worstTear) := goodIn_app (goodIn_of _ (by decide +kernel)) ggL_worstTear_X2_worstTear
set_option maxRecDepth 20000 in
theorem ggL_law_X2_init : GoodIn wsL_law wsX2_init := goodIn_r _ [9, 10, 11, 12, 13, 14, 15, 16, 17, 18, 19, 20, 21, 22, 23, 24, 25, 26, 27, 28, 29, 30, 721, 722, 723, 724, 737, 738, 739, 740, 741, 742, 743, 744, 745, 746, 747] (by decide +kernel) (by decide +kernel)
set_option maxRecDepth 20000 in
theorem gL_law_X2_init : GoodIn wsL_law (wsX2_init) := ggL_law_X2_init
set_option maxRecDepth 20000 in
theorem ggL_law_X3_init : GoodIn wsL_law wsX3_init := goodIn_r _ [33, 34, 11, 12, 24, 35, 36, 37, 38, 39, 40, 41, 42, 43, 725, 726, 727, 728, 729, 730, 731, 732, 733, 734, 735, 736] (by decide +kernel) (by decide +kernel)
set_option maxRecDepth 20000 in
theorem gL_law_X3_init : GoodIn wsL_law (wsX3_init) := ggL_law_X3_init
set_option maxRecDepth 20000 in
theorem ggL_law_L_addLetter : GoodIn wsL_law wsL_addLetter := goodIn_ca (goodIn_r _ [47, 48, 49, 50, 51, 2, 52, 53, 54, 55, 56, 57, 58, 59, 721, 722, 723, 724] (by decide +kernel) (by decide +kernel)) (goodIn_sub (fun _ h => List.mem_append_left _ (List.mem_append_left _ (List.mem_append_right _ h))) (by decide +kernel))
set_option maxRecDepth 20000 in
theorem gL_law_L_addLetter : GoodIn wsL_law (va_wsS RL 111 yL_addLetter wsL_addLetter) := goodIn_app (goodIn_of _ (by decide +kernel)) ggL_law_L_addLetter
set_option maxRecDepth 20000 in
theorem ggL_law_X3_addLetter : GoodIn wsL_law wsX3_addLetter := goodIn_r _ [63, 64, 65, 35, 66, 67, 68, 5, 69, 725, 726, 727, 728, 729, 730, 731, 732, 733, 734, 735, 736] (by decide +kernel) (by decide +kernel)
set_option maxRecDepth 20000 in
theorem gL_law_X3_addLetter : GoodIn wsL_law (wsV RL 116 RX3 yX3_addLetter wsX3_addLetter) := goodIn_app (goodIn_of _ (by decide +kernel)) ggL_law_X3_addLetter
set_option maxRecDepth 20000 in
theorem ggL_law_X3_thrown : GoodIn wsL_law wsX3_thrown := goodIn_r _ [73, 64, 725, 726, 727, 728, 729, 730, 731, 732, 733, 734, 735, 736] (by decide +kernel) (by decide +kernel)
set_option maxRecDepth 20000 in
theorem gL_law_X3_thrown : GoodIn wsL_law (wsV RL 117 RX3 yX3_thrown wsX3_thrown) := goodIn_app (goodIn_of _ (by decide +kernel)) ggL_law_X3_thrown
set_option maxRecDepth 20000 in
theorem ggL_law_L_copyLetter : GoodIn wsL_law wsL_copyLetter := goodIn_ca (goodIn_ca (goodIn_r _ [76, 77, 48, 78, 79, 80, 2, 81, 14, 53, 82, 83, 84, 85, 86, 87, 54, 55, 56, 57, 58, 59, 88, 89, 90, 18, 91, 92, 25, 721, 722, 723, 724, 737, 738, 739] (by decide +kernel) (by decide +kernel)) (goodIn_sub (fun _ h => List.mem_append_left _ (List.mem_append_right _ h)) (by decide +kernel))) (goodIn_sub (fun _ h => List.mem_append_left _ (List.mem_append_left _ (List.mem_append_right _ h))) (by decide +kernel))
set_option maxRecDepth 20000 in
theorem gL_law_L_copyLetter : GoodIn wsL_law (va_wsS RL 120 yL_copyLetter wsL_copyLetter) := goodIn_app (goodIn_of _ (by decide +kernel)) ggL_law_L_copyLetter
set_option maxRecDepth 20000 in
theorem ggL_law_X3_copyLetter : GoodIn wsL_law wsX3_copyLetter := goodIn_r _ [96, 64, 65, 36, 97, 98, 99, 100, 35, 101, 102, 103, 5, 104, 105, 106, 107, 66, 67, 68, 69, 725, 726, 727, 728, 729, 730, 731, 732, 733, 734, 735, 736] (by decide +kernel) (by decide +kernel)
set_option maxRecDepth 20000 in
theorem gL_law_X3_copyLetter : GoodIn wsL_law (wsV RL 123 RX3 yX3_copyLetter wsX3_copyLetter) := goodIn_app (goodIn_of _ (by decide +kernel)) ggL_law_X3_copyLetter
set_option maxRecDepth 20000 in
theorem ggL_law_L_write : GoodIn wsL_law wsL_write := goodIn_ca (goodIn_ca (goodIn_ca (goodIn_r _ [110, 77, 111, 48, 112, 113, 114, 2, 115, 58, 59, 82, 83, 84, 85, 86, 87, 53, 14, 116, 117, 118, 119, 120, 121, 122, 123, 18, 124, 25, 92, 737, 738, 739, 721, 722, 723, 724] (by decide +kernel) (by decide +kernel)) (goodIn_sub (fun _ h => List.mem_append_left _ (List.mem_append_left _ (List.mem_append_right _ h))) (by decide +kernel))) (goodIn_sub (fun _ h => List.mem_append_left _ (List.mem_append_right _ h)) (by decide +kernel))) (goodIn_sub (fun _ h => List.mem_append_right _ h) (by decide +kernel))
set_option maxRecDepth 20000 in
theorem gL_law_L_write : GoodIn wsL_law (va_wsS RL 124 yL_write wsL_write) := goodIn_app (goodIn_of _ (by decide +kernel)) ggL_law_L_write
set_option maxRecDepth 20000 in
theorem ggL_law_X3_write : GoodIn wsL_law wsX3_write := goodIn_r _ [128, 64, 35, 36, 101, 102, 103, 5, 104, 65, 105, 106, 107, 66, 67, 68, 69, 725, 726, 727, 728, 729, 730, 731, 732, 733, 734, 735, 736] (by decide +kernel) (by decide +kernel)
set_option maxRecDepth 20000 in
theorem gL_law_X3_write : GoodIn wsL_law (wsV RL 127 RX3 yX3_write wsX3_write) := goodIn_app (goodIn_of _ (by decide +kernel)) ggL_law_X3_write
set_option maxRecDepth 20000 in
theorem ggL_law_L_erase : GoodIn wsL_law wsL_erase := goodIn_ca (goodIn_ca (goodIn_r _ [131, 77, 48, 132, 133, 134, 2, 135, 82, 83, 84, 85, 86, 87, 53, 14, 136, 137, 138, 58, 59, 139, 140, 141, 18, 142, 92, 25, 721, 722, 723, 724, 737, 738, 739] (by decide +kernel) (by decide +kernel)) (goodIn_sub (fun _ h => List.mem_append_left _ (List.mem_append_right _ h)) (by decide +kernel))) (goodIn_sub (fun _ h => List.mem_append_left _ (List.mem_append_left _ (List.mem_append_right _ h))) (by decide +kernel))
set_option maxRecDepth 20000 in
theorem gL_law_L_erase : GoodIn wsL_law (va_wsS RL 128 yL_erase wsL_erase) := goodIn_app (goodIn_of _ (by decide +kernel)) ggL_law_L_erase
set_option maxRecDepth 20000 in
theorem ggL_law_X3_erase : GoodIn wsL_law wsX3_erase := goodIn_r _ [146, 64, 35, 101, 102, 103, 5, 104, 65, 105, 106, 107, 66, 67, 68, 69, 147, 148, 149, 150, 36, 725, 726, 727, 728, 729, 730, 731, 732, 733, 734, 735, 736] (by decide +kernel) (by decide +kernel)
set_option maxRecDepth 20000 in
theorem gL_law_X3_erase : GoodIn wsL_law (wsV RL 130 RX3 yX3_erase wsX3_erase) := goodIn_app (goodIn_of _ (by decide +kernel)) ggL_law_X3_erase
set_option maxRecDepth 20000 in
theorem ggL_law_L_forge : GoodIn wsL_law wsL_forge := goodIn_ca (goodIn_ca (goodIn_r _ [153, 77, 48, 154, 155, 156, 2, 157, 58, 59, 158, 159, 160, 161, 86, 87, 82, 83, 84, 85, 53, 14, 162, 163, 164, 18, 165, 25, 737, 738, 739, 721, 722, 723, 724] (by decide +kernel) (by decide +kernel)) (goodIn_sub (fun _ h => List.mem_append_left _ (List.mem_append_left _ (List.mem_append_right _ h))) (by decide +kernel))) (goodIn_sub (fun _ h => List.mem_append_left _ (List.mem_append_right _ h)) (by decide +kernel))
set_option maxRecDepth 20000 in
theorem gL_law_L_forge : GoodIn wsL_law (va_wsS RL 131 yL_forge wsL_forge) := goodIn_app (goodIn_of _ (by decide +kernel)) ggL_law_L_forge
set_option maxRecDepth 20000 in
theorem ggL_law_X3_forge : GoodIn wsL_law wsX3_forge := goodIn_r _ [169, 170, 171, 172, 5, 173, 64, 36, 174, 175, 176, 177, 35, 101, 102, 103, 104, 65, 105, 106, 107, 66, 67, 68, 69, 147, 148, 149, 150, 725, 726, 727, 728, 729, 730, 731, 732, 733, 734, 735, 736] (by decide +kernel) (by decide +kernel)
set_option maxRecDepth 20000 in
theorem gL_law_X3_forge : GoodIn wsL_law (wsV RL 133 RX3 yX3_forge wsX3_forge) := goodIn_app (goodIn_of _ (by decide +kernel)) ggL_law_X3_forge
set_option maxRecDepth 20000 in
theorem ggL_law_L_tear : GoodIn wsL_law wsL_tear := goodIn_ca (goodIn_ca (goodIn_r _ [180, 77, 48, 181, 182, 183, 2, 184, 58, 59, 158, 159, 160, 161, 86, 87, 82, 83, 84, 85, 53, 14, 162, 163, 164, 18, 165, 25, 737, 738, 739, 721, 722, 723, 724] (by decide +kernel) (by decide +kernel)) (goodIn_sub (fun _ h => List.mem_append_left _ (List.mem_append_left _ (List.mem_append_right _ h))) (by decide +kernel))) (goodIn_sub (fun _ h => List.mem_append_left _ (List.mem_append_right _ h)) (by decide +kernel))
set_option maxRecDepth 20000 in
theorem gL_law_L_tear : GoodIn wsL_law (va_wsS RL 134 yL_tear wsL_tear) := goodIn_app (goodIn_of _ (by decide +kernel)) ggL_law_L_tear
set_option maxRecDepth 20000 in
theorem ggL_law_X3_tear : GoodIn wsL_law wsX3_tear := goodIn_r _ [188, 170, 171, 172, 5, 173, 64, 36, 174, 175, 176, 177, 35, 101, 102, 103, 104, 65, 105, 106, 107, 66, 67, 68, 69, 147, 148, 149, 150, 725, 726, 727, 728, 729, 730, 731, 732, 733, 734, 735, 736] (by decide +kernel) (by decide +kernel)
set_option maxRecDepth 20000 in
theorem gL_law_X3_tear : GoodIn wsL_law (wsV RL 136 RX3 yX3_tear wsX3_tear) := goodIn_app (goodIn_of _ (by decide +kernel)) ggL_law_X3_tear
set_option maxRecDepth 20000 in
theorem ggL_law_L_mend : GoodIn wsL_law wsL_mend := goodIn_ca (goodIn_ca (goodIn_ca (goodIn_r _ [191, 77, 111, 48, 192, 193, 194, 2, 195, 58, 59, 158, 159, 160, 161, 86, 87, 82, 83, 84, 85, 53, 14, 116, 117, 118, 119, 120, 162, 163, 164, 18, 165, 25, 196, 197, 198, 199, 92, 737, 738, 739, 721, 722, 723, 724] (by decide +kernel) (by decide +kernel)) (goodIn_sub (fun _ h => List.mem_append_left _ (List.mem_append_left _ (List.mem_append_right _ h))) (by decide +kernel))) (goodIn_sub (fun _ h => List.mem_append_left _ (List.mem_append_right _ h)) (by decide +kernel))) (goodIn_sub (fun _ h => List.mem_append_right _ h) (by decide +kernel))
set_option maxRecDepth 20000 in
theorem gL_law_L_mend : GoodIn wsL_law (va_wsS RL 137 yL_mend wsL_mend) := goodIn_app (goodIn_of _ (by decide +kernel)) ggL_law_L_mend
set_option maxRecDepth 20000 in
theorem ggL_law_X3_mend : GoodIn wsL_law wsX3_mend := goodIn_r _ [203, 64, 36, 174, 175, 176, 5, 177, 35, 101, 102, 103, 104, 65, 105, 106, 107, 66, 67, 68, 69, 147, 148, 149, 150, 204, 205, 206, 207, 725, 726, 727, 728, 729, 730, 731, 732, 733, 734, 735, 736] (by decide +kernel) (by decide +kernel)
set_option maxRecDepth 20000 in
theorem gL_law_X3_mend : GoodIn wsL_law (wsV RL 140 RX3 yX3_mend wsX3_mend) := goodIn_app (goodIn_of _ (by decide +kernel)) ggL_law_X3_mend
set_option maxRecDepth 20000 in
theorem ggL_law_L_seal : GoodIn wsL_law wsL_seal := goodIn_ca (goodIn_ca (goodIn_r _ [210, 77, 48, 211, 212, 213, 2, 214, 58, 59, 215, 16, 82, 83, 84, 85, 86, 87, 53, 14, 136, 137, 138, 216, 217, 218, 219, 220, 221, 222, 20, 223, 224, 225, 226, 227, 30, 228, 229, 230, 231, 232, 233, 18, 234, 92, 25, 235, 236, 237, 238, 239, 240, 241, 242, 243, 244, 245, 246, 247, 248, 249, 250, 251, 252, 253, 721, 722, 723, 724, 737, 738, 739, 740, 741, 742, 743, 744, 745, 746, 747] (by decide +kernel) (by decide +kernel)) (goodIn_sub (fun _ h => List.mem_append_left _ (List.mem_append_left _ (List.mem_append_right _ h))) (by decide +kernel))) (goodIn_sub (fun _ h => List.mem_append_left _ (List.mem_append_right _ h)) (by decide +kernel))
set_option maxRecDepth 20000 in
theorem gL_law_L_seal : GoodIn wsL_law (va_wsS RL 141 yL_seal wsL_seal) := goodIn_app (goodIn_of _ (by decide +kernel)) ggL_law_L_seal
set_option maxRecDepth 20000 in
theorem ggL_law_X3_seal : GoodIn wsL_law wsX3_seal := goodIn_r _ [257, 64, 258, 35, 37, 38, 39, 40, 41, 42, 43, 101, 102, 103, 5, 104, 65, 105, 106, 107, 66, 67, 68, 69, 259, 260, 261, 262, 263, 264, 265, 266, 147, 148, 149, 150, 36, 267, 268, 269, 270, 271, 272, 273, 274, 275, 276, 277, 278, 279, 725, 726, 727, 728, 729, 730, 731, 732, 733, 734, 735, 736] (by decide +kernel) (by decide +kernel)
set_option maxRecDepth 20000 in
theorem gL_law_X3_seal : GoodIn wsL_law (wsV RL 143 RX3 yX3_seal wsX3_seal) := goodIn_app (goodIn_of _ (by decide +kernel)) ggL_law_X3_seal
set_option maxRecDepth 20000 in
theorem ggL_law_L_unseal : GoodIn wsL_law wsL_unseal := goodIn_ca (goodIn_r _ [282, 48, 283, 284, 285, 2, 286, 58, 59, 215, 16, 721, 722, 723, 724, 740, 741, 742, 743, 744, 745, 746, 747] (by decide +kernel) (by decide +kernel)) (goodIn_sub (fun _ h => List.mem_append_left _ (List.mem_append_left _ (List.mem_append_right _ h))) (by decide +kernel))
set_option maxRecDepth 20000 in
theorem gL_law_L_unseal : GoodIn wsL_law (va_wsS RL 144 yL_unseal wsL_unseal) := goodIn_app (goodIn_of _ (by decide +kernel)) ggL_law_L_unseal
set_option maxRecDepth 20000 in
theorem ggL_law_X3_unseal : GoodIn wsL_law wsX3_unseal := goodIn_r _ [290, 64, 258, 43, 66, 67, 68, 5, 69, 725, 726, 727, 728, 729, 730, 731, 732, 733, 734, 735, 736] (by decide +kernel) (by decide +kernel)
set_option maxRecDepth 20000 in
theorem gL_law_X3_unseal : GoodIn wsL_law (wsV RL 146 RX3 yX3_unseal wsX3_unseal) := goodIn_app (goodIn_of _ (by decide +kernel)) ggL_law_X3_unseal
set_option maxRecDepth 20000 in
theorem ggL_law_X2_letters : GoodIn wsL_law wsX2_letters := goodIn_r _ [294, 53, 721, 722, 723, 724] (by decide +kernel) (by decide +kernel)
set_option maxRecDepth 20000 in
theorem gL_law_X2_letters : GoodIn wsL_law (wsV RL 147 RX2 yX2_letters wsX2_letters) := goodIn_app (goodIn_of _ (by decide +kernel)) ggL_law_X2_letters
set_option maxRecDepth 20000 in
theorem ggL_law_X3_letters : GoodIn wsL_law wsX3_letters := goodIn_r _ [298, 65, 299, 300, 301, 5, 302, 64, 725, 726, 727, 728, 729, 730, 731, 732, 733, 734, 735, 736] (by decide +kernel) (by decide +kernel)
set_option maxRecDepth 20000 in
theorem gL_law_X3_letters : GoodIn wsL_law (wsV RL 150 RX3 yX3_letters wsX3_letters) := goodIn_app (goodIn_of _ (by decide +kernel)) ggL_law_X3_letters
set_option maxRecDepth 20000 in
theorem ggL_law_L_signsOf : GoodIn wsL_law wsL_signsOf := goodIn_ca (goodIn_r _ [305, 77, 306, 307, 308, 2, 309, 82, 83, 84, 85, 86, 87, 53, 14, 737, 738, 739, 721, 722, 723, 724] (by decide +kernel) (by decide +kernel)) (goodIn_sub (fun _ h => List.mem_append_left _ (List.mem_append_right _ h)) (by decide +kernel))
set_option maxRecDepth 20000 in
theorem gL_law_L_signsOf : GoodIn wsL_law (va_wsS RL 151 yL_signsOf wsL_signsOf) := goodIn_app (goodIn_of _ (by decide +kernel)) ggL_law_L_signsOf
set_option maxRecDepth 20000 in
theorem ggL_law_X3_signsOf : GoodIn wsL_law wsX3_signsOf := goodIn_r _ [313, 64, 35, 101, 102, 103, 5, 104, 65, 105, 106, 107, 66, 67, 68, 69, 725, 726, 727, 728, 729, 730, 731, 732, 733, 734, 735, 736] (by decide +kernel) (by decide +kernel)
set_option maxRecDepth 20000 in
theorem gL_law_X3_signsOf : GoodIn wsL_law (wsV RL 153 RX3 yX3_signsOf wsX3_signsOf) := goodIn_app (goodIn_of _ (by decide +kernel)) ggL_law_X3_signsOf
set_option maxRecDepth 20000 in
theorem ggL_law_L_commasOf : GoodIn wsL_law wsL_commasOf := goodIn_ca (goodIn_r _ [316, 77, 317, 318, 319, 2, 320, 82, 83, 84, 85, 86, 87, 53, 14, 196, 197, 198, 18, 199, 92, 25, 721, 722, 723, 724, 737, 738, 739] (by decide +kernel) (by decide +kernel)) (goodIn_sub (fun _ h => List.mem_append_left _ (List.mem_append_right _ h)) (by decide +kernel))
set_option maxRecDepth 20000 in
theorem gL_law_L_commasOf : GoodIn wsL_law (va_wsS RL 154 yL_commasOf wsL_commasOf) := goodIn_app (goodIn_of _ (by decide +kernel)) ggL_law_L_commasOf
set_option maxRecDepth 20000 in
theorem ggL_law_X3_commasOf : GoodIn wsL_law wsX3_commasOf := goodIn_r _ [324, 64, 101, 102, 103, 5, 104, 65, 105, 106, 107, 204, 205, 206, 207, 35, 147, 148, 149, 150, 36, 66, 67, 68, 69, 725, 726, 727, 728, 729, 730, 731, 732, 733, 734, 735, 736] (by decide +kernel) (by decide +kernel)
set_option maxRecDepth 20000 in
theorem gL_law_X3_commasOf : GoodIn wsL_law (wsV RL 156 RX3 yX3_commasOf wsX3_commasOf) := goodIn_app (goodIn_of _ (by decide +kernel)) ggL_law_X3_commasOf
set_option maxRecDepth 20000 in
theorem ggL_law_L_tearsOf : GoodIn wsL_law wsL_tearsOf := goodIn_ca (goodIn_r _ [327, 77, 328, 329, 330, 2, 331, 82, 83, 84, 85, 86, 87, 53, 14, 196, 197, 198, 18, 199, 92, 25, 721, 722, 723, 724, 737, 738, 739] (by decide +kernel) (by decide +kernel)) (goodIn_sub (fun _ h => List.mem_append_left _ (List.mem_append_right _ h)) (by decide +kernel))
set_option maxRecDepth 20000 in
theorem gL_law_L_tearsOf : GoodIn wsL_law (va_wsS RL 157 yL_tearsOf wsL_tearsOf) := goodIn_app (goodIn_of _ (by decide +kernel)) ggL_law_L_tearsOf
set_option maxRecDepth 20000 in
theorem ggL_law_X3_tearsOf : GoodIn wsL_law wsX3_tearsOf := goodIn_r _ [335, 64, 101, 102, 103, 5, 104, 65, 105, 106, 107, 204, 205, 206, 207, 35, 147, 148, 149, 150, 36, 66, 67, 68, 69, 725, 726, 727, 728, 729, 730, 731, 732, 733, 734, 735, 736] (by decide +kernel) (by decide +kernel)
set_option maxRecDepth 20000 in
theorem gL_law_X3_tearsOf : GoodIn wsL_law (wsV RL 159 RX3 yX3_tearsOf wsX3_tearsOf) := goodIn_app (goodIn_of _ (by decide +kernel)) ggL_law_X3_tearsOf
set_option maxRecDepth 20000 in
theorem ggL_law_L_digestOf : GoodIn wsL_law wsL_digestOf := goodIn_ca (goodIn_r _ [338, 77, 339, 340, 341, 2, 342, 82, 83, 84, 85, 86, 87, 53, 14, 343, 232, 233, 18, 234, 92, 25, 721, 722, 723, 724, 737, 738, 739] (by decide +kernel) (by decide +kernel)) (goodIn_sub (fun _ h => List.mem_append_left _ (List.mem_append_right _ h)) (by decide +kernel))
set_option maxRecDepth 20000 in
theorem gL_law_L_digestOf : GoodIn wsL_law (va_wsS RL 160 yL_digestOf wsL_digestOf) := goodIn_app (goodIn_of _ (by decide +kernel)) ggL_law_L_digestOf
set_option maxRecDepth 20000 in
theorem ggL_law_X3_digestOf : GoodIn wsL_law wsX3_digestOf := goodIn_r _ [347, 64, 101, 102, 103, 5, 104, 65, 105, 106, 107, 259, 260, 261, 262, 263, 264, 265, 266, 35, 147, 148, 149, 150, 36, 66, 67, 68, 69, 725, 726, 727, 728, 729, 730, 731, 732, 733, 734, 735, 736] (by decide +kernel) (by decide +kernel)
set_option maxRecDepth 20000 in
theorem gL_law_X3_digestOf : GoodIn wsL_law (wsV RL 162 RX3 yX3_digestOf wsX3_digestOf) := goodIn_app (goodIn_of _ (by decide +kernel)) ggL_law_X3_digestOf
set_option maxRecDepth 20000 in
theorem ggL_law_L_signAt : GoodIn wsL_law wsL_signAt := goodIn_ca (goodIn_r _ [350, 77, 351, 352, 353, 2, 354, 158, 159, 160, 161, 86, 87, 82, 83, 84, 85, 53, 14, 737, 738, 739, 721, 722, 723, 724] (by decide +kernel) (by decide +kernel)) (goodIn_sub (fun _ h => List.mem_append_left _ (List.mem_append_right _ h)) (by decide +kernel))
set_option maxRecDepth 20000 in
theorem gL_law_L_signAt : GoodIn wsL_law (va_wsS RL 163 yL_signAt wsL_signAt) := goodIn_app (goodIn_of _ (by decide +kernel)) ggL_law_L_signAt
set_option maxRecDepth 20000 in
theorem ggL_law_X3_signAt : GoodIn wsL_law wsX3_signAt := goodIn_r _ [358, 64, 174, 175, 176, 5, 177, 35, 101, 102, 103, 104, 65, 105, 106, 107, 147, 148, 149, 150, 36, 66, 67, 68, 69, 725, 726, 727, 728, 729, 730, 731, 732, 733, 734, 735, 736] (by decide +kernel) (by decide +kernel)
set_option maxRecDepth 20000 in
theorem gL_law_X3_signAt : GoodIn wsL_law (wsV RL 165 RX3 yX3_signAt wsX3_signAt) := goodIn_app (goodIn_of _ (by decide +kernel)) ggL_law_X3_signAt
set_option maxRecDepth 20000 in
theorem ggL_law_L_sumOf : GoodIn wsL_law wsL_sumOf := goodIn_ca (goodIn_ca (goodIn_r _ [361, 77, 111, 362, 363, 364, 2, 365, 119, 120, 82, 83, 84, 85, 86, 87, 53, 14, 366, 367, 368, 18, 369, 25, 737, 738, 739, 721, 722, 723, 724] (by decide +kernel) (by decide +kernel)) (goodIn_sub (fun _ h => List.mem_append_right _ h) (by decide +kernel))) (goodIn_sub (fun _ h => List.mem_append_left _ (List.mem_append_right _ h)) (by decide +kernel))
set_option maxRecDepth 20000 in
theorem gL_law_L_sumOf : GoodIn wsL_law (va_wsS RL 166 yL_sumOf wsL_sumOf) := goodIn_app (goodIn_of _ (by decide +kernel)) ggL_law_L_sumOf
set_option maxRecDepth 20000 in
theorem ggL_law_X3_sumOf : GoodIn wsL_law wsX3_sumOf := goodIn_r _ [373, 64, 35, 101, 102, 103, 5, 104, 65, 105, 106, 107, 66, 67, 68, 69, 374, 375, 376, 377, 147, 148, 149, 150, 36, 725, 726, 727, 728, 729, 730, 731, 732, 733, 734, 735, 736] (by decide +kernel) (by decide +kernel)
set_option maxRecDepth 20000 in
theorem gL_law_X3_sumOf : GoodIn wsL_law (wsV RL 168 RX3 yX3_sumOf wsX3_sumOf) := goodIn_app (goodIn_of _ (by decide +kernel)) ggL_law_X3_sumOf
set_option maxRecDepth 20000 in
theorem ggL_law_L_sameSums : GoodIn wsL_law wsL_sameSums := goodIn_ca (goodIn_ca (goodIn_r _ [380, 77, 111, 381, 382, 383, 2, 384, 82, 83, 84, 85, 86, 87, 53, 14, 385, 386, 387, 119, 120, 388, 389, 390, 18, 391, 26, 392, 393, 394, 395, 92, 396, 367, 368, 369, 25, 721, 722, 723, 724, 737, 738, 739] (by decide +kernel) (by decide +kernel)) (goodIn_sub (fun _ h => List.mem_append_left _ (List.mem_append_right _ h)) (by decide +kernel))) (goodIn_sub (fun _ h => List.mem_append_right _ h) (by decide +kernel))
set_option maxRecDepth 20000 in
theorem gL_law_L_sameSums : GoodIn wsL_law (va_wsS RL 169 yL_sameSums wsL_sameSums) := goodIn_app (goodIn_of _ (by decide +kernel)) ggL_law_L_sameSums
set_option maxRecDepth 20000 in
theorem ggL_law_X3_sameSums : GoodIn wsL_law wsX3_sameSums := goodIn_r _ [400, 401, 402, 403, 5, 404, 64, 101, 102, 103, 104, 65, 105, 106, 107, 66, 67, 68, 69, 405, 406, 407, 408, 35, 374, 375, 376, 377, 147, 148, 149, 150, 36, 409, 410, 411, 412, 725, 726, 727, 728, 729, 730, 731, 732, 733, 734, 735, 736] (by decide +kernel) (by decide +kernel)
set_option maxRecDepth 20000 in
theorem gL_law_X3_sameSums : GoodIn wsL_law (wsV RL 171 RX3 yX3_sameSums wsX3_sameSums) := goodIn_app (goodIn_of _ (by decide +kernel)) ggL_law_X3_sameSums
set_option maxRecDepth 20000 in
theorem ggL_law_L_falseAlarms : GoodIn wsL_law wsL_falseAlarms := goodIn_ca (goodIn_ca (goodIn_r _ [415, 77, 111, 416, 417, 418, 2, 419, 82, 83, 84, 85, 86, 87, 53, 14, 385, 386, 387, 119, 120, 420, 421, 422, 18, 423, 26, 392, 393, 394, 395, 92, 396, 367, 368, 369, 25, 424, 425, 426, 427, 721, 722, 723, 724, 737, 738, 739] (by decide +kernel) (by decide +kernel)) (goodIn_sub (fun _ h => List.mem_append_left _ (List.mem_append_right _ h)) (by decide +kernel))) (goodIn_sub (fun _ h => List.mem_append_right _ h) (by decide +kernel))
set_option maxRecDepth 20000 in
theorem gL_law_L_falseAlarms : GoodIn wsL_law (va_wsS RL 172 yL_falseAlarms wsL_falseAlarms) := goodIn_app (goodIn_of _ (by decide +kernel)) ggL_law_L_falseAlarms
set_option maxRecDepth 20000 in
theorem ggL_law_X3_falseAlarms : GoodIn wsL_law wsX3_falseAlarms := goodIn_r _ [431, 401, 402, 403, 5, 404, 64, 101, 102, 103, 104, 65, 105, 106, 107, 66, 67, 68, 69, 405, 406, 407, 408, 35, 374, 375, 376, 377, 147, 148, 149, 150, 36, 409, 410, 411, 412, 725, 726, 727, 728, 729, 730, 731, 732, 733, 734, 735, 736] (by decide +kernel) (by decide +kernel)
set_option maxRecDepth 20000 in
theorem gL_law_X3_falseAlarms : GoodIn wsL_law (wsV RL 174 RX3 yX3_falseAlarms wsX3_falseAlarms) := goodIn_app (goodIn_of _ (by decide +kernel)) ggL_law_X3_falseAlarms
set_option maxRecDepth 20000 in
theorem ggL_law_L_firstOf : GoodIn wsL_law wsL_firstOf := goodIn_ca (goodIn_ca (goodIn_r _ [434, 77, 48, 435, 436, 437, 2, 438, 82, 83, 84, 85, 86, 87, 53, 14, 136, 137, 138, 58, 59, 439, 440, 441, 18, 442, 92, 424, 425, 426, 427, 25, 721, 722, 723, 724, 737, 738, 739] (by decide +kernel) (by decide +kernel)) (goodIn_sub (fun _ h => List.mem_append_left _ (List.mem_append_right _ h)) (by decide +kernel))) (goodIn_sub (fun _ h => List.mem_append_left _ (List.mem_append_left _ (List.mem_append_right _ h))) (by decide +kernel))
set_option maxRecDepth 20000 in
theorem gL_law_L_firstOf : GoodIn wsL_law (va_wsS RL 175 yL_firstOf wsL_firstOf) := goodIn_app (goodIn_of _ (by decide +kernel)) ggL_law_L_firstOf
set_option maxRecDepth 20000 in
theorem ggL_law_X3_firstOf : GoodIn wsL_law wsX3_firstOf := goodIn_r _ [446, 64, 35, 101, 102, 103, 5, 104, 65, 105, 106, 107, 66, 67, 68, 69, 447, 448, 449, 450, 451, 452, 453, 454, 147, 148, 149, 150, 36, 725, 726, 727, 728, 729, 730, 731, 732, 733, 734, 735, 736] (by decide +kernel) (by decide +kernel)
set_option maxRecDepth 20000 in
theorem gL_law_X3_firstOf : GoodIn wsL_law (wsV RL 177 RX3 yX3_firstOf wsX3_firstOf) := goodIn_app (goodIn_of _ (by decide +kernel)) ggL_law_X3_firstOf
set_option maxRecDepth 20000 in
theorem ggL_law_X2_doubles : GoodIn wsL_law wsX2_doubles := goodIn_r _ [458, 53, 14, 343, 232, 233, 18, 234, 92, 25, 459, 460, 461, 462, 424, 425, 426, 427, 721, 722, 723, 724, 737, 738, 739] (by decide +kernel) (by decide +kernel)
set_option maxRecDepth 20000 in
theorem gL_law_X2_doubles : GoodIn wsL_law (wsV RL 178 RX2 yX2_doubles wsX2_doubles) := goodIn_app (goodIn_of _ (by decide +kernel)) ggL_law_X2_doubles
set_option maxRecDepth 20000 in
theorem ggL_law_X3_doubles : GoodIn wsL_law wsX3_doubles := goodIn_r _ [466, 467, 468, 469, 5, 470, 65, 35, 259, 260, 261, 262, 263, 264, 265, 266, 147, 148, 149, 150, 36, 451, 452, 453, 454, 299, 300, 301, 302, 64, 725, 726, 727, 728, 729, 730, 731, 732, 733, 734, 735, 736] (by decide +kernel) (by decide +kernel)
set_option maxRecDepth 20000 in
theorem gL_law_X3_doubles : GoodIn wsL_law (wsV RL 181 RX3 yX3_doubles wsX3_doubles) := goodIn_app (goodIn_of _ (by decide +kernel)) ggL_law_X3_doubles
set_option maxRecDepth 20000 in
theorem ggL_law_X2_envelopes : GoodIn wsL_law wsX2_envelopes := goodIn_r _ [474, 215, 721, 722, 723, 724] (by decide +kernel) (by decide +kernel)
set_option maxRecDepth 20000 in
theorem gL_law_X2_envelopes : GoodIn wsL_law (wsV RL 182 RX2 yX2_envelopes wsX2_envelopes) := goodIn_app (goodIn_of _ (by decide +kernel)) ggL_law_X2_envelopes
set_option maxRecDepth 20000 in
theorem ggL_law_X3_envelopes : GoodIn wsL_law wsX3_envelopes := goodIn_r _ [478, 258, 299, 300, 301, 5, 302, 64, 725, 726, 727, 728, 729, 730, 731, 732, 733, 734, 735, 736] (by decide +kernel) (by decide +kernel)
set_option maxRecDepth 20000 in
theorem gL_law_X3_envelopes : GoodIn wsL_law (wsV RL 185 RX3 yX3_envelopes wsX3_envelopes) := goodIn_app (goodIn_of _ (by decide +kernel)) ggL_law_X3_envelopes
set_option maxRecDepth 20000 in
theorem ggL_law_L_letterIn : GoodIn wsL_law wsL_letterIn := goodIn_ca (goodIn_r _ [481, 77, 482, 483, 484, 2, 485, 486, 487, 488, 489, 86, 87, 215, 16, 740, 741, 742, 743, 744, 745, 746, 747, 721, 722, 723, 724] (by decide +kernel) (by decide +kernel)) (goodIn_sub (fun _ h => List.mem_append_left _ (List.mem_append_right _ h)) (by decide +kernel))
set_option maxRecDepth 20000 in
theorem gL_law_L_letterIn : GoodIn wsL_law (va_wsS RL 186 yL_letterIn wsL_letterIn) := goodIn_app (goodIn_of _ (by decide +kernel)) ggL_law_L_letterIn
set_option maxRecDepth 20000 in
theorem ggL_law_X3_letterIn : GoodIn wsL_law wsX3_letterIn := goodIn_r _ [493, 37, 494, 495, 496, 5, 497, 64, 498, 499, 500, 501, 258, 105, 106, 107, 66, 67, 68, 69, 725, 726, 727, 728, 729, 730, 731, 732, 733, 734, 735, 736] (by decide +kernel) (by decide +kernel)
set_option maxRecDepth 20000 in
theorem gL_law_X3_letterIn : GoodIn wsL_law (wsV RL 188 RX3 yX3_letterIn wsX3_letterIn) := goodIn_app (goodIn_of _ (by decide +kernel)) ggL_law_X3_letterIn
set_option maxRecDepth 20000 in
theorem ggL_law_L_digestIn : GoodIn wsL_law wsL_digestIn := goodIn_ca (goodIn_r _ [504, 77, 505, 506, 507, 2, 508, 486, 487, 488, 489, 86, 87, 215, 16, 740, 741, 742, 743, 744, 745, 746, 747, 721, 722, 723, 724] (by decide +kernel) (by decide +kernel)) (goodIn_sub (fun _ h => List.mem_append_left _ (List.mem_append_right _ h)) (by decide +kernel))
set_option maxRecDepth 20000 in
theorem gL_law_L_digestIn : GoodIn wsL_law (va_wsS RL 189 yL_digestIn wsL_digestIn) := goodIn_app (goodIn_of _ (by decide +kernel)) ggL_law_L_digestIn
set_option maxRecDepth 20000 in
theorem ggL_law_X3_digestIn : GoodIn wsL_law wsX3_digestIn := goodIn_r _ [512, 38, 494, 495, 496, 5, 497, 64, 498, 499, 500, 501, 258, 105, 106, 107, 66, 67, 68, 69, 725, 726, 727, 728, 729, 730, 731, 732, 733, 734, 735, 736] (by decide +kernel) (by decide +kernel)
set_option maxRecDepth 20000 in
theorem gL_law_X3_digestIn : GoodIn wsL_law (wsV RL 191 RX3 yX3_digestIn wsX3_digestIn) := goodIn_app (goodIn_of _ (by decide +kernel)) ggL_law_X3_digestIn
set_option maxRecDepth 20000 in
theorem ggL_law_L_sealOf : GoodIn wsL_law wsL_sealOf := goodIn_ca (goodIn_r _ [515, 77, 516, 517, 518, 2, 519, 486, 487, 488, 489, 86, 87, 215, 16, 740, 741, 742, 743, 744, 745, 746, 747, 721, 722, 723, 724] (by decide +kernel) (by decide +kernel)) (goodIn_sub (fun _ h => List.mem_append_left _ (List.mem_append_right _ h)) (by decide +kernel))
set_option maxRecDepth 20000 in
theorem gL_law_L_sealOf : GoodIn wsL_law (va_wsS RL 192 yL_sealOf wsL_sealOf) := goodIn_app (goodIn_of _ (by decide +kernel)) ggL_law_L_sealOf
set_option maxRecDepth 20000 in
theorem ggL_law_X3_sealOf : GoodIn wsL_law wsX3_sealOf := goodIn_r _ [523, 43, 494, 495, 496, 5, 497, 64, 498, 499, 500, 501, 258, 105, 106, 107, 66, 67, 68, 69, 725, 726, 727, 728, 729, 730, 731, 732, 733, 734, 735, 736] (by decide +kernel) (by decide +kernel)
set_option maxRecDepth 20000 in
theorem gL_law_X3_sealOf : GoodIn wsL_law (wsV RL 194 RX3 yX3_sealOf wsX3_sealOf) := goodIn_app (goodIn_of _ (by decide +kernel)) ggL_law_X3_sealOf
set_option maxRecDepth 20000 in
theorem ggL_law_L_isWhole : GoodIn wsL_law wsL_isWhole := goodIn_ca (goodIn_r _ [526, 77, 527, 528, 529, 2, 530, 14, 486, 487, 488, 489, 86, 87, 215, 16, 531, 532, 533, 20, 534, 225, 231, 232, 233, 18, 234, 92, 25, 721, 722, 723, 724, 740, 741, 742, 743, 744, 745, 746, 747, 737, 738, 739] (by decide +kernel) (by decide +kernel)) (goodIn_sub (fun _ h => List.mem_append_left _ (List.mem_append_right _ h)) (by decide +kernel))
set_option maxRecDepth 20000 in
theorem gL_law_L_isWhole : GoodIn wsL_law (va_wsS RL 195 yL_isWhole wsL_isWhole) := goodIn_app (goodIn_of _ (by decide +kernel)) ggL_law_L_isWhole
set_option maxRecDepth 20000 in
theorem ggL_law_X3_isWhole : GoodIn wsL_law wsX3_isWhole := goodIn_r _ [538, 64, 498, 499, 500, 5, 501, 258, 105, 106, 107, 539, 540, 541, 542, 37, 38, 259, 260, 261, 262, 263, 264, 265, 266, 35, 147, 148, 149, 150, 36, 725, 726, 727, 728, 729, 730, 731, 732, 733, 734, 735, 736] (by decide +kernel) (by decide +kernel)
set_option maxRecDepth 20000 in
theorem gL_law_X3_isWhole : GoodIn wsL_law (wsV RL 197 RX3 yX3_isWhole wsX3_isWhole) := goodIn_app (goodIn_of _ (by decide +kernel)) ggL_law_X3_isWhole
set_option maxRecDepth 20000 in
theorem ggL_law_X2_firstBroken : GoodIn wsL_law wsX2_firstBroken := goodIn_r _ [546, 215, 16, 14, 531, 532, 533, 20, 534, 225, 231, 232, 233, 18, 234, 92, 25, 721, 722, 723, 724, 740, 741, 742, 743, 744, 745, 746, 747, 737, 738, 739] (by decide +kernel) (by decide +kernel)
set_option maxRecDepth 20000 in
theorem gL_law_X2_firstBroken : GoodIn wsL_law (wsV RL 198 RX2 yX2_firstBroken wsX2_firstBroken) := goodIn_app (goodIn_of _ (by decide +kernel)) ggL_law_X2_firstBroken
set_option maxRecDepth 20000 in
theorem ggL_law_X3_firstBroken : GoodIn wsL_law wsX3_firstBroken := goodIn_r _ [550, 551, 552, 553, 5, 554, 258, 539, 540, 541, 542, 37, 38, 259, 260, 261, 262, 263, 264, 265, 266, 35, 147, 148, 149, 150, 36, 299, 300, 301, 302, 64, 725, 726, 727, 728, 729, 730, 731, 732, 733, 734, 735, 736] (by decide +kernel) (by decide +kernel)
set_option maxRecDepth 20000 in
theorem gL_law_X3_firstBroken : GoodIn wsL_law (wsV RL 201 RX3 yX3_firstBroken wsX3_firstBroken) := goodIn_app (goodIn_of _ (by decide +kernel)) ggL_law_X3_firstBroken
set_option maxRecDepth 20000 in
theorem ggL_law_L_tornBlocks : GoodIn wsL_law wsL_tornBlocks := goodIn_ca (goodIn_r _ [557, 77, 558, 559, 560, 2, 561, 14, 486, 487, 488, 489, 86, 87, 215, 16, 562, 563, 564, 20, 565, 566, 567, 568, 569, 227, 30, 235, 236, 237, 18, 238, 92, 239, 240, 241, 242, 25, 721, 722, 723, 724, 740, 741, 742, 743, 744, 745, 746, 747, 737, 738, 739] (by decide +kernel) (by decide +kernel)) (goodIn_sub (fun _ h => List.mem_append_left _ (List.mem_append_right _ h)) (by decide +kernel))
set_option maxRecDepth 20000 in
theorem gL_law_L_tornBlocks : GoodIn wsL_law (va_wsS RL 202 yL_tornBlocks wsL_tornBlocks) := goodIn_app (goodIn_of _ (by decide +kernel)) ggL_law_L_tornBlocks
set_option maxRecDepth 20000 in
theorem ggL_law_X3_tornBlocks : GoodIn wsL_law wsX3_tornBlocks := goodIn_r _ [573, 64, 498, 499, 500, 5, 501, 258, 105, 106, 107, 574, 575, 576, 577, 578, 579, 580, 581, 39, 35, 37, 40, 582, 583, 584, 267, 268, 269, 270, 147, 148, 149, 150, 36, 66, 67, 68, 69, 725, 726, 727, 728, 729, 730, 731, 732, 733, 734, 735, 736] (by decide +kernel) (by decide +kernel)
set_option maxRecDepth 20000 in
theorem gL_law_X3_tornBlocks : GoodIn wsL_law (wsV RL 204 RX3 yX3_tornBlocks wsX3_tornBlocks) := goodIn_app (goodIn_of _ (by decide +kernel)) ggL_law_X3_tornBlocks
set_option maxRecDepth 20000 in
theorem ggL_law_L_firstTorn : GoodIn wsL_law wsL_firstTorn := goodIn_ca (goodIn_r _ [587, 77, 588, 589, 590, 2, 591, 14, 486, 487, 488, 489, 86, 87, 215, 16, 592, 593, 594, 20, 595, 566, 567, 568, 569, 227, 30, 235, 236, 237, 18, 238, 92, 239, 240, 241, 242, 25, 721, 722, 723, 724, 740, 741, 742, 743, 744, 745, 746, 747, 737, 738, 739] (by decide +kernel) (by decide +kernel)) (goodIn_sub (fun _ h => List.mem_append_left _ (List.mem_append_right _ h)) (by decide +kernel))
set_option maxRecDepth 20000 in
theorem gL_law_L_firstTorn : GoodIn wsL_law (va_wsS RL 205 yL_firstTorn wsL_firstTorn) := goodIn_app (goodIn_of _ (by decide +kernel)) ggL_law_L_firstTorn
set_option maxRecDepth 20000 in
theorem ggL_law_X3_firstTorn : GoodIn wsL_law wsX3_firstTorn := goodIn_r _ [599, 64, 498, 499, 500, 5, 501, 258, 105, 106, 107, 574, 575, 576, 577, 578, 579, 580, 581, 39, 35, 37, 40, 582, 583, 584, 267, 268, 269, 270, 147, 148, 149, 150, 36, 66, 67, 68, 69, 725, 726, 727, 728, 729, 730, 731, 732, 733, 734, 735, 736] (by decide +kernel) (by decide +kernel)
set_option maxRecDepth 20000 in
theorem gL_law_X3_firstTorn : GoodIn wsL_law (wsV RL 207 RX3 yX3_firstTorn wsX3_firstTorn) := goodIn_app (goodIn_of _ (by decide +kernel)) ggL_law_X3_firstTorn
set_option maxRecDepth 20000 in
theorem ggL_law_L_changedPlace : GoodIn wsL_law wsL_changedPlace := goodIn_ca (goodIn_r _ [602, 77, 603, 604, 605, 2, 606, 14, 486, 487, 488, 489, 86, 87, 215, 16, 607, 608, 609, 20, 610, 226, 229, 611, 612, 613, 614, 228, 243, 244, 245, 18, 246, 92, 25, 615, 532, 533, 534, 225, 231, 232, 233, 234, 247, 248, 249, 250, 721, 722, 723, 724, 740, 741, 742, 743, 744, 745, 746, 747, 737, 738, 739] (by decide +kernel) (by decide +kernel)) (goodIn_sub (fun _ h => List.mem_append_left _ (List.mem_append_right _ h)) (by decide +kernel))
set_option maxRecDepth 20000 in
theorem gL_law_L_changedPlace : GoodIn wsL_law (va_wsS RL 208 yL_changedPlace wsL_changedPlace) := goodIn_app (goodIn_of _ (by decide +kernel)) ggL_law_L_changedPlace
set_option maxRecDepth 20000 in
theorem ggL_law_X3_changedPlace : GoodIn wsL_law wsX3_changedPlace := goodIn_r _ [619, 64, 498, 499, 500, 5, 501, 258, 105, 106, 107, 620, 621, 622, 623, 37, 41, 42, 39, 35, 271, 272, 273, 274, 147, 148, 149, 150, 36, 539, 540, 541, 542, 38, 259, 260, 261, 262, 263, 264, 265, 266, 174, 175, 176, 177, 101, 102, 103, 104, 65, 66, 67, 68, 69, 725, 726, 727, 728, 729, 730, 731, 732, 733, 734, 735, 736] (by decide +kernel) (by decide +kernel)
set_option maxRecDepth 20000 in
theorem gL_law_X3_changedPlace : GoodIn wsL_law (wsV RL 210 RX3 yX3_changedPlace wsX3_changedPlace) := goodIn_app (goodIn_of _ (by decide +kernel)) ggL_law_X3_changedPlace
set_option maxRecDepth 20000 in
theorem ggL_law_L_changedSign : GoodIn wsL_law wsL_changedSign := goodIn_ca (goodIn_ca (goodIn_r _ [626, 77, 48, 627, 628, 629, 2, 630, 58, 59, 14, 486, 487, 488, 489, 86, 87, 215, 16, 607, 608, 609, 20, 610, 226, 229, 611, 612, 613, 614, 228, 243, 244, 245, 18, 246, 92, 25, 615, 532, 533, 534, 225, 231, 232, 233, 234, 247, 248, 249, 250, 631, 721, 722, 723, 724, 740, 741, 742, 743, 744, 745, 746, 747, 737, 738, 739] (by decide +kernel) (by decide +kernel)) (goodIn_sub (fun _ h => List.mem_append_left _ (List.mem_append_left _ (List.mem_append_right _ h))) (by decide +kernel))) (goodIn_sub (fun _ h => List.mem_append_left _ (List.mem_append_right _ h)) (by decide +kernel))
set_option maxRecDepth 20000 in
theorem gL_law_L_changedSign : GoodIn wsL_law (va_wsS RL 211 yL_changedSign wsL_changedSign) := goodIn_app (goodIn_of _ (by decide +kernel)) ggL_law_L_changedSign
set_option maxRecDepth 20000 in
theorem ggL_law_X3_changedSign : GoodIn wsL_law wsX3_changedSign := goodIn_r _ [635, 64, 37, 41, 498, 499, 500, 5, 501, 258, 105, 106, 107, 66, 67, 68, 69, 620, 621, 622, 623, 42, 39, 35, 271, 272, 273, 274, 147, 148, 149, 150, 36, 539, 540, 541, 542, 38, 259, 260, 261, 262, 263, 264, 265, 266, 174, 175, 176, 177, 101, 102, 103, 104, 65, 725, 726, 727, 728, 729, 730, 731, 732, 733, 734, 735, 736] (by decide +kernel) (by decide +kernel)
set_option maxRecDepth 20000 in
theorem gL_law_X3_changedSign : GoodIn wsL_law (wsV RL 213 RX3 yX3_changedSign wsX3_changedSign) := goodIn_app (goodIn_of _ (by decide +kernel)) ggL_law_X3_changedSign
set_option maxRecDepth 20000 in
theorem ggL_law_L_wouldSeal : GoodIn wsL_law wsL_wouldSeal := goodIn_ca (goodIn_ca (goodIn_r _ [638, 77, 48, 639, 640, 641, 2, 642, 82, 83, 84, 85, 86, 87, 53, 14, 136, 137, 138, 58, 59, 216, 217, 218, 219, 215, 16, 343, 232, 233, 18, 234, 92, 25, 643, 251, 252, 253, 721, 722, 723, 724, 737, 738, 739, 740, 741, 742, 743, 744, 745, 746, 747] (by decide +kernel) (by decide +kernel)) (goodIn_sub (fun _ h => List.mem_append_left _ (List.mem_append_right _ h)) (by decide +kernel))) (goodIn_sub (fun _ h => List.mem_append_left _ (List.mem_append_left _ (List.mem_append_right _ h))) (by decide +kernel))
set_option maxRecDepth 20000 in
theorem gL_law_L_wouldSeal : GoodIn wsL_law (va_wsS RL 214 yL_wouldSeal wsL_wouldSeal) := goodIn_app (goodIn_of _ (by decide +kernel)) ggL_law_L_wouldSeal
set_option maxRecDepth 20000 in
theorem ggL_law_X3_wouldSeal : GoodIn wsL_law wsX3_wouldSeal := goodIn_r _ [647, 64, 35, 101, 102, 103, 5, 104, 65, 105, 106, 107, 66, 67, 68, 69, 259, 260, 261, 262, 263, 264, 265, 266, 147, 148, 149, 150, 36, 275, 276, 277, 278, 258, 43, 279, 725, 726, 727, 728, 729, 730, 731, 732, 733, 734, 735, 736] (by decide +kernel) (by decide +kernel)
set_option maxRecDepth 20000 in
theorem gL_law_X3_wouldSeal : GoodIn wsL_law (wsV RL 216 RX3 yX3_wouldSeal wsX3_wouldSeal) := goodIn_app (goodIn_of _ (by decide +kernel)) ggL_law_X3_wouldSeal
set_option maxRecDepth 20000 in
theorem ggL_law_L_unnoticed : GoodIn wsL_law wsL_unnoticed := goodIn_ca (goodIn_r _ [650, 77, 651, 652, 653, 2, 654, 82, 83, 84, 85, 86, 87, 53, 14, 655, 656, 657, 18, 658, 92, 25, 721, 722, 723, 724, 737, 738, 739] (by decide +kernel) (by decide +kernel)) (goodIn_sub (fun _ h => List.mem_append_left _ (List.mem_append_right _ h)) (by decide +kernel))
set_option maxRecDepth 20000 in
theorem gL_law_L_unnoticed : GoodIn wsL_law (va_wsS RL 217 yL_unnoticed wsL_unnoticed) := goodIn_app (goodIn_of _ (by decide +kernel)) ggL_law_L_unnoticed
set_option maxRecDepth 20000 in
theorem ggL_law_X3_unnoticed : GoodIn wsL_law wsX3_unnoticed := goodIn_r _ [662, 64, 101, 102, 103, 5, 104, 65, 105, 106, 107, 663, 664, 665, 666, 35, 147, 148, 149, 150, 36, 66, 67, 68, 69, 725, 726, 727, 728, 729, 730, 731, 732, 733, 734, 735, 736] (by decide +kernel) (by decide +kernel)
set_option maxRecDepth 20000 in
theorem gL_law_X3_unnoticed : GoodIn wsL_law (wsV RL 219 RX3 yX3_unnoticed wsX3_unnoticed) := goodIn_app (goodIn_of _ (by decide +kernel)) ggL_law_X3_unnoticed
set_option maxRecDepth 20000 in
theorem ggL_law_L_worstTear : GoodIn wsL_law wsL_worstTear := goodIn_ca (goodIn_r _ [669, 77, 670, 671, 672, 2, 673, 82, 83, 84, 85, 86, 87, 53, 14, 674, 675, 676, 18, 677, 92, 25, 678, 679, 680, 681, 682, 232, 233, 234, 721, 722, 723, 724, 737, 738, 739] (by decide +kernel) (by decide +kernel)) (goodIn_sub (fun _ h => List.mem_append_left _ (List.mem_append_right _ h)) (by decide +kernel))
set_option maxRecDepth 20000 in
theorem gL_law_L_worstTear : GoodIn wsL_law (va_wsS RL 220 yL_worstTear wsL_worstTear) := goodIn_app (goodIn_of _ (by decide +kernel)) ggL_law_L_worstTear
set_option maxRecDepth 20000 in
theorem ggL_law_X3_worstTear : GoodIn wsL_law wsX3_worstTear := goodIn_r _ [686, 64, 101, 102, 103, 5, 104, 65, 105, 106, 107, 687, 688, 689, 690, 35, 691, 679, 680, 681, 147, 148, 149, 150, 36, 263, 264, 265, 266, 259, 260, 261, 262, 66, 67, 68, 69, 725, 726, 727, 728, 729, 730, 731, 732, 733, 734, 735, 736] (by decide +kernel) (by decide +kernel)
set_option maxRecDepth 20000 in
theorem gL_law_X3_worstTear : GoodIn wsL_law (wsV RL 222 RX3 yX3_worstTear wsX3_worstTear) := goodIn_app (goodIn_of _ (by decide +kernel)) ggL_law_X3_worstTear
set_option maxRecDepth 20000 in
theorem ggL_law_X2_meanSigns : GoodIn wsL_law wsX2_meanSigns := goodIn_r _ [695, 53, 14, 721, 722, 723, 724, 737, 738, 739] (by decide +kernel) (by decide +kernel)
set_option maxRecDepth 20000 in
theorem gL_law_X2_meanSigns : GoodIn wsL_law (wsV RL 223 RX2 yX2_meanSigns wsX2_meanSigns) := goodIn_app (goodIn_of _ (by decide +kernel)) ggL_law_X2_meanSigns
set_option maxRecDepth 20000 in
theorem ggL_law_X3_meanSigns : GoodIn wsL_law wsX3_meanSigns := goodIn_r _ [699, 64, 65, 35, 725, 726, 727, 728, 729, 730, 731, 732, 733, 734, 735, 736] (by decide +kernel) (by decide +kernel)
set_option maxRecDepth 20000 in
theorem gL_law_X3_meanSigns : GoodIn wsL_law (wsV RL 227 RX3 yX3_meanSigns wsX3_meanSigns) := goodIn_app (goodIn_of _ (by decide +kernel)) ggL_law_X3_meanSigns
set_option maxRecDepth 20000 in
theorem ggL_law_X2_digest : GoodIn wsL_law wsX2_digest := goodIn_r _ [703, 704, 705, 53, 215, 14, 16, 706, 456, 457, 2, 458, 343, 232, 233, 18, 234, 92, 25, 459, 460, 461, 462, 424, 425, 426, 427, 707, 544, 545, 546, 531, 532, 533, 20, 534, 225, 231, 708, 709, 710, 196, 197, 198, 199, 388, 389, 390, 391, 26, 392, 393, 394, 395, 396, 367, 368, 369, 420, 421, 422, 423, 655, 656, 657, 658, 674, 675, 676, 677, 678, 679, 680, 681, 682, 711, 712, 713, 714, 562, 563, 564, 565, 566, 567, 568, 569, 227, 30, 235, 236, 237, 238, 239, 240, 241, 242, 592, 593, 594, 595, 607, 608, 609, 610, 226, 229, 611, 612, 613, 614, 228, 243, 244, 245, 246, 615, 247, 248, 249, 250, 721, 722, 723, 724, 737, 738, 739, 740, 741, 742, 743, 744, 745, 746, 747] (by decide +kernel) (by decide +kernel)
set_option maxRecDepth 20000 in
theorem gL_law_X2_digest : GoodIn wsL_law (wsV RL 228 RX2 yX2_digest wsX2_digest) := goodIn_app (goodIn_of _ (by decide +kernel)) ggL_law_X2_digest
set_option maxRecDepth 20000 in
theorem ggL_law_X3_digest : GoodIn wsL_law wsX3_digest := goodIn_r _ [718, 64, 719, 65, 720, 258, 24, 35, 37, 38, 43, 467, 468, 469, 5, 470, 259, 260, 261, 262, 263, 264, 265, 266, 147, 148, 149, 150, 36, 451, 452, 453, 454, 551, 552, 553, 554, 539, 540, 541, 542, 204, 205, 206, 207, 405, 406, 407, 408, 374, 375, 376, 377, 409, 410, 411, 412, 663, 664, 665, 666, 687, 688, 689, 690, 691, 679, 680, 681, 574, 575, 576, 577, 578, 579, 580, 581, 39, 40, 582, 583, 584, 267, 268, 269, 270, 620, 621, 622, 623, 41, 42, 271, 272, 273, 274, 174, 175, 176, 177, 101, 102, 103, 104, 105, 106, 107, 725, 726, 727, 728, 729, 730, 731, 732, 733, 734, 735, 736] (by decide +kernel) (by decide +kernel)
set_option maxRecDepth 20000 in
theorem gL_law_X3_digest : GoodIn wsL_law (wsV RL 232 RX3 yX3_digest wsX3_digest) := goodIn_app (goodIn_of _ (by decide +kernel)) ggL_law_X3_digest
