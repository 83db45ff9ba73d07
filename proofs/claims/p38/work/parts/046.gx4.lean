set_option maxRecDepth 20000 in
theorem ggX4_seal_X3_init : GoodIn wsX4_seal wsX3_init := goodIn_r _ [11, 12, 13, 14] (by decide +kernel) (by decide +kernel)
set_option maxRecDepth 20000 in
theorem gX4_seal_X3_init_n33 : GoodIn wsX4_seal (wsX3_init) := ggX4_seal_X3_init
set_option maxRecDepth 20000 in
theorem ggX4_seal_X4_digest : GoodIn wsX4_seal wsX4_digest := goodIn_r _ [18] (by decide +kernel) (by decide +kernel)
set_option maxRecDepth 20000 in
theorem gX4_seal_X4_digest : GoodIn wsX4_seal (va_wsS RX4 40 yX4_digest wsX4_digest) := goodIn_app (goodIn_of _ (by decide +kernel)) ggX4_seal_X4_digest
set_option maxRecDepth 20000 in
theorem ggX4_seal_X4_nextSeal : GoodIn wsX4_seal wsX4_nextSeal := goodIn_r _ [22, 23, 9, 8, 24, 29, 30, 25, 26, 27, 28] (by decide +kernel) (by decide +kernel)
set_option maxRecDepth 20000 in
theorem gX4_seal_X4_nextSeal : GoodIn wsX4_seal (wsV RX4 46 RX4 yX4_nextSeal wsX4_nextSeal) := goodIn_app (goodIn_of _ (by decide +kernel)) ggX4_seal_X4_nextSeal
set_option maxRecDepth 20000 in
theorem ggX4_isWhole_X4_digest : GoodIn wsX4_isWhole wsX4_digest := goodIn_r _ [7] (by decide +kernel) (by decide +kernel)
set_option maxRecDepth 20000 in
theorem gX4_isWhole_X4_digest : GoodIn wsX4_isWhole (va_wsS RX4 40 yX4_digest wsX4_digest) := goodIn_app (goodIn_of _ (by decide +kernel)) ggX4_isWhole_X4_digest
set_option maxRecDepth 20000 in
theorem ggX4_isSame_X2_signsOf : GoodIn wsX4_isSame wsX2_signsOf := goodIn_ca (goodIn_r _ [10, 11, 12, 13, 9, 14, 15, 16, 17, 18, 112, 113, 114, 115, 116, 117, 118] (by decide +kernel) (by decide +kernel)) (goodIn_sub (fun _ h => List.mem_cons_of_mem _ (List.mem_append_right _ h)) (by decide +kernel))
set_option maxRecDepth 20000 in
theorem gX4_isSame_X2_signsOf : GoodIn wsX4_isSame (wsV RX4 66 RX2 yX2_signsOf wsX2_signsOf) := goodIn_app (goodIn_of _ (by decide +kernel)) ggX4_isSame_X2_signsOf
set_option maxRecDepth 20000 in
theorem ggX4_isSame_X2_commasOf : GoodIn wsX4_isSame wsX2_commasOf := goodIn_ca (goodIn_r _ [22, 11, 12, 13, 9, 14, 15, 16, 17, 18, 23, 24, 25, 26, 27, 28, 29, 115, 116, 117, 118, 112, 113, 114] (by decide +kernel) (by decide +kernel)) (goodIn_sub (fun _ h => List.mem_cons_of_mem _ (List.mem_append_right _ h)) (by decide +kernel))
set_option maxRecDepth 20000 in
theorem gX4_isSame_X2_commasOf : GoodIn wsX4_isSame (wsV RX4 71 RX2 yX2_commasOf wsX2_commasOf) := goodIn_app (goodIn_of _ (by decide +kernel)) ggX4_isSame_X2_commasOf
set_option maxRecDepth 20000 in
theorem ggX4_isSame_X4_count : GoodIn wsX4_isSame wsX4_count := goodIn_r _ [33] (by decide +kernel) (by decide +kernel)
set_option maxRecDepth 20000 in
theorem gX4_isSame_X4_count : GoodIn wsX4_isSame (va_wsS RX4 74 yX4_count wsX4_count) := goodIn_app (goodIn_of _ (by decide +kernel)) ggX4_isSame_X4_count
set_option maxRecDepth 20000 in
theorem ggX4_isSame_X2_tearsOf : GoodIn wsX4_isSame wsX2_tearsOf := goodIn_ca (goodIn_r _ [37, 11, 12, 13, 9, 14, 15, 16, 17, 18, 23, 24, 25, 26, 27, 28, 29, 115, 116, 117, 118, 112, 113, 114] (by decide +kernel) (by decide +kernel)) (goodIn_sub (fun _ h => List.mem_cons_of_mem _ (List.mem_append_right _ h)) (by decide +kernel))
set_option maxRecDepth 20000 in
theorem gX4_isSame_X2_tearsOf : GoodIn wsX4_isSame (wsV RX4 77 RX2 yX2_tearsOf wsX2_tearsOf) := goodIn_app (goodIn_of _ (by decide +kernel)) ggX4_isSame_X2_tearsOf
set_option maxRecDepth 20000 in
theorem ggX4_isSame_X2_digestOf : GoodIn wsX4_isSame wsX2_digestOf := goodIn_ca (goodIn_r _ [41, 11, 12, 13, 9, 14, 15, 16, 17, 18, 42, 43, 44, 26, 45, 28, 29, 115, 116, 117, 118, 112, 113, 114] (by decide +kernel) (by decide +kernel)) (goodIn_sub (fun _ h => List.mem_cons_of_mem _ (List.mem_append_right _ h)) (by decide +kernel))
set_option maxRecDepth 20000 in
theorem gX4_isSame_X2_digestOf : GoodIn wsX4_isSame (wsV RX4 80 RX2 yX2_digestOf wsX2_digestOf) := goodIn_app (goodIn_of _ (by decide +kernel)) ggX4_isSame_X2_digestOf
set_option maxRecDepth 20000 in
theorem ggX4_isSame_X4_digest : GoodIn wsX4_isSame wsX4_digest := goodIn_r _ [48] (by decide +kernel) (by decide +kernel)
set_option maxRecDepth 20000 in
theorem gX4_isSame_X4_digest : GoodIn wsX4_isSame (va_wsS RX4 40 yX4_digest wsX4_digest) := goodIn_app (goodIn_of _ (by decide +kernel)) ggX4_isSame_X4_digest
set_option maxRecDepth 20000 in
theorem ggX4_isSame_X2_signAt : GoodIn wsX4_isSame wsX2_signAt := goodIn_ca (goodIn_r _ [52, 53, 54, 55, 9, 56, 15, 16, 11, 12, 13, 14, 17, 18, 112, 113, 114, 115, 116, 117, 118] (by decide +kernel) (by decide +kernel)) (goodIn_sub (fun _ h => List.mem_cons_of_mem _ (List.mem_append_right _ h)) (by decide +kernel))
set_option maxRecDepth 20000 in
theorem gX4_isSame_X2_signAt : GoodIn wsX4_isSame (wsV RX4 83 RX2 yX2_signAt wsX2_signAt) := goodIn_app (goodIn_of _ (by decide +kernel)) ggX4_isSame_X2_signAt
set_option maxRecDepth 20000 in
theorem ggX4_isSame_X4_isWhole : GoodIn wsX4_isSame wsX4_isWhole := goodIn_r _ [60, 1, 3, 4, 46, 47, 32, 48, 106, 107, 108, 109, 110, 111] (by decide +kernel) (by decide +kernel)
set_option maxRecDepth 20000 in
theorem gX4_isSame_X4_isWhole : GoodIn wsX4_isSame (wsV RX4 58 RX4 yX4_isWhole wsX4_isWhole) := goodIn_app (goodIn_of _ (by decide +kernel)) ggX4_isSame_X4_isWhole
set_option maxRecDepth 20000 in
theorem ggX4_isSame_X2_letterIn : GoodIn wsX4_isSame wsX2_letterIn := goodIn_ca (goodIn_r _ [64, 65, 66, 67, 9, 68, 15, 16, 69, 70, 119, 120, 121, 122, 123, 124, 125, 126, 115, 116, 117, 118] (by decide +kernel) (by decide +kernel)) (goodIn_sub (fun _ h => List.mem_cons_of_mem _ (List.mem_append_right _ h)) (by decide +kernel))
set_option maxRecDepth 20000 in
theorem gX4_isSame_X2_letterIn : GoodIn wsX4_isSame (wsV RX4 87 RX2 yX2_letterIn wsX2_letterIn) := goodIn_app (goodIn_of _ (by decide +kernel)) ggX4_isSame_X2_letterIn
set_option maxRecDepth 20000 in
theorem ggX4_isSame_X2_digestIn : GoodIn wsX4_isSame wsX2_digestIn := goodIn_ca (goodIn_r _ [74, 65, 66, 67, 9, 68, 15, 16, 69, 70, 119, 120, 121, 122, 123, 124, 125, 126, 115, 116, 117, 118] (by decide +kernel) (by decide +kernel)) (goodIn_sub (fun _ h => List.mem_cons_of_mem _ (List.mem_append_right _ h)) (by decide +kernel))
set_option maxRecDepth 20000 in
theorem gX4_isSame_X2_digestIn : GoodIn wsX4_isSame (wsV RX4 90 RX2 yX2_digestIn wsX2_digestIn) := goodIn_app (goodIn_of _ (by decide +kernel)) ggX4_isSame_X2_digestIn
set_option maxRecDepth 20000 in
theorem ggX4_isSame_X2_sealOf : GoodIn wsX4_isSame wsX2_sealOf := goodIn_ca (goodIn_r _ [78, 65, 66, 67, 9, 68, 15, 16, 69, 70, 119, 120, 121, 122, 123, 124, 125, 126, 115, 116, 117, 118] (by decide +kernel) (by decide +kernel)) (goodIn_sub (fun _ h => List.mem_cons_of_mem _ (List.mem_append_right _ h)) (by decide +kernel))
set_option maxRecDepth 20000 in
theorem gX4_isSame_X2_sealOf : GoodIn wsX4_isSame (wsV RX4 93 RX2 yX2_sealOf wsX2_sealOf) := goodIn_app (goodIn_of _ (by decide +kernel)) ggX4_isSame_X2_sealOf
set_option maxRecDepth 20000 in
theorem ggX4_isSame_X2_isWhole : GoodIn wsX4_isSame wsX2_isWhole := goodIn_ca (goodIn_r _ [82, 18, 65, 66, 67, 9, 68, 15, 16, 69, 70, 83, 84, 85, 86, 87, 88, 89, 43, 44, 26, 45, 28, 29, 115, 116, 117, 118, 119, 120, 121, 122, 123, 124, 125, 126, 112, 113, 114] (by decide +kernel) (by decide +kernel)) (goodIn_sub (fun _ h => List.mem_cons_of_mem _ (List.mem_append_right _ h)) (by decide +kernel))
set_option maxRecDepth 20000 in
theorem gX4_isSame_X2_isWhole : GoodIn wsX4_isSame (wsV RX4 96 RX2 yX2_isWhole wsX2_isWhole) := goodIn_app (goodIn_of _ (by decide +kernel)) ggX4_isSame_X2_isWhole
set_option maxRecDepth 20000 in
theorem ggX4_isSame_X2_letters : GoodIn wsX4_isSame wsX2_letters := goodIn_r _ [93, 17, 115, 116, 117, 118] (by decide +kernel) (by decide +kernel)
set_option maxRecDepth 20000 in
theorem gX4_isSame_X2_letters : GoodIn wsX4_isSame (wsV RX4 99 RX2 yX2_letters wsX2_letters) := goodIn_app (goodIn_of _ (by decide +kernel)) ggX4_isSame_X2_letters
set_option maxRecDepth 20000 in
theorem ggX4_isSame_X2_envelopes : GoodIn wsX4_isSame wsX2_envelopes := goodIn_r _ [97, 69, 115, 116, 117, 118] (by decide +kernel) (by decide +kernel)
set_option maxRecDepth 20000 in
theorem gX4_isSame_X2_envelopes : GoodIn wsX4_isSame (wsV RX4 102 RX2 yX2_envelopes wsX2_envelopes) := goodIn_app (goodIn_of _ (by decide +kernel)) ggX4_isSame_X2_envelopes
set_option maxRecDepth 20000 in
theorem ggX4_isSame_X2_firstBroken : GoodIn wsX4_isSame wsX2_firstBroken := goodIn_r _ [101, 69, 70, 18, 83, 84, 85, 86, 87, 88, 89, 43, 44, 26, 45, 28, 29, 115, 116, 117, 118, 119, 120, 121, 122, 123, 124, 125, 126, 112, 113, 114] (by decide +kernel) (by decide +kernel)
set_option maxRecDepth 20000 in
theorem gX4_isSame_X2_firstBroken : GoodIn wsX4_isSame (wsV RX4 104 RX2 yX2_firstBroken wsX2_firstBroken) := goodIn_app (goodIn_of _ (by decide +kernel)) ggX4_isSame_X2_firstBroken
set_option maxRecDepth 20000 in
theorem ggX4_isSame_X2_meanSigns : GoodIn wsX4_isSame wsX2_meanSigns := goodIn_r _ [105, 17, 18, 115, 116, 117, 118, 112, 113, 114] (by decide +kernel) (by decide +kernel)
set_option maxRecDepth 20000 in
theorem gX4_isSame_X2_meanSigns : GoodIn wsX4_isSame (wsV RX4 107 RX2 yX2_meanSigns wsX2_meanSigns) := goodIn_app (goodIn_of _ (by decide +kernel)) ggX4_isSame_X2_meanSigns
set_option maxRecDepth 20000 in
theorem ggL_act_L_below : GoodIn wsL_act wsL_below := goodIn_r _ [12, 13] (by decide +kernel) (by decide +kernel)
set_option maxRecDepth 20000 in
theorem gL_act_L_below : GoodIn wsL_act (va_wsS RL 15 yL_below wsL_below) := goodIn_app (goodIn_of _ (by decide +kernel)) ggL_act_L_below
set_option maxRecDepth 20000 in
theorem ggL_act_X4_add : GoodIn wsL_act wsX4_add := goodIn_r _ [18, 19, 20, 193, 194] (by decide +kernel) (by decide +kernel)
set_option maxRecDepth 20000 in
theorem gL_act_X4_add : GoodIn wsL_act (wsV RL 21 RX4 yX4_add wsX4_add) := goodIn_app (goodIn_of _ (by decide +kernel)) ggL_act_X4_add
set_option maxRecDepth 20000 in
theorem ggL_act_X2_addLetter : GoodIn wsL_act wsX2_addLetter := goodIn_ca (goodIn_r _ [25, 26, 27, 28, 29, 24, 30, 31, 32, 195, 196, 197, 198] (by decide +kernel) (by decide +kernel)) (goodIn_sub (fun _ h => List.mem_cons_of_mem _ (List.mem_append_left _ (List.mem_append_left _ (List.mem_append_right _ h)))) (by decide +kernel))
set_option maxRecDepth 20000 in
theorem gL_act_X2_addLetter : GoodIn wsL_act (wsV RL 25 RX2 yX2_addLetter wsX2_addLetter) := goodIn_app (goodIn_of _ (by decide +kernel)) ggL_act_X2_addLetter
set_option maxRecDepth 20000 in
theorem ggL_act_X2_copyLetter : GoodIn wsL_act wsX2_copyLetter := goodIn_ca (goodIn_ca (goodIn_r _ [36, 37, 26, 38, 39, 40, 24, 41, 42, 43, 27, 28, 29, 30, 31, 32, 44, 45, 46, 47, 48, 49, 50, 195, 196, 197, 198, 199, 200, 201] (by decide +kernel) (by decide +kernel)) (goodIn_sub (fun _ h => List.mem_cons_of_mem _ (List.mem_append_left _ (List.mem_append_right _ h))) (by decide +kernel))) (goodIn_sub (fun _ h => List.mem_cons_of_mem _ (List.mem_append_left _ (List.mem_append_left _ (List.mem_append_right _ h)))) (by decide +kernel))
set_option maxRecDepth 20000 in
theorem gL_act_X2_copyLetter : GoodIn wsL_act (wsV RL 31 RX2 yX2_copyLetter wsX2_copyLetter) := goodIn_app (goodIn_of _ (by decide +kernel)) ggL_act_X2_copyLetter
set_option maxRecDepth 20000 in
theorem ggL_act_X4_with : GoodIn wsL_act wsX4_with := goodIn_r _ [53, 3] (by decide +kernel) (by decide +kernel)
set_option maxRecDepth 20000 in
theorem gL_act_X4_with : GoodIn wsL_act (va_wsS RL 35 yX4_with wsX4_with) := goodIn_app (goodIn_of _ (by decide +kernel)) ggL_act_X4_with
set_option maxRecDepth 20000 in
theorem ggL_act_X2_write : GoodIn wsL_act wsX2_write := goodIn_ca (goodIn_ca (goodIn_ca (goodIn_r _ [57, 31, 32, 38, 39, 40, 24, 41, 42, 43, 26, 37, 58, 59, 60, 61, 62, 63, 64, 65, 47, 66, 50, 49, 199, 200, 201, 195, 196, 197, 198] (by decide +kernel) (by decide +kernel)) (goodIn_sub (fun _ h => List.mem_cons_of_mem _ (List.mem_append_left _ (List.mem_append_left _ (List.mem_append_right _ h)))) (by decide +kernel))) (goodIn_sub (fun _ h => List.mem_cons_of_mem _ (List.mem_append_left _ (List.mem_append_right _ h))) (by decide +kernel))) (goodIn_sub (fun _ h => List.mem_cons_of_mem _ (List.mem_append_right _ h)) (by decide +kernel))
set_option maxRecDepth 20000 in
theorem gL_act_X2_write : GoodIn wsL_act (wsV RL 39 RX2 yX2_write wsX2_write) := goodIn_app (goodIn_of _ (by decide +kernel)) ggL_act_X2_write
set_option maxRecDepth 20000 in
theorem ggL_act_X2_erase : GoodIn wsL_act wsX2_erase := goodIn_ca (goodIn_ca (goodIn_r _ [70, 38, 39, 40, 24, 41, 42, 43, 26, 37, 71, 72, 73, 31, 32, 74, 75, 76, 47, 77, 49, 50, 195, 196, 197, 198, 199, 200, 201] (by decide +kernel) (by decide +kernel)) (goodIn_sub (fun _ h => List.mem_cons_of_mem _ (List.mem_append_left _ (List.mem_append_right _ h))) (by decide +kernel))) (goodIn_sub (fun _ h => List.mem_cons_of_mem _ (List.mem_append_left _ (List.mem_append_left _ (List.mem_append_right _ h)))) (by decide +kernel))
set_option maxRecDepth 20000 in
theorem gL_act_X2_erase : GoodIn wsL_act (wsV RL 47 RX2 yX2_erase wsX2_erase) := goodIn_app (goodIn_of _ (by decide +kernel)) ggL_act_X2_erase
set_option maxRecDepth 20000 in
theorem ggL_act_X4_changed : GoodIn wsL_act wsX4_changed := goodIn_r _ [80, 81, 82, 83, 84, 85, 20] (by decide +kernel) (by decide +kernel)
set_option maxRecDepth 20000 in
theorem gL_act_X4_changed : GoodIn wsL_act (va_wsS RL 50 yX4_changed wsX4_changed) := goodIn_app (goodIn_of _ (by decide +kernel)) ggL_act_X4_changed
set_option maxRecDepth 20000 in
theorem ggL_act_X2_forge : GoodIn wsL_act wsX2_forge := goodIn_ca (goodIn_ca (goodIn_r _ [89, 31, 32, 90, 91, 92, 24, 93, 42, 43, 38, 39, 40, 41, 26, 37, 94, 95, 96, 47, 97, 50, 199, 200, 201, 195, 196, 197, 198] (by decide +kernel) (by decide +kernel)) (goodIn_sub (fun _ h => List.mem_cons_of_mem _ (List.mem_append_left _ (List.mem_append_left _ (List.mem_append_right _ h)))) (by decide +kernel))) (goodIn_sub (fun _ h => List.mem_cons_of_mem _ (List.mem_append_left _ (List.mem_append_right _ h))) (by decide +kernel))
set_option maxRecDepth 20000 in
theorem gL_act_X2_forge : GoodIn wsL_act (wsV RL 54 RX2 yX2_forge wsX2_forge) := goodIn_app (goodIn_of _ (by decide +kernel)) ggL_act_X2_forge
set_option maxRecDepth 20000 in
theorem ggL_act_X2_tear : GoodIn wsL_act wsX2_tear := goodIn_ca (goodIn_ca (goodIn_r _ [101, 31, 32, 90, 91, 92, 24, 93, 42, 43, 38, 39, 40, 41, 26, 37, 94, 95, 96, 47, 97, 50, 199, 200, 201, 195, 196, 197, 198] (by decide +kernel) (by decide +kernel)) (goodIn_sub (fun _ h => List.mem_cons_of_mem _ (List.mem_append_left _ (List.mem_append_left _ (List.mem_append_right _ h)))) (by decide +kernel))) (goodIn_sub (fun _ h => List.mem_cons_of_mem _ (List.mem_append_left _ (List.mem_append_right _ h))) (by decide +kernel))
set_option maxRecDepth 20000 in
theorem gL_act_X2_tear : GoodIn wsL_act (wsV RL 57 RX2 yX2_tear wsX2_tear) := goodIn_app (goodIn_of _ (by decide +kernel)) ggL_act_X2_tear
set_option maxRecDepth 20000 in
theorem ggL_act_X2_mend : GoodIn wsL_act wsX2_mend := goodIn_ca (goodIn_ca (goodIn_ca (goodIn_r _ [105, 31, 32, 90, 91, 92, 24, 93, 42, 43, 38, 39, 40, 41, 26, 37, 58, 59, 60, 61, 62, 94, 95, 96, 47, 97, 50, 106, 107, 108, 109, 49, 199, 200, 201, 195, 196, 197, 198] (by decide +kernel) (by decide +kernel)) (goodIn_sub (fun _ h => List.mem_cons_of_mem _ (List.mem_append_left _ (List.mem_append_left _ (List.mem_append_right _ h)))) (by decide +kernel))) (goodIn_sub (fun _ h => List.mem_cons_of_mem _ (List.mem_append_left _ (List.mem_append_right _ h))) (by decide +kernel))) (goodIn_sub (fun _ h => List.mem_cons_of_mem _ (List.mem_append_right _ h)) (by decide +kernel))
set_option maxRecDepth 20000 in
theorem gL_act_X2_mend : GoodIn wsL_act (wsV RL 60 RX2 yX2_mend wsX2_mend) := goodIn_app (goodIn_of _ (by decide +kernel)) ggL_act_X2_mend
set_option maxRecDepth 20000 in
theorem ggL_act_X4_count : GoodIn wsL_act wsX4_count := goodIn_r _ [112] (by decide +kernel) (by decide +kernel)
set_option maxRecDepth 20000 in
theorem gL_act_X4_count : GoodIn wsL_act (va_wsS RL 64 yX4_count wsX4_count) := goodIn_app (goodIn_of _ (by decide +kernel)) ggL_act_X4_count
set_option maxRecDepth 20000 in
theorem ggL_act_X4_seal : GoodIn wsL_act wsX4_seal := goodIn_r _ [116, 117, 118, 119, 120, 19, 121, 122, 123, 124, 125, 126, 127, 128, 129, 130, 131, 17, 132, 133, 134, 135, 136, 137, 138, 202, 203, 204, 205, 193, 194] (by decide +kernel) (by decide +kernel)
set_option maxRecDepth 20000 in
theorem gL_act_X4_seal : GoodIn wsL_act (wsV RL 72 RX4 yX4_seal wsX4_seal) := goodIn_app (goodIn_of _ (by decide +kernel)) ggL_act_X4_seal
set_option maxRecDepth 20000 in
theorem ggL_act_X2_seal : GoodIn wsL_act wsX2_seal := goodIn_ca (goodIn_ca (goodIn_r _ [142, 31, 32, 143, 144, 38, 39, 40, 24, 41, 42, 43, 26, 37, 71, 72, 73, 145, 146, 147, 148, 149, 150, 151, 152, 153, 154, 155, 156, 157, 158, 159, 160, 161, 162, 163, 164, 47, 165, 49, 50, 166, 167, 168, 169, 170, 171, 172, 173, 174, 175, 176, 177, 178, 179, 180, 181, 182, 183, 184, 195, 196, 197, 198, 199, 200, 201, 206, 207, 208, 209, 210, 211, 212, 213] (by decide +kernel) (by decide +kernel)) (goodIn_sub (fun _ h => List.mem_cons_of_mem _ (List.mem_append_left _ (List.mem_append_left _ (List.mem_append_right _ h)))) (by decide +kernel))) (goodIn_sub (fun _ h => List.mem_cons_of_mem _ (List.mem_append_left _ (List.mem_append_right _ h))) (by decide +kernel))
set_option maxRecDepth 20000 in
theorem gL_act_X2_seal : GoodIn wsL_act (wsV RL 76 RX2 yX2_seal wsX2_seal) := goodIn_app (goodIn_of _ (by decide +kernel)) ggL_act_X2_seal
set_option maxRecDepth 20000 in
theorem ggL_act_X4_unseal : GoodIn wsL_act wsX4_unseal := goodIn_r _ [188, 124, 117, 123, 193, 194, 202, 203, 204, 205] (by decide +kernel) (by decide +kernel)
set_option maxRecDepth 20000 in
theorem gL_act_X4_unseal : GoodIn wsL_act (wsV RL 78 RX4 yX4_unseal wsX4_unseal) := goodIn_app (goodIn_of _ (by decide +kernel)) ggL_act_X4_unseal
set_option maxRecDepth 20000 in
theorem ggL_act_X2_unseal : GoodIn wsL_act wsX2_unseal := goodIn_ca (goodIn_r _ [192, 31, 32, 143, 144, 195, 196, 197, 198, 206, 207, 208, 209, 210, 211, 212, 213] (by decide +kernel) (by decide +kernel)) (goodIn_sub (fun _ h => List.mem_cons_of_mem _ (List.mem_append_left _ (List.mem_append_left _ (List.mem_append_right _ h)))) (by decide +kernel))
set_option maxRecDepth 20000 in
theorem gL_act_X2_unseal : GoodIn wsL_act (wsV RL 81 RX2 yX2_unseal wsX2_unseal) := goodIn_app (goodIn_of _ (by decide +kernel)) ggL_act_X2_unseal
set_option maxRecDepth 20000 in
theorem ggL_build_X4_init : GoodIn wsL_build wsX4_init := goodIn_r _ [5, 6, 7, 8, 9, 10, 11, 12, 205, 206] (by decide +kernel) (by decide +kernel)
set_option maxRecDepth 20000 in
theorem gL_build_X4_init_n84 : GoodIn wsL_build (wsX4_init) := ggL_build_X4_init
set_option maxRecDepth 20000 in
theorem ggL_build_L_cell : GoodIn wsL_build wsL_cell := goodIn_r _ [16, 17] (by decide +kernel) (by decide +kernel)
set_option maxRecDepth 20000 in
theorem gL_build_L_cell : GoodIn wsL_build (va_wsS RL 85 yL_cell wsL_cell) := goodIn_app (goodIn_of _ (by decide +kernel)) ggL_build_L_cell
set_option maxRecDepth 20000 in
theorem ggL_build_L_below : GoodIn wsL_build wsL_below := goodIn_r _ [20, 21] (by decide +kernel) (by decide +kernel)
set_option maxRecDepth 20000 in
theorem gL_build_L_below : GoodIn wsL_build (va_wsS RL 15 yL_below wsL_below) := goodIn_app (goodIn_of _ (by decide +kernel)) ggL_build_L_below
