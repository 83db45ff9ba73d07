set_option maxRecDepth 20000 in
theorem ggL_torn_X2_signAt : GoodIn wsL_torn wsX2_signAt := goodIn_ca (goodIn_r _ [6, 7, 8, 9, 5, 10, 11, 12, 13, 14, 15, 16, 17, 18, 45, 46, 47, 48, 49, 50, 51] (by decide +kernel) (by decide +kernel)) (goodIn_sub (fun _ h => List.mem_cons_of_mem _ (List.mem_append_right _ h)) (by decide +kernel))
set_option maxRecDepth 20000 in
theorem gL_torn_X2_signAt : GoodIn wsL_torn (wsV RL 106 RX2 yX2_signAt wsX2_signAt) := goodIn_app (goodIn_of _ (by decide +kernel)) ggL_torn_X2_signAt
set_option maxRecDepth 20000 in
theorem ggL_torn_X4_changed : GoodIn wsL_torn wsX4_changed := goodIn_r _ [22, 23, 24, 25, 26, 27, 28] (by decide +kernel) (by decide +kernel)
set_option maxRecDepth 20000 in
theorem gL_torn_X4_changed : GoodIn wsL_torn (va_wsS RL 50 yX4_changed wsX4_changed) := goodIn_app (goodIn_of _ (by decide +kernel)) ggL_torn_X4_changed
set_option maxRecDepth 20000 in
theorem ggL_torn_X4_digest : GoodIn wsL_torn wsX4_digest := goodIn_r _ [31] (by decide +kernel) (by decide +kernel)
set_option maxRecDepth 20000 in
theorem gL_torn_X4_digest : GoodIn wsL_torn (va_wsS RL 193 yX4_digest wsX4_digest) := goodIn_app (goodIn_of _ (by decide +kernel)) ggL_torn_X4_digest
set_option maxRecDepth 20000 in
theorem ggL_torn_X2_digestOf : GoodIn wsL_torn wsX2_digestOf := goodIn_ca (goodIn_r _ [35, 13, 14, 15, 5, 16, 11, 12, 17, 18, 36, 37, 38, 39, 40, 41, 42, 48, 49, 50, 51, 45, 46, 47] (by decide +kernel) (by decide +kernel)) (goodIn_sub (fun _ h => List.mem_cons_of_mem _ (List.mem_append_right _ h)) (by decide +kernel))
set_option maxRecDepth 20000 in
theorem gL_torn_X2_digestOf : GoodIn wsL_torn (wsV RL 115 RX2 yX2_digestOf wsX2_digestOf) := goodIn_app (goodIn_of _ (by decide +kernel)) ggL_torn_X2_digestOf
