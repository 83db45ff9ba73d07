set_option maxRecDepth 20000 in
theorem ggL_law_X2_init : GoodIn wsL_law wsX2_init := goodIn_r _ [15, 16, 17, 18, 19, 20, 21, 22, 23, 24, 25, 26, 27, 28, 29, 30, 31, 32, 33, 34, 35, 36, 444, 445, 446, 447, 454, 455, 456, 457, 458, 459, 460, 461, 462, 463, 464] (by decide +kernel) (by decide +kernel)
set_option maxRecDepth 20000 in
theorem gL_law_X2_init : GoodIn wsL_law (wsX2_init) := ggL_law_X2_init
set_option maxRecDepth 20000 in
theorem ggL_law_L_cell : GoodIn wsL_law wsL_cell := goodIn_r _ [53, 54] (by decide +kernel) (by decide +kernel)
set_option maxRecDepth 20000 in
theorem gL_law_L_cell : GoodIn wsL_law (va_wsS RL 85 yL_cell wsL_cell) := goodIn_app (goodIn_of _ (by decide +kernel)) ggL_law_L_cell
set_option maxRecDepth 20000 in
theorem ggL_law_X2_digest : GoodIn wsL_law wsX2_digest := goodIn_r _ [231, 232, 233, 71, 181, 20, 22, 234, 235, 236, 2, 237, 238, 198, 199, 24, 200, 92, 31, 239, 240, 241, 242, 243, 244, 245, 246, 247, 248, 249, 250, 251, 252, 253, 26, 254, 191, 197, 255, 256, 257, 148, 149, 150, 151, 258, 259, 260, 261, 32, 262, 263, 264, 265, 266, 267, 268, 269, 270, 271, 272, 273, 274, 275, 276, 277, 278, 279, 280, 281, 282, 283, 10, 284, 285, 286, 287, 288, 289, 290, 291, 292, 293, 294, 295, 296, 297, 193, 36, 201, 202, 203, 204, 205, 206, 207, 208, 298, 299, 300, 301, 302, 303, 304, 305, 192, 195, 306, 307, 308, 309, 194, 209, 210, 211, 212, 310, 213, 214, 215, 216, 444, 445, 446, 447, 454, 455, 456, 457, 458, 459, 460, 461, 462, 463, 464] (by decide +kernel) (by decide +kernel)
set_option maxRecDepth 20000 in
theorem gL_law_X2_digest : GoodIn wsL_law (wsV RL 97 RX2 yX2_digest wsX2_digest) := goodIn_app (goodIn_of _ (by decide +kernel)) ggL_law_X2_digest
set_option maxRecDepth 20000 in
theorem ggL_law_X2_letters : GoodIn wsL_law wsX2_letters := goodIn_r _ [314, 71, 444, 445, 446, 447] (by decide +kernel) (by decide +kernel)
set_option maxRecDepth 20000 in
theorem gL_law_X2_letters : GoodIn wsL_law (wsV RL 101 RX2 yX2_letters wsX2_letters) := goodIn_app (goodIn_of _ (by decide +kernel)) ggL_law_X2_letters
set_option maxRecDepth 20000 in
theorem ggL_law_X2_signsOf : GoodIn wsL_law wsX2_signsOf := goodIn_ca (goodIn_r _ [318, 82, 83, 84, 2, 85, 86, 87, 71, 20, 454, 455, 456, 444, 445, 446, 447] (by decide +kernel) (by decide +kernel)) (goodIn_sub (fun _ h => List.mem_append_left _ (List.mem_append_right _ h)) (by decide +kernel))
set_option maxRecDepth 20000 in
theorem gL_law_X2_signsOf : GoodIn wsL_law (wsV RL 103 RX2 yX2_signsOf wsX2_signsOf) := goodIn_app (goodIn_of _ (by decide +kernel)) ggL_law_X2_signsOf
set_option maxRecDepth 20000 in
theorem ggL_law_X2_signAt : GoodIn wsL_law wsX2_signAt := goodIn_ca (goodIn_r _ [322, 132, 133, 134, 2, 135, 86, 87, 82, 83, 84, 85, 71, 20, 454, 455, 456, 444, 445, 446, 447] (by decide +kernel) (by decide +kernel)) (goodIn_sub (fun _ h => List.mem_append_left _ (List.mem_append_right _ h)) (by decide +kernel))
set_option maxRecDepth 20000 in
theorem gL_law_X2_signAt : GoodIn wsL_law (wsV RL 106 RX2 yX2_signAt wsX2_signAt) := goodIn_app (goodIn_of _ (by decide +kernel)) ggL_law_X2_signAt
set_option maxRecDepth 20000 in
theorem ggL_law_X2_commasOf : GoodIn wsL_law wsX2_commasOf := goodIn_ca (goodIn_r _ [326, 82, 83, 84, 2, 85, 86, 87, 71, 20, 148, 149, 150, 24, 151, 92, 31, 444, 445, 446, 447, 454, 455, 456] (by decide +kernel) (by decide +kernel)) (goodIn_sub (fun _ h => List.mem_append_left _ (List.mem_append_right _ h)) (by decide +kernel))
set_option maxRecDepth 20000 in
theorem gL_law_X2_commasOf : GoodIn wsL_law (wsV RL 109 RX2 yX2_commasOf wsX2_commasOf) := goodIn_app (goodIn_of _ (by decide +kernel)) ggL_law_X2_commasOf
set_option maxRecDepth 20000 in
theorem ggL_law_X2_tearsOf : GoodIn wsL_law wsX2_tearsOf := goodIn_ca (goodIn_r _ [330, 82, 83, 84, 2, 85, 86, 87, 71, 20, 148, 149, 150, 24, 151, 92, 31, 444, 445, 446, 447, 454, 455, 456] (by decide +kernel) (by decide +kernel)) (goodIn_sub (fun _ h => List.mem_append_left _ (List.mem_append_right _ h)) (by decide +kernel))
set_option maxRecDepth 20000 in
theorem gL_law_X2_tearsOf : GoodIn wsL_law (wsV RL 112 RX2 yX2_tearsOf wsX2_tearsOf) := goodIn_app (goodIn_of _ (by decide +kernel)) ggL_law_X2_tearsOf
set_option maxRecDepth 20000 in
theorem ggL_law_X2_digestOf : GoodIn wsL_law wsX2_digestOf := goodIn_ca (goodIn_r _ [334, 82, 83, 84, 2, 85, 86, 87, 71, 20, 238, 198, 199, 24, 200, 92, 31, 444, 445, 446, 447, 454, 455, 456] (by decide +kernel) (by decide +kernel)) (goodIn_sub (fun _ h => List.mem_append_left _ (List.mem_append_right _ h)) (by decide +kernel))
set_option maxRecDepth 20000 in
theorem gL_law_X2_digestOf : GoodIn wsL_law (wsV RL 115 RX2 yX2_digestOf wsX2_digestOf) := goodIn_app (goodIn_of _ (by decide +kernel)) ggL_law_X2_digestOf
set_option maxRecDepth 20000 in
theorem ggL_law_X2_unnoticed : GoodIn wsL_law wsX2_unnoticed := goodIn_ca (goodIn_r _ [338, 82, 83, 84, 2, 85, 86, 87, 71, 20, 274, 275, 276, 24, 277, 92, 31, 444, 445, 446, 447, 454, 455, 456] (by decide +kernel) (by decide +kernel)) (goodIn_sub (fun _ h => List.mem_append_left _ (List.mem_append_right _ h)) (by decide +kernel))
set_option maxRecDepth 20000 in
theorem gL_law_X2_unnoticed : GoodIn wsL_law (wsV RL 118 RX2 yX2_unnoticed wsX2_unnoticed) := goodIn_app (goodIn_of _ (by decide +kernel)) ggL_law_X2_unnoticed
set_option maxRecDepth 20000 in
theorem ggL_law_L_below : GoodIn wsL_law wsL_below := goodIn_r _ [57, 58] (by decide +kernel) (by decide +kernel)
set_option maxRecDepth 20000 in
theorem gL_law_L_below : GoodIn wsL_law (va_wsS RL 15 yL_below wsL_below) := goodIn_app (goodIn_of _ (by decide +kernel)) ggL_law_L_below
set_option maxRecDepth 20000 in
theorem ggL_law_X2_sumOf : GoodIn wsL_law wsX2_sumOf := goodIn_ca (goodIn_ca (goodIn_r _ [342, 103, 104, 82, 83, 84, 2, 85, 86, 87, 71, 20, 343, 267, 268, 24, 269, 31, 454, 455, 456, 444, 445, 446, 447] (by decide +kernel) (by decide +kernel)) (goodIn_sub (fun _ h => List.mem_append_right _ h) (by decide +kernel))) (goodIn_sub (fun _ h => List.mem_append_left _ (List.mem_append_right _ h)) (by decide +kernel))
set_option maxRecDepth 20000 in
theorem gL_law_X2_sumOf : GoodIn wsL_law (wsV RL 121 RX2 yX2_sumOf wsX2_sumOf) := goodIn_app (goodIn_of _ (by decide +kernel)) ggL_law_X2_sumOf
set_option maxRecDepth 20000 in
theorem ggL_law_X2_sameSums : GoodIn wsL_law wsX2_sameSums := goodIn_ca (goodIn_ca (goodIn_r _ [347, 82, 83, 84, 2, 85, 86, 87, 71, 20, 348, 349, 350, 103, 104, 258, 259, 260, 24, 261, 32, 262, 263, 264, 265, 92, 266, 267, 268, 269, 31, 444, 445, 446, 447, 454, 455, 456] (by decide +kernel) (by decide +kernel)) (goodIn_sub (fun _ h => List.mem_append_left _ (List.mem_append_right _ h)) (by decide +kernel))) (goodIn_sub (fun _ h => List.mem_append_right _ h) (by decide +kernel))
set_option maxRecDepth 20000 in
theorem gL_law_X2_sameSums : GoodIn wsL_law (wsV RL 124 RX2 yX2_sameSums wsX2_sameSums) := goodIn_app (goodIn_of _ (by decide +kernel)) ggL_law_X2_sameSums
set_option maxRecDepth 20000 in
theorem ggL_law_X2_falseAlarms : GoodIn wsL_law wsX2_falseAlarms := goodIn_ca (goodIn_ca (goodIn_r _ [354, 82, 83, 84, 2, 85, 86, 87, 71, 20, 348, 349, 350, 103, 104, 270, 271, 272, 24, 273, 32, 262, 263, 264, 265, 92, 266, 267, 268, 269, 31, 243, 244, 245, 246, 444, 445, 446, 447, 454, 455, 456] (by decide +kernel) (by decide +kernel)) (goodIn_sub (fun _ h => List.mem_append_left _ (List.mem_append_right _ h)) (by decide +kernel))) (goodIn_sub (fun _ h => List.mem_append_right _ h) (by decide +kernel))
set_option maxRecDepth 20000 in
theorem gL_law_X2_falseAlarms : GoodIn wsL_law (wsV RL 127 RX2 yX2_falseAlarms wsX2_falseAlarms) := goodIn_app (goodIn_of _ (by decide +kernel)) ggL_law_X2_falseAlarms
set_option maxRecDepth 20000 in
theorem ggL_law_X2_firstOf : GoodIn wsL_law wsX2_firstOf := goodIn_ca (goodIn_ca (goodIn_r _ [358, 82, 83, 84, 2, 85, 86, 87, 71, 20, 113, 114, 115, 76, 77, 359, 360, 361, 24, 362, 92, 243, 244, 245, 246, 31, 444, 445, 446, 447, 454, 455, 456] (by decide +kernel) (by decide +kernel)) (goodIn_sub (fun _ h => List.mem_append_left _ (List.mem_append_right _ h)) (by decide +kernel))) (goodIn_sub (fun _ h => List.mem_append_left _ (List.mem_append_left _ (List.mem_append_right _ h))) (by decide +kernel))
set_option maxRecDepth 20000 in
theorem gL_law_X2_firstOf : GoodIn wsL_law (wsV RL 130 RX2 yX2_firstOf wsX2_firstOf) := goodIn_app (goodIn_of _ (by decide +kernel)) ggL_law_X2_firstOf
set_option maxRecDepth 20000 in
theorem ggL_law_X4_isAlike : GoodIn wsL_law wsX4_isAlike := goodIn_r _ [365] (by decide +kernel) (by decide +kernel)
set_option maxRecDepth 20000 in
theorem gL_law_X4_isAlike : GoodIn wsL_law (va_wsS RL 133 yX4_isAlike wsX4_isAlike) := goodIn_app (goodIn_of _ (by decide +kernel)) ggL_law_X4_isAlike
set_option maxRecDepth 20000 in
theorem ggL_law_X2_worstTear : GoodIn wsL_law wsX2_worstTear := goodIn_ca (goodIn_r _ [369, 82, 83, 84, 2, 85, 86, 87, 71, 20, 278, 279, 280, 24, 281, 92, 31, 282, 283, 10, 284, 285, 198, 199, 200, 444, 445, 446, 447, 454, 455, 456] (by decide +kernel) (by decide +kernel)) (goodIn_sub (fun _ h => List.mem_append_left _ (List.mem_append_right _ h)) (by decide +kernel))
set_option maxRecDepth 20000 in
theorem gL_law_X2_worstTear : GoodIn wsL_law (wsV RL 137 RX2 yX2_worstTear wsX2_worstTear) := goodIn_app (goodIn_of _ (by decide +kernel)) ggL_law_X2_worstTear
set_option maxRecDepth 20000 in
theorem ggL_law_L_torn : GoodIn wsL_law wsL_torn := goodIn_ca (goodIn_r _ [372, 3, 319, 320, 321, 2, 322, 132, 133, 134, 135, 86, 87, 82, 83, 84, 85, 71, 20, 120, 121, 43, 122, 123, 124, 125, 126, 127, 47, 373, 169, 170, 331, 332, 333, 334, 238, 198, 199, 24, 200, 92, 31, 448, 449, 454, 455, 456, 444, 445, 446, 447] (by decide +kernel) (by decide +kernel)) (goodIn_sub (fun _ h => List.mem_append_left _ (List.mem_append_right _ h)) (by decide +kernel))
set_option maxRecDepth 20000 in
theorem gL_law_L_torn : GoodIn wsL_law (va_wsS RL 140 yL_torn wsL_torn) := goodIn_app (goodIn_of _ (by decide +kernel)) ggL_law_L_torn
set_option maxRecDepth 20000 in
theorem ggL_law_X2_firstBroken : GoodIn wsL_law wsX2_firstBroken := goodIn_r _ [250, 181, 22, 20, 251, 252, 253, 26, 254, 191, 197, 198, 199, 24, 200, 92, 31, 444, 445, 446, 447, 457, 458, 459, 460, 461, 462, 463, 464, 454, 455, 456] (by decide +kernel) (by decide +kernel)
set_option maxRecDepth 20000 in
theorem gL_law_X2_firstBroken : GoodIn wsL_law (wsV RL 144 RX2 yX2_firstBroken wsX2_firstBroken) := goodIn_app (goodIn_of _ (by decide +kernel)) ggL_law_X2_firstBroken
set_option maxRecDepth 20000 in
theorem ggL_law_X2_envelopes : GoodIn wsL_law wsX2_envelopes := goodIn_r _ [378, 181, 444, 445, 446, 447] (by decide +kernel) (by decide +kernel)
set_option maxRecDepth 20000 in
theorem gL_law_X2_envelopes : GoodIn wsL_law (wsV RL 147 RX2 yX2_envelopes wsX2_envelopes) := goodIn_app (goodIn_of _ (by decide +kernel)) ggL_law_X2_envelopes
set_option maxRecDepth 20000 in
theorem ggL_law_X2_digestIn : GoodIn wsL_law wsX2_digestIn := goodIn_ca (goodIn_r _ [382, 383, 384, 385, 2, 386, 86, 87, 181, 22, 457, 458, 459, 460, 461, 462, 463, 464, 444, 445, 446, 447] (by decide +kernel) (by decide +kernel)) (goodIn_sub (fun _ h => List.mem_append_left _ (List.mem_append_right _ h)) (by decide +kernel))
set_option maxRecDepth 20000 in
theorem gL_law_X2_digestIn : GoodIn wsL_law (wsV RL 151 RX2 yX2_digestIn wsX2_digestIn) := goodIn_app (goodIn_of _ (by decide +kernel)) ggL_law_X2_digestIn
set_option maxRecDepth 20000 in
theorem ggL_law_X2_letterIn : GoodIn wsL_law wsX2_letterIn := goodIn_ca (goodIn_r _ [390, 383, 384, 385, 2, 386, 86, 87, 181, 22, 457, 458, 459, 460, 461, 462, 463, 464, 444, 445, 446, 447] (by decide +kernel) (by decide +kernel)) (goodIn_sub (fun _ h => List.mem_append_left _ (List.mem_append_right _ h)) (by decide +kernel))
set_option maxRecDepth 20000 in
theorem gL_law_X2_letterIn : GoodIn wsL_law (wsV RL 156 RX2 yX2_letterIn wsX2_letterIn) := goodIn_app (goodIn_of _ (by decide +kernel)) ggL_law_X2_letterIn
set_option maxRecDepth 20000 in
theorem ggL_law_X2_changedPlace : GoodIn wsL_law wsX2_changedPlace := goodIn_ca (goodIn_r _ [394, 20, 383, 384, 385, 2, 386, 86, 87, 181, 22, 302, 303, 304, 26, 305, 192, 195, 306, 307, 308, 309, 194, 209, 210, 211, 24, 212, 92, 31, 310, 252, 253, 254, 191, 197, 198, 199, 200, 213, 214, 215, 216, 444, 445, 446, 447, 457, 458, 459, 460, 461, 462, 463, 464, 454, 455, 456] (by decide +kernel) (by decide +kernel)) (goodIn_sub (fun _ h => List.mem_append_left _ (List.mem_append_right _ h)) (by decide +kernel))
set_option maxRecDepth 20000 in
theorem gL_law_X2_changedPlace : GoodIn wsL_law (wsV RL 165 RX2 yX2_changedPlace wsX2_changedPlace) := goodIn_app (goodIn_of _ (by decide +kernel)) ggL_law_X2_changedPlace
set_option maxRecDepth 20000 in
theorem ggL_law_X2_tornBlocks : GoodIn wsL_law wsX2_tornBlocks := goodIn_ca (goodIn_r _ [398, 20, 383, 384, 385, 2, 386, 86, 87, 181, 22, 290, 291, 292, 26, 293, 294, 295, 296, 297, 193, 36, 201, 202, 203, 24, 204, 92, 205, 206, 207, 208, 31, 444, 445, 446, 447, 457, 458, 459, 460, 461, 462, 463, 464, 454, 455, 456] (by decide +kernel) (by decide +kernel)) (goodIn_sub (fun _ h => List.mem_append_left _ (List.mem_append_right _ h)) (by decide +kernel))
set_option maxRecDepth 20000 in
theorem gL_law_X2_tornBlocks : GoodIn wsL_law (wsV RL 168 RX2 yX2_tornBlocks wsX2_tornBlocks) := goodIn_app (goodIn_of _ (by decide +kernel)) ggL_law_X2_tornBlocks
set_option maxRecDepth 20000 in
theorem ggL_law_X2_firstTorn : GoodIn wsL_law wsX2_firstTorn := goodIn_ca (goodIn_r _ [402, 20, 383, 384, 385, 2, 386, 86, 87, 181, 22, 298, 299, 300, 26, 301, 294, 295, 296, 297, 193, 36, 201, 202, 203, 24, 204, 92, 205, 206, 207, 208, 31, 444, 445, 446, 447, 457, 458, 459, 460, 461, 462, 463, 464, 454, 455, 456] (by decide +kernel) (by decide +kernel)) (goodIn_sub (fun _ h => List.mem_append_left _ (List.mem_append_right _ h)) (by decide +kernel))
set_option maxRecDepth 20000 in
theorem gL_law_X2_firstTorn : GoodIn wsL_law (wsV RL 171 RX2 yX2_firstTorn wsX2_firstTorn) := goodIn_app (goodIn_of _ (by decide +kernel)) ggL_law_X2_firstTorn
set_option maxRecDepth 20000 in
theorem ggL_law_X2_sealOf : GoodIn wsL_law wsX2_sealOf := goodIn_ca (goodIn_r _ [406, 383, 384, 385, 2, 386, 86, 87, 181, 22, 457, 458, 459, 460, 461, 462, 463, 464, 444, 445, 446, 447] (by decide +kernel) (by decide +kernel)) (goodIn_sub (fun _ h => List.mem_append_left _ (List.mem_append_right _ h)) (by decide +kernel))
set_option maxRecDepth 20000 in
theorem gL_law_X2_sealOf : GoodIn wsL_law (wsV RL 174 RX2 yX2_sealOf wsX2_sealOf) := goodIn_app (goodIn_of _ (by decide +kernel)) ggL_law_X2_sealOf
set_option maxRecDepth 20000 in
theorem ggL_law_X2_isWhole : GoodIn wsL_law wsX2_isWhole := goodIn_ca (goodIn_r _ [410, 20, 383, 384, 385, 2, 386, 86, 87, 181, 22, 251, 252, 253, 26, 254, 191, 197, 198, 199, 24, 200, 92, 31, 444, 445, 446, 447, 457, 458, 459, 460, 461, 462, 463, 464, 454, 455, 456] (by decide +kernel) (by decide +kernel)) (goodIn_sub (fun _ h => List.mem_append_left _ (List.mem_append_right _ h)) (by decide +kernel))
set_option maxRecDepth 20000 in
theorem gL_law_X2_isWhole : GoodIn wsL_law (wsV RL 178 RX2 yX2_isWhole wsX2_isWhole) := goodIn_app (goodIn_of _ (by decide +kernel)) ggL_law_X2_isWhole
set_option maxRecDepth 20000 in
theorem ggL_law_X2_changedSign : GoodIn wsL_law wsX2_changedSign := goodIn_ca (goodIn_ca (goodIn_r _ [414, 76, 77, 20, 383, 384, 385, 2, 386, 86, 87, 181, 22, 302, 303, 304, 26, 305, 192, 195, 306, 307, 308, 309, 194, 209, 210, 211, 24, 212, 92, 31, 310, 252, 253, 254, 191, 197, 198, 199, 200, 213, 214, 215, 216, 415, 444, 445, 446, 447, 457, 458, 459, 460, 461, 462, 463, 464, 454, 455, 456] (by decide +kernel) (by decide +kernel)) (goodIn_sub (fun _ h => List.mem_append_left _ (List.mem_append_left _ (List.mem_append_right _ h))) (by decide +kernel))) (goodIn_sub (fun _ h => List.mem_append_left _ (List.mem_append_right _ h)) (by decide +kernel))
set_option maxRecDepth 20000 in
theorem gL_law_X2_changedSign : GoodIn wsL_law (wsV RL 182 RX2 yX2_changedSign wsX2_changedSign) := goodIn_app (goodIn_of _ (by decide +kernel)) ggL_law_X2_changedSign
set_option maxRecDepth 20000 in
theorem ggL_law_X4_changed : GoodIn wsL_law wsX4_changed := goodIn_r _ [122, 123, 124, 125, 126, 127, 47] (by decide +kernel) (by decide +kernel)
set_option maxRecDepth 20000 in
theorem gL_law_X4_changed : GoodIn wsL_law (va_wsS RL 50 yX4_changed wsX4_changed) := goodIn_app (goodIn_of _ (by decide +kernel)) ggL_law_X4_changed
set_option maxRecDepth 20000 in
theorem ggL_law_X4_added : GoodIn wsL_law wsX4_added := goodIn_r _ [418] (by decide +kernel) (by decide +kernel)
set_option maxRecDepth 20000 in
theorem gL_law_X4_added : GoodIn wsL_law (va_wsS RL 185 yX4_added wsX4_added) := goodIn_app (goodIn_of _ (by decide +kernel)) ggL_law_X4_added
set_option maxRecDepth 20000 in
theorem ggL_law_X4_isSame : GoodIn wsL_law wsX4_isSame := goodIn_ca (goodIn_r _ [422, 48, 50, 161, 163, 164, 423, 316, 317, 2, 318, 82, 83, 84, 85, 86, 87, 71, 20, 424, 324, 325, 326, 148, 149, 150, 24, 151, 92, 31, 425, 153, 43, 154, 426, 328, 329, 330, 427, 332, 333, 334, 238, 198, 199, 200, 168, 169, 170, 428, 320, 321, 322, 132, 133, 134, 135, 429, 430, 431, 432, 433, 388, 389, 390, 383, 384, 385, 386, 181, 22, 434, 380, 381, 382, 435, 404, 405, 406, 436, 408, 409, 410, 251, 252, 253, 26, 254, 191, 197, 437, 312, 313, 314, 438, 376, 377, 378, 439, 248, 249, 250, 440, 441, 442, 443, 448, 449, 450, 451, 452, 453, 454, 455, 456, 444, 445, 446, 447, 457, 458, 459, 460, 461, 462, 463, 464] (by decide +kernel) (by decide +kernel)) (goodIn_sub (fun _ h => List.mem_append_left _ (List.mem_append_right _ h)) (by decide +kernel))
set_option maxRecDepth 20000 in
theorem gL_law_X4_isSame : GoodIn wsL_law (wsV RL 189 RX4 yX4_isSame wsX4_isSame) := goodIn_app (goodIn_of _ (by decide +kernel)) ggL_law_X4_isSame
