/-! ===== the law's calls: the callees' words among its own (as printed) ===== -/
set_option maxRecDepth 20000 in
theorem ggL_law_X2_init : GoodIn wsL_law wsX2_init := goodIn_r _ [10, 11, 12, 13, 14, 15, 16, 17, 18, 19, 20, 21, 22, 23, 24, 25, 26, 27, 28, 29, 30, 31, 32, 33, 34, 35, 36, 37, 38, 39, 40, 511, 512, 513, 514, 515, 516, 517, 518, 535, 536, 537, 538, 539, 540] (by decide +kernel) (by decide +kernel)
set_option maxRecDepth 20000 in
theorem gL_law_X2_init : GoodIn wsL_law (wsX2_init) := ggL_law_X2_init
set_option maxRecDepth 20000 in
theorem ggL_law_X3_init : GoodIn wsL_law wsX3_init := goodIn_r _ [43, 44, 12, 13, 31, 45, 46, 47, 48, 49, 50, 51, 52, 519, 520, 521, 522, 523, 524, 525, 526, 527, 528, 529, 530, 531, 532, 533, 534] (by decide +kernel) (by decide +kernel)
set_option maxRecDepth 20000 in
theorem gL_law_X3_init : GoodIn wsL_law (wsX3_init) := ggL_law_X3_init
set_option maxRecDepth 20000 in
theorem ggL_law_L_append : GoodIn wsL_law wsL_append := goodIn_ca (goodIn_ca (goodIn_ca (goodIn_r _ [56, 57, 58, 59, 60, 61, 62, 2, 63, 64, 65, 19, 23, 66, 67, 68, 69, 70, 71, 25, 72, 73, 74, 18, 75, 76, 77, 78, 79, 32, 80, 81, 82, 83, 84, 85, 86, 87, 21, 15, 88, 89, 90, 91, 92, 93, 94, 95, 96, 27, 97, 36, 98, 99, 100, 101, 102, 103, 104, 105, 106, 107, 108, 109, 110, 111, 112, 113, 114, 24, 115, 116, 117, 118, 38, 37, 39, 119, 120, 121, 122, 123, 124, 125, 126, 127, 128, 129, 130, 131, 132, 133, 134, 135, 136, 137, 138, 139, 140, 141, 142, 143, 144, 145, 146, 147, 148, 511, 512, 513, 514, 515, 516, 517, 518, 535, 536, 537, 538, 539, 540] (by decide +kernel) (by decide +kernel)) (goodIn_sub (fun _ h => List.mem_append_left _ (List.mem_append_left _ (List.mem_append_left _ (List.mem_append_left _ (List.mem_append_right _ h))))) (by decide +kernel))) (goodIn_sub (fun _ h => List.mem_append_left _ (List.mem_append_left _ (List.mem_append_left _ (List.mem_append_right _ h)))) (by decide +kernel))) (goodIn_sub (fun _ h => List.mem_append_left _ (List.mem_append_left _ (List.mem_append_right _ h))) (by decide +kernel))
set_option maxRecDepth 20000 in
theorem gL_law_L_append : GoodIn wsL_law (va_wsS RL 79 yL_append wsL_append) := goodIn_app (goodIn_of _ (by decide +kernel)) ggL_law_L_append
set_option maxRecDepth 20000 in
theorem ggL_law_X3_append : GoodIn wsL_law wsX3_append := goodIn_r _ [152, 50, 153, 51, 52, 154, 155, 156, 157, 158, 159, 5, 160, 161, 162, 163, 164, 165, 45, 166, 167, 168, 169, 170, 171, 172, 173, 47, 174, 175, 176, 177, 46, 178, 179, 180, 181, 48, 182, 183, 184, 185, 186, 187, 188, 189, 190, 519, 520, 521, 522, 523, 524, 525, 526, 527, 528, 529, 530, 531, 532, 533, 534] (by decide +kernel) (by decide +kernel)
set_option maxRecDepth 20000 in
theorem gL_law_X3_append : GoodIn wsL_law (wsV RL 84 RX3 yX3_append wsX3_append) := goodIn_app (goodIn_of _ (by decide +kernel)) ggL_law_X3_append
set_option maxRecDepth 20000 in
theorem ggL_law_X3_thrown : GoodIn wsL_law wsX3_thrown := goodIn_r _ [194, 153, 519, 520, 521, 522, 523, 524, 525, 526, 527, 528, 529, 530, 531, 532, 533, 534] (by decide +kernel) (by decide +kernel)
set_option maxRecDepth 20000 in
theorem gL_law_X3_thrown : GoodIn wsL_law (wsV RL 85 RX3 yX3_thrown wsX3_thrown) := goodIn_app (goodIn_of _ (by decide +kernel)) ggL_law_X3_thrown
set_option maxRecDepth 20000 in
theorem ggL_law_L_sync : GoodIn wsL_law wsL_sync := goodIn_ca (goodIn_ca (goodIn_r _ [197, 57, 59, 198, 199, 200, 2, 201, 19, 23, 66, 67, 68, 69, 70, 71, 25, 202, 146, 147, 18, 148, 76, 77, 78, 79, 32, 84, 85, 86, 87, 21, 15, 88, 89, 90, 91, 92, 93, 94, 95, 96, 27, 97, 36, 98, 99, 100, 101, 102, 103, 104, 105, 106, 107, 108, 109, 110, 111, 112, 113, 114, 24, 115, 116, 117, 118, 38, 37, 39, 119, 120, 121, 122, 123, 124, 125, 126, 127, 128, 129, 130, 131, 132, 133, 134, 135, 136, 137, 138, 139, 511, 512, 513, 514, 515, 516, 517, 518, 535, 536, 537, 538, 539, 540] (by decide +kernel) (by decide +kernel)) (goodIn_sub (fun _ h => List.mem_append_left _ (List.mem_append_left _ (List.mem_append_left _ (List.mem_append_right _ h)))) (by decide +kernel))) (goodIn_sub (fun _ h => List.mem_append_left _ (List.mem_append_left _ (List.mem_append_right _ h))) (by decide +kernel))
set_option maxRecDepth 20000 in
theorem gL_law_L_sync : GoodIn wsL_law (va_wsS RL 88 yL_sync wsL_sync) := goodIn_app (goodIn_of _ (by decide +kernel)) ggL_law_L_sync
set_option maxRecDepth 20000 in
theorem ggL_law_X3_sync : GoodIn wsL_law wsX3_sync := goodIn_r _ [206, 50, 155, 153, 156, 157, 158, 159, 5, 160, 161, 162, 163, 164, 165, 45, 166, 167, 168, 169, 170, 171, 172, 173, 47, 174, 175, 176, 177, 52, 46, 178, 179, 180, 181, 48, 182, 183, 184, 185, 186, 187, 188, 189, 190, 51, 519, 520, 521, 522, 523, 524, 525, 526, 527, 528, 529, 530, 531, 532, 533, 534] (by decide +kernel) (by decide +kernel)
set_option maxRecDepth 20000 in
theorem gL_law_X3_sync : GoodIn wsL_law (wsV RL 91 RX3 yX3_sync wsX3_sync) := goodIn_app (goodIn_of _ (by decide +kernel)) ggL_law_X3_sync
set_option maxRecDepth 20000 in
theorem ggL_law_L_cutAfter : GoodIn wsL_law wsL_cutAfter := goodIn_ca (goodIn_r _ [209, 58, 210, 211, 212, 2, 213, 64, 65, 24, 511, 512, 513, 514, 515, 516, 517, 518] (by decide +kernel) (by decide +kernel)) (goodIn_sub (fun _ h => List.mem_append_left _ (List.mem_append_left _ (List.mem_append_left _ (List.mem_append_left _ (List.mem_append_right _ h))))) (by decide +kernel))
set_option maxRecDepth 20000 in
theorem gL_law_L_cutAfter : GoodIn wsL_law (va_wsS RL 92 yL_cutAfter wsL_cutAfter) := goodIn_app (goodIn_of _ (by decide +kernel)) ggL_law_L_cutAfter
set_option maxRecDepth 20000 in
theorem ggL_law_X3_cutAfter : GoodIn wsL_law wsX3_cutAfter := goodIn_r _ [217, 153, 186, 519, 520, 521, 522, 523, 524, 525, 526, 527, 528, 529, 530, 531, 532, 533, 534] (by decide +kernel) (by decide +kernel)
set_option maxRecDepth 20000 in
theorem gL_law_X3_cutAfter : GoodIn wsL_law (wsV RL 95 RX3 yX3_cutAfter wsX3_cutAfter) := goodIn_app (goodIn_of _ (by decide +kernel)) ggL_law_X3_cutAfter
set_option maxRecDepth 20000 in
theorem ggL_law_L_off : GoodIn wsL_law wsL_off := goodIn_ca (goodIn_r _ [220, 57, 221, 222, 223, 2, 224, 25, 19, 66, 67, 68, 69, 70, 71, 225, 77, 78, 18, 79, 32, 511, 512, 513, 514, 515, 516, 517, 518, 535] (by decide +kernel) (by decide +kernel)) (goodIn_sub (fun _ h => List.mem_append_left _ (List.mem_append_left _ (List.mem_append_left _ (List.mem_append_right _ h)))) (by decide +kernel))
set_option maxRecDepth 20000 in
theorem gL_law_L_off : GoodIn wsL_law (va_wsS RL 96 yL_off wsL_off) := goodIn_app (goodIn_of _ (by decide +kernel)) ggL_law_L_off
set_option maxRecDepth 20000 in
theorem ggL_law_X3_off : GoodIn wsL_law wsX3_off := goodIn_r _ [229, 50, 153, 155, 519, 520, 521, 522, 523, 524, 525, 526, 527, 528, 529, 530, 531, 532, 533, 534] (by decide +kernel) (by decide +kernel)
set_option maxRecDepth 20000 in
theorem gL_law_X3_off : GoodIn wsL_law (wsV RL 98 RX3 yX3_off wsX3_off) := goodIn_app (goodIn_of _ (by decide +kernel)) ggL_law_X3_off
set_option maxRecDepth 20000 in
theorem ggL_law_L_start : GoodIn wsL_law wsL_start := goodIn_ca (goodIn_r _ [232, 57, 233, 234, 235, 2, 236, 70, 71, 25, 19, 23, 135, 136, 137, 18, 138, 32, 139, 120, 121, 122, 237, 238, 239, 240, 15, 102, 103, 104, 27, 105, 98, 99, 100, 101, 36, 241, 242, 243, 244, 20, 245, 246, 247, 248, 249, 250, 251, 252, 253, 254, 255, 256, 257, 258, 259, 260, 261, 262, 263, 264, 39, 38, 265, 266, 267, 268, 37, 269, 270, 271, 272, 273, 274, 275, 276, 76, 77, 78, 79, 277, 278, 279, 280, 40, 119, 281, 282, 283, 284, 21, 22, 285, 286, 287, 288, 289, 511, 512, 513, 514, 515, 516, 517, 518, 535, 536, 537, 538, 539, 540] (by decide +kernel) (by decide +kernel)) (goodIn_sub (fun _ h => List.mem_append_left _ (List.mem_append_left _ (List.mem_append_left _ (List.mem_append_right _ h)))) (by decide +kernel))
set_option maxRecDepth 20000 in
theorem gL_law_L_start : GoodIn wsL_law (va_wsS RL 99 yL_start wsL_start) := goodIn_app (goodIn_of _ (by decide +kernel)) ggL_law_L_start
set_option maxRecDepth 20000 in
theorem ggL_law_X3_start : GoodIn wsL_law wsX3_start := goodIn_r _ [293, 50, 153, 161, 294, 156, 187, 188, 189, 5, 190, 155, 51, 52, 295, 296, 297, 298, 299, 300, 301, 302, 45, 303, 304, 305, 306, 47, 307, 308, 309, 310, 48, 311, 312, 313, 314, 315, 316, 317, 318, 319, 320, 321, 322, 46, 170, 171, 172, 173, 323, 324, 325, 326, 49, 519, 520, 521, 522, 523, 524, 525, 526, 527, 528, 529, 530, 531, 532, 533, 534] (by decide +kernel) (by decide +kernel)
set_option maxRecDepth 20000 in
theorem gL_law_X3_start : GoodIn wsL_law (wsV RL 101 RX3 yX3_start wsX3_start) := goodIn_app (goodIn_of _ (by decide +kernel)) ggL_law_X3_start
set_option maxRecDepth 20000 in
theorem ggL_law_L_trim : GoodIn wsL_law wsL_trim := goodIn_ca (goodIn_ca (goodIn_r _ [329, 57, 58, 330, 331, 332, 2, 333, 64, 65, 22, 23, 21, 15, 66, 67, 68, 69, 70, 71, 25, 102, 103, 104, 27, 105, 98, 99, 100, 101, 36, 241, 242, 243, 244, 20, 245, 246, 247, 248, 249, 250, 251, 252, 253, 254, 255, 256, 257, 258, 259, 260, 261, 262, 263, 264, 39, 38, 265, 266, 267, 268, 37, 269, 270, 271, 18, 272, 273, 274, 275, 276, 32, 76, 77, 78, 79, 277, 278, 279, 280, 40, 119, 120, 121, 122, 511, 512, 513, 514, 515, 516, 517, 518, 536, 537, 538, 539, 540, 535] (by decide +kernel) (by decide +kernel)) (goodIn_sub (fun _ h => List.mem_append_left _ (List.mem_append_left _ (List.mem_append_left _ (List.mem_append_left _ (List.mem_append_right _ h))))) (by decide +kernel))) (goodIn_sub (fun _ h => List.mem_append_left _ (List.mem_append_left _ (List.mem_append_left _ (List.mem_append_right _ h)))) (by decide +kernel))
set_option maxRecDepth 20000 in
theorem gL_law_L_trim : GoodIn wsL_law (va_wsS RL 102 yL_trim wsL_trim) := goodIn_app (goodIn_of _ (by decide +kernel)) ggL_law_L_trim
set_option maxRecDepth 20000 in
theorem ggL_law_X3_trim : GoodIn wsL_law wsX3_trim := goodIn_r _ [337, 50, 294, 156, 153, 161, 170, 171, 172, 5, 173, 47, 45, 295, 296, 297, 298, 299, 300, 301, 302, 303, 304, 305, 306, 307, 308, 309, 310, 48, 311, 312, 313, 314, 315, 316, 317, 318, 319, 320, 321, 322, 46, 323, 324, 325, 326, 49, 519, 520, 521, 522, 523, 524, 525, 526, 527, 528, 529, 530, 531, 532, 533, 534] (by decide +kernel) (by decide +kernel)
set_option maxRecDepth 20000 in
theorem gL_law_X3_trim : GoodIn wsL_law (wsV RL 105 RX3 yX3_trim wsX3_trim) := goodIn_app (goodIn_of _ (by decide +kernel)) ggL_law_X3_trim
set_option maxRecDepth 20000 in
theorem ggL_law_L_first : GoodIn wsL_law wsL_first := goodIn_ca (goodIn_r _ [340, 57, 341, 342, 343, 2, 344, 22, 66, 67, 68, 69, 70, 71, 25, 511, 512, 513, 514, 515, 516, 517, 518] (by decide +kernel) (by decide +kernel)) (goodIn_sub (fun _ h => List.mem_append_left _ (List.mem_append_left _ (List.mem_append_left _ (List.mem_append_right _ h)))) (by decide +kernel))
set_option maxRecDepth 20000 in
theorem gL_law_L_first : GoodIn wsL_law (va_wsS RL 106 yL_first wsL_first) := goodIn_app (goodIn_of _ (by decide +kernel)) ggL_law_L_first
set_option maxRecDepth 20000 in
theorem ggL_law_X3_first : GoodIn wsL_law wsX3_first := goodIn_r _ [348, 50, 153, 294, 519, 520, 521, 522, 523, 524, 525, 526, 527, 528, 529, 530, 531, 532, 533, 534] (by decide +kernel) (by decide +kernel)
set_option maxRecDepth 20000 in
theorem gL_law_X3_first : GoodIn wsL_law (wsV RL 108 RX3 yX3_first wsX3_first) := goodIn_app (goodIn_of _ (by decide +kernel)) ggL_law_X3_first
set_option maxRecDepth 20000 in
theorem ggL_law_L_count : GoodIn wsL_law wsL_count := goodIn_ca (goodIn_r _ [351, 57, 352, 353, 354, 2, 355, 23, 66, 67, 68, 69, 70, 71, 25, 511, 512, 513, 514, 515, 516, 517, 518] (by decide +kernel) (by decide +kernel)) (goodIn_sub (fun _ h => List.mem_append_left _ (List.mem_append_left _ (List.mem_append_left _ (List.mem_append_right _ h)))) (by decide +kernel))
set_option maxRecDepth 20000 in
theorem gL_law_L_count : GoodIn wsL_law (va_wsS RL 109 yL_count wsL_count) := goodIn_app (goodIn_of _ (by decide +kernel)) ggL_law_L_count
set_option maxRecDepth 20000 in
theorem ggL_law_X3_count : GoodIn wsL_law wsX3_count := goodIn_r _ [359, 50, 153, 156, 519, 520, 521, 522, 523, 524, 525, 526, 527, 528, 529, 530, 531, 532, 533, 534] (by decide +kernel) (by decide +kernel)
set_option maxRecDepth 20000 in
theorem gL_law_X3_count : GoodIn wsL_law (wsV RL 111 RX3 yX3_count wsX3_count) := goodIn_app (goodIn_of _ (by decide +kernel)) ggL_law_X3_count
set_option maxRecDepth 20000 in
theorem ggL_law_L_length : GoodIn wsL_law wsL_length := goodIn_ca (goodIn_ca (goodIn_r _ [362, 57, 363, 364, 365, 366, 2, 367, 66, 67, 68, 69, 70, 71, 25, 368, 369, 370, 371, 372, 373, 22, 23, 374, 375, 376, 377, 19, 15, 20, 378, 379, 380, 18, 381, 145, 146, 147, 148, 76, 77, 78, 79, 32, 273, 274, 275, 276, 382, 270, 271, 272, 249, 250, 251, 27, 252, 253, 254, 255, 256, 36, 257, 258, 259, 260, 261, 262, 263, 264, 39, 38, 265, 266, 267, 268, 37, 383, 384, 385, 386, 80, 81, 82, 83, 511, 512, 513, 514, 515, 516, 517, 518, 535, 536, 537, 538, 539, 540] (by decide +kernel) (by decide +kernel)) (goodIn_sub (fun _ h => List.mem_append_left _ (List.mem_append_left _ (List.mem_append_left _ (List.mem_append_right _ h)))) (by decide +kernel))) (goodIn_sub (fun _ h => List.mem_append_left _ (List.mem_append_right _ h)) (by decide +kernel))
set_option maxRecDepth 20000 in
theorem gL_law_L_length : GoodIn wsL_law (va_wsS RL 112 yL_length wsL_length) := goodIn_app (goodIn_of _ (by decide +kernel)) ggL_law_L_length
set_option maxRecDepth 20000 in
theorem ggL_law_X3_length : GoodIn wsL_law wsX3_length := goodIn_r _ [390, 50, 294, 156, 153, 391, 392, 393, 394, 395, 5, 396, 155, 299, 300, 301, 302, 45, 303, 304, 305, 306, 47, 307, 308, 309, 310, 48, 315, 316, 317, 318, 319, 320, 321, 322, 46, 311, 312, 313, 314, 397, 398, 399, 400, 52, 519, 520, 521, 522, 523, 524, 525, 526, 527, 528, 529, 530, 531, 532, 533, 534] (by decide +kernel) (by decide +kernel)
set_option maxRecDepth 20000 in
theorem gL_law_X3_length : GoodIn wsL_law (wsV RL 114 RX3 yX3_length wsX3_length) := goodIn_app (goodIn_of _ (by decide +kernel)) ggL_law_X3_length
set_option maxRecDepth 20000 in
theorem ggL_law_L_event : GoodIn wsL_law wsL_event := goodIn_ca (goodIn_ca (goodIn_ca (goodIn_r _ [403, 57, 363, 404, 405, 406, 407, 2, 408, 409, 410, 66, 67, 68, 69, 70, 71, 25, 368, 369, 370, 371, 372, 373, 22, 23, 374, 375, 376, 377, 19, 15, 20, 378, 379, 380, 18, 381, 145, 146, 147, 148, 76, 77, 78, 79, 32, 273, 274, 275, 276, 382, 270, 271, 272, 249, 250, 251, 27, 252, 253, 254, 255, 256, 36, 257, 258, 259, 260, 261, 262, 263, 264, 39, 38, 265, 266, 267, 268, 37, 411, 412, 413, 414, 80, 81, 82, 83, 511, 512, 513, 514, 515, 516, 517, 518, 535, 536, 537, 538, 539, 540] (by decide +kernel) (by decide +kernel)) (goodIn_sub (fun _ h => List.mem_append_right _ h) (by decide +kernel))) (goodIn_sub (fun _ h => List.mem_append_left _ (List.mem_append_left _ (List.mem_append_left _ (List.mem_append_right _ h)))) (by decide +kernel))) (goodIn_sub (fun _ h => List.mem_append_left _ (List.mem_append_right _ h)) (by decide +kernel))
set_option maxRecDepth 20000 in
theorem gL_law_L_event : GoodIn wsL_law (va_wsS RL 115 yL_event wsL_event) := goodIn_app (goodIn_of _ (by decide +kernel)) ggL_law_L_event
set_option maxRecDepth 20000 in
theorem ggL_law_X3_event : GoodIn wsL_law wsX3_event := goodIn_r _ [418, 50, 294, 156, 153, 391, 392, 393, 394, 395, 5, 396, 155, 299, 300, 301, 302, 45, 303, 304, 305, 306, 47, 307, 308, 309, 310, 48, 315, 316, 317, 318, 319, 320, 321, 322, 46, 311, 312, 313, 314, 397, 398, 399, 400, 52, 519, 520, 521, 522, 523, 524, 525, 526, 527, 528, 529, 530, 531, 532, 533, 534] (by decide +kernel) (by decide +kernel)
set_option maxRecDepth 20000 in
theorem gL_law_X3_event : GoodIn wsL_law (wsV RL 117 RX3 yX3_event wsX3_event) := goodIn_app (goodIn_of _ (by decide +kernel)) ggL_law_X3_event
set_option maxRecDepth 20000 in
theorem ggL_law_L_ruin : GoodIn wsL_law wsL_ruin := goodIn_ca (goodIn_r _ [421, 363, 422, 423, 424, 2, 425, 15, 426, 427, 428, 372, 373, 429, 430, 431, 432, 433, 434, 435, 436, 437, 27, 438, 36, 511, 512, 513, 514, 515, 516, 517, 518, 536, 537, 538, 539, 540] (by decide +kernel) (by decide +kernel)) (goodIn_sub (fun _ h => List.mem_append_left _ (List.mem_append_right _ h)) (by decide +kernel))
set_option maxRecDepth 20000 in
theorem gL_law_L_ruin : GoodIn wsL_law (va_wsS RL 118 yL_ruin wsL_ruin) := goodIn_app (goodIn_of _ (by decide +kernel)) ggL_law_L_ruin
set_option maxRecDepth 20000 in
theorem ggL_law_X3_ruin : GoodIn wsL_law wsX3_ruin := goodIn_r _ [442, 153, 45, 443, 444, 5, 445, 446, 447, 448, 519, 520, 521, 522, 523, 524, 525, 526, 527, 528, 529, 530, 531, 532, 533, 534] (by decide +kernel) (by decide +kernel)
set_option maxRecDepth 20000 in
theorem gL_law_X3_ruin : GoodIn wsL_law (wsV RL 121 RX3 yX3_ruin wsX3_ruin) := goodIn_app (goodIn_of _ (by decide +kernel)) ggL_law_X3_ruin
set_option maxRecDepth 20000 in
theorem ggL_law_L_page : GoodIn wsL_law wsL_page := goodIn_ca (goodIn_r _ [451, 363, 452, 453, 454, 2, 455, 15, 426, 427, 428, 372, 373, 429, 430, 431, 432, 433, 434, 456, 457, 458, 27, 459, 36, 257, 258, 259, 260, 261, 262, 263, 264, 39, 38, 511, 512, 513, 514, 515, 516, 517, 518, 536, 537, 538, 539, 540] (by decide +kernel) (by decide +kernel)) (goodIn_sub (fun _ h => List.mem_append_left _ (List.mem_append_right _ h)) (by decide +kernel))
set_option maxRecDepth 20000 in
theorem gL_law_L_page : GoodIn wsL_law (va_wsS RL 122 yL_page wsL_page) := goodIn_app (goodIn_of _ (by decide +kernel)) ggL_law_L_page
set_option maxRecDepth 20000 in
theorem ggL_law_X3_page : GoodIn wsL_law wsX3_page := goodIn_r _ [463, 153, 45, 443, 444, 5, 445, 446, 447, 448, 303, 304, 305, 306, 47, 307, 308, 309, 310, 48, 519, 520, 521, 522, 523, 524, 525, 526, 527, 528, 529, 530, 531, 532, 533, 534] (by decide +kernel) (by decide +kernel)
set_option maxRecDepth 20000 in
theorem gL_law_X3_page : GoodIn wsL_law (wsV RL 124 RX3 yX3_page wsX3_page) := goodIn_app (goodIn_of _ (by decide +kernel)) ggL_law_X3_page
set_option maxRecDepth 20000 in
theorem ggL_law_L_at : GoodIn wsL_law wsL_at := goodIn_ca (goodIn_ca (goodIn_r _ [466, 363, 404, 467, 468, 469, 2, 470, 372, 373, 409, 410, 15, 426, 427, 428, 429, 430, 431, 432, 433, 434, 471, 254, 255, 27, 256, 36, 257, 258, 259, 260, 261, 262, 263, 264, 39, 38, 472, 266, 267, 268, 37, 511, 512, 513, 514, 515, 516, 517, 518, 536, 537, 538, 539, 540] (by decide +kernel) (by decide +kernel)) (goodIn_sub (fun _ h => List.mem_append_left _ (List.mem_append_right _ h)) (by decide +kernel))) (goodIn_sub (fun _ h => List.mem_append_right _ h) (by decide +kernel))
set_option maxRecDepth 20000 in
theorem gL_law_L_at : GoodIn wsL_law (va_wsS RL 125 yL_at wsL_at) := goodIn_app (goodIn_of _ (by decide +kernel)) ggL_law_L_at
set_option maxRecDepth 20000 in
theorem ggL_law_X3_at : GoodIn wsL_law wsX3_at := goodIn_r _ [476, 153, 443, 444, 5, 445, 446, 447, 448, 299, 300, 301, 302, 45, 303, 304, 305, 306, 47, 307, 308, 309, 310, 48, 319, 320, 321, 322, 46, 519, 520, 521, 522, 523, 524, 525, 526, 527, 528, 529, 530, 531, 532, 533, 534] (by decide +kernel) (by decide +kernel)
set_option maxRecDepth 20000 in
theorem gL_law_X3_at : GoodIn wsL_law (wsV RL 128 RX3 yX3_at wsX3_at) := goodIn_app (goodIn_of _ (by decide +kernel)) ggL_law_X3_at
set_option maxRecDepth 20000 in
theorem ggL_law_L_guard : GoodIn wsL_law wsL_guard := goodIn_ca (goodIn_r _ [479, 363, 480, 481, 482, 2, 483, 15, 429, 430, 431, 372, 373, 511, 512, 513, 514, 515, 516, 517, 518, 536, 537, 538, 539, 540] (by decide +kernel) (by decide +kernel)) (goodIn_sub (fun _ h => List.mem_append_left _ (List.mem_append_right _ h)) (by decide +kernel))
set_option maxRecDepth 20000 in
theorem gL_law_L_guard : GoodIn wsL_law (va_wsS RL 129 yL_guard wsL_guard) := goodIn_app (goodIn_of _ (by decide +kernel)) ggL_law_L_guard
set_option maxRecDepth 20000 in
theorem ggL_law_X3_guard : GoodIn wsL_law wsX3_guard := goodIn_r _ [487, 153, 47, 519, 520, 521, 522, 523, 524, 525, 526, 527, 528, 529, 530, 531, 532, 533, 534] (by decide +kernel) (by decide +kernel)
set_option maxRecDepth 20000 in
theorem gL_law_X3_guard : GoodIn wsL_law (wsV RL 131 RX3 yX3_guard wsX3_guard) := goodIn_app (goodIn_of _ (by decide +kernel)) ggL_law_X3_guard
set_option maxRecDepth 20000 in
theorem ggL_law_L_guarded : GoodIn wsL_law wsL_guarded := goodIn_ca (goodIn_ca (goodIn_r _ [490, 363, 404, 491, 492, 493, 2, 494, 372, 373, 409, 410, 15, 429, 430, 431, 511, 512, 513, 514, 515, 516, 517, 518, 536, 537, 538, 539, 540] (by decide +kernel) (by decide +kernel)) (goodIn_sub (fun _ h => List.mem_append_left _ (List.mem_append_right _ h)) (by decide +kernel))) (goodIn_sub (fun _ h => List.mem_append_right _ h) (by decide +kernel))
set_option maxRecDepth 20000 in
theorem gL_law_L_guarded : GoodIn wsL_law (va_wsS RL 132 yL_guarded wsL_guarded) := goodIn_app (goodIn_of _ (by decide +kernel)) ggL_law_L_guarded
set_option maxRecDepth 20000 in
theorem ggL_law_X3_guarded : GoodIn wsL_law wsX3_guarded := goodIn_r _ [498, 153, 47, 48, 519, 520, 521, 522, 523, 524, 525, 526, 527, 528, 529, 530, 531, 532, 533, 534] (by decide +kernel) (by decide +kernel)
set_option maxRecDepth 20000 in
theorem gL_law_X3_guarded : GoodIn wsL_law (wsV RL 135 RX3 yX3_guarded wsX3_guarded) := goodIn_app (goodIn_of _ (by decide +kernel)) ggL_law_X3_guarded
set_option maxRecDepth 20000 in
theorem ggL_law_X2_told : GoodIn wsL_law wsX2_told := goodIn_r _ [502, 15, 21, 25, 24, 503, 504, 505, 2, 506, 102, 103, 104, 27, 105, 98, 99, 100, 101, 36, 511, 512, 513, 514, 515, 516, 517, 518, 536, 537, 538, 539, 540] (by decide +kernel) (by decide +kernel)
set_option maxRecDepth 20000 in
theorem gL_law_X2_told : GoodIn wsL_law (wsV RL 136 RX2 yX2_told wsX2_told) := goodIn_app (goodIn_of _ (by decide +kernel)) ggL_law_X2_told
set_option maxRecDepth 20000 in
theorem ggL_law_X3_told : GoodIn wsL_law wsX3_told := goodIn_r _ [510, 153, 49, 161, 50, 186, 170, 171, 172, 5, 173, 47, 45, 519, 520, 521, 522, 523, 524, 525, 526, 527, 528, 529, 530, 531, 532, 533, 534] (by decide +kernel) (by decide +kernel)
set_option maxRecDepth 20000 in
theorem gL_law_X3_told : GoodIn wsL_law (wsV RL 139 RX3 yX3_told wsX3_told) := goodIn_app (goodIn_of _ (by decide +kernel)) ggL_law_X3_told
