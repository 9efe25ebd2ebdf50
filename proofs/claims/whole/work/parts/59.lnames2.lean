set_option maxRecDepth 20000 in
theorem ggL_law_X6_init : GoodIn wsL_law wsX6_init := goodIn_r _ [10, 11, 12, 13, 14, 15, 16, 17, 18, 19, 20, 21, 22, 23, 24, 25, 26, 27, 28, 29, 30, 31, 32, 33, 34, 35, 36, 37, 38, 39, 40, 41, 42, 43, 44, 45, 46, 47, 48, 49, 50, 51, 52, 53, 54, 55, 56, 57, 58, 6, 59, 60, 61, 62, 63, 64, 65, 66, 67, 68, 69, 511, 512, 513, 514, 515, 540, 541, 542, 543, 544, 545, 546, 547, 548, 549, 550, 551, 552, 553, 554, 555, 556, 557, 558, 559, 560, 561] (by decide +kernel) (by decide +kernel)
set_option maxRecDepth 20000 in
theorem gL_law_X6_init : GoodIn wsL_law (wsX6_init) := ggL_law_X6_init
set_option maxRecDepth 20000 in
theorem ggL_law_X7_init : GoodIn wsL_law wsX7_init := goodIn_r _ [72, 73, 12, 13, 37, 74, 75, 76, 77, 78, 79, 80, 81, 82, 83, 84, 6, 85, 86, 87, 88, 516, 517, 518, 519, 520, 521, 522, 523, 524, 525, 526, 527, 528, 529, 530, 531, 532, 533, 534, 535, 536, 537, 538, 539] (by decide +kernel) (by decide +kernel)
set_option maxRecDepth 20000 in
theorem gL_law_X7_init : GoodIn wsL_law (wsX7_init) := ggL_law_X7_init
set_option maxRecDepth 20000 in
theorem ggL_law_L_open : GoodIn wsL_law wsL_open := goodIn_ca (goodIn_ca (goodIn_r _ [92, 93, 94, 95, 96, 97, 2, 98, 99, 100, 101, 102, 103, 104, 105, 106, 107, 108, 109, 110, 111, 15, 112, 113, 114, 555, 556, 557, 511, 512, 513, 514, 515] (by decide +kernel) (by decide +kernel)) (goodIn_sub (fun _ h => List.mem_append_left _ (List.mem_append_left _ (List.mem_append_right _ h))) (by decide +kernel))) (goodIn_sub (fun _ h => List.mem_append_left _ (List.mem_append_right _ h)) (by decide +kernel))
set_option maxRecDepth 20000 in
theorem gL_law_L_open : GoodIn wsL_law (va_wsS RL 57 yL_open wsL_open) := goodIn_app (goodIn_of _ (by decide +kernel)) ggL_law_L_open
set_option maxRecDepth 20000 in
theorem ggL_law_X7_open : GoodIn wsL_law wsX7_open := goodIn_r _ [118, 119, 74, 75, 120, 121, 5, 122, 123, 124, 125, 126, 516, 517, 518, 519, 520, 521, 522, 523, 524, 525, 526, 527, 528, 529, 530, 531, 532, 533, 534, 535, 536, 537, 538, 539] (by decide +kernel) (by decide +kernel)
set_option maxRecDepth 20000 in
theorem gL_law_X7_open : GoodIn wsL_law (wsV RL 62 RX7 yX7_open wsX7_open) := goodIn_app (goodIn_of _ (by decide +kernel)) ggL_law_X7_open
set_option maxRecDepth 20000 in
theorem ggL_law_X7_thrown : GoodIn wsL_law wsX7_thrown := goodIn_r _ [130, 119, 516, 517, 518, 519, 520, 521, 522, 523, 524, 525, 526, 527, 528, 529, 530, 531, 532, 533, 534, 535, 536, 537, 538, 539] (by decide +kernel) (by decide +kernel)
set_option maxRecDepth 20000 in
theorem gL_law_X7_thrown : GoodIn wsL_law (wsV RL 63 RX7 yX7_thrown wsX7_thrown) := goodIn_app (goodIn_of _ (by decide +kernel)) ggL_law_X7_thrown
set_option maxRecDepth 20000 in
theorem ggL_law_L_add : GoodIn wsL_law wsL_add := goodIn_ca (goodIn_ca (goodIn_ca (goodIn_r _ [133, 93, 94, 134, 135, 136, 137, 2, 138, 104, 105, 139, 140, 141, 142, 143, 144, 100, 101, 102, 103, 99, 106, 107, 108, 109, 110, 111, 15, 112, 113, 114, 145, 146, 147, 148, 149, 150, 48, 151, 152, 53, 54, 55, 555, 556, 557, 558, 559, 560, 561, 511, 512, 513, 514, 515] (by decide +kernel) (by decide +kernel)) (goodIn_sub (fun _ h => List.mem_append_left _ (List.mem_append_left _ (List.mem_append_right _ h))) (by decide +kernel))) (goodIn_sub (fun _ h => List.mem_append_right _ h) (by decide +kernel))) (goodIn_sub (fun _ h => List.mem_append_left _ (List.mem_append_right _ h)) (by decide +kernel))
set_option maxRecDepth 20000 in
theorem gL_law_L_add : GoodIn wsL_law (va_wsS RL 67 yL_add wsL_add) := goodIn_app (goodIn_of _ (by decide +kernel)) ggL_law_L_add
set_option maxRecDepth 20000 in
theorem ggL_law_X7_add : GoodIn wsL_law wsX7_add := goodIn_r _ [156, 119, 75, 77, 78, 79, 120, 121, 5, 122, 123, 124, 125, 126, 74, 157, 158, 159, 160, 161, 516, 517, 518, 519, 520, 521, 522, 523, 524, 525, 526, 527, 528, 529, 530, 531, 532, 533, 534, 535, 536, 537, 538, 539] (by decide +kernel) (by decide +kernel)
set_option maxRecDepth 20000 in
theorem gL_law_X7_add : GoodIn wsL_law (wsV RL 70 RX7 yX7_add wsX7_add) := goodIn_app (goodIn_of _ (by decide +kernel)) ggL_law_X7_add
set_option maxRecDepth 20000 in
theorem ggL_law_L_seal : GoodIn wsL_law wsL_seal := goodIn_ca (goodIn_ca (goodIn_ca (goodIn_r _ [164, 93, 94, 134, 165, 166, 167, 2, 168, 104, 105, 139, 140, 141, 142, 19, 100, 101, 102, 103, 99, 106, 107, 108, 109, 110, 111, 15, 112, 113, 114, 169, 170, 171, 172, 173, 174, 175, 18, 176, 177, 38, 178, 179, 180, 181, 182, 183, 184, 185, 186, 187, 188, 189, 190, 191, 149, 150, 48, 151, 152, 53, 54, 55, 192, 193, 194, 33, 195, 68, 69, 555, 556, 557, 558, 559, 560, 561, 511, 512, 513, 514, 515, 540] (by decide +kernel) (by decide +kernel)) (goodIn_sub (fun _ h => List.mem_append_left _ (List.mem_append_left _ (List.mem_append_right _ h))) (by decide +kernel))) (goodIn_sub (fun _ h => List.mem_append_right _ h) (by decide +kernel))) (goodIn_sub (fun _ h => List.mem_append_left _ (List.mem_append_right _ h)) (by decide +kernel))
set_option maxRecDepth 20000 in
theorem gL_law_L_seal : GoodIn wsL_law (va_wsS RL 71 yL_seal wsL_seal) := goodIn_app (goodIn_of _ (by decide +kernel)) ggL_law_L_seal
set_option maxRecDepth 20000 in
theorem ggL_law_X7_seal : GoodIn wsL_law wsX7_seal := goodIn_r _ [199, 119, 75, 200, 74, 76, 120, 121, 5, 122, 123, 124, 125, 126, 201, 202, 203, 204, 80, 205, 206, 207, 208, 77, 78, 79, 209, 210, 211, 212, 213, 214, 215, 516, 517, 518, 519, 520, 521, 522, 523, 524, 525, 526, 527, 528, 529, 530, 531, 532, 533, 534, 535, 536, 537, 538, 539] (by decide +kernel) (by decide +kernel)
set_option maxRecDepth 20000 in
theorem gL_law_X7_seal : GoodIn wsL_law (wsV RL 74 RX7 yX7_seal wsX7_seal) := goodIn_app (goodIn_of _ (by decide +kernel)) ggL_law_X7_seal
set_option maxRecDepth 20000 in
theorem ggL_law_L_again : GoodIn wsL_law wsL_again := goodIn_ca (goodIn_ca (goodIn_ca (goodIn_r _ [218, 93, 94, 134, 219, 220, 221, 2, 222, 139, 140, 172, 223, 19, 141, 142, 100, 101, 102, 103, 104, 105, 99, 106, 107, 108, 109, 110, 111, 15, 112, 113, 114, 173, 174, 175, 18, 176, 177, 38, 178, 179, 180, 181, 182, 183, 184, 185, 186, 187, 188, 189, 190, 191, 149, 150, 48, 151, 152, 53, 54, 55, 555, 556, 557, 511, 512, 513, 514, 515, 558, 559, 560, 561, 540] (by decide +kernel) (by decide +kernel)) (goodIn_sub (fun _ h => List.mem_append_right _ h) (by decide +kernel))) (goodIn_sub (fun _ h => List.mem_append_left _ (List.mem_append_left _ (List.mem_append_right _ h))) (by decide +kernel))) (goodIn_sub (fun _ h => List.mem_append_left _ (List.mem_append_right _ h)) (by decide +kernel))
set_option maxRecDepth 20000 in
theorem gL_law_L_again : GoodIn wsL_law (va_wsS RL 75 yL_again wsL_again) := goodIn_app (goodIn_of _ (by decide +kernel)) ggL_law_L_again
set_option maxRecDepth 20000 in
theorem ggL_law_X7_again : GoodIn wsL_law wsX7_again := goodIn_r _ [227, 119, 200, 76, 75, 120, 121, 5, 122, 123, 124, 125, 126, 74, 201, 202, 203, 204, 80, 205, 206, 207, 208, 77, 78, 79, 209, 210, 211, 212, 213, 214, 215, 516, 517, 518, 519, 520, 521, 522, 523, 524, 525, 526, 527, 528, 529, 530, 531, 532, 533, 534, 535, 536, 537, 538, 539] (by decide +kernel) (by decide +kernel)
set_option maxRecDepth 20000 in
theorem gL_law_X7_again : GoodIn wsL_law (wsV RL 77 RX7 yX7_again wsX7_again) := goodIn_app (goodIn_of _ (by decide +kernel)) ggL_law_X7_again
set_option maxRecDepth 20000 in
theorem ggL_law_X6_drop : GoodIn wsL_law wsX6_drop := goodIn_r _ [231, 15, 99, 141, 142, 112, 113, 2, 114, 192, 193, 194, 33, 195, 68, 69, 511, 512, 513, 514, 515, 555, 556, 557, 558, 559, 560, 561] (by decide +kernel) (by decide +kernel)
set_option maxRecDepth 20000 in
theorem gL_law_X6_drop : GoodIn wsL_law (wsV RL 78 RX6 yX6_drop wsX6_drop) := goodIn_app (goodIn_of _ (by decide +kernel)) ggL_law_X6_drop
set_option maxRecDepth 20000 in
theorem ggL_law_X7_drop : GoodIn wsL_law wsX7_drop := goodIn_r _ [235, 119, 74, 75, 120, 121, 5, 122, 516, 517, 518, 519, 520, 521, 522, 523, 524, 525, 526, 527, 528, 529, 530, 531, 532, 533, 534, 535, 536, 537, 538, 539] (by decide +kernel) (by decide +kernel)
set_option maxRecDepth 20000 in
theorem gL_law_X7_drop : GoodIn wsL_law (wsV RL 82 RX7 yX7_drop wsX7_drop) := goodIn_app (goodIn_of _ (by decide +kernel)) ggL_law_X7_drop
set_option maxRecDepth 20000 in
theorem ggL_law_X6_track : GoodIn wsL_law wsX6_track := goodIn_r _ [239, 15, 99, 141, 142, 223, 112, 113, 2, 114, 511, 512, 513, 514, 515, 555, 556, 557, 558, 559, 560, 561] (by decide +kernel) (by decide +kernel)
set_option maxRecDepth 20000 in
theorem gL_law_X6_track : GoodIn wsL_law (wsV RL 83 RX6 yX6_track wsX6_track) := goodIn_app (goodIn_of _ (by decide +kernel)) ggL_law_X6_track
set_option maxRecDepth 20000 in
theorem ggL_law_X7_track : GoodIn wsL_law wsX7_track := goodIn_r _ [243, 119, 74, 75, 76, 120, 121, 5, 122, 516, 517, 518, 519, 520, 521, 522, 523, 524, 525, 526, 527, 528, 529, 530, 531, 532, 533, 534, 535, 536, 537, 538, 539] (by decide +kernel) (by decide +kernel)
set_option maxRecDepth 20000 in
theorem gL_law_X7_track : GoodIn wsL_law (wsV RL 86 RX7 yX7_track wsX7_track) := goodIn_app (goodIn_of _ (by decide +kernel)) ggL_law_X7_track
set_option maxRecDepth 20000 in
theorem ggL_law_L_sample : GoodIn wsL_law wsL_sample := goodIn_ca (goodIn_r _ [246, 93, 247, 248, 249, 2, 250, 110, 111, 141, 142, 144, 251, 252, 106, 107, 108, 109, 15, 112, 113, 114, 555, 556, 557, 558, 559, 560, 561, 511, 512, 513, 514, 515] (by decide +kernel) (by decide +kernel)) (goodIn_sub (fun _ h => List.mem_append_left _ (List.mem_append_right _ h)) (by decide +kernel))
set_option maxRecDepth 20000 in
theorem gL_law_L_sample : GoodIn wsL_law (va_wsS RL 87 yL_sample wsL_sample) := goodIn_app (goodIn_of _ (by decide +kernel)) ggL_law_L_sample
set_option maxRecDepth 20000 in
theorem ggL_law_X7_sample : GoodIn wsL_law wsX7_sample := goodIn_r _ [256, 119, 75, 77, 78, 79, 120, 121, 5, 122, 516, 517, 518, 519, 520, 521, 522, 523, 524, 525, 526, 527, 528, 529, 530, 531, 532, 533, 534, 535, 536, 537, 538, 539] (by decide +kernel) (by decide +kernel)
set_option maxRecDepth 20000 in
theorem gL_law_X7_sample : GoodIn wsL_law (wsV RL 90 RX7 yX7_sample wsX7_sample) := goodIn_app (goodIn_of _ (by decide +kernel)) ggL_law_X7_sample
set_option maxRecDepth 20000 in
theorem ggL_law_L_place : GoodIn wsL_law wsL_place := goodIn_ca (goodIn_ca (goodIn_ca (goodIn_r _ [259, 93, 94, 134, 260, 261, 262, 2, 263, 139, 140, 141, 142, 144, 252, 251, 100, 101, 102, 103, 104, 105, 99, 106, 107, 108, 109, 110, 111, 15, 112, 113, 114, 264, 265, 266, 48, 267, 152, 53, 268, 269, 270, 271, 272, 273, 555, 556, 557, 558, 559, 560, 561, 511, 512, 513, 514, 515] (by decide +kernel) (by decide +kernel)) (goodIn_sub (fun _ h => List.mem_append_right _ h) (by decide +kernel))) (goodIn_sub (fun _ h => List.mem_append_left _ (List.mem_append_left _ (List.mem_append_right _ h))) (by decide +kernel))) (goodIn_sub (fun _ h => List.mem_append_left _ (List.mem_append_right _ h)) (by decide +kernel))
set_option maxRecDepth 20000 in
theorem gL_law_L_place : GoodIn wsL_law (va_wsS RL 91 yL_place wsL_place) := goodIn_app (goodIn_of _ (by decide +kernel)) ggL_law_L_place
set_option maxRecDepth 20000 in
theorem ggL_law_X7_place : GoodIn wsL_law wsX7_place := goodIn_r _ [277, 119, 75, 77, 79, 78, 120, 121, 5, 122, 123, 124, 125, 126, 74, 278, 279, 280, 209, 210, 211, 516, 517, 518, 519, 520, 521, 522, 523, 524, 525, 526, 527, 528, 529, 530, 531, 532, 533, 534, 535, 536, 537, 538, 539] (by decide +kernel) (by decide +kernel)
set_option maxRecDepth 20000 in
theorem gL_law_X7_place : GoodIn wsL_law (wsV RL 94 RX7 yX7_place wsX7_place) := goodIn_app (goodIn_of _ (by decide +kernel)) ggL_law_X7_place
set_option maxRecDepth 20000 in
theorem ggL_law_L_pack : GoodIn wsL_law wsL_pack := goodIn_ca (goodIn_ca (goodIn_r _ [283, 93, 94, 284, 285, 286, 2, 287, 23, 141, 288, 100, 101, 102, 103, 104, 105, 99, 106, 107, 108, 109, 110, 111, 15, 112, 113, 114, 289, 290, 291, 22, 292, 293, 294, 295, 296, 297, 298, 299, 300, 301, 302, 303, 304, 305, 42, 306, 307, 308, 511, 512, 513, 514, 515, 555, 556, 557, 541, 542, 558, 559, 560, 561] (by decide +kernel) (by decide +kernel)) (goodIn_sub (fun _ h => List.mem_append_left _ (List.mem_append_left _ (List.mem_append_right _ h))) (by decide +kernel))) (goodIn_sub (fun _ h => List.mem_append_left _ (List.mem_append_right _ h)) (by decide +kernel))
set_option maxRecDepth 20000 in
theorem gL_law_L_pack : GoodIn wsL_law (va_wsS RL 95 yL_pack wsL_pack) := goodIn_app (goodIn_of _ (by decide +kernel)) ggL_law_L_pack
set_option maxRecDepth 20000 in
theorem ggL_law_X7_pack : GoodIn wsL_law wsX7_pack := goodIn_r _ [312, 119, 313, 75, 77, 78, 79, 120, 121, 5, 122, 123, 124, 125, 126, 74, 314, 315, 316, 317, 318, 81, 319, 320, 321, 322, 323, 516, 517, 518, 519, 520, 521, 522, 523, 524, 525, 526, 527, 528, 529, 530, 531, 532, 533, 534, 535, 536, 537, 538, 539] (by decide +kernel) (by decide +kernel)
set_option maxRecDepth 20000 in
theorem gL_law_X7_pack : GoodIn wsL_law (wsV RL 98 RX7 yX7_pack wsX7_pack) := goodIn_app (goodIn_of _ (by decide +kernel)) ggL_law_X7_pack
set_option maxRecDepth 20000 in
theorem ggL_law_X6_bytes : GoodIn wsL_law wsX6_bytes := goodIn_r _ [327, 23, 288, 328, 511, 512, 513, 514, 515, 541, 542] (by decide +kernel) (by decide +kernel)
set_option maxRecDepth 20000 in
theorem gL_law_X6_bytes : GoodIn wsL_law (wsV RL 99 RX6 yX6_bytes wsX6_bytes) := goodIn_app (goodIn_of _ (by decide +kernel)) ggL_law_X6_bytes
set_option maxRecDepth 20000 in
theorem ggL_law_X7_bytes : GoodIn wsL_law wsX7_bytes := goodIn_r _ [332, 119, 313, 81, 516, 517, 518, 519, 520, 521, 522, 523, 524, 525, 526, 527, 528, 529, 530, 531, 532, 533, 534, 535, 536, 537, 538, 539] (by decide +kernel) (by decide +kernel)
set_option maxRecDepth 20000 in
theorem gL_law_X7_bytes : GoodIn wsL_law (wsV RL 102 RX7 yX7_bytes wsX7_bytes) := goodIn_app (goodIn_of _ (by decide +kernel)) ggL_law_X7_bytes
set_option maxRecDepth 20000 in
theorem ggL_law_X6_put : GoodIn wsL_law wsX6_put := goodIn_r _ [336, 23, 288, 337, 303, 304, 22, 305, 293, 42, 511, 512, 513, 514, 515, 541, 542] (by decide +kernel) (by decide +kernel)
set_option maxRecDepth 20000 in
theorem gL_law_X6_put : GoodIn wsL_law (wsV RL 105 RX6 yX6_put wsX6_put) := goodIn_app (goodIn_of _ (by decide +kernel)) ggL_law_X6_put
set_option maxRecDepth 20000 in
theorem ggL_law_X7_put : GoodIn wsL_law wsX7_put := goodIn_r _ [341, 119, 313, 81, 516, 517, 518, 519, 520, 521, 522, 523, 524, 525, 526, 527, 528, 529, 530, 531, 532, 533, 534, 535, 536, 537, 538, 539] (by decide +kernel) (by decide +kernel)
set_option maxRecDepth 20000 in
theorem gL_law_X7_put : GoodIn wsL_law (wsV RL 109 RX7 yX7_put wsX7_put) := goodIn_app (goodIn_of _ (by decide +kernel)) ggL_law_X7_put
set_option maxRecDepth 20000 in
theorem ggL_law_X6_cut : GoodIn wsL_law wsX6_cut := goodIn_r _ [345, 23, 288, 511, 512, 513, 514, 515, 541, 542] (by decide +kernel) (by decide +kernel)
set_option maxRecDepth 20000 in
theorem gL_law_X6_cut : GoodIn wsL_law (wsV RL 110 RX6 yX6_cut wsX6_cut) := goodIn_app (goodIn_of _ (by decide +kernel)) ggL_law_X6_cut
set_option maxRecDepth 20000 in
theorem ggL_law_X7_cut : GoodIn wsL_law wsX7_cut := goodIn_r _ [349, 119, 313, 516, 517, 518, 519, 520, 521, 522, 523, 524, 525, 526, 527, 528, 529, 530, 531, 532, 533, 534, 535, 536, 537, 538, 539] (by decide +kernel) (by decide +kernel)
set_option maxRecDepth 20000 in
theorem gL_law_X7_cut : GoodIn wsL_law (wsV RL 113 RX7 yX7_cut wsX7_cut) := goodIn_app (goodIn_of _ (by decide +kernel)) ggL_law_X7_cut
set_option maxRecDepth 20000 in
theorem ggL_law_L_unpack : GoodIn wsL_law wsL_unpack := goodIn_ca (goodIn_ca (goodIn_ca (goodIn_r _ [352, 93, 94, 134, 353, 354, 355, 2, 356, 139, 140, 27, 23, 141, 357, 142, 100, 101, 102, 103, 104, 105, 99, 106, 107, 108, 109, 110, 111, 15, 112, 113, 114, 169, 170, 171, 172, 358, 359, 360, 26, 361, 362, 363, 49, 364, 365, 366, 367, 368, 369, 370, 371, 372, 373, 374, 375, 376, 377, 378, 379, 380, 381, 382, 383, 384, 385, 386, 149, 150, 48, 151, 152, 53, 54, 55, 387, 388, 389, 390, 391, 192, 193, 194, 33, 195, 68, 69, 511, 512, 513, 514, 515, 555, 556, 557, 543, 544, 545, 558, 559, 560, 561, 541, 542] (by decide +kernel) (by decide +kernel)) (goodIn_sub (fun _ h => List.mem_append_right _ h) (by decide +kernel))) (goodIn_sub (fun _ h => List.mem_append_left _ (List.mem_append_left _ (List.mem_append_right _ h))) (by decide +kernel))) (goodIn_sub (fun _ h => List.mem_append_left _ (List.mem_append_right _ h)) (by decide +kernel))
set_option maxRecDepth 20000 in
theorem gL_law_L_unpack : GoodIn wsL_law (va_wsS RL 114 yL_unpack wsL_unpack) := goodIn_app (goodIn_of _ (by decide +kernel)) ggL_law_L_unpack
set_option maxRecDepth 20000 in
theorem ggL_law_X7_unpack : GoodIn wsL_law wsX7_unpack := goodIn_r _ [395, 200, 119, 396, 77, 82, 78, 83, 79, 84, 75, 76, 74, 120, 121, 5, 122, 123, 124, 125, 126, 397, 398, 399, 400, 401, 402, 403, 313, 404, 405, 406, 407, 81, 408, 409, 410, 411, 412, 323, 413, 414, 415, 416, 516, 517, 518, 519, 520, 521, 522, 523, 524, 525, 526, 527, 528, 529, 530, 531, 532, 533, 534, 535, 536, 537, 538, 539] (by decide +kernel) (by decide +kernel)
set_option maxRecDepth 20000 in
theorem gL_law_X7_unpack : GoodIn wsL_law (wsV RL 116 RX7 yX7_unpack wsX7_unpack) := goodIn_app (goodIn_of _ (by decide +kernel)) ggL_law_X7_unpack
set_option maxRecDepth 20000 in
theorem ggL_law_L_spans : GoodIn wsL_law wsL_spans := goodIn_ca (goodIn_ca (goodIn_ca (goodIn_r _ [419, 93, 94, 134, 420, 421, 422, 2, 423, 139, 140, 424, 31, 425, 223, 141, 100, 101, 102, 103, 104, 105, 99, 106, 107, 108, 109, 110, 111, 15, 112, 113, 114, 145, 146, 147, 426, 427, 428, 30, 429, 430, 431, 432, 433, 434, 435, 436, 437, 438, 439, 440, 441, 442, 443, 444, 445, 446, 447, 448, 449, 450, 451, 452, 453, 454, 455, 456, 457, 458, 459, 61, 62, 59, 60, 511, 512, 513, 514, 515, 546, 547, 548, 549, 550, 551, 552, 553, 554, 555, 556, 557, 558, 559, 560, 561] (by decide +kernel) (by decide +kernel)) (goodIn_sub (fun _ h => List.mem_append_right _ h) (by decide +kernel))) (goodIn_sub (fun _ h => List.mem_append_left _ (List.mem_append_left _ (List.mem_append_right _ h))) (by decide +kernel))) (goodIn_sub (fun _ h => List.mem_append_left _ (List.mem_append_right _ h)) (by decide +kernel))
set_option maxRecDepth 20000 in
theorem gL_law_L_spans : GoodIn wsL_law (va_wsS RL 117 yL_spans wsL_spans) := goodIn_app (goodIn_of _ (by decide +kernel)) ggL_law_L_spans
set_option maxRecDepth 20000 in
theorem ggL_law_X7_spans : GoodIn wsL_law wsX7_spans := goodIn_r _ [463, 119, 464, 76, 75, 78, 79, 77, 465, 466, 467, 468, 120, 121, 5, 122, 123, 124, 125, 126, 74, 469, 470, 471, 472, 473, 474, 475, 476, 477, 87, 88, 85, 86, 278, 279, 280, 209, 210, 211, 478, 479, 480, 481, 482, 483, 484, 485, 486, 487, 488, 489, 490, 491, 492, 493, 494, 495, 516, 517, 518, 519, 520, 521, 522, 523, 524, 525, 526, 527, 528, 529, 530, 531, 532, 533, 534, 535, 536, 537, 538, 539] (by decide +kernel) (by decide +kernel)
set_option maxRecDepth 20000 in
theorem gL_law_X7_spans : GoodIn wsL_law (wsV RL 120 RX7 yX7_spans wsX7_spans) := goodIn_app (goodIn_of _ (by decide +kernel)) ggL_law_X7_spans
set_option maxRecDepth 20000 in
theorem ggL_law_L_span : GoodIn wsL_law wsL_span := goodIn_ca (goodIn_r _ [498, 93, 499, 500, 501, 2, 502, 110, 111, 31, 425, 503, 504, 505, 506, 268, 269, 270, 271, 272, 273, 511, 512, 513, 514, 515, 546, 547, 548, 549, 550, 551, 552, 553, 554] (by decide +kernel) (by decide +kernel)) (goodIn_sub (fun _ h => List.mem_append_left _ (List.mem_append_right _ h)) (by decide +kernel))
set_option maxRecDepth 20000 in
theorem gL_law_L_span : GoodIn wsL_law (va_wsS RL 121 yL_span wsL_span) := goodIn_app (goodIn_of _ (by decide +kernel)) ggL_law_L_span
set_option maxRecDepth 20000 in
theorem ggL_law_X7_span : GoodIn wsL_law wsX7_span := goodIn_r _ [510, 464, 119, 88, 87, 86, 85, 516, 517, 518, 519, 520, 521, 522, 523, 524, 525, 526, 527, 528, 529, 530, 531, 532, 533, 534, 535, 536, 537, 538, 539] (by decide +kernel) (by decide +kernel)
set_option maxRecDepth 20000 in
theorem gL_law_X7_span : GoodIn wsL_law (wsV RL 124 RX7 yX7_span wsX7_span) := goodIn_app (goodIn_of _ (by decide +kernel)) ggL_law_X7_span
