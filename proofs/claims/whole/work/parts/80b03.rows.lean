set_option maxRecDepth 20000 in
theorem ggL_law_L_pop : GoodIn wsL_law wsL_pop := goodIn_ca (goodIn_r _ [365, 136, 366, 367, 368, 2, 369, 142, 143, 30, 352, 146, 191, 370, 371, 372, 29, 373, 357, 64, 65, 374, 289, 290, 291, 162, 200, 152, 153, 154, 155, 156, 157, 812, 813, 814, 815, 816, 817, 818, 819, 820, 821, 822, 823, 824, 825, 869, 870, 871, 872, 873, 874, 875, 876] (by decide +kernel) (by decide +kernel)) (goodIn_sub (fun _ h => List.mem_append_left _ (List.mem_append_left _ (List.mem_append_right _ h))) (by decide +kernel))
set_option maxRecDepth 20000 in
theorem gL_law_L_pop : GoodIn wsL_law (va_wsS RL 106 yL_pop wsL_pop) := goodIn_app (goodIn_of _ (by decide +kernel)) ggL_law_L_pop
set_option maxRecDepth 20000 in
theorem ggL_law_X8_pop : GoodIn wsL_law wsX8_pop := goodIn_r _ [378, 362, 114, 167, 115, 205, 172, 173, 5, 174, 175, 176, 177, 178, 179, 826, 827, 828, 829, 830, 831, 832, 833, 834, 835, 836, 837, 838, 839, 840, 841, 842, 843, 844, 845, 846, 847, 848, 849, 850, 851, 852, 853, 854, 855, 856, 857, 858, 859, 860, 861, 862, 863, 864, 865, 866, 867, 868] (by decide +kernel) (by decide +kernel)
set_option maxRecDepth 20000 in
theorem gL_law_X8_pop : GoodIn wsL_law (wsV RL 109 RX8 yX8_pop wsX8_pop) := goodIn_app (goodIn_of _ (by decide +kernel)) ggL_law_X8_pop
set_option maxRecDepth 20000 in
theorem ggL_law_L_told : GoodIn wsL_law wsL_told := goodIn_ca (goodIn_ca (goodIn_r _ [381, 382, 136, 383, 384, 385, 2, 386, 142, 143, 387, 388, 30, 146, 191, 389, 390, 147, 391, 392, 812, 813, 814, 815, 816, 817, 818, 819, 820, 821, 822, 823, 824, 825, 869, 870, 871, 872, 873, 874, 875, 876] (by decide +kernel) (by decide +kernel)) (goodIn_sub (fun _ h => List.mem_append_left _ (List.mem_append_left _ (List.mem_append_right _ h))) (by decide +kernel))) (goodIn_sub (fun _ h => List.mem_append_right _ h) (by decide +kernel))
set_option maxRecDepth 20000 in
theorem gL_law_L_told : GoodIn wsL_law (va_wsS RL 110 yL_told wsL_told) := goodIn_app (goodIn_of _ (by decide +kernel)) ggL_law_L_told
set_option maxRecDepth 20000 in
theorem ggL_law_X8_told : GoodIn wsL_law wsX8_told := goodIn_r _ [396, 397, 167, 205, 110, 111, 112, 113, 172, 173, 5, 174, 175, 176, 177, 178, 179, 826, 827, 828, 829, 830, 831, 832, 833, 834, 835, 836, 837, 838, 839, 840, 841, 842, 843, 844, 845, 846, 847, 848, 849, 850, 851, 852, 853, 854, 855, 856, 857, 858, 859, 860, 861, 862, 863, 864, 865, 866, 867, 868] (by decide +kernel) (by decide +kernel)
set_option maxRecDepth 20000 in
theorem gL_law_X8_told : GoodIn wsL_law (wsV RL 113 RX8 yX8_told wsX8_told) := goodIn_app (goodIn_of _ (by decide +kernel)) ggL_law_X8_told
set_option maxRecDepth 20000 in
theorem ggL_law_X7_rows : GoodIn wsL_law wsX7_rows := goodIn_r _ [401, 38, 402, 403, 404, 405, 2, 406, 156, 30, 407, 408, 409, 37, 410, 75, 411, 412, 413, 414, 415, 416, 417, 418, 419, 420, 421, 74, 422, 423, 424, 425, 426, 427, 428, 429, 430, 431, 432, 433, 434, 435, 436, 437, 812, 813, 814, 815, 816, 817, 818, 819, 820, 821, 822, 823, 824, 825, 885, 886, 887, 869, 870, 871, 872, 873, 874, 875, 876] (by decide +kernel) (by decide +kernel)
set_option maxRecDepth 20000 in
theorem gL_law_X7_rows : GoodIn wsL_law (wsV RL 114 RX7 yX7_rows wsX7_rows) := goodIn_app (goodIn_of _ (by decide +kernel)) ggL_law_X7_rows
set_option maxRecDepth 20000 in
theorem ggL_law_X8_rows : GoodIn wsL_law wsX8_rows := goodIn_r _ [441, 179, 442, 443, 444, 445, 446, 5, 447, 167, 110, 129, 111, 121, 122, 448, 449, 450, 451, 452, 453, 454, 455, 456, 457, 458, 459, 460, 461, 462, 463, 464, 465, 466, 467, 468, 826, 827, 828, 829, 830, 831, 832, 833, 834, 835, 836, 837, 838, 839, 840, 841, 842, 843, 844, 845, 846, 847, 848, 849, 850, 851, 852, 853, 854, 855, 856, 857, 858, 859, 860, 861, 862, 863, 864, 865, 866, 867, 868] (by decide +kernel) (by decide +kernel)
set_option maxRecDepth 20000 in
theorem gL_law_X8_rows : GoodIn wsL_law (wsV RL 117 RX8 yX8_rows wsX8_rows) := goodIn_app (goodIn_of _ (by decide +kernel)) ggL_law_X8_rows
set_option maxRecDepth 20000 in
theorem ggL_law_L_row : GoodIn wsL_law wsL_row := goodIn_ca (goodIn_r _ [471, 382, 472, 473, 474, 2, 475, 387, 388, 38, 402, 403, 404, 405, 406, 156, 30, 407, 408, 409, 37, 410, 75, 411, 412, 413, 414, 415, 416, 417, 418, 419, 420, 421, 74, 422, 423, 424, 425, 426, 427, 428, 429, 430, 431, 432, 433, 476, 477, 478, 479, 812, 813, 814, 815, 816, 817, 818, 819, 820, 821, 822, 823, 824, 825, 885, 886, 887, 869, 870, 871, 872, 873, 874, 875, 876] (by decide +kernel) (by decide +kernel)) (goodIn_sub (fun _ h => List.mem_append_right _ h) (by decide +kernel))
set_option maxRecDepth 20000 in
theorem gL_law_L_row : GoodIn wsL_law (va_wsS RL 118 yL_row wsL_row) := goodIn_app (goodIn_of _ (by decide +kernel)) ggL_law_L_row
set_option maxRecDepth 20000 in
theorem ggL_law_X8_row : GoodIn wsL_law wsX8_row := goodIn_r _ [483, 443, 121, 122, 464, 444, 445, 446, 5, 447, 442, 167, 110, 129, 111, 448, 449, 450, 451, 452, 453, 454, 455, 456, 457, 458, 459, 460, 461, 462, 463, 465, 466, 467, 468, 172, 173, 174, 175, 176, 177, 178, 179, 826, 827, 828, 829, 830, 831, 832, 833, 834, 835, 836, 837, 838, 839, 840, 841, 842, 843, 844, 845, 846, 847, 848, 849, 850, 851, 852, 853, 854, 855, 856, 857, 858, 859, 860, 861, 862, 863, 864, 865, 866, 867, 868] (by decide +kernel) (by decide +kernel)
set_option maxRecDepth 20000 in
theorem gL_law_X8_row : GoodIn wsL_law (wsV RL 120 RX8 yX8_row wsX8_row) := goodIn_app (goodIn_of _ (by decide +kernel)) ggL_law_X8_row
set_option maxRecDepth 20000 in
theorem ggL_law_X7_blame : GoodIn wsL_law wsX7_blame := goodIn_r _ [487, 38, 402, 42, 30, 403, 404, 405, 2, 406, 156, 407, 408, 409, 37, 410, 75, 411, 412, 413, 414, 415, 416, 417, 418, 419, 420, 421, 74, 422, 423, 424, 425, 426, 427, 428, 429, 430, 431, 432, 433, 488, 489, 490, 41, 491, 81, 82, 492, 493, 494, 495, 496, 497, 498, 80, 812, 813, 814, 815, 816, 817, 818, 819, 820, 821, 822, 823, 824, 825, 885, 886, 887, 869, 870, 871, 872, 873, 874, 875, 876, 888, 889, 890] (by decide +kernel) (by decide +kernel)
set_option maxRecDepth 20000 in
theorem gL_law_X7_blame : GoodIn wsL_law (wsV RL 121 RX7 yX7_blame wsX7_blame) := goodIn_app (goodIn_of _ (by decide +kernel)) ggL_law_X7_blame
set_option maxRecDepth 20000 in
theorem ggL_law_X8_blame : GoodIn wsL_law wsX8_blame := goodIn_r _ [502, 179, 503, 167, 110, 111, 123, 124, 125, 126, 458, 459, 5, 460, 504, 505, 506, 507, 508, 461, 462, 463, 464, 826, 827, 828, 829, 830, 831, 832, 833, 834, 835, 836, 837, 838, 839, 840, 841, 842, 843, 844, 845, 846, 847, 848, 849, 850, 851, 852, 853, 854, 855, 856, 857, 858, 859, 860, 861, 862, 863, 864, 865, 866, 867, 868] (by decide +kernel) (by decide +kernel)
set_option maxRecDepth 20000 in
theorem gL_law_X8_blame : GoodIn wsL_law (wsV RL 125 RX8 yX8_blame wsX8_blame) := goodIn_app (goodIn_of _ (by decide +kernel)) ggL_law_X8_blame
