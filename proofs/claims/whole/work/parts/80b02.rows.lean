set_option maxRecDepth 20000 in
theorem ggL_law_L_clause : GoodIn wsL_law wsL_clause := goodIn_ca (goodIn_ca (goodIn_r _ [186, 136, 137, 187, 188, 189, 2, 190, 142, 143, 144, 145, 30, 191, 192, 193, 194, 195, 148, 149, 150, 151, 26, 55, 152, 153, 154, 155, 156, 157, 196, 197, 198, 29, 199, 200, 61, 62, 812, 813, 814, 815, 816, 817, 818, 819, 820, 821, 822, 823, 824, 825, 869, 870, 871, 872, 873, 874, 875, 876] (by decide +kernel) (by decide +kernel)) (goodIn_sub (fun _ h => List.mem_append_left _ (List.mem_append_left _ (List.mem_append_right _ h))) (by decide +kernel))) (goodIn_sub (fun _ h => List.mem_append_left _ (List.mem_append_right _ h)) (by decide +kernel))
set_option maxRecDepth 20000 in
theorem gL_law_L_clause : GoodIn wsL_law (va_wsS RL 87 yL_clause wsL_clause) := goodIn_app (goodIn_of _ (by decide +kernel)) ggL_law_L_clause
set_option maxRecDepth 20000 in
theorem ggL_law_X8_clause : GoodIn wsL_law wsX8_clause := goodIn_r _ [204, 205, 112, 113, 168, 169, 170, 5, 171, 132, 175, 176, 177, 178, 179, 826, 827, 828, 829, 830, 831, 832, 833, 834, 835, 836, 837, 838, 839, 840, 841, 842, 843, 844, 845, 846, 847, 848, 849, 850, 851, 852, 853, 854, 855, 856, 857, 858, 859, 860, 861, 862, 863, 864, 865, 866, 867, 868] (by decide +kernel) (by decide +kernel)
set_option maxRecDepth 20000 in
theorem gL_law_X8_clause : GoodIn wsL_law (wsV RL 90 RX8 yX8_clause wsX8_clause) := goodIn_app (goodIn_of _ (by decide +kernel)) ggL_law_X8_clause
set_option maxRecDepth 20000 in
theorem ggL_law_L_feed : GoodIn wsL_law wsL_feed := goodIn_ca (goodIn_ca (goodIn_r _ [208, 136, 137, 209, 210, 211, 2, 212, 142, 143, 144, 145, 34, 213, 214, 215, 216, 33, 217, 218, 69, 812, 813, 814, 815, 816, 817, 818, 819, 820, 821, 822, 823, 824, 825, 877, 878, 879, 880, 881, 882, 883, 884] (by decide +kernel) (by decide +kernel)) (goodIn_sub (fun _ h => List.mem_append_left _ (List.mem_append_left _ (List.mem_append_right _ h))) (by decide +kernel))) (goodIn_sub (fun _ h => List.mem_append_left _ (List.mem_append_right _ h)) (by decide +kernel))
set_option maxRecDepth 20000 in
theorem gL_law_L_feed : GoodIn wsL_law (va_wsS RL 91 yL_feed wsL_feed) := goodIn_app (goodIn_of _ (by decide +kernel)) ggL_law_L_feed
set_option maxRecDepth 20000 in
theorem ggL_law_X8_feed : GoodIn wsL_law wsX8_feed := goodIn_r _ [222, 223, 224, 116, 225, 172, 173, 5, 174, 175, 176, 177, 178, 179, 826, 827, 828, 829, 830, 831, 832, 833, 834, 835, 836, 837, 838, 839, 840, 841, 842, 843, 844, 845, 846, 847, 848, 849, 850, 851, 852, 853, 854, 855, 856, 857, 858, 859, 860, 861, 862, 863, 864, 865, 866, 867, 868] (by decide +kernel) (by decide +kernel)
set_option maxRecDepth 20000 in
theorem gL_law_X8_feed : GoodIn wsL_law (wsV RL 93 RX8 yX8_feed wsX8_feed) := goodIn_app (goodIn_of _ (by decide +kernel)) ggL_law_X8_feed
set_option maxRecDepth 20000 in
theorem ggL_law_X7_read : GoodIn wsL_law wsX7_read := goodIn_r _ [229, 30, 146, 191, 34, 25, 230, 231, 213, 232, 233, 234, 33, 235, 236, 237, 218, 238, 239, 240, 241, 242, 243, 244, 245, 69, 246, 247, 248, 249, 250, 251, 252, 253, 254, 255, 256, 257, 258, 259, 260, 261, 262, 263, 264, 265, 266, 267, 268, 269, 270, 271, 272, 19, 20, 21, 273, 274, 275, 276, 277, 278, 279, 280, 281, 282, 159, 160, 29, 161, 162, 60, 283, 197, 198, 199, 200, 61, 62, 284, 285, 286, 287, 288, 289, 290, 291, 152, 153, 154, 2, 155, 156, 157, 812, 813, 814, 815, 816, 817, 818, 819, 820, 821, 822, 823, 824, 825, 869, 870, 871, 872, 873, 874, 875, 876, 877, 878, 879, 880, 881, 882, 883, 884] (by decide +kernel) (by decide +kernel)
set_option maxRecDepth 20000 in
theorem gL_law_X7_read : GoodIn wsL_law (wsV RL 94 RX7 yX7_read wsX7_read) := goodIn_app (goodIn_of _ (by decide +kernel)) ggL_law_X7_read
set_option maxRecDepth 20000 in
theorem ggL_law_X8_read : GoodIn wsL_law wsX8_read := goodIn_r _ [295, 179, 296, 297, 167, 298, 205, 299, 224, 300, 110, 117, 111, 118, 112, 119, 113, 120, 301, 302, 303, 5, 304, 305, 306, 307, 308, 116, 309, 310, 311, 312, 313, 314, 315, 316, 317, 318, 319, 320, 321, 322, 323, 324, 325, 326, 327, 328, 329, 330, 331, 332, 333, 334, 335, 336, 132, 826, 827, 828, 829, 830, 831, 832, 833, 834, 835, 836, 837, 838, 839, 840, 841, 842, 843, 844, 845, 846, 847, 848, 849, 850, 851, 852, 853, 854, 855, 856, 857, 858, 859, 860, 861, 862, 863, 864, 865, 866, 867, 868] (by decide +kernel) (by decide +kernel)
set_option maxRecDepth 20000 in
theorem gL_law_X8_read : GoodIn wsL_law (wsV RL 97 RX8 yX8_read wsX8_read) := goodIn_app (goodIn_of _ (by decide +kernel)) ggL_law_X8_read
set_option maxRecDepth 20000 in
theorem ggL_law_X7_fault : GoodIn wsL_law wsX7_fault := goodIn_r _ [340, 231, 812, 813, 814, 815, 816, 817, 818, 819, 820, 821, 822, 823, 824, 825] (by decide +kernel) (by decide +kernel)
set_option maxRecDepth 20000 in
theorem gL_law_X7_fault : GoodIn wsL_law (wsV RL 98 RX7 yX7_fault wsX7_fault) := goodIn_app (goodIn_of _ (by decide +kernel)) ggL_law_X7_fault
set_option maxRecDepth 20000 in
theorem ggL_law_X8_fault : GoodIn wsL_law wsX8_fault := goodIn_r _ [344, 179, 296, 826, 827, 828, 829, 830, 831, 832, 833, 834, 835, 836, 837, 838, 839, 840, 841, 842, 843, 844, 845, 846, 847, 848, 849, 850, 851, 852, 853, 854, 855, 856, 857, 858, 859, 860, 861, 862, 863, 864, 865, 866, 867, 868] (by decide +kernel) (by decide +kernel)
set_option maxRecDepth 20000 in
theorem gL_law_X8_fault : GoodIn wsL_law (wsV RL 101 RX8 yX8_fault wsX8_fault) := goodIn_app (goodIn_of _ (by decide +kernel)) ggL_law_X8_fault
set_option maxRecDepth 20000 in
theorem ggL_law_L_push : GoodIn wsL_law wsL_push := goodIn_ca (goodIn_r _ [347, 137, 348, 349, 350, 2, 351, 144, 145, 30, 352, 353, 354, 355, 29, 356, 357, 64, 162, 65, 200, 812, 813, 814, 815, 816, 817, 818, 819, 820, 821, 822, 823, 824, 825, 869, 870, 871, 872, 873, 874, 875, 876] (by decide +kernel) (by decide +kernel)) (goodIn_sub (fun _ h => List.mem_append_left _ (List.mem_append_right _ h)) (by decide +kernel))
set_option maxRecDepth 20000 in
theorem gL_law_L_push : GoodIn wsL_law (va_wsS RL 102 yL_push wsL_push) := goodIn_app (goodIn_of _ (by decide +kernel)) ggL_law_L_push
set_option maxRecDepth 20000 in
theorem ggL_law_X8_push : GoodIn wsL_law wsX8_push := goodIn_r _ [361, 362, 114, 167, 115, 205, 175, 176, 177, 5, 178, 179, 826, 827, 828, 829, 830, 831, 832, 833, 834, 835, 836, 837, 838, 839, 840, 841, 842, 843, 844, 845, 846, 847, 848, 849, 850, 851, 852, 853, 854, 855, 856, 857, 858, 859, 860, 861, 862, 863, 864, 865, 866, 867, 868] (by decide +kernel) (by decide +kernel)
set_option maxRecDepth 20000 in
theorem gL_law_X8_push : GoodIn wsL_law (wsV RL 105 RX8 yX8_push wsX8_push) := goodIn_app (goodIn_of _ (by decide +kernel)) ggL_law_X8_push
