set_option maxRecDepth 20000 in
theorem ggL_law_L_gate : GoodIn wsL_law wsL_gate := goodIn_ca (goodIn_r _ [783, 382, 784, 785, 786, 2, 787, 387, 388, 46, 735, 788, 736, 737, 738, 739, 157, 30, 740, 741, 742, 45, 743, 744, 745, 746, 747, 748, 749, 750, 751, 428, 429, 430, 431, 432, 433, 752, 753, 754, 755, 756, 757, 758, 759, 760, 761, 762, 763, 764, 765, 86, 812, 813, 814, 815, 816, 817, 818, 819, 820, 821, 822, 823, 824, 825, 891, 892, 869, 870, 871, 872, 873, 874, 875, 876] (by decide +kernel) (by decide +kernel)) (goodIn_sub (fun _ h => List.mem_append_right _ h) (by decide +kernel))
set_option maxRecDepth 20000 in
theorem gL_law_L_gate : GoodIn wsL_law (va_wsS RL 164 yL_gate wsL_gate) := goodIn_app (goodIn_of _ (by decide +kernel)) ggL_law_L_gate
set_option maxRecDepth 20000 in
theorem ggL_law_X8_gate : GoodIn wsL_law wsX8_gate := goodIn_r _ [792, 770, 131, 771, 772, 773, 5, 774, 464, 205, 112, 113, 775, 776, 451, 452, 453, 172, 173, 174, 777, 778, 779, 780, 448, 449, 450, 175, 176, 177, 178, 179, 826, 827, 828, 829, 830, 831, 832, 833, 834, 835, 836, 837, 838, 839, 840, 841, 842, 843, 844, 845, 846, 847, 848, 849, 850, 851, 852, 853, 854, 855, 856, 857, 858, 859, 860, 861, 862, 863, 864, 865, 866, 867, 868] (by decide +kernel) (by decide +kernel)
set_option maxRecDepth 20000 in
theorem gL_law_X8_gate : GoodIn wsL_law (wsV RL 166 RX8 yX8_gate wsX8_gate) := goodIn_app (goodIn_of _ (by decide +kernel)) ggL_law_X8_gate
set_option maxRecDepth 20000 in
theorem ggL_law_L_count : GoodIn wsL_law wsL_count := goodIn_ca (goodIn_r _ [795, 136, 796, 797, 798, 2, 799, 142, 143, 25, 30, 146, 191, 352, 34, 213, 812, 813, 814, 815, 816, 817, 818, 819, 820, 821, 822, 823, 824, 825, 869, 870, 871, 872, 873, 874, 875, 876, 877, 878, 879, 880, 881, 882, 883, 884] (by decide +kernel) (by decide +kernel)) (goodIn_sub (fun _ h => List.mem_append_left _ (List.mem_append_left _ (List.mem_append_right _ h))) (by decide +kernel))
set_option maxRecDepth 20000 in
theorem gL_law_L_count : GoodIn wsL_law (va_wsS RL 167 yL_count wsL_count) := goodIn_app (goodIn_of _ (by decide +kernel)) ggL_law_L_count
set_option maxRecDepth 20000 in
theorem ggL_law_X8_count : GoodIn wsL_law wsX8_count := goodIn_r _ [803, 776, 132, 167, 205, 362, 224, 172, 173, 5, 174, 175, 176, 177, 178, 179, 826, 827, 828, 829, 830, 831, 832, 833, 834, 835, 836, 837, 838, 839, 840, 841, 842, 843, 844, 845, 846, 847, 848, 849, 850, 851, 852, 853, 854, 855, 856, 857, 858, 859, 860, 861, 862, 863, 864, 865, 866, 867, 868] (by decide +kernel) (by decide +kernel)
set_option maxRecDepth 20000 in
theorem gL_law_X8_count : GoodIn wsL_law (wsV RL 169 RX8 yX8_count wsX8_count) := goodIn_app (goodIn_of _ (by decide +kernel)) ggL_law_X8_count
set_option maxRecDepth 20000 in
theorem ggL_law_X7_clear : GoodIn wsL_law wsX7_clear := goodIn_r _ [807, 30, 352, 34, 213, 288, 289, 290, 29, 291, 162, 200, 152, 153, 154, 2, 155, 156, 157, 812, 813, 814, 815, 816, 817, 818, 819, 820, 821, 822, 823, 824, 825, 869, 870, 871, 872, 873, 874, 875, 876, 877, 878, 879, 880, 881, 882, 883, 884] (by decide +kernel) (by decide +kernel)
set_option maxRecDepth 20000 in
theorem gL_law_X7_clear : GoodIn wsL_law (wsV RL 170 RX7 yX7_clear wsX7_clear) := goodIn_app (goodIn_of _ (by decide +kernel)) ggL_law_X7_clear
set_option maxRecDepth 20000 in
theorem ggL_law_X8_clear : GoodIn wsL_law wsX8_clear := goodIn_r _ [811, 179, 167, 205, 362, 224, 826, 827, 828, 829, 830, 831, 832, 833, 834, 835, 836, 837, 838, 839, 840, 841, 842, 843, 844, 845, 846, 847, 848, 849, 850, 851, 852, 853, 854, 855, 856, 857, 858, 859, 860, 861, 862, 863, 864, 865, 866, 867, 868] (by decide +kernel) (by decide +kernel)
set_option maxRecDepth 20000 in
theorem gL_law_X8_clear : GoodIn wsL_law (wsV RL 173 RX8 yX8_clear wsX8_clear) := goodIn_app (goodIn_of _ (by decide +kernel)) ggL_law_X8_clear
