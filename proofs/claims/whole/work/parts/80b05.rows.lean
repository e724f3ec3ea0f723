set_option maxRecDepth 20000 in
theorem ggL_law_X7_model : GoodIn wsL_law wsX7_model := goodIn_r _ [691, 56, 815, 816, 817, 818, 819, 820, 821, 822, 823, 824, 825, 826, 827, 828] (by decide +kernel) (by decide +kernel)
set_option maxRecDepth 20000 in
theorem gL_law_X7_model : GoodIn wsL_law (wsV RL 146 RX7 yX7_model wsX7_model) := goodIn_app (goodIn_of _ (by decide +kernel)) ggL_law_X7_model
set_option maxRecDepth 20000 in
theorem ggL_law_X8_model : GoodIn wsL_law wsX8_model := goodIn_r _ [695, 179, 130, 829, 830, 831, 832, 833, 834, 835, 836, 837, 838, 839, 840, 841, 842, 843, 844, 845, 846, 847, 848, 849, 850, 851, 852, 853, 854, 855, 856, 857, 858, 859, 860, 861, 862, 863, 864, 865, 866, 867, 868, 869, 870, 871] (by decide +kernel) (by decide +kernel)
set_option maxRecDepth 20000 in
theorem gL_law_X8_model : GoodIn wsL_law (wsV RL 149 RX8 yX8_model wsX8_model) := goodIn_app (goodIn_of _ (by decide +kernel)) ggL_law_X8_model
set_option maxRecDepth 20000 in
theorem ggL_law_L_models : GoodIn wsL_law wsL_models := goodIn_ca (goodIn_r _ [698, 136, 699, 700, 701, 2, 702, 142, 143, 54, 38, 30, 629, 630, 633, 703, 631, 634, 635, 636, 637, 403, 404, 405, 406, 156, 407, 408, 409, 37, 410, 75, 411, 412, 413, 414, 415, 416, 417, 418, 419, 420, 421, 74, 422, 423, 424, 425, 426, 427, 428, 429, 430, 431, 432, 433, 434, 435, 638, 639, 640, 53, 641, 101, 642, 643, 644, 645, 646, 525, 526, 49, 527, 93, 528, 529, 530, 531, 532, 533, 534, 19, 20, 21, 535, 536, 537, 538, 647, 648, 649, 650, 651, 652, 653, 588, 589, 590, 591, 592, 593, 594, 595, 91, 543, 544, 545, 546, 547, 548, 549, 550, 551, 552, 553, 554, 555, 556, 557, 596, 597, 598, 599, 600, 601, 602, 603, 654, 655, 656, 657, 658, 659, 660, 661, 662, 663, 664, 665, 99, 666, 102, 667, 103, 668, 104, 669, 670, 671, 672, 673, 674, 675, 815, 816, 817, 818, 819, 820, 821, 822, 823, 824, 825, 826, 827, 828, 900, 901, 902, 903, 904, 905, 906, 907, 908, 909, 888, 889, 890, 872, 873, 874, 875, 876, 877, 878, 879, 896, 897, 898, 899] (by decide +kernel) (by decide +kernel)) (goodIn_sub (fun _ h => List.mem_append_left _ (List.mem_append_left _ (List.mem_append_right _ h))) (by decide +kernel))
set_option maxRecDepth 20000 in
theorem gL_law_L_models : GoodIn wsL_law (va_wsS RL 150 yL_models wsL_models) := goodIn_app (goodIn_of _ (by decide +kernel)) ggL_law_L_models
set_option maxRecDepth 20000 in
theorem ggL_law_X8_models : GoodIn wsL_law wsX8_models := goodIn_r _ [707, 680, 681, 708, 687, 172, 173, 5, 174, 175, 176, 177, 178, 179, 683, 684, 685, 686, 127, 128, 608, 609, 132, 682, 129, 610, 611, 612, 613, 444, 445, 121, 122, 614, 615, 616, 617, 205, 112, 113, 460, 461, 462, 618, 619, 620, 621, 446, 447, 448, 449, 167, 110, 111, 450, 451, 452, 453, 454, 455, 456, 457, 458, 459, 463, 464, 465, 466, 467, 468, 469, 470, 829, 830, 831, 832, 833, 834, 835, 836, 837, 838, 839, 840, 841, 842, 843, 844, 845, 846, 847, 848, 849, 850, 851, 852, 853, 854, 855, 856, 857, 858, 859, 860, 861, 862, 863, 864, 865, 866, 867, 868, 869, 870, 871] (by decide +kernel) (by decide +kernel)
set_option maxRecDepth 20000 in
theorem gL_law_X8_models : GoodIn wsL_law (wsV RL 152 RX8 yX8_models wsX8_models) := goodIn_app (goodIn_of _ (by decide +kernel)) ggL_law_X8_models
set_option maxRecDepth 20000 in
theorem ggL_law_X7_nodes : GoodIn wsL_law wsX7_nodes := goodIn_r _ [712, 630, 815, 816, 817, 818, 819, 820, 821, 822, 823, 824, 825, 826, 827, 828] (by decide +kernel) (by decide +kernel)
set_option maxRecDepth 20000 in
theorem gL_law_X7_nodes : GoodIn wsL_law (wsV RL 153 RX7 yX7_nodes wsX7_nodes) := goodIn_app (goodIn_of _ (by decide +kernel)) ggL_law_X7_nodes
set_option maxRecDepth 20000 in
theorem ggL_law_X8_nodes : GoodIn wsL_law wsX8_nodes := goodIn_r _ [716, 179, 681, 829, 830, 831, 832, 833, 834, 835, 836, 837, 838, 839, 840, 841, 842, 843, 844, 845, 846, 847, 848, 849, 850, 851, 852, 853, 854, 855, 856, 857, 858, 859, 860, 861, 862, 863, 864, 865, 866, 867, 868, 869, 870, 871] (by decide +kernel) (by decide +kernel)
set_option maxRecDepth 20000 in
theorem gL_law_X8_nodes : GoodIn wsL_law (wsV RL 156 RX8 yX8_nodes wsX8_nodes) := goodIn_app (goodIn_of _ (by decide +kernel)) ggL_law_X8_nodes
set_option maxRecDepth 20000 in
theorem ggL_law_L_must : GoodIn wsL_law wsL_must := goodIn_ca (goodIn_ca (goodIn_r _ [719, 382, 136, 720, 721, 722, 2, 723, 387, 388, 142, 143, 25, 630, 634, 635, 636, 637, 403, 404, 405, 406, 156, 38, 30, 407, 408, 409, 37, 410, 75, 411, 412, 413, 414, 415, 416, 417, 418, 419, 420, 421, 74, 422, 423, 424, 425, 426, 427, 428, 429, 430, 431, 432, 433, 434, 435, 724, 725, 726, 727, 54, 728, 629, 633, 631, 638, 639, 640, 53, 641, 101, 642, 643, 644, 645, 646, 525, 526, 49, 527, 93, 528, 529, 530, 531, 532, 533, 534, 19, 20, 21, 535, 536, 537, 538, 729, 550, 551, 552, 553, 554, 555, 556, 557, 647, 648, 649, 650, 651, 652, 653, 588, 589, 590, 591, 592, 593, 594, 595, 91, 543, 544, 545, 546, 547, 548, 549, 596, 597, 598, 599, 600, 601, 602, 603, 654, 655, 656, 657, 658, 659, 660, 661, 662, 663, 664, 665, 99, 666, 102, 667, 103, 668, 104, 669, 670, 671, 672, 673, 674, 675, 815, 816, 817, 818, 819, 820, 821, 822, 823, 824, 825, 826, 827, 828, 888, 889, 890, 872, 873, 874, 875, 876, 877, 878, 879, 900, 901, 902, 903, 904, 905, 906, 907, 908, 909, 896, 897, 898, 899] (by decide +kernel) (by decide +kernel)) (goodIn_sub (fun _ h => List.mem_append_right _ h) (by decide +kernel))) (goodIn_sub (fun _ h => List.mem_append_left _ (List.mem_append_left _ (List.mem_append_right _ h))) (by decide +kernel))
set_option maxRecDepth 20000 in
theorem gL_law_L_must : GoodIn wsL_law (va_wsS RL 157 yL_must wsL_must) := goodIn_app (goodIn_of _ (by decide +kernel)) ggL_law_L_must
set_option maxRecDepth 20000 in
theorem ggL_law_X8_must : GoodIn wsL_law wsX8_must := goodIn_r _ [733, 132, 680, 681, 172, 173, 5, 174, 175, 176, 177, 178, 179, 683, 684, 685, 686, 127, 128, 687, 608, 609, 682, 129, 610, 611, 612, 613, 444, 445, 121, 122, 614, 615, 616, 617, 205, 112, 113, 460, 461, 462, 618, 619, 620, 621, 446, 447, 448, 449, 167, 110, 111, 450, 451, 452, 453, 454, 455, 456, 457, 458, 459, 463, 464, 465, 466, 467, 468, 469, 470, 829, 830, 831, 832, 833, 834, 835, 836, 837, 838, 839, 840, 841, 842, 843, 844, 845, 846, 847, 848, 849, 850, 851, 852, 853, 854, 855, 856, 857, 858, 859, 860, 861, 862, 863, 864, 865, 866, 867, 868, 869, 870, 871] (by decide +kernel) (by decide +kernel)
set_option maxRecDepth 20000 in
theorem gL_law_X8_must : GoodIn wsL_law (wsV RL 159 RX8 yX8_must wsX8_must) := goodIn_app (goodIn_of _ (by decide +kernel)) ggL_law_X8_must
set_option maxRecDepth 20000 in
theorem ggL_law_X7_gates : GoodIn wsL_law wsX7_gates := goodIn_r _ [737, 46, 738, 739, 740, 741, 2, 742, 157, 30, 743, 744, 745, 45, 746, 747, 748, 749, 750, 751, 752, 753, 754, 430, 431, 432, 433, 434, 435, 755, 756, 757, 758, 759, 760, 761, 762, 763, 764, 765, 766, 767, 768, 86, 815, 816, 817, 818, 819, 820, 821, 822, 823, 824, 825, 826, 827, 828, 894, 895, 872, 873, 874, 875, 876, 877, 878, 879] (by decide +kernel) (by decide +kernel)
set_option maxRecDepth 20000 in
theorem gL_law_X7_gates : GoodIn wsL_law (wsV RL 160 RX7 yX7_gates wsX7_gates) := goodIn_app (goodIn_of _ (by decide +kernel)) ggL_law_X7_gates
set_option maxRecDepth 20000 in
theorem ggL_law_X8_gates : GoodIn wsL_law wsX8_gates := goodIn_r _ [772, 179, 773, 774, 775, 776, 5, 777, 466, 205, 112, 113, 778, 779, 131, 453, 454, 455, 172, 173, 174, 780, 781, 782, 783, 450, 451, 452, 829, 830, 831, 832, 833, 834, 835, 836, 837, 838, 839, 840, 841, 842, 843, 844, 845, 846, 847, 848, 849, 850, 851, 852, 853, 854, 855, 856, 857, 858, 859, 860, 861, 862, 863, 864, 865, 866, 867, 868, 869, 870, 871] (by decide +kernel) (by decide +kernel)
set_option maxRecDepth 20000 in
theorem gL_law_X8_gates : GoodIn wsL_law (wsV RL 163 RX8 yX8_gates wsX8_gates) := goodIn_app (goodIn_of _ (by decide +kernel)) ggL_law_X8_gates
