set_option maxRecDepth 20000 in
theorem ggL_law_X7_model : GoodIn wsL_law wsX7_model := goodIn_r _ [692, 56, 812, 813, 814, 815, 816, 817, 818, 819, 820, 821, 822, 823, 824, 825] (by decide +kernel) (by decide +kernel)
set_option maxRecDepth 20000 in
theorem gL_law_X7_model : GoodIn wsL_law (wsV RL 146 RX7 yX7_model wsX7_model) := goodIn_app (goodIn_of _ (by decide +kernel)) ggL_law_X7_model
set_option maxRecDepth 20000 in
theorem ggL_law_X8_model : GoodIn wsL_law wsX8_model := goodIn_r _ [696, 179, 130, 826, 827, 828, 829, 830, 831, 832, 833, 834, 835, 836, 837, 838, 839, 840, 841, 842, 843, 844, 845, 846, 847, 848, 849, 850, 851, 852, 853, 854, 855, 856, 857, 858, 859, 860, 861, 862, 863, 864, 865, 866, 867, 868] (by decide +kernel) (by decide +kernel)
set_option maxRecDepth 20000 in
theorem gL_law_X8_model : GoodIn wsL_law (wsV RL 149 RX8 yX8_model wsX8_model) := goodIn_app (goodIn_of _ (by decide +kernel)) ggL_law_X8_model
set_option maxRecDepth 20000 in
theorem ggL_law_L_models : GoodIn wsL_law wsL_models := goodIn_ca (goodIn_r _ [699, 136, 700, 701, 702, 2, 703, 142, 143, 54, 38, 30, 630, 631, 634, 704, 632, 635, 636, 637, 638, 403, 404, 405, 406, 156, 407, 408, 409, 37, 410, 75, 411, 412, 413, 414, 415, 416, 417, 418, 419, 420, 421, 74, 422, 423, 424, 425, 426, 427, 428, 429, 430, 431, 432, 433, 639, 640, 641, 53, 642, 101, 643, 644, 645, 646, 647, 523, 524, 49, 525, 93, 526, 527, 528, 529, 530, 531, 532, 19, 20, 21, 533, 534, 535, 536, 648, 649, 650, 651, 652, 653, 654, 586, 587, 588, 589, 590, 591, 592, 593, 91, 541, 542, 543, 544, 545, 546, 547, 548, 549, 550, 551, 552, 553, 554, 555, 594, 595, 596, 597, 598, 599, 600, 601, 602, 603, 604, 655, 656, 657, 658, 659, 660, 661, 662, 663, 664, 665, 666, 99, 667, 102, 668, 103, 669, 104, 670, 671, 672, 673, 674, 675, 676, 812, 813, 814, 815, 816, 817, 818, 819, 820, 821, 822, 823, 824, 825, 897, 898, 899, 900, 901, 902, 903, 904, 905, 906, 885, 886, 887, 869, 870, 871, 872, 873, 874, 875, 876, 893, 894, 895, 896] (by decide +kernel) (by decide +kernel)) (goodIn_sub (fun _ h => List.mem_append_left _ (List.mem_append_left _ (List.mem_append_right _ h))) (by decide +kernel))
set_option maxRecDepth 20000 in
theorem gL_law_L_models : GoodIn wsL_law (va_wsS RL 150 yL_models wsL_models) := goodIn_app (goodIn_of _ (by decide +kernel)) ggL_law_L_models
set_option maxRecDepth 20000 in
theorem ggL_law_X8_models : GoodIn wsL_law wsX8_models := goodIn_r _ [708, 681, 682, 709, 688, 172, 173, 5, 174, 175, 176, 177, 178, 179, 684, 685, 686, 687, 127, 128, 609, 610, 132, 683, 129, 611, 612, 613, 614, 442, 443, 121, 122, 615, 616, 617, 618, 205, 112, 113, 458, 459, 460, 619, 620, 621, 622, 444, 445, 446, 447, 167, 110, 111, 448, 449, 450, 451, 452, 453, 454, 455, 456, 457, 461, 462, 463, 464, 465, 466, 467, 468, 826, 827, 828, 829, 830, 831, 832, 833, 834, 835, 836, 837, 838, 839, 840, 841, 842, 843, 844, 845, 846, 847, 848, 849, 850, 851, 852, 853, 854, 855, 856, 857, 858, 859, 860, 861, 862, 863, 864, 865, 866, 867, 868] (by decide +kernel) (by decide +kernel)
set_option maxRecDepth 20000 in
theorem gL_law_X8_models : GoodIn wsL_law (wsV RL 152 RX8 yX8_models wsX8_models) := goodIn_app (goodIn_of _ (by decide +kernel)) ggL_law_X8_models
set_option maxRecDepth 20000 in
theorem ggL_law_X7_nodes : GoodIn wsL_law wsX7_nodes := goodIn_r _ [713, 631, 812, 813, 814, 815, 816, 817, 818, 819, 820, 821, 822, 823, 824, 825] (by decide +kernel) (by decide +kernel)
set_option maxRecDepth 20000 in
theorem gL_law_X7_nodes : GoodIn wsL_law (wsV RL 153 RX7 yX7_nodes wsX7_nodes) := goodIn_app (goodIn_of _ (by decide +kernel)) ggL_law_X7_nodes
set_option maxRecDepth 20000 in
theorem ggL_law_X8_nodes : GoodIn wsL_law wsX8_nodes := goodIn_r _ [717, 179, 682, 826, 827, 828, 829, 830, 831, 832, 833, 834, 835, 836, 837, 838, 839, 840, 841, 842, 843, 844, 845, 846, 847, 848, 849, 850, 851, 852, 853, 854, 855, 856, 857, 858, 859, 860, 861, 862, 863, 864, 865, 866, 867, 868] (by decide +kernel) (by decide +kernel)
set_option maxRecDepth 20000 in
theorem gL_law_X8_nodes : GoodIn wsL_law (wsV RL 156 RX8 yX8_nodes wsX8_nodes) := goodIn_app (goodIn_of _ (by decide +kernel)) ggL_law_X8_nodes
set_option maxRecDepth 20000 in
theorem ggL_law_L_must : GoodIn wsL_law wsL_must := goodIn_ca (goodIn_ca (goodIn_r _ [720, 382, 136, 721, 722, 723, 2, 724, 387, 388, 142, 143, 25, 54, 38, 725, 30, 630, 631, 634, 632, 635, 636, 637, 638, 403, 404, 405, 406, 156, 407, 408, 409, 37, 410, 75, 411, 412, 413, 414, 415, 416, 417, 418, 419, 420, 421, 74, 422, 423, 424, 425, 426, 427, 428, 429, 430, 431, 432, 433, 639, 640, 641, 53, 642, 101, 643, 644, 645, 646, 647, 523, 524, 49, 525, 93, 526, 527, 528, 529, 530, 531, 532, 19, 20, 21, 533, 534, 535, 536, 726, 548, 549, 550, 551, 552, 553, 554, 555, 648, 649, 650, 651, 652, 653, 654, 586, 587, 588, 589, 590, 591, 592, 593, 91, 541, 542, 543, 544, 545, 546, 547, 594, 595, 596, 597, 598, 599, 600, 601, 602, 603, 604, 655, 656, 657, 658, 659, 660, 661, 662, 663, 664, 665, 666, 99, 667, 102, 668, 103, 669, 104, 670, 671, 672, 673, 674, 675, 676, 812, 813, 814, 815, 816, 817, 818, 819, 820, 821, 822, 823, 824, 825, 897, 898, 899, 900, 901, 902, 903, 904, 905, 906, 885, 886, 887, 869, 870, 871, 872, 873, 874, 875, 876, 893, 894, 895, 896] (by decide +kernel) (by decide +kernel)) (goodIn_sub (fun _ h => List.mem_append_right _ h) (by decide +kernel))) (goodIn_sub (fun _ h => List.mem_append_left _ (List.mem_append_left _ (List.mem_append_right _ h))) (by decide +kernel))
set_option maxRecDepth 20000 in
theorem gL_law_L_must : GoodIn wsL_law (va_wsS RL 157 yL_must wsL_must) := goodIn_app (goodIn_of _ (by decide +kernel)) ggL_law_L_must
set_option maxRecDepth 20000 in
theorem ggL_law_X8_must : GoodIn wsL_law wsX8_must := goodIn_r _ [730, 132, 681, 682, 172, 173, 5, 174, 175, 176, 177, 178, 179, 684, 685, 686, 687, 127, 128, 688, 609, 610, 683, 129, 611, 612, 613, 614, 442, 443, 121, 122, 615, 616, 617, 618, 205, 112, 113, 458, 459, 460, 619, 620, 621, 622, 444, 445, 446, 447, 167, 110, 111, 448, 449, 450, 451, 452, 453, 454, 455, 456, 457, 461, 462, 463, 464, 465, 466, 467, 468, 826, 827, 828, 829, 830, 831, 832, 833, 834, 835, 836, 837, 838, 839, 840, 841, 842, 843, 844, 845, 846, 847, 848, 849, 850, 851, 852, 853, 854, 855, 856, 857, 858, 859, 860, 861, 862, 863, 864, 865, 866, 867, 868] (by decide +kernel) (by decide +kernel)
set_option maxRecDepth 20000 in
theorem gL_law_X8_must : GoodIn wsL_law (wsV RL 159 RX8 yX8_must wsX8_must) := goodIn_app (goodIn_of _ (by decide +kernel)) ggL_law_X8_must
set_option maxRecDepth 20000 in
theorem ggL_law_X7_gates : GoodIn wsL_law wsX7_gates := goodIn_r _ [734, 46, 735, 736, 737, 738, 2, 739, 157, 30, 740, 741, 742, 45, 743, 744, 745, 746, 747, 748, 749, 750, 751, 428, 429, 430, 431, 432, 433, 752, 753, 754, 755, 756, 757, 758, 759, 760, 761, 762, 763, 764, 765, 86, 812, 813, 814, 815, 816, 817, 818, 819, 820, 821, 822, 823, 824, 825, 891, 892, 869, 870, 871, 872, 873, 874, 875, 876] (by decide +kernel) (by decide +kernel)
set_option maxRecDepth 20000 in
theorem gL_law_X7_gates : GoodIn wsL_law (wsV RL 160 RX7 yX7_gates wsX7_gates) := goodIn_app (goodIn_of _ (by decide +kernel)) ggL_law_X7_gates
set_option maxRecDepth 20000 in
theorem ggL_law_X8_gates : GoodIn wsL_law wsX8_gates := goodIn_r _ [769, 179, 770, 771, 772, 773, 5, 774, 464, 205, 112, 113, 775, 776, 131, 451, 452, 453, 172, 173, 174, 777, 778, 779, 780, 448, 449, 450, 826, 827, 828, 829, 830, 831, 832, 833, 834, 835, 836, 837, 838, 839, 840, 841, 842, 843, 844, 845, 846, 847, 848, 849, 850, 851, 852, 853, 854, 855, 856, 857, 858, 859, 860, 861, 862, 863, 864, 865, 866, 867, 868] (by decide +kernel) (by decide +kernel)
set_option maxRecDepth 20000 in
theorem gL_law_X8_gates : GoodIn wsL_law (wsV RL 163 RX8 yX8_gates wsX8_gates) := goodIn_app (goodIn_of _ (by decide +kernel)) ggL_law_X8_gates
