set_option maxRecDepth 20000 in
theorem gL_law_X8_play : GoodIn wsL_law (wsV RL 131 RX8 yX8_play wsX8_play) := goodIn_app (goodIn_of _ (by decide +kernel)) ggL_law_X8_play
set_option maxRecDepth 20000 in
theorem ggL_law_L_pass : GoodIn wsL_law wsL_pass := goodIn_ca (goodIn_r _ [600, 95, 601, 602, 603, 2, 604, 102, 103, 24, 29, 564, 565, 566, 28, 567, 350, 568, 569, 570, 571, 572, 63, 573, 574, 575, 23, 576, 57, 330, 263, 264, 265, 266, 267, 268, 269, 55, 56, 281, 282, 283, 284, 271, 272, 273, 274, 823, 824, 825, 826, 827, 828, 855, 856, 857, 858, 859, 860, 861, 862, 863, 864, 865, 866, 867, 868] (by decide +kernel) (by decide +kernel)) (goodIn_sub (fun _ h => List.mem_append_left _ (List.mem_append_right _ h)) (by decide +kernel))
set_option maxRecDepth 20000 in
theorem gL_law_L_pass : GoodIn wsL_law (va_wsS RL 132 yL_pass wsL_pass) := goodIn_app (goodIn_of _ (by decide +kernel)) ggL_law_L_pass
set_option maxRecDepth 20000 in
theorem ggL_law_X8_pass : GoodIn wsL_law wsX8_pass := goodIn_r _ [608, 78, 182, 183, 5, 184, 122, 123, 124, 125, 126, 582, 583, 584, 585, 355, 80, 356, 357, 358, 185, 186, 187, 188, 189, 190, 191, 192, 193, 829, 830, 831, 832, 833, 834, 835, 836, 837, 838, 839, 840, 841, 842, 843, 844, 845, 846, 847] (by decide +kernel) (by decide +kernel)
set_option maxRecDepth 20000 in
theorem gL_law_X8_pass : GoodIn wsL_law (wsV RL 134 RX8 yX8_pass wsX8_pass) := goodIn_app (goodIn_of _ (by decide +kernel)) ggL_law_X8_pass
set_option maxRecDepth 20000 in
theorem ggL_law_L_set : GoodIn wsL_law wsL_set := goodIn_ca (goodIn_r _ [611, 94, 612, 613, 614, 2, 615, 100, 101, 29, 24, 564, 565, 566, 28, 567, 350, 568, 569, 570, 571, 572, 63, 573, 574, 575, 23, 576, 57, 330, 263, 264, 265, 266, 267, 268, 269, 55, 56, 823, 824, 825, 826, 827, 828, 855, 856, 857, 858, 859, 860, 861, 862, 863, 864, 865, 866, 867, 868] (by decide +kernel) (by decide +kernel)) (goodIn_sub (fun _ h => List.mem_append_left _ (List.mem_append_left _ (List.mem_append_right _ h))) (by decide +kernel))
set_option maxRecDepth 20000 in
theorem gL_law_L_set : GoodIn wsL_law (va_wsS RL 135 yL_set wsL_set) := goodIn_app (goodIn_of _ (by decide +kernel)) ggL_law_L_set
set_option maxRecDepth 20000 in
theorem ggL_law_X8_set : GoodIn wsL_law wsX8_set := goodIn_r _ [619, 78, 119, 120, 5, 121, 122, 123, 124, 125, 126, 582, 583, 584, 585, 355, 80, 356, 357, 358, 620, 621, 622, 829, 830, 831, 832, 833, 834, 835, 836, 837, 838, 839, 840, 841, 842, 843, 844, 845, 846, 847] (by decide +kernel) (by decide +kernel)
set_option maxRecDepth 20000 in
theorem gL_law_X8_set : GoodIn wsL_law (wsV RL 137 RX8 yX8_set wsX8_set) := goodIn_app (goodIn_of _ (by decide +kernel)) ggL_law_X8_set
set_option maxRecDepth 20000 in
theorem ggL_law_L_undo : GoodIn wsL_law wsL_undo := goodIn_ca (goodIn_r _ [625, 95, 626, 627, 628, 2, 629, 102, 103, 29, 24, 630, 631, 632, 28, 633, 350, 569, 570, 571, 572, 568, 63, 573, 574, 575, 23, 576, 57, 330, 263, 264, 265, 266, 267, 268, 269, 55, 56, 823, 824, 825, 826, 827, 828, 866, 867, 868, 855, 856, 857, 858, 859, 860, 861, 862, 863, 864, 865] (by decide +kernel) (by decide +kernel)) (goodIn_sub (fun _ h => List.mem_append_left _ (List.mem_append_right _ h)) (by decide +kernel))
set_option maxRecDepth 20000 in
theorem gL_law_L_undo : GoodIn wsL_law (va_wsS RL 138 yL_undo wsL_undo) := goodIn_app (goodIn_of _ (by decide +kernel)) ggL_law_L_undo
set_option maxRecDepth 20000 in
theorem ggL_law_X8_undo : GoodIn wsL_law wsX8_undo := goodIn_r _ [637, 355, 80, 78, 122, 123, 124, 5, 125, 126, 356, 357, 358, 829, 830, 831, 832, 833, 834, 835, 836, 837, 838, 839, 840, 841, 842, 843, 844, 845, 846, 847] (by decide +kernel) (by decide +kernel)
set_option maxRecDepth 20000 in
theorem gL_law_X8_undo : GoodIn wsL_law (wsV RL 140 RX8 yX8_undo wsX8_undo) := goodIn_app (goodIn_of _ (by decide +kernel)) ggL_law_X8_undo
set_option maxRecDepth 20000 in
theorem ggL_law_L_ifPlayed : GoodIn wsL_law wsL_ifPlayed := goodIn_ca (goodIn_ca (goodIn_r _ [640, 401, 94, 641, 642, 643, 2, 644, 406, 407, 100, 101, 24, 486, 294, 295, 16, 296, 40, 551, 298, 299, 23, 300, 57, 301, 263, 302, 303, 304, 305, 306, 307, 308, 309, 266, 267, 310, 311, 312, 313, 41, 42, 314, 315, 316, 317, 43, 44, 39, 318, 319, 320, 321, 322, 323, 324, 325, 326, 327, 328, 329, 330, 331, 332, 333, 334, 55, 56, 645, 646, 647, 648, 339, 340, 341, 342, 343, 344, 345, 496, 380, 381, 382, 383, 384, 385, 823, 824, 825, 826, 827, 828, 855, 856, 857, 858, 859, 860, 861, 862, 863, 864, 865, 848, 849, 850, 851, 852] (by decide +kernel) (by decide +kernel)) (goodIn_sub (fun _ h => List.mem_append_right _ h) (by decide +kernel))) (goodIn_sub (fun _ h => List.mem_append_left _ (List.mem_append_left _ (List.mem_append_right _ h))) (by decide +kernel))
set_option maxRecDepth 20000 in
theorem gL_law_L_ifPlayed : GoodIn wsL_law (va_wsS RL 141 yL_ifPlayed wsL_ifPlayed) := goodIn_app (goodIn_of _ (by decide +kernel)) ggL_law_L_ifPlayed
set_option maxRecDepth 20000 in
theorem ggL_law_X8_ifPlayed : GoodIn wsL_law wsX8_ifPlayed := goodIn_r _ [652, 78, 581, 216, 218, 204, 205, 194, 195, 5, 196, 197, 198, 199, 119, 120, 121, 122, 123, 124, 125, 126, 200, 201, 202, 203, 206, 207, 208, 188, 189, 190, 182, 183, 184, 209, 210, 211, 212, 213, 214, 215, 217, 219, 220, 221, 222, 223, 224, 225, 226, 227, 228, 229, 230, 231, 232, 233, 234, 235, 236, 237, 238, 239, 240, 241, 242, 395, 396, 397, 829, 830, 831, 832, 833, 834, 835, 836, 837, 838, 839, 840, 841, 842, 843, 844, 845, 846, 847] (by decide +kernel) (by decide +kernel)
set_option maxRecDepth 20000 in
theorem gL_law_X8_ifPlayed : GoodIn wsL_law (wsV RL 143 RX8 yX8_ifPlayed wsX8_ifPlayed) := goodIn_app (goodIn_of _ (by decide +kernel)) ggL_law_X8_ifPlayed
set_option maxRecDepth 20000 in
theorem ggL_law_X7_bestTake : GoodIn wsL_law wsX7_bestTake := goodIn_r _ [656, 24, 563, 551, 298, 299, 23, 300, 57, 301, 263, 302, 303, 304, 305, 306, 307, 308, 309, 266, 267, 310, 311, 312, 16, 313, 41, 42, 314, 315, 316, 317, 43, 44, 39, 318, 319, 320, 321, 322, 323, 324, 325, 326, 327, 328, 329, 330, 331, 332, 333, 334, 55, 56, 645, 646, 647, 648, 339, 340, 341, 342, 343, 344, 345, 496, 380, 381, 382, 383, 384, 385, 823, 824, 825, 826, 827, 828, 855, 856, 857, 858, 859, 860, 861, 862, 863, 864, 865, 848, 849, 850, 851, 852] (by decide +kernel) (by decide +kernel)
set_option maxRecDepth 20000 in
theorem gL_law_X7_bestTake : GoodIn wsL_law (wsV RL 144 RX7 yX7_bestTake wsX7_bestTake) := goodIn_app (goodIn_of _ (by decide +kernel)) ggL_law_X7_bestTake
set_option maxRecDepth 20000 in
theorem ggL_law_X8_bestTake : GoodIn wsL_law wsX8_bestTake := goodIn_r _ [660, 126, 78, 216, 197, 198, 5, 199, 200, 201, 202, 203, 204, 205, 206, 207, 208, 188, 189, 190, 182, 183, 184, 209, 210, 211, 212, 213, 214, 215, 217, 218, 219, 220, 221, 222, 223, 224, 225, 226, 227, 228, 229, 230, 231, 232, 233, 234, 235, 236, 237, 238, 239, 240, 241, 242, 829, 830, 831, 832, 833, 834, 835, 836, 837, 838, 839, 840, 841, 842, 843, 844, 845, 846, 847] (by decide +kernel) (by decide +kernel)
set_option maxRecDepth 20000 in
theorem gL_law_X8_bestTake : GoodIn wsL_law (wsV RL 147 RX8 yX8_bestTake wsX8_bestTake) := goodIn_app (goodIn_of _ (by decide +kernel)) ggL_law_X8_bestTake
set_option maxRecDepth 20000 in
theorem ggL_law_X7_choices : GoodIn wsL_law wsX7_choices := goodIn_r _ [664, 24, 563, 551, 298, 299, 23, 300, 57, 301, 263, 302, 303, 304, 305, 306, 307, 308, 309, 266, 267, 310, 311, 312, 16, 313, 41, 42, 314, 315, 316, 317, 43, 44, 39, 318, 319, 320, 321, 322, 323, 324, 325, 326, 327, 328, 329, 330, 331, 332, 333, 334, 55, 56, 823, 824, 825, 826, 827, 828, 855, 856, 857, 858, 859, 860, 861, 862, 863, 864, 865, 848, 849, 850, 851, 852] (by decide +kernel) (by decide +kernel)
set_option maxRecDepth 20000 in
theorem gL_law_X7_choices : GoodIn wsL_law (wsV RL 148 RX7 yX7_choices wsX7_choices) := goodIn_app (goodIn_of _ (by decide +kernel)) ggL_law_X7_choices
set_option maxRecDepth 20000 in
theorem ggL_law_X8_choices : GoodIn wsL_law wsX8_choices := goodIn_r _ [668, 126, 78, 197, 198, 5, 199, 200, 201, 202, 203, 204, 205, 206, 207, 208, 188, 189, 190, 182, 183, 184, 209, 210, 211, 212, 213, 214, 215, 216, 217, 218, 219, 220, 221, 222, 223, 224, 225, 226, 227, 228, 229, 230, 231, 232, 233, 234, 235, 236, 237, 238, 239, 240, 241, 242, 829, 830, 831, 832, 833, 834, 835, 836, 837, 838, 839, 840, 841, 842, 843, 844, 845, 846, 847] (by decide +kernel) (by decide +kernel)
set_option maxRecDepth 20000 in
theorem gL_law_X8_choices : GoodIn wsL_law (wsV RL 151 RX8 yX8_choices wsX8_choices) := goodIn_app (goodIn_of _ (by decide +kernel)) ggL_law_X8_choices
set_option maxRecDepth 20000 in
theorem ggL_law_L_ladder : GoodIn wsL_law wsL_ladder := goodIn_ca (goodIn_ca (goodIn_r _ [671, 401, 94, 672, 673, 674, 2, 675, 406, 407, 100, 101, 24, 486, 294, 295, 16, 296, 40, 487, 488, 489, 23, 490, 266, 267, 411, 307, 308, 309, 676, 677, 678, 679, 680, 323, 324, 325, 41, 42, 318, 319, 320, 321, 314, 315, 316, 317, 43, 44, 39, 681, 340, 341, 342, 343, 344, 345, 682, 311, 312, 313, 683, 684, 685, 686, 823, 824, 825, 826, 827, 828, 855, 856, 857, 858, 859, 860, 861, 862, 863, 864, 865, 848, 849, 850, 851, 852] (by decide +kernel) (by decide +kernel)) (goodIn_sub (fun _ h => List.mem_append_right _ h) (by decide +kernel))) (goodIn_sub (fun _ h => List.mem_append_left _ (List.mem_append_left _ (List.mem_append_right _ h))) (by decide +kernel))
