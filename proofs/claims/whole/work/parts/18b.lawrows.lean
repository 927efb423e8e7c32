set_option maxRecDepth 20000 in
theorem ggL_law_X2_init : GoodIn wsL_law wsX2_init := goodIn_r _ [9, 10, 11, 12, 13, 14, 15, 16, 17, 18, 19, 20, 21, 22, 23, 24, 25, 26, 27, 28, 29, 30, 31, 32, 33, 737, 738, 739, 722, 723, 724, 725, 726] (by decide +kernel) (by decide +kernel)
set_option maxRecDepth 20000 in
theorem gL_law_X2_init : GoodIn wsL_law (wsX2_init) := ggL_law_X2_init
set_option maxRecDepth 20000 in
theorem ggL_law_X3_init : GoodIn wsL_law wsX3_init := goodIn_r _ [36, 37, 11, 12, 17, 38, 39, 40, 41, 42, 727, 728, 729, 730, 731, 732, 733, 734, 735, 736] (by decide +kernel) (by decide +kernel)
set_option maxRecDepth 20000 in
theorem gL_law_X3_init : GoodIn wsL_law (wsX3_init) := ggL_law_X3_init
set_option maxRecDepth 20000 in
theorem ggL_law_L_add : GoodIn wsL_law wsL_add := goodIn_ca (goodIn_ca (goodIn_r _ [46, 47, 48, 49, 50, 51, 2, 52, 53, 54, 55, 56, 16, 57, 58, 59, 60, 61, 62, 63, 64, 65, 66, 67, 68, 15, 69, 70, 71, 72, 73, 74, 11, 12, 75, 76, 77, 78, 79, 80, 81, 82, 83, 84, 85, 86, 87, 88, 89, 90, 91, 92, 93, 23, 94, 95, 96, 97, 98, 99, 100, 101, 102, 103, 104, 105, 22, 106, 107, 108, 109, 110, 111, 112, 113, 114, 115, 116, 117, 118, 119, 120, 121, 122, 123, 124, 125, 126, 127, 128, 129, 130, 131, 132, 133, 134, 135, 136, 137, 138, 139, 722, 723, 724, 725, 726, 740, 741, 742, 743, 744, 745, 746, 747, 737, 738, 739] (by decide +kernel) (by decide +kernel)) (goodIn_sub (fun _ h => List.mem_append_left _ (List.mem_append_left _ (List.mem_append_left _ (List.mem_append_right _ h)))) (by decide +kernel))) (goodIn_sub (fun _ h => List.mem_append_left _ (List.mem_append_left _ (List.mem_append_right _ h))) (by decide +kernel))
set_option maxRecDepth 20000 in
theorem gL_law_L_add : GoodIn wsL_law (va_wsS RL 84 yL_add wsL_add) := goodIn_app (goodIn_of _ (by decide +kernel)) ggL_law_L_add
set_option maxRecDepth 20000 in
theorem ggL_law_X3_add : GoodIn wsL_law wsX3_add := goodIn_r _ [143, 144, 40, 145, 146, 5, 147, 148, 149, 150, 151, 152, 153, 154, 155, 156, 157, 158, 159, 38, 727, 728, 729, 730, 731, 732, 733, 734, 735, 736] (by decide +kernel) (by decide +kernel)
set_option maxRecDepth 20000 in
theorem gL_law_X3_add : GoodIn wsL_law (wsV RL 89 RX3 yX3_add wsX3_add) := goodIn_app (goodIn_of _ (by decide +kernel)) ggL_law_X3_add
set_option maxRecDepth 20000 in
theorem ggL_law_X3_thrown : GoodIn wsL_law wsX3_thrown := goodIn_r _ [163, 155, 727, 728, 729, 730, 731, 732, 733, 734, 735, 736] (by decide +kernel) (by decide +kernel)
set_option maxRecDepth 20000 in
theorem gL_law_X3_thrown : GoodIn wsL_law (wsV RL 90 RX3 yX3_thrown wsX3_thrown) := goodIn_app (goodIn_of _ (by decide +kernel)) ggL_law_X3_thrown
set_option maxRecDepth 20000 in
theorem ggL_law_L_remove : GoodIn wsL_law wsL_remove := goodIn_ca (goodIn_r _ [166, 167, 168, 169, 170, 2, 171, 16, 172, 173, 174, 175, 176, 177, 66, 67, 68, 15, 69, 70, 178, 179, 180, 181, 18, 182, 183, 184, 185, 186, 187, 188, 189, 190, 191, 192, 193, 194, 195, 196, 197, 198, 199, 200, 201, 202, 203, 204, 205, 23, 206, 207, 208, 62, 209, 84, 86, 210, 211, 212, 59, 213, 75, 76, 214, 215, 216, 217, 218, 219, 220, 221, 222, 223, 92, 93, 224, 137, 138, 139, 225, 226, 227, 228, 229, 230, 231, 232, 233, 234, 235, 722, 723, 724, 725, 726, 737, 738, 739, 743, 744, 745, 746, 747, 740, 741, 742] (by decide +kernel) (by decide +kernel)) (goodIn_sub (fun _ h => List.mem_append_left _ (List.mem_append_right _ h)) (by decide +kernel))
set_option maxRecDepth 20000 in
theorem gL_law_L_remove : GoodIn wsL_law (va_wsS RL 94 yL_remove wsL_remove) := goodIn_app (goodIn_of _ (by decide +kernel)) ggL_law_L_remove
set_option maxRecDepth 20000 in
theorem ggL_law_X3_remove : GoodIn wsL_law wsX3_remove := goodIn_r _ [239, 240, 241, 242, 5, 243, 144, 148, 149, 150, 151, 152, 153, 154, 155, 244, 245, 246, 247, 39, 248, 249, 250, 251, 252, 253, 254, 255, 256, 257, 258, 259, 38, 260, 261, 262, 263, 40, 264, 265, 266, 267, 268, 269, 270, 727, 728, 729, 730, 731, 732, 733, 734, 735, 736] (by decide +kernel) (by decide +kernel)
set_option maxRecDepth 20000 in
theorem gL_law_X3_remove : GoodIn wsL_law (wsV RL 97 RX3 yX3_remove wsX3_remove) := goodIn_app (goodIn_of _ (by decide +kernel)) ggL_law_X3_remove
set_option maxRecDepth 20000 in
theorem ggL_law_L_move : GoodIn wsL_law wsL_move := goodIn_ca (goodIn_r _ [273, 167, 274, 275, 276, 2, 277, 16, 278, 279, 280, 281, 186, 172, 173, 174, 175, 176, 177, 66, 67, 68, 15, 69, 70, 190, 191, 192, 193, 194, 195, 196, 197, 198, 199, 200, 201, 202, 203, 204, 205, 23, 178, 179, 180, 181, 18, 182, 183, 184, 185, 187, 188, 189, 206, 207, 208, 62, 209, 84, 86, 210, 211, 212, 59, 213, 75, 76, 214, 215, 216, 217, 218, 219, 220, 221, 222, 223, 92, 93, 224, 137, 138, 139, 282, 283, 284, 285, 286, 287, 288, 289, 98, 99, 100, 101, 102, 103, 104, 105, 22, 106, 107, 108, 109, 110, 111, 112, 113, 114, 115, 116, 117, 118, 119, 120, 121, 122, 123, 124, 125, 126, 127, 128, 129, 130, 131, 132, 133, 134, 135, 136, 225, 226, 227, 228, 229, 230, 231, 232, 233, 234, 235, 722, 723, 724, 725, 726, 737, 738, 739, 743, 744, 745, 746, 747, 740, 741, 742] (by decide +kernel) (by decide +kernel)) (goodIn_sub (fun _ h => List.mem_append_left _ (List.mem_append_right _ h)) (by decide +kernel))
set_option maxRecDepth 20000 in
theorem gL_law_L_move : GoodIn wsL_law (va_wsS RL 98 yL_move wsL_move) := goodIn_app (goodIn_of _ (by decide +kernel)) ggL_law_L_move
set_option maxRecDepth 20000 in
theorem ggL_law_X3_move : GoodIn wsL_law wsX3_move := goodIn_r _ [293, 240, 241, 242, 5, 243, 144, 148, 149, 150, 151, 152, 153, 154, 155, 244, 245, 246, 247, 39, 248, 249, 250, 251, 252, 253, 254, 255, 256, 257, 258, 259, 38, 260, 261, 262, 263, 40, 156, 157, 158, 159, 264, 265, 266, 267, 268, 269, 270, 727, 728, 729, 730, 731, 732, 733, 734, 735, 736] (by decide +kernel) (by decide +kernel)
set_option maxRecDepth 20000 in
theorem gL_law_X3_move : GoodIn wsL_law (wsV RL 101 RX3 yX3_move wsX3_move) := goodIn_app (goodIn_of _ (by decide +kernel)) ggL_law_X3_move
set_option maxRecDepth 20000 in
theorem ggL_law_X2_rules : GoodIn wsL_law wsX2_rules := goodIn_r _ [297, 16, 66, 67, 68, 15, 69, 70, 722, 723, 724, 725, 726, 737, 738, 739] (by decide +kernel) (by decide +kernel)
set_option maxRecDepth 20000 in
theorem gL_law_X2_rules : GoodIn wsL_law (wsV RL 102 RX2 yX2_rules wsX2_rules) := goodIn_app (goodIn_of _ (by decide +kernel)) ggL_law_X2_rules
set_option maxRecDepth 20000 in
theorem ggL_law_X3_rules : GoodIn wsL_law wsX3_rules := goodIn_r _ [301, 155, 144, 727, 728, 729, 730, 731, 732, 733, 734, 735, 736] (by decide +kernel) (by decide +kernel)
set_option maxRecDepth 20000 in
theorem gL_law_X3_rules : GoodIn wsL_law (wsV RL 105 RX3 yX3_rules wsX3_rules) := goodIn_app (goodIn_of _ (by decide +kernel)) ggL_law_X3_rules
set_option maxRecDepth 20000 in
theorem ggL_law_L_sources : GoodIn wsL_law wsL_sources := goodIn_ca (goodIn_r _ [304, 167, 305, 306, 307, 2, 308, 309, 278, 279, 280, 281, 16, 186, 172, 173, 174, 175, 176, 177, 66, 67, 68, 15, 69, 70, 190, 191, 192, 193, 194, 195, 196, 197, 198, 199, 200, 201, 202, 203, 204, 205, 23, 310, 311, 312, 59, 313, 75, 76, 743, 744, 745, 746, 747, 722, 723, 724, 725, 726, 737, 738, 739, 740, 741, 742] (by decide +kernel) (by decide +kernel)) (goodIn_sub (fun _ h => List.mem_append_left _ (List.mem_append_right _ h)) (by decide +kernel))
set_option maxRecDepth 20000 in
theorem gL_law_L_sources : GoodIn wsL_law (va_wsS RL 106 yL_sources wsL_sources) := goodIn_app (goodIn_of _ (by decide +kernel)) ggL_law_L_sources
set_option maxRecDepth 20000 in
theorem ggL_law_X3_sources : GoodIn wsL_law wsX3_sources := goodIn_r _ [317, 240, 241, 242, 5, 243, 144, 148, 149, 150, 151, 152, 153, 154, 155, 256, 257, 258, 259, 38, 727, 728, 729, 730, 731, 732, 733, 734, 735, 736] (by decide +kernel) (by decide +kernel)
set_option maxRecDepth 20000 in
theorem gL_law_X3_sources : GoodIn wsL_law (wsV RL 108 RX3 yX3_sources wsX3_sources) := goodIn_app (goodIn_of _ (by decide +kernel)) ggL_law_X3_sources
set_option maxRecDepth 20000 in
theorem ggL_law_L_destinations : GoodIn wsL_law wsL_destinations := goodIn_ca (goodIn_r _ [320, 167, 321, 322, 323, 2, 324, 187, 278, 279, 280, 281, 16, 186, 172, 173, 174, 175, 176, 177, 66, 67, 68, 15, 69, 70, 190, 191, 192, 193, 194, 195, 196, 197, 198, 199, 200, 201, 202, 203, 204, 205, 23, 310, 311, 312, 59, 313, 75, 76, 743, 744, 745, 746, 747, 722, 723, 724, 725, 726, 737, 738, 739, 740, 741, 742] (by decide +kernel) (by decide +kernel)) (goodIn_sub (fun _ h => List.mem_append_left _ (List.mem_append_right _ h)) (by decide +kernel))
set_option maxRecDepth 20000 in
theorem gL_law_L_destinations : GoodIn wsL_law (va_wsS RL 109 yL_destinations wsL_destinations) := goodIn_app (goodIn_of _ (by decide +kernel)) ggL_law_L_destinations
set_option maxRecDepth 20000 in
theorem ggL_law_X3_destinations : GoodIn wsL_law wsX3_destinations := goodIn_r _ [328, 240, 241, 242, 5, 243, 144, 148, 149, 150, 151, 152, 153, 154, 155, 256, 257, 258, 259, 38, 727, 728, 729, 730, 731, 732, 733, 734, 735, 736] (by decide +kernel) (by decide +kernel)
set_option maxRecDepth 20000 in
theorem gL_law_X3_destinations : GoodIn wsL_law (wsV RL 111 RX3 yX3_destinations wsX3_destinations) := goodIn_app (goodIn_of _ (by decide +kernel)) ggL_law_X3_destinations
set_option maxRecDepth 20000 in
theorem ggL_law_L_protocols : GoodIn wsL_law wsL_protocols := goodIn_ca (goodIn_r _ [331, 167, 332, 333, 334, 2, 335, 336, 278, 279, 280, 281, 16, 186, 172, 173, 174, 175, 176, 177, 66, 67, 68, 15, 69, 70, 190, 191, 192, 193, 194, 195, 196, 197, 198, 199, 200, 201, 202, 203, 204, 205, 23, 743, 744, 745, 746, 747, 722, 723, 724, 725, 726, 737, 738, 739] (by decide +kernel) (by decide +kernel)) (goodIn_sub (fun _ h => List.mem_append_left _ (List.mem_append_right _ h)) (by decide +kernel))
set_option maxRecDepth 20000 in
theorem gL_law_L_protocols : GoodIn wsL_law (va_wsS RL 112 yL_protocols wsL_protocols) := goodIn_app (goodIn_of _ (by decide +kernel)) ggL_law_L_protocols
set_option maxRecDepth 20000 in
theorem ggL_law_X3_protocols : GoodIn wsL_law wsX3_protocols := goodIn_r _ [340, 240, 241, 242, 5, 243, 144, 148, 149, 150, 151, 152, 153, 154, 155, 256, 257, 258, 259, 38, 727, 728, 729, 730, 731, 732, 733, 734, 735, 736] (by decide +kernel) (by decide +kernel)
set_option maxRecDepth 20000 in
theorem gL_law_X3_protocols : GoodIn wsL_law (wsV RL 114 RX3 yX3_protocols wsX3_protocols) := goodIn_app (goodIn_of _ (by decide +kernel)) ggL_law_X3_protocols
set_option maxRecDepth 20000 in
theorem ggL_law_L_permits : GoodIn wsL_law wsL_permits := goodIn_ca (goodIn_r _ [343, 167, 344, 345, 346, 2, 347, 189, 278, 279, 280, 281, 16, 186, 172, 173, 174, 175, 176, 177, 66, 67, 68, 15, 69, 70, 190, 191, 192, 193, 194, 195, 196, 197, 198, 199, 200, 201, 202, 203, 204, 205, 23, 743, 744, 745, 746, 747, 722, 723, 724, 725, 726, 737, 738, 739] (by decide +kernel) (by decide +kernel)) (goodIn_sub (fun _ h => List.mem_append_left _ (List.mem_append_right _ h)) (by decide +kernel))
set_option maxRecDepth 20000 in
theorem gL_law_L_permits : GoodIn wsL_law (va_wsS RL 115 yL_permits wsL_permits) := goodIn_app (goodIn_of _ (by decide +kernel)) ggL_law_L_permits
set_option maxRecDepth 20000 in
theorem ggL_law_X3_permits : GoodIn wsL_law wsX3_permits := goodIn_r _ [351, 240, 241, 242, 5, 243, 144, 148, 149, 150, 151, 152, 153, 154, 155, 256, 257, 258, 259, 38, 727, 728, 729, 730, 731, 732, 733, 734, 735, 736] (by decide +kernel) (by decide +kernel)
set_option maxRecDepth 20000 in
theorem gL_law_X3_permits : GoodIn wsL_law (wsV RL 117 RX3 yX3_permits wsX3_permits) := goodIn_app (goodIn_of _ (by decide +kernel)) ggL_law_X3_permits
set_option maxRecDepth 20000 in
theorem ggL_law_L_judge : GoodIn wsL_law wsL_judge := goodIn_ca (goodIn_r _ [354, 47, 355, 356, 357, 2, 358, 359, 16, 360, 361, 186, 362, 189, 363, 364, 365, 53, 54, 366, 367, 368, 369, 66, 67, 68, 15, 69, 70, 190, 191, 192, 193, 194, 195, 196, 197, 198, 199, 200, 201, 202, 203, 204, 205, 23, 370, 371, 372, 62, 373, 85, 374, 207, 208, 209, 84, 86, 210, 211, 212, 59, 213, 75, 76, 214, 215, 722, 723, 724, 725, 726, 743, 744, 745, 746, 747, 737, 738, 739, 740, 741, 742] (by decide +kernel) (by decide +kernel)) (goodIn_sub (fun _ h => List.mem_append_left _ (List.mem_append_left _ (List.mem_append_left _ (List.mem_append_right _ h)))) (by decide +kernel))
set_option maxRecDepth 20000 in
theorem gL_law_L_judge : GoodIn wsL_law (va_wsS RL 118 yL_judge wsL_judge) := goodIn_app (goodIn_of _ (by decide +kernel)) ggL_law_L_judge
set_option maxRecDepth 20000 in
theorem ggL_law_X3_judge : GoodIn wsL_law wsX3_judge := goodIn_r _ [378, 379, 144, 380, 381, 38, 382, 383, 5, 384, 148, 149, 150, 151, 152, 153, 154, 155, 385, 386, 387, 388, 252, 253, 254, 255, 256, 257, 258, 259, 727, 728, 729, 730, 731, 732, 733, 734, 735, 736] (by decide +kernel) (by decide +kernel)
set_option maxRecDepth 20000 in
theorem gL_law_X3_judge : GoodIn wsL_law (wsV RL 121 RX3 yX3_judge wsX3_judge) := goodIn_app (goodIn_of _ (by decide +kernel)) ggL_law_X3_judge
set_option maxRecDepth 20000 in
theorem ggL_law_L_decider : GoodIn wsL_law wsL_decider := goodIn_ca (goodIn_ca (goodIn_r _ [391, 47, 392, 393, 394, 395, 2, 396, 397, 398, 16, 363, 364, 365, 53, 54, 366, 367, 368, 369, 186, 66, 67, 68, 15, 69, 70, 190, 191, 192, 193, 194, 195, 196, 197, 198, 199, 200, 201, 202, 203, 204, 205, 23, 370, 371, 372, 62, 373, 85, 374, 207, 208, 209, 84, 86, 210, 211, 212, 59, 213, 75, 76, 214, 215, 722, 723, 724, 725, 726, 737, 738, 739, 743, 744, 745, 746, 747, 740, 741, 742] (by decide +kernel) (by decide +kernel)) (goodIn_sub (fun _ h => List.mem_append_right _ h) (by decide +kernel))) (goodIn_sub (fun _ h => List.mem_append_left _ (List.mem_append_left _ (List.mem_append_left _ (List.mem_append_right _ h)))) (by decide +kernel))
set_option maxRecDepth 20000 in
theorem gL_law_L_decider : GoodIn wsL_law (va_wsS RL 122 yL_decider wsL_decider) := goodIn_app (goodIn_of _ (by decide +kernel)) ggL_law_L_decider
set_option maxRecDepth 20000 in
theorem ggL_law_X3_decider : GoodIn wsL_law wsX3_decider := goodIn_r _ [402, 144, 382, 383, 5, 384, 148, 149, 150, 385, 386, 387, 388, 252, 253, 254, 255, 256, 257, 258, 259, 38, 151, 152, 153, 154, 155, 727, 728, 729, 730, 731, 732, 733, 734, 735, 736] (by decide +kernel) (by decide +kernel)
set_option maxRecDepth 20000 in
theorem gL_law_X3_decider : GoodIn wsL_law (wsV RL 124 RX3 yX3_decider wsX3_decider) := goodIn_app (goodIn_of _ (by decide +kernel)) ggL_law_X3_decider
set_option maxRecDepth 20000 in
theorem ggL_law_L_hits : GoodIn wsL_law wsL_hits := goodIn_ca (goodIn_r _ [405, 167, 406, 407, 408, 2, 409, 362, 278, 279, 280, 281, 16, 186, 172, 173, 174, 175, 176, 177, 66, 67, 68, 15, 69, 70, 190, 191, 192, 193, 194, 195, 196, 197, 198, 199, 200, 201, 202, 203, 204, 205, 23, 743, 744, 745, 746, 747, 722, 723, 724, 725, 726, 737, 738, 739] (by decide +kernel) (by decide +kernel)) (goodIn_sub (fun _ h => List.mem_append_left _ (List.mem_append_right _ h)) (by decide +kernel))
set_option maxRecDepth 20000 in
theorem gL_law_L_hits : GoodIn wsL_law (va_wsS RL 125 yL_hits wsL_hits) := goodIn_app (goodIn_of _ (by decide +kernel)) ggL_law_L_hits
set_option maxRecDepth 20000 in
theorem ggL_law_X3_hits : GoodIn wsL_law wsX3_hits := goodIn_r _ [413, 240, 241, 242, 5, 243, 144, 148, 149, 150, 151, 152, 153, 154, 155, 256, 257, 258, 259, 38, 727, 728, 729, 730, 731, 732, 733, 734, 735, 736] (by decide +kernel) (by decide +kernel)
set_option maxRecDepth 20000 in
theorem gL_law_X3_hits : GoodIn wsL_law (wsV RL 127 RX3 yX3_hits wsX3_hits) := goodIn_app (goodIn_of _ (by decide +kernel)) ggL_law_X3_hits
set_option maxRecDepth 20000 in
theorem ggL_law_X2_misses : GoodIn wsL_law wsX2_misses := goodIn_r _ [417, 360, 722, 723, 724, 725, 726] (by decide +kernel) (by decide +kernel)
set_option maxRecDepth 20000 in
theorem gL_law_X2_misses : GoodIn wsL_law (wsV RL 128 RX2 yX2_misses wsX2_misses) := goodIn_app (goodIn_of _ (by decide +kernel)) ggL_law_X2_misses
set_option maxRecDepth 20000 in
theorem ggL_law_X3_misses : GoodIn wsL_law wsX3_misses := goodIn_r _ [421, 155, 380, 727, 728, 729, 730, 731, 732, 733, 734, 735, 736] (by decide +kernel) (by decide +kernel)
set_option maxRecDepth 20000 in
theorem gL_law_X3_misses : GoodIn wsL_law (wsV RL 131 RX3 yX3_misses wsX3_misses) := goodIn_app (goodIn_of _ (by decide +kernel)) ggL_law_X3_misses
set_option maxRecDepth 20000 in
theorem ggL_law_X2_averageLooks : GoodIn wsL_law wsX2_averageLooks := goodIn_r _ [425, 359, 361, 722, 723, 724, 725, 726] (by decide +kernel) (by decide +kernel)
set_option maxRecDepth 20000 in
theorem gL_law_X2_averageLooks : GoodIn wsL_law (wsV RL 132 RX2 yX2_averageLooks wsX2_averageLooks) := goodIn_app (goodIn_of _ (by decide +kernel)) ggL_law_X2_averageLooks
set_option maxRecDepth 20000 in
theorem ggL_law_X3_averageLooks : GoodIn wsL_law wsX3_averageLooks := goodIn_r _ [429, 155, 379, 381, 727, 728, 729, 730, 731, 732, 733, 734, 735, 736] (by decide +kernel) (by decide +kernel)
set_option maxRecDepth 20000 in
theorem gL_law_X3_averageLooks : GoodIn wsL_law (wsV RL 136 RX3 yX3_averageLooks wsX3_averageLooks) := goodIn_app (goodIn_of _ (by decide +kernel)) ggL_law_X3_averageLooks
set_option maxRecDepth 20000 in
theorem ggL_law_L_decides : GoodIn wsL_law wsL_decides := goodIn_ca (goodIn_r _ [432, 167, 433, 434, 435, 2, 436, 278, 279, 280, 281, 16, 186, 172, 173, 174, 175, 176, 177, 66, 67, 68, 15, 69, 70, 190, 191, 192, 193, 194, 195, 196, 197, 198, 199, 200, 201, 202, 203, 204, 205, 23, 437, 438, 439, 440, 309, 441, 442, 336, 187, 188, 443, 214, 215, 444, 445, 446, 447, 206, 207, 208, 62, 209, 84, 86, 210, 211, 212, 59, 213, 75, 76, 229, 230, 231, 232, 233, 234, 235, 722, 723, 724, 725, 726, 737, 738, 739, 743, 744, 745, 746, 747, 740, 741, 742] (by decide +kernel) (by decide +kernel)) (goodIn_sub (fun _ h => List.mem_append_left _ (List.mem_append_right _ h)) (by decide +kernel))
set_option maxRecDepth 20000 in
theorem gL_law_L_decides : GoodIn wsL_law (va_wsS RL 137 yL_decides wsL_decides) := goodIn_app (goodIn_of _ (by decide +kernel)) ggL_law_L_decides
set_option maxRecDepth 20000 in
theorem ggL_law_X3_decides : GoodIn wsL_law wsX3_decides := goodIn_r _ [451, 240, 241, 242, 5, 243, 144, 148, 149, 150, 151, 152, 153, 154, 155, 452, 453, 454, 455, 252, 253, 254, 255, 256, 257, 258, 259, 38, 268, 269, 270, 727, 728, 729, 730, 731, 732, 733, 734, 735, 736] (by decide +kernel) (by decide +kernel)
set_option maxRecDepth 20000 in
theorem gL_law_X3_decides : GoodIn wsL_law (wsV RL 139 RX3 yX3_decides wsX3_decides) := goodIn_app (goodIn_of _ (by decide +kernel)) ggL_law_X3_decides
set_option maxRecDepth 20000 in
theorem ggL_law_L_overlap : GoodIn wsL_law wsL_overlap := goodIn_ca (goodIn_r _ [458, 167, 459, 460, 461, 2, 462, 278, 279, 280, 281, 16, 186, 172, 173, 174, 175, 176, 177, 66, 67, 68, 15, 69, 70, 190, 191, 192, 193, 194, 195, 196, 197, 198, 199, 200, 201, 202, 203, 204, 205, 23, 463, 464, 465, 62, 466, 84, 85, 86, 467, 468, 469, 59, 470, 76, 471, 134, 108, 135, 75, 472, 107, 109, 473, 230, 231, 232, 233, 234, 235, 722, 723, 724, 725, 726, 737, 738, 739, 743, 744, 745, 746, 747, 740, 741, 742] (by decide +kernel) (by decide +kernel)) (goodIn_sub (fun _ h => List.mem_append_left _ (List.mem_append_right _ h)) (by decide +kernel))
set_option maxRecDepth 20000 in
theorem gL_law_L_overlap : GoodIn wsL_law (va_wsS RL 140 yL_overlap wsL_overlap) := goodIn_app (goodIn_of _ (by decide +kernel)) ggL_law_L_overlap
set_option maxRecDepth 20000 in
theorem ggL_law_X3_overlap : GoodIn wsL_law wsX3_overlap := goodIn_r _ [477, 240, 241, 242, 5, 243, 144, 148, 149, 150, 151, 152, 153, 154, 155, 478, 479, 480, 481, 252, 253, 254, 255, 256, 257, 258, 259, 38, 268, 269, 270, 727, 728, 729, 730, 731, 732, 733, 734, 735, 736] (by decide +kernel) (by decide +kernel)
set_option maxRecDepth 20000 in
theorem gL_law_X3_overlap : GoodIn wsL_law (wsV RL 142 RX3 yX3_overlap wsX3_overlap) := goodIn_app (goodIn_of _ (by decide +kernel)) ggL_law_X3_overlap
set_option maxRecDepth 20000 in
theorem ggL_law_L_isShadowed : GoodIn wsL_law wsL_isShadowed := goodIn_ca (goodIn_r _ [484, 167, 485, 486, 487, 2, 488, 278, 279, 280, 281, 16, 186, 172, 173, 174, 175, 176, 177, 66, 67, 68, 15, 69, 70, 190, 191, 192, 193, 194, 195, 196, 197, 198, 199, 200, 201, 202, 203, 204, 205, 23, 437, 438, 439, 440, 309, 441, 442, 336, 187, 188, 443, 214, 215, 444, 445, 446, 447, 206, 207, 208, 62, 209, 84, 86, 210, 211, 212, 59, 213, 75, 76, 229, 230, 231, 232, 233, 234, 235, 722, 723, 724, 725, 726, 737, 738, 739, 743, 744, 745, 746, 747, 740, 741, 742] (by decide +kernel) (by decide +kernel)) (goodIn_sub (fun _ h => List.mem_append_left _ (List.mem_append_right _ h)) (by decide +kernel))
set_option maxRecDepth 20000 in
theorem gL_law_L_isShadowed : GoodIn wsL_law (va_wsS RL 143 yL_isShadowed wsL_isShadowed) := goodIn_app (goodIn_of _ (by decide +kernel)) ggL_law_L_isShadowed
set_option maxRecDepth 20000 in
theorem ggL_law_X3_isShadowed : GoodIn wsL_law wsX3_isShadowed := goodIn_r _ [492, 240, 241, 242, 5, 243, 144, 148, 149, 150, 151, 152, 153, 154, 155, 452, 453, 454, 455, 252, 253, 254, 255, 256, 257, 258, 259, 38, 268, 269, 270, 727, 728, 729, 730, 731, 732, 733, 734, 735, 736] (by decide +kernel) (by decide +kernel)
set_option maxRecDepth 20000 in
theorem gL_law_X3_isShadowed : GoodIn wsL_law (wsV RL 145 RX3 yX3_isShadowed wsX3_isShadowed) := goodIn_app (goodIn_of _ (by decide +kernel)) ggL_law_X3_isShadowed
set_option maxRecDepth 20000 in
theorem ggL_law_L_shadowedBy : GoodIn wsL_law wsL_shadowedBy := goodIn_ca (goodIn_ca (goodIn_r _ [495, 167, 392, 496, 497, 498, 2, 499, 397, 398, 16, 186, 278, 279, 280, 281, 172, 173, 174, 175, 176, 177, 66, 67, 68, 15, 69, 70, 190, 191, 192, 193, 194, 195, 196, 197, 198, 199, 200, 201, 202, 203, 204, 205, 23, 500, 501, 502, 62, 503, 84, 85, 86, 504, 505, 506, 59, 507, 75, 76, 722, 723, 724, 725, 726, 737, 738, 739, 743, 744, 745, 746, 747, 740, 741, 742] (by decide +kernel) (by decide +kernel)) (goodIn_sub (fun _ h => List.mem_append_right _ h) (by decide +kernel))) (goodIn_sub (fun _ h => List.mem_append_left _ (List.mem_append_right _ h)) (by decide +kernel))
set_option maxRecDepth 20000 in
theorem gL_law_L_shadowedBy : GoodIn wsL_law (va_wsS RL 146 yL_shadowedBy wsL_shadowedBy) := goodIn_app (goodIn_of _ (by decide +kernel)) ggL_law_L_shadowedBy
set_option maxRecDepth 20000 in
theorem ggL_law_X3_shadowedBy : GoodIn wsL_law wsX3_shadowedBy := goodIn_r _ [511, 240, 241, 242, 5, 243, 144, 148, 149, 150, 151, 152, 153, 154, 155, 478, 479, 480, 481, 252, 253, 254, 255, 256, 257, 258, 259, 38, 268, 269, 270, 727, 728, 729, 730, 731, 732, 733, 734, 735, 736] (by decide +kernel) (by decide +kernel)
set_option maxRecDepth 20000 in
theorem gL_law_X3_shadowedBy : GoodIn wsL_law (wsV RL 148 RX3 yX3_shadowedBy wsX3_shadowedBy) := goodIn_app (goodIn_of _ (by decide +kernel)) ggL_law_X3_shadowedBy
set_option maxRecDepth 20000 in
theorem ggL_law_L_isRedundant : GoodIn wsL_law wsL_isRedundant := goodIn_ca (goodIn_r _ [514, 167, 515, 516, 517, 2, 518, 278, 279, 280, 281, 16, 186, 172, 173, 174, 175, 176, 177, 66, 67, 68, 15, 69, 70, 190, 191, 192, 193, 194, 195, 196, 197, 198, 199, 200, 201, 202, 203, 204, 205, 23, 519, 520, 521, 522, 309, 441, 442, 336, 443, 214, 215, 182, 183, 184, 185, 187, 188, 189, 206, 207, 208, 62, 209, 84, 86, 210, 211, 212, 59, 213, 75, 76, 722, 723, 724, 725, 726, 737, 738, 739, 743, 744, 745, 746, 747, 740, 741, 742] (by decide +kernel) (by decide +kernel)) (goodIn_sub (fun _ h => List.mem_append_left _ (List.mem_append_right _ h)) (by decide +kernel))
set_option maxRecDepth 20000 in
theorem gL_law_L_isRedundant : GoodIn wsL_law (va_wsS RL 149 yL_isRedundant wsL_isRedundant) := goodIn_app (goodIn_of _ (by decide +kernel)) ggL_law_L_isRedundant
set_option maxRecDepth 20000 in
theorem ggL_law_X3_isRedundant : GoodIn wsL_law wsX3_isRedundant := goodIn_r _ [526, 240, 241, 242, 5, 243, 144, 148, 149, 150, 151, 152, 153, 154, 155, 527, 528, 529, 530, 248, 249, 250, 251, 252, 253, 254, 255, 256, 257, 258, 259, 38, 727, 728, 729, 730, 731, 732, 733, 734, 735, 736] (by decide +kernel) (by decide +kernel)
set_option maxRecDepth 20000 in
theorem gL_law_X3_isRedundant : GoodIn wsL_law (wsV RL 151 RX3 yX3_isRedundant wsX3_isRedundant) := goodIn_app (goodIn_of _ (by decide +kernel)) ggL_law_X3_isRedundant
set_option maxRecDepth 20000 in
theorem ggL_law_X2_permitted : GoodIn wsL_law wsX2_permitted := goodIn_r _ [534, 182, 183, 184, 2, 185, 16, 186, 187, 188, 189, 66, 67, 68, 15, 69, 70, 190, 191, 192, 193, 194, 195, 196, 197, 198, 199, 200, 201, 202, 203, 204, 205, 23, 206, 207, 208, 62, 209, 84, 86, 210, 211, 212, 59, 213, 75, 76, 214, 215, 229, 230, 231, 232, 233, 234, 235, 722, 723, 724, 725, 726, 743, 744, 745, 746, 747, 740, 741, 742, 737, 738, 739] (by decide +kernel) (by decide +kernel)
set_option maxRecDepth 20000 in
theorem gL_law_X2_permitted : GoodIn wsL_law (wsV RL 152 RX2 yX2_permitted wsX2_permitted) := goodIn_app (goodIn_of _ (by decide +kernel)) ggL_law_X2_permitted
set_option maxRecDepth 20000 in
theorem ggL_law_X3_permitted : GoodIn wsL_law wsX3_permitted := goodIn_r _ [538, 155, 248, 249, 250, 5, 251, 144, 252, 253, 254, 255, 256, 257, 258, 259, 38, 148, 149, 150, 268, 269, 270, 727, 728, 729, 730, 731, 732, 733, 734, 735, 736] (by decide +kernel) (by decide +kernel)
set_option maxRecDepth 20000 in
theorem gL_law_X3_permitted : GoodIn wsL_law (wsV RL 155 RX3 yX3_permitted wsX3_permitted) := goodIn_app (goodIn_of _ (by decide +kernel)) ggL_law_X3_permitted
set_option maxRecDepth 20000 in
theorem ggL_law_L_canMerge : GoodIn wsL_law wsL_canMerge := goodIn_ca (goodIn_r _ [541, 167, 542, 543, 544, 2, 545, 176, 177, 16, 186, 66, 67, 68, 15, 69, 70, 190, 191, 192, 193, 194, 195, 196, 197, 198, 199, 200, 201, 202, 203, 204, 205, 23, 546, 547, 548, 62, 549, 87, 84, 85, 550, 551, 552, 553, 86, 554, 555, 556, 59, 557, 75, 76, 558, 559, 560, 561, 722, 723, 724, 725, 726, 737, 738, 739, 743, 744, 745, 746, 747, 740, 741, 742] (by decide +kernel) (by decide +kernel)) (goodIn_sub (fun _ h => List.mem_append_left _ (List.mem_append_right _ h)) (by decide +kernel))
set_option maxRecDepth 20000 in
theorem gL_law_L_canMerge : GoodIn wsL_law (va_wsS RL 156 yL_canMerge wsL_canMerge) := goodIn_app (goodIn_of _ (by decide +kernel)) ggL_law_L_canMerge
set_option maxRecDepth 20000 in
theorem ggL_law_X3_canMerge : GoodIn wsL_law wsX3_canMerge := goodIn_r _ [565, 144, 148, 149, 5, 150, 151, 152, 153, 154, 155, 566, 567, 568, 569, 256, 257, 258, 259, 38, 570, 571, 572, 573, 574, 575, 576, 577, 727, 728, 729, 730, 731, 732, 733, 734, 735, 736] (by decide +kernel) (by decide +kernel)
set_option maxRecDepth 20000 in
theorem gL_law_X3_canMerge : GoodIn wsL_law (wsV RL 158 RX3 yX3_canMerge wsX3_canMerge) := goodIn_app (goodIn_of _ (by decide +kernel)) ggL_law_X3_canMerge
set_option maxRecDepth 20000 in
theorem ggL_law_X2_shorten : GoodIn wsL_law wsX2_shorten := goodIn_r _ [581, 16, 66, 67, 68, 15, 69, 70, 582, 583, 584, 2, 585, 186, 190, 191, 192, 193, 194, 195, 196, 197, 198, 199, 200, 201, 202, 203, 204, 205, 23, 519, 520, 521, 522, 309, 441, 442, 336, 443, 214, 215, 182, 183, 184, 185, 187, 188, 189, 206, 207, 208, 62, 209, 84, 86, 210, 211, 212, 59, 213, 75, 76, 216, 217, 218, 219, 220, 221, 222, 223, 92, 93, 224, 137, 138, 139, 586, 587, 588, 589, 546, 547, 548, 549, 87, 85, 550, 551, 552, 553, 554, 555, 556, 557, 558, 559, 560, 561, 590, 591, 592, 593, 594, 595, 596, 597, 598, 599, 58, 471, 134, 108, 135, 472, 107, 109, 600, 72, 73, 74, 11, 12, 77, 78, 79, 722, 723, 724, 725, 726, 737, 738, 739, 743, 744, 745, 746, 747, 740, 741, 742] (by decide +kernel) (by decide +kernel)
set_option maxRecDepth 20000 in
theorem gL_law_X2_shorten : GoodIn wsL_law (wsV RL 159 RX2 yX2_shorten wsX2_shorten) := goodIn_app (goodIn_of _ (by decide +kernel)) ggL_law_X2_shorten
set_option maxRecDepth 20000 in
theorem ggL_law_X3_shorten : GoodIn wsL_law wsX3_shorten := goodIn_r _ [604, 155, 605, 606, 607, 5, 608, 144, 527, 528, 529, 530, 248, 249, 250, 251, 252, 253, 254, 255, 256, 257, 258, 259, 38, 148, 149, 150, 260, 261, 262, 263, 40, 566, 567, 568, 569, 570, 571, 572, 573, 574, 575, 576, 577, 609, 610, 611, 612, 727, 728, 729, 730, 731, 732, 733, 734, 735, 736] (by decide +kernel) (by decide +kernel)
set_option maxRecDepth 20000 in
theorem gL_law_X3_shorten : GoodIn wsL_law (wsV RL 162 RX3 yX3_shorten wsX3_shorten) := goodIn_app (goodIn_of _ (by decide +kernel)) ggL_law_X3_shorten
set_option maxRecDepth 20000 in
theorem ggL_law_X2_sortByHits : GoodIn wsL_law wsX2_sortByHits := goodIn_r _ [616, 617, 618, 619, 2, 620, 16, 186, 362, 66, 67, 68, 15, 69, 70, 190, 191, 192, 193, 194, 195, 196, 197, 198, 199, 200, 201, 202, 203, 204, 205, 23, 621, 622, 623, 62, 624, 87, 625, 464, 465, 466, 84, 85, 86, 467, 468, 469, 59, 470, 76, 471, 134, 108, 135, 75, 472, 107, 109, 473, 230, 231, 232, 233, 234, 235, 626, 627, 628, 629, 722, 723, 724, 725, 726, 743, 744, 745, 746, 747, 737, 738, 739, 740, 741, 742] (by decide +kernel) (by decide +kernel)
set_option maxRecDepth 20000 in
theorem gL_law_X2_sortByHits : GoodIn wsL_law (wsV RL 163 RX2 yX2_sortByHits wsX2_sortByHits) := goodIn_app (goodIn_of _ (by decide +kernel)) ggL_law_X2_sortByHits
set_option maxRecDepth 20000 in
theorem ggL_law_X3_sortByHits : GoodIn wsL_law wsX3_sortByHits := goodIn_r _ [633, 155, 144, 256, 257, 258, 5, 259, 38, 478, 479, 480, 481, 252, 253, 254, 255, 148, 149, 150, 268, 269, 270, 260, 261, 262, 263, 40, 156, 157, 158, 159, 727, 728, 729, 730, 731, 732, 733, 734, 735, 736] (by decide +kernel) (by decide +kernel)
set_option maxRecDepth 20000 in
theorem gL_law_X3_sortByHits : GoodIn wsL_law (wsV RL 166 RX3 yX3_sortByHits wsX3_sortByHits) := goodIn_app (goodIn_of _ (by decide +kernel)) ggL_law_X3_sortByHits
set_option maxRecDepth 20000 in
theorem ggL_law_L_entries : GoodIn wsL_law wsL_entries := goodIn_ca (goodIn_r _ [636, 167, 637, 638, 639, 2, 640, 278, 279, 280, 281, 16, 186, 172, 173, 174, 175, 176, 177, 66, 67, 68, 15, 69, 70, 190, 191, 192, 193, 194, 195, 196, 197, 198, 199, 200, 201, 202, 203, 204, 205, 23, 641, 642, 643, 309, 188, 187, 336, 644, 645, 646, 647, 648, 649, 650, 78, 79, 229, 230, 231, 232, 233, 234, 235, 722, 723, 724, 725, 726, 737, 738, 739, 743, 744, 745, 746, 747, 740, 741, 742] (by decide +kernel) (by decide +kernel)) (goodIn_sub (fun _ h => List.mem_append_left _ (List.mem_append_right _ h)) (by decide +kernel))
set_option maxRecDepth 20000 in
theorem gL_law_L_entries : GoodIn wsL_law (va_wsS RL 167 yL_entries wsL_entries) := goodIn_app (goodIn_of _ (by decide +kernel)) ggL_law_L_entries
set_option maxRecDepth 20000 in
theorem ggL_law_X3_entries : GoodIn wsL_law wsX3_entries := goodIn_r _ [654, 240, 241, 242, 5, 243, 144, 148, 149, 150, 151, 152, 153, 154, 155, 655, 656, 657, 658, 659, 660, 661, 662, 256, 257, 258, 259, 38, 663, 664, 665, 666, 41, 42, 667, 668, 669, 670, 671, 672, 673, 674, 727, 728, 729, 730, 731, 732, 733, 734, 735, 736] (by decide +kernel) (by decide +kernel)
set_option maxRecDepth 20000 in
theorem gL_law_X3_entries : GoodIn wsL_law (wsV RL 169 RX3 yX3_entries wsX3_entries) := goodIn_app (goodIn_of _ (by decide +kernel)) ggL_law_X3_entries
set_option maxRecDepth 20000 in
theorem ggL_law_L_entryValue : GoodIn wsL_law wsL_entryValue := goodIn_ca (goodIn_r _ [677, 167, 678, 679, 680, 2, 681, 278, 279, 280, 281, 16, 186, 172, 173, 174, 175, 176, 177, 66, 67, 68, 15, 69, 70, 190, 191, 192, 193, 194, 195, 196, 197, 198, 199, 200, 201, 202, 203, 204, 205, 23, 682, 683, 684, 309, 188, 187, 336, 644, 645, 646, 647, 648, 649, 650, 78, 79, 443, 214, 215, 685, 686, 687, 722, 723, 724, 725, 726, 737, 738, 739, 743, 744, 745, 746, 747, 740, 741, 742] (by decide +kernel) (by decide +kernel)) (goodIn_sub (fun _ h => List.mem_append_left _ (List.mem_append_right _ h)) (by decide +kernel))
set_option maxRecDepth 20000 in
theorem gL_law_L_entryValue : GoodIn wsL_law (va_wsS RL 170 yL_entryValue wsL_entryValue) := goodIn_app (goodIn_of _ (by decide +kernel)) ggL_law_L_entryValue
set_option maxRecDepth 20000 in
theorem ggL_law_X3_entryValue : GoodIn wsL_law wsX3_entryValue := goodIn_r _ [691, 41, 692, 693, 694, 5, 695, 240, 241, 242, 243, 144, 148, 149, 150, 655, 656, 657, 658, 659, 660, 661, 662, 256, 257, 258, 259, 38, 663, 664, 665, 666, 42, 667, 668, 669, 670, 671, 672, 673, 674, 151, 152, 153, 154, 155, 696, 697, 698, 699, 727, 728, 729, 730, 731, 732, 733, 734, 735, 736] (by decide +kernel) (by decide +kernel)
set_option maxRecDepth 20000 in
theorem gL_law_X3_entryValue : GoodIn wsL_law (wsV RL 172 RX3 yX3_entryValue wsX3_entryValue) := goodIn_app (goodIn_of _ (by decide +kernel)) ggL_law_X3_entryValue
set_option maxRecDepth 20000 in
theorem ggL_law_L_entryMask : GoodIn wsL_law wsL_entryMask := goodIn_ca (goodIn_r _ [702, 167, 703, 704, 705, 2, 706, 309, 188, 187, 336, 278, 279, 280, 281, 16, 186, 172, 173, 174, 175, 176, 177, 66, 67, 68, 15, 69, 70, 190, 191, 192, 193, 194, 195, 196, 197, 198, 199, 200, 201, 202, 203, 204, 205, 23, 682, 683, 684, 644, 645, 646, 647, 648, 649, 650, 78, 79, 443, 214, 215, 685, 686, 687, 707, 708, 709, 743, 744, 745, 746, 747, 740, 741, 742, 722, 723, 724, 725, 726, 737, 738, 739] (by decide +kernel) (by decide +kernel)) (goodIn_sub (fun _ h => List.mem_append_left _ (List.mem_append_right _ h)) (by decide +kernel))
set_option maxRecDepth 20000 in
theorem gL_law_L_entryMask : GoodIn wsL_law (va_wsS RL 173 yL_entryMask wsL_entryMask) := goodIn_app (goodIn_of _ (by decide +kernel)) ggL_law_L_entryMask
set_option maxRecDepth 20000 in
theorem ggL_law_X3_entryMask : GoodIn wsL_law wsX3_entryMask := goodIn_r _ [713, 42, 692, 693, 694, 5, 695, 240, 241, 242, 243, 144, 148, 149, 150, 655, 656, 657, 658, 659, 660, 661, 662, 256, 257, 258, 259, 38, 663, 664, 665, 666, 41, 667, 668, 669, 670, 671, 672, 673, 674, 151, 152, 153, 154, 155, 696, 697, 698, 699, 727, 728, 729, 730, 731, 732, 733, 734, 735, 736] (by decide +kernel) (by decide +kernel)
set_option maxRecDepth 20000 in
theorem gL_law_X3_entryMask : GoodIn wsL_law (wsV RL 175 RX3 yX3_entryMask wsX3_entryMask) := goodIn_app (goodIn_of _ (by decide +kernel)) ggL_law_X3_entryMask
set_option maxRecDepth 20000 in
theorem ggL_law_X2_allEntries : GoodIn wsL_law wsX2_allEntries := goodIn_r _ [717, 16, 186, 66, 67, 68, 15, 69, 70, 190, 191, 192, 193, 194, 195, 196, 197, 198, 199, 200, 201, 202, 203, 204, 205, 23, 641, 642, 2, 643, 309, 188, 187, 336, 644, 645, 646, 647, 648, 649, 650, 78, 79, 229, 230, 231, 232, 233, 234, 235, 722, 723, 724, 725, 726, 737, 738, 739, 743, 744, 745, 746, 747, 740, 741, 742] (by decide +kernel) (by decide +kernel)
set_option maxRecDepth 20000 in
theorem gL_law_X2_allEntries : GoodIn wsL_law (wsV RL 176 RX2 yX2_allEntries wsX2_allEntries) := goodIn_app (goodIn_of _ (by decide +kernel)) ggL_law_X2_allEntries
set_option maxRecDepth 20000 in
theorem ggL_law_X3_allEntries : GoodIn wsL_law wsX3_allEntries := goodIn_r _ [721, 155, 144, 655, 656, 657, 5, 658, 659, 660, 661, 662, 256, 257, 258, 259, 38, 663, 664, 665, 666, 41, 42, 667, 668, 669, 670, 671, 672, 673, 674, 727, 728, 729, 730, 731, 732, 733, 734, 735, 736] (by decide +kernel) (by decide +kernel)
set_option maxRecDepth 20000 in
theorem gL_law_X3_allEntries : GoodIn wsL_law (wsV RL 179 RX3 yX3_allEntries wsX3_allEntries) := goodIn_app (goodIn_of _ (by decide +kernel)) ggL_law_X3_allEntries
theorem dL_law_0 : decode cL_law 0 = .ok (.new 8, 3) := by decide +kernel
theorem dL_law_3 : decode cL_law 3 = .ok (.dup, 1) := by decide +kernel
theorem dL_law_4 : decode cL_law 4 = .ok (.invokespecial 80, 3) := by decide +kernel
theorem dL_law_7 : decode cL_law 7 = .ok (.astore_n 1, 1) := by decide +kernel
theorem dL_law_8 : decode cL_law 8 = .ok (.new 81, 3) := by decide +kernel
theorem dL_law_11 : decode cL_law 11 = .ok (.dup, 1) := by decide +kernel
theorem dL_law_12 : decode cL_law 12 = .ok (.invokespecial 83, 3) := by decide +kernel
theorem dL_law_15 : decode cL_law 15 = .ok (.astore_n 2, 1) := by decide +kernel
theorem dL_law_16 : decode cL_law 16 = .ok (.iconst 1, 1) := by decide +kernel
theorem dL_law_17 : decode cL_law 17 = .ok (.newarray .long, 2) := by decide +kernel
theorem dL_law_19 : decode cL_law 19 = .ok (.astore_n 3, 1) := by decide +kernel
theorem dL_law_20 : decode cL_law 20 = .ok (.iconst 0, 1) := by decide +kernel
theorem dL_law_21 : decode cL_law 21 = .ok (.istore 4, 2) := by decide +kernel
theorem dL_law_23 : decode cL_law 23 = .ok (.iload 4, 2) := by decide +kernel
theorem dL_law_25 : decode cL_law 25 = .ok (.aload_n 0, 1) := by decide +kernel
theorem dL_law_26 : decode cL_law 26 = .ok (.arraylength, 1) := by decide +kernel
theorem dL_law_27 : decode cL_law 27 = .ok (.bipush 7, 2) := by decide +kernel
theorem dL_law_29 : decode cL_law 29 = .ok (.isub, 1) := by decide +kernel
theorem dL_law_30 : decode cL_law 30 = .ok (.if_icmp .gt 1530, 3) := by decide +kernel
theorem dL_law_33 : decode cL_law 33 = .ok (.aload_n 0, 1) := by decide +kernel
theorem dL_law_34 : decode cL_law 34 = .ok (.iload 4, 2) := by decide +kernel
theorem dL_law_36 : decode cL_law 36 = .ok (.iaload, 1) := by decide +kernel
theorem dL_law_37 : decode cL_law 37 = .ok (.bipush 31, 2) := by decide +kernel
theorem dL_law_39 : decode cL_law 39 = .ok (.iand, 1) := by decide +kernel
theorem dL_law_40 : decode cL_law 40 = .ok (.tableswitch 1514 0 25 #[120, 254, 310, 378, 391, 447, 503, 559, 622, 709, 789, 845, 858, 901, 957, 1025, 1088, 1144, 1207, 1220, 1283, 1296, 1309, 1365, 1433, 1501], 120) := by decide +kernel
theorem dL_law_160 : decode cL_law 160 = .ok (.aload_n 1, 1) := by decide +kernel
theorem dL_law_161 : decode cL_law 161 = .ok (.aload_n 0, 1) := by decide +kernel
theorem dL_law_162 : decode cL_law 162 = .ok (.iload 4, 2) := by decide +kernel
theorem dL_law_164 : decode cL_law 164 = .ok (.iconst 1, 1) := by decide +kernel
theorem dL_law_165 : decode cL_law 165 = .ok (.iadd, 1) := by decide +kernel
theorem dL_law_166 : decode cL_law 166 = .ok (.iaload, 1) := by decide +kernel
theorem dL_law_167 : decode cL_law 167 = .ok (.aload_n 0, 1) := by decide +kernel
theorem dL_law_168 : decode cL_law 168 = .ok (.iload 4, 2) := by decide +kernel
theorem dL_law_170 : decode cL_law 170 = .ok (.iconst 2, 1) := by decide +kernel
theorem dL_law_171 : decode cL_law 171 = .ok (.iadd, 1) := by decide +kernel
theorem dL_law_172 : decode cL_law 172 = .ok (.iaload, 1) := by decide +kernel
theorem dL_law_173 : decode cL_law 173 = .ok (.aload_n 0, 1) := by decide +kernel
theorem dL_law_174 : decode cL_law 174 = .ok (.iload 4, 2) := by decide +kernel
theorem dL_law_176 : decode cL_law 176 = .ok (.iconst 3, 1) := by decide +kernel
theorem dL_law_177 : decode cL_law 177 = .ok (.iadd, 1) := by decide +kernel
theorem dL_law_178 : decode cL_law 178 = .ok (.iaload, 1) := by decide +kernel
theorem dL_law_179 : decode cL_law 179 = .ok (.aload_n 0, 1) := by decide +kernel
theorem dL_law_180 : decode cL_law 180 = .ok (.iload 4, 2) := by decide +kernel
theorem dL_law_182 : decode cL_law 182 = .ok (.iconst 4, 1) := by decide +kernel
theorem dL_law_183 : decode cL_law 183 = .ok (.iadd, 1) := by decide +kernel
theorem dL_law_184 : decode cL_law 184 = .ok (.iaload, 1) := by decide +kernel
theorem dL_law_185 : decode cL_law 185 = .ok (.aload_n 0, 1) := by decide +kernel
theorem dL_law_186 : decode cL_law 186 = .ok (.iload 4, 2) := by decide +kernel
theorem dL_law_188 : decode cL_law 188 = .ok (.iconst 5, 1) := by decide +kernel
theorem dL_law_189 : decode cL_law 189 = .ok (.iadd, 1) := by decide +kernel
theorem dL_law_190 : decode cL_law 190 = .ok (.iaload, 1) := by decide +kernel
theorem dL_law_191 : decode cL_law 191 = .ok (.aload_n 0, 1) := by decide +kernel
theorem dL_law_192 : decode cL_law 192 = .ok (.iload 4, 2) := by decide +kernel
theorem dL_law_194 : decode cL_law 194 = .ok (.bipush 6, 2) := by decide +kernel
theorem dL_law_196 : decode cL_law 196 = .ok (.iadd, 1) := by decide +kernel
theorem dL_law_197 : decode cL_law 197 = .ok (.iaload, 1) := by decide +kernel
theorem dL_law_198 : decode cL_law 198 = .ok (.ifCond .eq 7, 3) := by decide +kernel
theorem dL_law_201 : decode cL_law 201 = .ok (.iconst 1, 1) := by decide +kernel
theorem dL_law_202 : decode cL_law 202 = .ok (.goto 4, 3) := by decide +kernel
theorem dL_law_205 : decode cL_law 205 = .ok (.iconst 0, 1) := by decide +kernel
theorem dL_law_206 : decode cL_law 206 = .ok (.aload_n 3, 1) := by decide +kernel
theorem dL_law_207 : decode cL_law 207 = .ok (.invokestatic 84, 3) := by decide +kernel
theorem dL_law_210 : decode cL_law 210 = .ok (.istore 5, 2) := by decide +kernel
theorem dL_law_212 : decode cL_law 212 = .ok (.aload_n 2, 1) := by decide +kernel
theorem dL_law_213 : decode cL_law 213 = .ok (.aload_n 0, 1) := by decide +kernel
theorem dL_law_214 : decode cL_law 214 = .ok (.iload 4, 2) := by decide +kernel
theorem dL_law_216 : decode cL_law 216 = .ok (.iconst 1, 1) := by decide +kernel
theorem dL_law_217 : decode cL_law 217 = .ok (.iadd, 1) := by decide +kernel
theorem dL_law_218 : decode cL_law 218 = .ok (.iaload, 1) := by decide +kernel
theorem dL_law_219 : decode cL_law 219 = .ok (.aload_n 0, 1) := by decide +kernel
theorem dL_law_220 : decode cL_law 220 = .ok (.iload 4, 2) := by decide +kernel
theorem dL_law_222 : decode cL_law 222 = .ok (.iconst 2, 1) := by decide +kernel
theorem dL_law_223 : decode cL_law 223 = .ok (.iadd, 1) := by decide +kernel
theorem dL_law_224 : decode cL_law 224 = .ok (.iaload, 1) := by decide +kernel
theorem dL_law_225 : decode cL_law 225 = .ok (.aload_n 0, 1) := by decide +kernel
theorem dL_law_226 : decode cL_law 226 = .ok (.iload 4, 2) := by decide +kernel
theorem dL_law_228 : decode cL_law 228 = .ok (.iconst 3, 1) := by decide +kernel
theorem dL_law_229 : decode cL_law 229 = .ok (.iadd, 1) := by decide +kernel
theorem dL_law_230 : decode cL_law 230 = .ok (.iaload, 1) := by decide +kernel
theorem dL_law_231 : decode cL_law 231 = .ok (.aload_n 0, 1) := by decide +kernel
theorem dL_law_232 : decode cL_law 232 = .ok (.iload 4, 2) := by decide +kernel
theorem dL_law_234 : decode cL_law 234 = .ok (.iconst 4, 1) := by decide +kernel
theorem dL_law_235 : decode cL_law 235 = .ok (.iadd, 1) := by decide +kernel
theorem dL_law_236 : decode cL_law 236 = .ok (.iaload, 1) := by decide +kernel
theorem dL_law_237 : decode cL_law 237 = .ok (.aload_n 0, 1) := by decide +kernel
theorem dL_law_238 : decode cL_law 238 = .ok (.iload 4, 2) := by decide +kernel
theorem dL_law_240 : decode cL_law 240 = .ok (.iconst 5, 1) := by decide +kernel
theorem dL_law_241 : decode cL_law 241 = .ok (.iadd, 1) := by decide +kernel
theorem dL_law_242 : decode cL_law 242 = .ok (.iaload, 1) := by decide +kernel
theorem dL_law_243 : decode cL_law 243 = .ok (.aload_n 0, 1) := by decide +kernel
theorem dL_law_244 : decode cL_law 244 = .ok (.iload 4, 2) := by decide +kernel
theorem dL_law_246 : decode cL_law 246 = .ok (.bipush 6, 2) := by decide +kernel
theorem dL_law_248 : decode cL_law 248 = .ok (.iadd, 1) := by decide +kernel
theorem dL_law_249 : decode cL_law 249 = .ok (.iaload, 1) := by decide +kernel
theorem dL_law_250 : decode cL_law 250 = .ok (.ifCond .eq 7, 3) := by decide +kernel
theorem dL_law_253 : decode cL_law 253 = .ok (.iconst 1, 1) := by decide +kernel
theorem dL_law_254 : decode cL_law 254 = .ok (.goto 4, 3) := by decide +kernel
theorem dL_law_257 : decode cL_law 257 = .ok (.iconst 0, 1) := by decide +kernel
theorem dL_law_258 : decode cL_law 258 = .ok (.invokevirtual 89, 3) := by decide +kernel
theorem dL_law_261 : decode cL_law 261 = .ok (.istore 6, 2) := by decide +kernel
theorem dL_law_263 : decode cL_law 263 = .ok (.aload_n 2, 1) := by decide +kernel
theorem dL_law_264 : decode cL_law 264 = .ok (.invokevirtual 90, 3) := by decide +kernel
theorem dL_law_267 : decode cL_law 267 = .ok (.iload 5, 2) := by decide +kernel
theorem dL_law_269 : decode cL_law 269 = .ok (.if_icmp .eq 5, 3) := by decide +kernel
theorem dL_law_272 : decode cL_law 272 = .ok (.iconst 0, 1) := by decide +kernel
theorem dL_law_273 : decode cL_law 273 = .ok (.ireturn, 1) := by decide +kernel
theorem dL_law_274 : decode cL_law 274 = .ok (.iload 5, 2) := by decide +kernel
theorem dL_law_276 : decode cL_law 276 = .ok (.ifCond .ne 15, 3) := by decide +kernel
theorem dL_law_279 : decode cL_law 279 = .ok (.aload_n 3, 1) := by decide +kernel
theorem dL_law_280 : decode cL_law 280 = .ok (.iconst 0, 1) := by decide +kernel
theorem dL_law_281 : decode cL_law 281 = .ok (.laload, 1) := by decide +kernel
theorem dL_law_282 : decode cL_law 282 = .ok (.iload 6, 2) := by decide +kernel
theorem dL_law_284 : decode cL_law 284 = .ok (.i2l, 1) := by decide +kernel
theorem dL_law_285 : decode cL_law 285 = .ok (.lcmp, 1) := by decide +kernel
theorem dL_law_286 : decode cL_law 286 = .ok (.ifCond .eq 5, 3) := by decide +kernel
theorem dL_law_289 : decode cL_law 289 = .ok (.iconst 0, 1) := by decide +kernel
theorem dL_law_290 : decode cL_law 290 = .ok (.ireturn, 1) := by decide +kernel
theorem dL_law_291 : decode cL_law 291 = .ok (.goto 1263, 3) := by decide +kernel
theorem dL_law_294 : decode cL_law 294 = .ok (.aload_n 1, 1) := by decide +kernel
theorem dL_law_295 : decode cL_law 295 = .ok (.aload_n 0, 1) := by decide +kernel
theorem dL_law_296 : decode cL_law 296 = .ok (.iload 4, 2) := by decide +kernel
theorem dL_law_298 : decode cL_law 298 = .ok (.iconst 1, 1) := by decide +kernel
theorem dL_law_299 : decode cL_law 299 = .ok (.iadd, 1) := by decide +kernel
theorem dL_law_300 : decode cL_law 300 = .ok (.iaload, 1) := by decide +kernel
theorem dL_law_301 : decode cL_law 301 = .ok (.aload_n 3, 1) := by decide +kernel
theorem dL_law_302 : decode cL_law 302 = .ok (.invokestatic 94, 3) := by decide +kernel
theorem dL_law_305 : decode cL_law 305 = .ok (.istore 5, 2) := by decide +kernel
theorem dL_law_307 : decode cL_law 307 = .ok (.aload_n 2, 1) := by decide +kernel
theorem dL_law_308 : decode cL_law 308 = .ok (.aload_n 0, 1) := by decide +kernel
theorem dL_law_309 : decode cL_law 309 = .ok (.iload 4, 2) := by decide +kernel
theorem dL_law_311 : decode cL_law 311 = .ok (.iconst 1, 1) := by decide +kernel
theorem dL_law_312 : decode cL_law 312 = .ok (.iadd, 1) := by decide +kernel
theorem dL_law_313 : decode cL_law 313 = .ok (.iaload, 1) := by decide +kernel
theorem dL_law_314 : decode cL_law 314 = .ok (.invokevirtual 97, 3) := by decide +kernel
theorem dL_law_317 : decode cL_law 317 = .ok (.istore 6, 2) := by decide +kernel
theorem dL_law_319 : decode cL_law 319 = .ok (.aload_n 2, 1) := by decide +kernel
theorem dL_law_320 : decode cL_law 320 = .ok (.invokevirtual 90, 3) := by decide +kernel
theorem dL_law_323 : decode cL_law 323 = .ok (.iload 5, 2) := by decide +kernel
theorem dL_law_325 : decode cL_law 325 = .ok (.if_icmp .eq 5, 3) := by decide +kernel
theorem dL_law_328 : decode cL_law 328 = .ok (.iconst 0, 1) := by decide +kernel
theorem dL_law_329 : decode cL_law 329 = .ok (.ireturn, 1) := by decide +kernel
theorem dL_law_330 : decode cL_law 330 = .ok (.iload 5, 2) := by decide +kernel
theorem dL_law_332 : decode cL_law 332 = .ok (.ifCond .ne 15, 3) := by decide +kernel
theorem dL_law_335 : decode cL_law 335 = .ok (.aload_n 3, 1) := by decide +kernel
theorem dL_law_336 : decode cL_law 336 = .ok (.iconst 0, 1) := by decide +kernel
theorem dL_law_337 : decode cL_law 337 = .ok (.laload, 1) := by decide +kernel
theorem dL_law_338 : decode cL_law 338 = .ok (.iload 6, 2) := by decide +kernel
theorem dL_law_340 : decode cL_law 340 = .ok (.i2l, 1) := by decide +kernel
theorem dL_law_341 : decode cL_law 341 = .ok (.lcmp, 1) := by decide +kernel
theorem dL_law_342 : decode cL_law 342 = .ok (.ifCond .eq 5, 3) := by decide +kernel
theorem dL_law_345 : decode cL_law 345 = .ok (.iconst 0, 1) := by decide +kernel
theorem dL_law_346 : decode cL_law 346 = .ok (.ireturn, 1) := by decide +kernel
theorem dL_law_347 : decode cL_law 347 = .ok (.goto 1207, 3) := by decide +kernel
theorem dL_law_350 : decode cL_law 350 = .ok (.aload_n 1, 1) := by decide +kernel
theorem dL_law_351 : decode cL_law 351 = .ok (.aload_n 0, 1) := by decide +kernel
theorem dL_law_352 : decode cL_law 352 = .ok (.iload 4, 2) := by decide +kernel
theorem dL_law_354 : decode cL_law 354 = .ok (.iconst 1, 1) := by decide +kernel
theorem dL_law_355 : decode cL_law 355 = .ok (.iadd, 1) := by decide +kernel
theorem dL_law_356 : decode cL_law 356 = .ok (.iaload, 1) := by decide +kernel
theorem dL_law_357 : decode cL_law 357 = .ok (.aload_n 0, 1) := by decide +kernel
theorem dL_law_358 : decode cL_law 358 = .ok (.iload 4, 2) := by decide +kernel
theorem dL_law_360 : decode cL_law 360 = .ok (.iconst 2, 1) := by decide +kernel
theorem dL_law_361 : decode cL_law 361 = .ok (.iadd, 1) := by decide +kernel
theorem dL_law_362 : decode cL_law 362 = .ok (.iaload, 1) := by decide +kernel
theorem dL_law_363 : decode cL_law 363 = .ok (.aload_n 3, 1) := by decide +kernel
theorem dL_law_364 : decode cL_law 364 = .ok (.invokestatic 98, 3) := by decide +kernel
theorem dL_law_367 : decode cL_law 367 = .ok (.istore 5, 2) := by decide +kernel
theorem dL_law_369 : decode cL_law 369 = .ok (.aload_n 2, 1) := by decide +kernel
theorem dL_law_370 : decode cL_law 370 = .ok (.aload_n 0, 1) := by decide +kernel
theorem dL_law_371 : decode cL_law 371 = .ok (.iload 4, 2) := by decide +kernel
theorem dL_law_373 : decode cL_law 373 = .ok (.iconst 1, 1) := by decide +kernel
theorem dL_law_374 : decode cL_law 374 = .ok (.iadd, 1) := by decide +kernel
theorem dL_law_375 : decode cL_law 375 = .ok (.iaload, 1) := by decide +kernel
theorem dL_law_376 : decode cL_law 376 = .ok (.aload_n 0, 1) := by decide +kernel
theorem dL_law_377 : decode cL_law 377 = .ok (.iload 4, 2) := by decide +kernel
theorem dL_law_379 : decode cL_law 379 = .ok (.iconst 2, 1) := by decide +kernel
theorem dL_law_380 : decode cL_law 380 = .ok (.iadd, 1) := by decide +kernel
theorem dL_law_381 : decode cL_law 381 = .ok (.iaload, 1) := by decide +kernel
theorem dL_law_382 : decode cL_law 382 = .ok (.invokevirtual 101, 3) := by decide +kernel
theorem dL_law_385 : decode cL_law 385 = .ok (.istore 6, 2) := by decide +kernel
theorem dL_law_387 : decode cL_law 387 = .ok (.aload_n 2, 1) := by decide +kernel
theorem dL_law_388 : decode cL_law 388 = .ok (.invokevirtual 90, 3) := by decide +kernel
theorem dL_law_391 : decode cL_law 391 = .ok (.iload 5, 2) := by decide +kernel
theorem dL_law_393 : decode cL_law 393 = .ok (.if_icmp .eq 5, 3) := by decide +kernel
theorem dL_law_396 : decode cL_law 396 = .ok (.iconst 0, 1) := by decide +kernel
theorem dL_law_397 : decode cL_law 397 = .ok (.ireturn, 1) := by decide +kernel
theorem dL_law_398 : decode cL_law 398 = .ok (.iload 5, 2) := by decide +kernel
theorem dL_law_400 : decode cL_law 400 = .ok (.ifCond .ne 15, 3) := by decide +kernel
theorem dL_law_403 : decode cL_law 403 = .ok (.aload_n 3, 1) := by decide +kernel
theorem dL_law_404 : decode cL_law 404 = .ok (.iconst 0, 1) := by decide +kernel
theorem dL_law_405 : decode cL_law 405 = .ok (.laload, 1) := by decide +kernel
theorem dL_law_406 : decode cL_law 406 = .ok (.iload 6, 2) := by decide +kernel
theorem dL_law_408 : decode cL_law 408 = .ok (.i2l, 1) := by decide +kernel
theorem dL_law_409 : decode cL_law 409 = .ok (.lcmp, 1) := by decide +kernel
theorem dL_law_410 : decode cL_law 410 = .ok (.ifCond .eq 5, 3) := by decide +kernel
theorem dL_law_413 : decode cL_law 413 = .ok (.iconst 0, 1) := by decide +kernel
theorem dL_law_414 : decode cL_law 414 = .ok (.ireturn, 1) := by decide +kernel
theorem dL_law_415 : decode cL_law 415 = .ok (.goto 1139, 3) := by decide +kernel
theorem dL_law_418 : decode cL_law 418 = .ok (.aload_n 1, 1) := by decide +kernel
theorem dL_law_419 : decode cL_law 419 = .ok (.invokevirtual 102, 3) := by decide +kernel
theorem dL_law_422 : decode cL_law 422 = .ok (.aload_n 2, 1) := by decide +kernel
theorem dL_law_423 : decode cL_law 423 = .ok (.invokevirtual 105, 3) := by decide +kernel
theorem dL_law_426 : decode cL_law 426 = .ok (.if_icmp .eq 1128, 3) := by decide +kernel
theorem dL_law_429 : decode cL_law 429 = .ok (.iconst 0, 1) := by decide +kernel
theorem dL_law_430 : decode cL_law 430 = .ok (.ireturn, 1) := by decide +kernel
theorem dL_law_431 : decode cL_law 431 = .ok (.aload_n 1, 1) := by decide +kernel
theorem dL_law_432 : decode cL_law 432 = .ok (.aload_n 0, 1) := by decide +kernel
theorem dL_law_433 : decode cL_law 433 = .ok (.iload 4, 2) := by decide +kernel
theorem dL_law_435 : decode cL_law 435 = .ok (.iconst 1, 1) := by decide +kernel
theorem dL_law_436 : decode cL_law 436 = .ok (.iadd, 1) := by decide +kernel
theorem dL_law_437 : decode cL_law 437 = .ok (.iaload, 1) := by decide +kernel
theorem dL_law_438 : decode cL_law 438 = .ok (.aload_n 3, 1) := by decide +kernel
theorem dL_law_439 : decode cL_law 439 = .ok (.invokestatic 106, 3) := by decide +kernel
theorem dL_law_442 : decode cL_law 442 = .ok (.istore 5, 2) := by decide +kernel
theorem dL_law_444 : decode cL_law 444 = .ok (.aload_n 2, 1) := by decide +kernel
theorem dL_law_445 : decode cL_law 445 = .ok (.aload_n 0, 1) := by decide +kernel
theorem dL_law_446 : decode cL_law 446 = .ok (.iload 4, 2) := by decide +kernel
theorem dL_law_448 : decode cL_law 448 = .ok (.iconst 1, 1) := by decide +kernel
theorem dL_law_449 : decode cL_law 449 = .ok (.iadd, 1) := by decide +kernel
theorem dL_law_450 : decode cL_law 450 = .ok (.iaload, 1) := by decide +kernel
theorem dL_law_451 : decode cL_law 451 = .ok (.invokevirtual 108, 3) := by decide +kernel
theorem dL_law_454 : decode cL_law 454 = .ok (.istore 6, 2) := by decide +kernel
theorem dL_law_456 : decode cL_law 456 = .ok (.aload_n 2, 1) := by decide +kernel
theorem dL_law_457 : decode cL_law 457 = .ok (.invokevirtual 90, 3) := by decide +kernel
theorem dL_law_460 : decode cL_law 460 = .ok (.iload 5, 2) := by decide +kernel
theorem dL_law_462 : decode cL_law 462 = .ok (.if_icmp .eq 5, 3) := by decide +kernel
theorem dL_law_465 : decode cL_law 465 = .ok (.iconst 0, 1) := by decide +kernel
theorem dL_law_466 : decode cL_law 466 = .ok (.ireturn, 1) := by decide +kernel
theorem dL_law_467 : decode cL_law 467 = .ok (.iload 5, 2) := by decide +kernel
theorem dL_law_469 : decode cL_law 469 = .ok (.ifCond .ne 15, 3) := by decide +kernel
theorem dL_law_472 : decode cL_law 472 = .ok (.aload_n 3, 1) := by decide +kernel
theorem dL_law_473 : decode cL_law 473 = .ok (.iconst 0, 1) := by decide +kernel
theorem dL_law_474 : decode cL_law 474 = .ok (.laload, 1) := by decide +kernel
theorem dL_law_475 : decode cL_law 475 = .ok (.iload 6, 2) := by decide +kernel
theorem dL_law_477 : decode cL_law 477 = .ok (.i2l, 1) := by decide +kernel
theorem dL_law_478 : decode cL_law 478 = .ok (.lcmp, 1) := by decide +kernel
theorem dL_law_479 : decode cL_law 479 = .ok (.ifCond .eq 5, 3) := by decide +kernel
theorem dL_law_482 : decode cL_law 482 = .ok (.iconst 0, 1) := by decide +kernel
theorem dL_law_483 : decode cL_law 483 = .ok (.ireturn, 1) := by decide +kernel
theorem dL_law_484 : decode cL_law 484 = .ok (.goto 1070, 3) := by decide +kernel
theorem dL_law_487 : decode cL_law 487 = .ok (.aload_n 1, 1) := by decide +kernel
theorem dL_law_488 : decode cL_law 488 = .ok (.aload_n 0, 1) := by decide +kernel
theorem dL_law_489 : decode cL_law 489 = .ok (.iload 4, 2) := by decide +kernel
theorem dL_law_491 : decode cL_law 491 = .ok (.iconst 1, 1) := by decide +kernel
theorem dL_law_492 : decode cL_law 492 = .ok (.iadd, 1) := by decide +kernel
theorem dL_law_493 : decode cL_law 493 = .ok (.iaload, 1) := by decide +kernel
theorem dL_law_494 : decode cL_law 494 = .ok (.aload_n 3, 1) := by decide +kernel
theorem dL_law_495 : decode cL_law 495 = .ok (.invokestatic 109, 3) := by decide +kernel
theorem dL_law_498 : decode cL_law 498 = .ok (.istore 5, 2) := by decide +kernel
theorem dL_law_500 : decode cL_law 500 = .ok (.aload_n 2, 1) := by decide +kernel
theorem dL_law_501 : decode cL_law 501 = .ok (.aload_n 0, 1) := by decide +kernel
theorem dL_law_502 : decode cL_law 502 = .ok (.iload 4, 2) := by decide +kernel
theorem dL_law_504 : decode cL_law 504 = .ok (.iconst 1, 1) := by decide +kernel
theorem dL_law_505 : decode cL_law 505 = .ok (.iadd, 1) := by decide +kernel
theorem dL_law_506 : decode cL_law 506 = .ok (.iaload, 1) := by decide +kernel
theorem dL_law_507 : decode cL_law 507 = .ok (.invokevirtual 111, 3) := by decide +kernel
theorem dL_law_510 : decode cL_law 510 = .ok (.istore 6, 2) := by decide +kernel
theorem dL_law_512 : decode cL_law 512 = .ok (.aload_n 2, 1) := by decide +kernel
theorem dL_law_513 : decode cL_law 513 = .ok (.invokevirtual 90, 3) := by decide +kernel
theorem dL_law_516 : decode cL_law 516 = .ok (.iload 5, 2) := by decide +kernel
theorem dL_law_518 : decode cL_law 518 = .ok (.if_icmp .eq 5, 3) := by decide +kernel
theorem dL_law_521 : decode cL_law 521 = .ok (.iconst 0, 1) := by decide +kernel
theorem dL_law_522 : decode cL_law 522 = .ok (.ireturn, 1) := by decide +kernel
theorem dL_law_523 : decode cL_law 523 = .ok (.iload 5, 2) := by decide +kernel
theorem dL_law_525 : decode cL_law 525 = .ok (.ifCond .ne 15, 3) := by decide +kernel
theorem dL_law_528 : decode cL_law 528 = .ok (.aload_n 3, 1) := by decide +kernel
theorem dL_law_529 : decode cL_law 529 = .ok (.iconst 0, 1) := by decide +kernel
theorem dL_law_530 : decode cL_law 530 = .ok (.laload, 1) := by decide +kernel
theorem dL_law_531 : decode cL_law 531 = .ok (.iload 6, 2) := by decide +kernel
theorem dL_law_533 : decode cL_law 533 = .ok (.i2l, 1) := by decide +kernel
theorem dL_law_534 : decode cL_law 534 = .ok (.lcmp, 1) := by decide +kernel
theorem dL_law_535 : decode cL_law 535 = .ok (.ifCond .eq 5, 3) := by decide +kernel
theorem dL_law_538 : decode cL_law 538 = .ok (.iconst 0, 1) := by decide +kernel
theorem dL_law_539 : decode cL_law 539 = .ok (.ireturn, 1) := by decide +kernel
theorem dL_law_540 : decode cL_law 540 = .ok (.goto 1014, 3) := by decide +kernel
theorem dL_law_543 : decode cL_law 543 = .ok (.aload_n 1, 1) := by decide +kernel
theorem dL_law_544 : decode cL_law 544 = .ok (.aload_n 0, 1) := by decide +kernel
theorem dL_law_545 : decode cL_law 545 = .ok (.iload 4, 2) := by decide +kernel
theorem dL_law_547 : decode cL_law 547 = .ok (.iconst 1, 1) := by decide +kernel
theorem dL_law_548 : decode cL_law 548 = .ok (.iadd, 1) := by decide +kernel
theorem dL_law_549 : decode cL_law 549 = .ok (.iaload, 1) := by decide +kernel
theorem dL_law_550 : decode cL_law 550 = .ok (.aload_n 3, 1) := by decide +kernel
theorem dL_law_551 : decode cL_law 551 = .ok (.invokestatic 112, 3) := by decide +kernel
theorem dL_law_554 : decode cL_law 554 = .ok (.istore 5, 2) := by decide +kernel
theorem dL_law_556 : decode cL_law 556 = .ok (.aload_n 2, 1) := by decide +kernel
theorem dL_law_557 : decode cL_law 557 = .ok (.aload_n 0, 1) := by decide +kernel
theorem dL_law_558 : decode cL_law 558 = .ok (.iload 4, 2) := by decide +kernel
theorem dL_law_560 : decode cL_law 560 = .ok (.iconst 1, 1) := by decide +kernel
theorem dL_law_561 : decode cL_law 561 = .ok (.iadd, 1) := by decide +kernel
theorem dL_law_562 : decode cL_law 562 = .ok (.iaload, 1) := by decide +kernel
