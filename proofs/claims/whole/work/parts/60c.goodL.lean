/-! the law: words of its calls, more -/
set_option maxRecDepth 20000 in
theorem ggL_law_X8_frame : GoodIn wsL_law wsX8_frame := goodIn_r _ [514, 201, 233, 88, 130, 131, 5, 132, 133, 134, 135, 136, 137, 461, 462, 463, 257, 258, 259, 254, 255, 256, 464, 465, 466, 864, 865, 866, 867, 868, 869, 870, 871, 872, 873, 874, 875, 876] (by decide +kernel) (by decide +kernel)
set_option maxRecDepth 20000 in
theorem gL_law_X8_frame : GoodIn wsL_law (wsV RL 110 RX8 yX8_frame wsX8_frame) := goodIn_app (goodIn_of _ (by decide +kernel)) ggL_law_X8_frame
set_option maxRecDepth 20000 in
theorem ggL_law_L_taken : GoodIn wsL_law wsL_taken := goodIn_ca (goodIn_r _ [517, 473, 518, 519, 520, 2, 521, 478, 479, 21, 432, 433, 434, 47, 435, 288, 522, 391, 392, 393, 61, 859, 860, 861, 862, 863, 879, 880, 881, 882, 883, 884, 895, 896, 897, 898] (by decide +kernel) (by decide +kernel)) (goodIn_sub (fun _ h => List.mem_append_right _ h) (by decide +kernel))
set_option maxRecDepth 20000 in
theorem gL_law_L_taken : GoodIn wsL_law (va_wsS RL 111 yL_taken wsL_taken) := goodIn_app (goodIn_of _ (by decide +kernel)) ggL_law_L_taken
set_option maxRecDepth 20000 in
theorem ggL_law_X8_taken : GoodIn wsL_law wsX8_taken := goodIn_r _ [526, 88, 130, 131, 5, 132, 133, 134, 135, 136, 137, 864, 865, 866, 867, 868, 869, 870, 871, 872, 873, 874, 875, 876] (by decide +kernel) (by decide +kernel)
set_option maxRecDepth 20000 in
theorem gL_law_X8_taken : GoodIn wsL_law (wsV RL 113 RX8 yX8_taken wsX8_taken) := goodIn_app (goodIn_of _ (by decide +kernel)) ggL_law_X8_taken
set_option maxRecDepth 20000 in
theorem ggL_law_L_setting : GoodIn wsL_law wsL_setting := goodIn_ca (goodIn_r _ [529, 105, 530, 531, 532, 2, 533, 111, 112, 21, 534, 535, 536, 537, 538, 539, 20, 540, 49, 859, 860, 861, 862, 863, 879, 880, 881, 882, 883, 884] (by decide +kernel) (by decide +kernel)) (goodIn_sub (fun _ h => List.mem_append_left _ (List.mem_append_left _ (List.mem_append_right _ h))) (by decide +kernel))
set_option maxRecDepth 20000 in
theorem gL_law_L_setting : GoodIn wsL_law (va_wsS RL 114 yL_setting wsL_setting) := goodIn_app (goodIn_of _ (by decide +kernel)) ggL_law_L_setting
set_option maxRecDepth 20000 in
theorem ggL_law_X8_setting : GoodIn wsL_law wsX8_setting := goodIn_r _ [544, 233, 88, 130, 131, 5, 132, 133, 134, 135, 136, 137, 864, 865, 866, 867, 868, 869, 870, 871, 872, 873, 874, 875, 876] (by decide +kernel) (by decide +kernel)
set_option maxRecDepth 20000 in
theorem gL_law_X8_setting : GoodIn wsL_law (wsV RL 116 RX8 yX8_setting wsX8_setting) := goodIn_app (goodIn_of _ (by decide +kernel)) ggL_law_X8_setting
set_option maxRecDepth 20000 in
theorem ggL_law_X7_begin : GoodIn wsL_law wsX7_begin := goodIn_r _ [548, 26, 21, 549, 550, 551, 25, 552, 72, 553, 294, 554, 338, 339, 340, 555, 556, 557, 558, 559, 560, 561, 20, 562, 44, 48, 49, 277, 278, 279, 563, 564, 565, 43, 566, 54, 55, 56, 567, 568, 569, 47, 570, 61, 62, 288, 289, 571, 572, 573, 574, 575, 437, 438, 439, 440, 441, 442, 443, 386, 387, 388, 389, 390, 391, 392, 393, 382, 383, 384, 385, 280, 281, 282, 283, 284, 285, 286, 287, 859, 860, 861, 862, 863, 885, 886, 887, 879, 880, 881, 882, 883, 884, 890, 891, 892, 893, 894, 895, 896, 897, 898] (by decide +kernel) (by decide +kernel)
set_option maxRecDepth 20000 in
theorem gL_law_X7_begin : GoodIn wsL_law (wsV RL 117 RX7 yX7_begin wsX7_begin) := goodIn_app (goodIn_of _ (by decide +kernel)) ggL_law_X7_begin
set_option maxRecDepth 20000 in
theorem ggL_law_X8_begin : GoodIn wsL_law wsX8_begin := goodIn_r _ [579, 137, 88, 580, 581, 582, 5, 583, 416, 90, 417, 418, 419, 584, 585, 586, 458, 459, 460, 461, 462, 463, 257, 258, 259, 254, 255, 256, 464, 465, 466, 98, 99, 100, 864, 865, 866, 867, 868, 869, 870, 871, 872, 873, 874, 875, 876] (by decide +kernel) (by decide +kernel)
set_option maxRecDepth 20000 in
theorem gL_law_X8_begin : GoodIn wsL_law (wsV RL 120 RX8 yX8_begin wsX8_begin) := goodIn_app (goodIn_of _ (by decide +kernel)) ggL_law_X8_begin
set_option maxRecDepth 20000 in
theorem ggL_law_L_roll : GoodIn wsL_law wsL_roll := goodIn_ca (goodIn_ca (goodIn_r _ [589, 105, 106, 590, 591, 592, 2, 593, 111, 112, 113, 114, 21, 26, 594, 311, 312, 595, 313, 314, 453, 316, 317, 47, 318, 289, 549, 550, 551, 25, 552, 72, 553, 294, 554, 338, 339, 340, 555, 556, 557, 558, 559, 560, 561, 20, 562, 44, 48, 49, 277, 278, 279, 563, 564, 565, 43, 566, 54, 55, 56, 567, 568, 569, 570, 61, 62, 288, 596, 320, 321, 322, 323, 324, 325, 326, 327, 328, 329, 330, 331, 332, 333, 334, 335, 336, 337, 341, 342, 343, 344, 345, 346, 347, 348, 349, 350, 351, 352, 353, 354, 355, 356, 357, 358, 359, 360, 361, 362, 363, 364, 365, 366, 367, 368, 369, 370, 371, 372, 373, 374, 375, 376, 377, 378, 379, 380, 381, 382, 383, 384, 385, 386, 387, 388, 389, 390, 391, 392, 393, 394, 395, 396, 397, 398, 399, 400, 401, 402, 280, 281, 282, 283, 315, 403, 404, 405, 406, 407, 408, 409, 410, 411, 859, 860, 861, 862, 863, 879, 880, 881, 882, 883, 884, 895, 896, 897, 898, 885, 886, 887, 890, 891, 892, 893, 894] (by decide +kernel) (by decide +kernel)) (goodIn_sub (fun _ h => List.mem_append_left _ (List.mem_append_left _ (List.mem_append_right _ h))) (by decide +kernel))) (goodIn_sub (fun _ h => List.mem_append_left _ (List.mem_append_right _ h)) (by decide +kernel))
set_option maxRecDepth 20000 in
theorem gL_law_L_roll : GoodIn wsL_law (va_wsS RL 121 yL_roll wsL_roll) := goodIn_app (goodIn_of _ (by decide +kernel)) ggL_law_L_roll
set_option maxRecDepth 20000 in
theorem ggL_law_X8_roll : GoodIn wsL_law wsX8_roll := goodIn_r _ [600, 601, 88, 602, 603, 5, 604, 605, 232, 233, 130, 131, 132, 202, 203, 204, 133, 134, 135, 136, 137, 580, 581, 582, 583, 416, 90, 417, 418, 419, 205, 206, 207, 208, 209, 210, 211, 212, 213, 214, 215, 94, 216, 217, 218, 219, 220, 221, 222, 93, 223, 224, 225, 226, 227, 228, 229, 230, 231, 234, 235, 236, 237, 238, 239, 240, 241, 242, 243, 244, 245, 246, 247, 248, 249, 250, 251, 252, 253, 254, 255, 256, 257, 258, 259, 98, 99, 100, 260, 261, 262, 263, 264, 265, 864, 865, 866, 867, 868, 869, 870, 871, 872, 873, 874, 875, 876] (by decide +kernel) (by decide +kernel)
set_option maxRecDepth 20000 in
theorem gL_law_X8_roll : GoodIn wsL_law (wsV RL 124 RX8 yX8_roll wsX8_roll) := goodIn_app (goodIn_of _ (by decide +kernel)) ggL_law_X8_roll
set_option maxRecDepth 20000 in
theorem ggL_law_L_touch : GoodIn wsL_law wsL_touch := goodIn_ca (goodIn_ca (goodIn_ca (goodIn_r _ [608, 473, 105, 106, 609, 610, 611, 2, 612, 478, 479, 111, 112, 113, 114, 21, 26, 480, 481, 482, 613, 614, 615, 616, 345, 346, 43, 347, 54, 549, 550, 551, 25, 552, 72, 553, 294, 554, 338, 339, 340, 555, 556, 557, 558, 559, 560, 561, 20, 562, 44, 48, 49, 277, 278, 279, 563, 564, 565, 566, 55, 56, 567, 568, 569, 47, 570, 61, 62, 288, 289, 617, 618, 619, 620, 621, 484, 485, 486, 344, 859, 860, 861, 862, 863, 879, 880, 881, 882, 883, 884, 890, 891, 892, 893, 894, 885, 886, 887, 895, 896, 897, 898] (by decide +kernel) (by decide +kernel)) (goodIn_sub (fun _ h => List.mem_append_right _ h) (by decide +kernel))) (goodIn_sub (fun _ h => List.mem_append_left _ (List.mem_append_left _ (List.mem_append_right _ h))) (by decide +kernel))) (goodIn_sub (fun _ h => List.mem_append_left _ (List.mem_append_right _ h)) (by decide +kernel))
set_option maxRecDepth 20000 in
theorem gL_law_L_touch : GoodIn wsL_law (va_wsS RL 125 yL_touch wsL_touch) := goodIn_app (goodIn_of _ (by decide +kernel)) ggL_law_L_touch
set_option maxRecDepth 20000 in
theorem ggL_law_X8_touch : GoodIn wsL_law wsX8_touch := goodIn_r _ [625, 231, 88, 496, 497, 5, 498, 201, 130, 131, 132, 133, 134, 135, 136, 137, 580, 581, 582, 583, 416, 90, 417, 418, 419, 626, 627, 628, 864, 865, 866, 867, 868, 869, 870, 871, 872, 873, 874, 875, 876] (by decide +kernel) (by decide +kernel)
set_option maxRecDepth 20000 in
theorem gL_law_X8_touch : GoodIn wsL_law (wsV RL 127 RX8 yX8_touch wsX8_touch) := goodIn_app (goodIn_of _ (by decide +kernel)) ggL_law_X8_touch
set_option maxRecDepth 20000 in
theorem ggL_law_L_set : GoodIn wsL_law wsL_set := goodIn_ca (goodIn_r _ [631, 105, 632, 633, 634, 2, 635, 111, 112, 26, 21, 534, 535, 536, 636, 637, 638, 613, 614, 615, 549, 550, 551, 25, 552, 72, 553, 294, 554, 338, 339, 340, 555, 556, 557, 558, 559, 560, 561, 20, 562, 44, 48, 49, 277, 278, 279, 563, 564, 565, 43, 566, 54, 55, 56, 567, 568, 569, 47, 570, 61, 62, 288, 289, 639, 640, 641, 642, 643, 538, 539, 540, 859, 860, 861, 862, 863, 885, 886, 887, 879, 880, 881, 882, 883, 884, 890, 891, 892, 893, 894, 895, 896, 897, 898] (by decide +kernel) (by decide +kernel)) (goodIn_sub (fun _ h => List.mem_append_left _ (List.mem_append_left _ (List.mem_append_right _ h))) (by decide +kernel))
set_option maxRecDepth 20000 in
theorem gL_law_L_set : GoodIn wsL_law (va_wsS RL 128 yL_set wsL_set) := goodIn_app (goodIn_of _ (by decide +kernel)) ggL_law_L_set
set_option maxRecDepth 20000 in
theorem ggL_law_X8_set : GoodIn wsL_law wsX8_set := goodIn_r _ [647, 88, 648, 649, 5, 650, 231, 651, 130, 131, 132, 133, 134, 135, 136, 137, 580, 581, 582, 583, 416, 90, 417, 418, 419, 864, 865, 866, 867, 868, 869, 870, 871, 872, 873, 874, 875, 876] (by decide +kernel) (by decide +kernel)
set_option maxRecDepth 20000 in
theorem gL_law_X8_set : GoodIn wsL_law (wsV RL 130 RX8 yX8_set wsX8_set) := goodIn_app (goodIn_of _ (by decide +kernel)) ggL_law_X8_set
set_option maxRecDepth 20000 in
theorem ggL_law_L_undo : GoodIn wsL_law wsL_undo := goodIn_ca (goodIn_r _ [654, 106, 655, 656, 657, 2, 658, 113, 114, 26, 21, 659, 660, 661, 25, 662, 294, 663, 664, 665, 666, 553, 667, 342, 339, 343, 72, 555, 556, 557, 558, 559, 560, 561, 20, 562, 44, 48, 49, 277, 278, 279, 563, 564, 565, 43, 566, 54, 55, 56, 567, 568, 569, 47, 570, 61, 62, 288, 289, 859, 860, 861, 862, 863, 885, 886, 887, 879, 880, 881, 882, 883, 884, 890, 891, 892, 893, 894, 895, 896, 897, 898] (by decide +kernel) (by decide +kernel)) (goodIn_sub (fun _ h => List.mem_append_left _ (List.mem_append_right _ h)) (by decide +kernel))
set_option maxRecDepth 20000 in
theorem gL_law_L_undo : GoodIn wsL_law (va_wsS RL 131 yL_undo wsL_undo) := goodIn_app (goodIn_of _ (by decide +kernel)) ggL_law_L_undo
set_option maxRecDepth 20000 in
theorem ggL_law_X8_undo : GoodIn wsL_law wsX8_undo := goodIn_r _ [671, 416, 90, 88, 133, 134, 135, 5, 136, 137, 417, 418, 419, 864, 865, 866, 867, 868, 869, 870, 871, 872, 873, 874, 875, 876] (by decide +kernel) (by decide +kernel)
set_option maxRecDepth 20000 in
theorem gL_law_X8_undo : GoodIn wsL_law (wsV RL 133 RX8 yX8_undo wsX8_undo) := goodIn_app (goodIn_of _ (by decide +kernel)) ggL_law_X8_undo
set_option maxRecDepth 20000 in
theorem ggL_law_L_would : GoodIn wsL_law wsL_would := goodIn_ca (goodIn_r _ [674, 105, 675, 676, 677, 2, 678, 111, 112, 22, 594, 311, 312, 679, 680, 681, 682, 21, 683, 564, 565, 43, 566, 54, 55, 56, 684, 328, 329, 330, 331, 332, 333, 334, 335, 336, 337, 338, 339, 340, 341, 342, 343, 344, 345, 346, 347, 348, 349, 350, 351, 352, 353, 354, 355, 356, 357, 358, 359, 360, 361, 362, 363, 537, 538, 539, 20, 540, 49, 535, 536, 685, 365, 366, 367, 368, 369, 370, 371, 686, 687, 688, 689, 690, 691, 692, 693, 694, 450, 451, 452, 448, 373, 374, 375, 376, 377, 449, 859, 860, 861, 862, 863, 879, 880, 881, 882, 883, 884, 890, 891, 892, 893, 894] (by decide +kernel) (by decide +kernel)) (goodIn_sub (fun _ h => List.mem_append_left _ (List.mem_append_left _ (List.mem_append_right _ h))) (by decide +kernel))
set_option maxRecDepth 20000 in
theorem gL_law_L_would : GoodIn wsL_law (va_wsS RL 134 yL_would wsL_would) := goodIn_app (goodIn_of _ (by decide +kernel)) ggL_law_L_would
set_option maxRecDepth 20000 in
theorem ggL_law_X8_would : GoodIn wsL_law wsX8_would := goodIn_r _ [698, 231, 89, 88, 602, 603, 5, 604, 605, 232, 233, 130, 131, 132, 133, 134, 135, 136, 137, 699, 700, 701, 702, 417, 418, 419, 219, 220, 221, 222, 93, 223, 224, 225, 226, 227, 228, 229, 230, 234, 235, 236, 237, 238, 239, 240, 241, 242, 243, 244, 245, 246, 247, 248, 249, 250, 216, 217, 218, 864, 865, 866, 867, 868, 869, 870, 871, 872, 873, 874, 875, 876] (by decide +kernel) (by decide +kernel)
set_option maxRecDepth 20000 in
theorem gL_law_X8_would : GoodIn wsL_law (wsV RL 137 RX8 yX8_would wsX8_would) := goodIn_app (goodIn_of _ (by decide +kernel)) ggL_law_X8_would
set_option maxRecDepth 20000 in
theorem ggL_law_L_bestBoard : GoodIn wsL_law wsL_bestBoard := goodIn_ca (goodIn_r _ [705, 105, 706, 707, 708, 2, 709, 111, 112, 594, 311, 312, 679, 680, 681, 682, 22, 21, 683, 564, 565, 43, 566, 54, 55, 56, 684, 328, 329, 330, 331, 332, 333, 334, 335, 336, 337, 338, 339, 340, 341, 342, 343, 344, 345, 346, 347, 348, 349, 350, 351, 352, 353, 354, 355, 356, 357, 358, 359, 360, 361, 362, 363, 537, 538, 539, 20, 540, 49, 535, 536, 685, 365, 366, 367, 368, 369, 370, 371, 448, 373, 374, 375, 376, 377, 859, 860, 861, 862, 863, 879, 880, 881, 882, 883, 884, 890, 891, 892, 893, 894] (by decide +kernel) (by decide +kernel)) (goodIn_sub (fun _ h => List.mem_append_left _ (List.mem_append_left _ (List.mem_append_right _ h))) (by decide +kernel))
set_option maxRecDepth 20000 in
theorem gL_law_L_bestBoard : GoodIn wsL_law (va_wsS RL 138 yL_bestBoard wsL_bestBoard) := goodIn_app (goodIn_of _ (by decide +kernel)) ggL_law_L_bestBoard
set_option maxRecDepth 20000 in
theorem ggL_law_X8_bestBoard : GoodIn wsL_law wsX8_bestBoard := goodIn_r _ [713, 232, 233, 130, 131, 5, 132, 133, 134, 135, 136, 137, 699, 700, 701, 702, 88, 89, 417, 418, 419, 219, 220, 221, 222, 93, 223, 224, 225, 226, 227, 228, 229, 230, 231, 234, 235, 236, 237, 238, 239, 240, 241, 242, 243, 244, 245, 246, 247, 248, 249, 250, 216, 217, 218, 864, 865, 866, 867, 868, 869, 870, 871, 872, 873, 874, 875, 876] (by decide +kernel) (by decide +kernel)
set_option maxRecDepth 20000 in
theorem gL_law_X8_bestBoard : GoodIn wsL_law (wsV RL 140 RX8 yX8_bestBoard wsX8_bestBoard) := goodIn_app (goodIn_of _ (by decide +kernel)) ggL_law_X8_bestBoard
set_option maxRecDepth 20000 in
theorem ggL_law_X7_slowest : GoodIn wsL_law wsX7_slowest := goodIn_r _ [717, 21, 718, 324, 325, 20, 326, 49, 859, 860, 861, 862, 863, 879, 880, 881, 882, 883, 884] (by decide +kernel) (by decide +kernel)
set_option maxRecDepth 20000 in
theorem gL_law_X7_slowest : GoodIn wsL_law (wsV RL 141 RX7 yX7_slowest wsX7_slowest) := goodIn_app (goodIn_of _ (by decide +kernel)) ggL_law_X7_slowest
set_option maxRecDepth 20000 in
theorem ggL_law_X8_slowest : GoodIn wsL_law wsX8_slowest := goodIn_r _ [722, 137, 88, 209, 210, 5, 211, 864, 865, 866, 867, 868, 869, 870, 871, 872, 873, 874, 875, 876] (by decide +kernel) (by decide +kernel)
set_option maxRecDepth 20000 in
theorem gL_law_X8_slowest : GoodIn wsL_law (wsV RL 144 RX8 yX8_slowest wsX8_slowest) := goodIn_app (goodIn_of _ (by decide +kernel)) ggL_law_X8_slowest
set_option maxRecDepth 20000 in
theorem ggL_law_L_goesOn : GoodIn wsL_law wsL_goesOn := goodIn_ca (goodIn_r _ [725, 105, 726, 727, 728, 2, 729, 111, 112, 22, 21, 594, 311, 312, 730, 560, 561, 20, 562, 44, 48, 49, 277, 278, 279, 563, 564, 565, 43, 566, 54, 55, 56, 567, 568, 569, 47, 570, 61, 62, 288, 289, 453, 316, 317, 318, 596, 320, 321, 322, 323, 324, 325, 326, 327, 328, 329, 330, 331, 332, 333, 334, 335, 336, 337, 338, 339, 340, 341, 342, 343, 344, 345, 346, 347, 348, 349, 350, 351, 352, 353, 354, 355, 356, 357, 358, 359, 360, 361, 362, 363, 364, 365, 366, 367, 368, 369, 370, 371, 372, 373, 374, 375, 376, 377, 378, 379, 380, 381, 382, 383, 384, 385, 386, 387, 388, 389, 390, 391, 392, 393, 394, 395, 396, 397, 398, 399, 400, 401, 402, 280, 281, 282, 283, 315, 403, 404, 405, 406, 407, 408, 409, 410, 411, 436, 437, 438, 439, 440, 441, 442, 443, 859, 860, 861, 862, 863, 879, 880, 881, 882, 883, 884, 890, 891, 892, 893, 894, 895, 896, 897, 898] (by decide +kernel) (by decide +kernel)) (goodIn_sub (fun _ h => List.mem_append_left _ (List.mem_append_left _ (List.mem_append_right _ h))) (by decide +kernel))
set_option maxRecDepth 20000 in
theorem gL_law_L_goesOn : GoodIn wsL_law (va_wsS RL 145 yL_goesOn wsL_goesOn) := goodIn_app (goodIn_of _ (by decide +kernel)) ggL_law_L_goesOn
set_option maxRecDepth 20000 in
theorem ggL_law_X8_goesOn : GoodIn wsL_law wsX8_goesOn := goodIn_r _ [734, 88, 89, 602, 603, 5, 604, 605, 232, 233, 130, 131, 132, 133, 134, 135, 136, 137, 417, 418, 419, 202, 203, 204, 212, 213, 214, 215, 94, 216, 217, 218, 219, 220, 221, 222, 93, 223, 224, 225, 226, 227, 228, 229, 230, 231, 234, 235, 236, 237, 238, 239, 240, 241, 242, 243, 244, 245, 246, 247, 248, 249, 250, 251, 252, 253, 254, 255, 256, 257, 258, 259, 98, 99, 100, 260, 261, 262, 263, 264, 265, 458, 459, 460, 461, 462, 463, 464, 465, 466, 864, 865, 866, 867, 868, 869, 870, 871, 872, 873, 874, 875, 876] (by decide +kernel) (by decide +kernel)
set_option maxRecDepth 20000 in
theorem gL_law_X8_goesOn : GoodIn wsL_law (wsV RL 147 RX8 yX8_goesOn wsX8_goesOn) := goodIn_app (goodIn_of _ (by decide +kernel)) ggL_law_X8_goesOn
set_option maxRecDepth 20000 in
theorem ggL_law_X7_drops : GoodIn wsL_law wsX7_drops := goodIn_r _ [738, 21, 537, 538, 539, 20, 540, 49, 535, 2, 536, 739, 408, 409, 43, 410, 56, 368, 369, 370, 371, 54, 859, 860, 861, 862, 863, 879, 880, 881, 882, 883, 884, 890, 891, 892, 893, 894] (by decide +kernel) (by decide +kernel)
set_option maxRecDepth 20000 in
theorem gL_law_X7_drops : GoodIn wsL_law (wsV RL 148 RX7 yX7_drops wsX7_drops) := goodIn_app (goodIn_of _ (by decide +kernel)) ggL_law_X7_drops
set_option maxRecDepth 20000 in
theorem ggL_law_X8_drops : GoodIn wsL_law wsX8_drops := goodIn_r _ [743, 137, 88, 263, 264, 5, 265, 864, 865, 866, 867, 868, 869, 870, 871, 872, 873, 874, 875, 876] (by decide +kernel) (by decide +kernel)
set_option maxRecDepth 20000 in
theorem gL_law_X8_drops : GoodIn wsL_law (wsV RL 151 RX8 yX8_drops wsX8_drops) := goodIn_app (goodIn_of _ (by decide +kernel)) ggL_law_X8_drops
set_option maxRecDepth 20000 in
theorem ggL_law_L_runScript : GoodIn wsL_law wsL_runScript := goodIn_ca (goodIn_r _ [746, 105, 747, 748, 749, 2, 750, 111, 112, 22, 21, 751, 752, 753, 754, 755, 756, 757, 758, 730, 560, 561, 20, 562, 44, 48, 49, 277, 278, 279, 563, 564, 565, 43, 566, 54, 55, 56, 567, 568, 569, 47, 570, 61, 62, 288, 289, 759, 760, 761, 762, 763, 308, 309, 310, 311, 312, 313, 314, 315, 316, 317, 318, 319, 320, 321, 322, 323, 324, 325, 326, 327, 328, 329, 330, 331, 332, 333, 334, 335, 336, 337, 338, 339, 340, 341, 342, 343, 344, 345, 346, 347, 348, 349, 350, 351, 352, 353, 354, 355, 356, 357, 358, 359, 360, 361, 362, 363, 364, 365, 366, 367, 368, 369, 370, 371, 372, 373, 374, 375, 376, 377, 378, 379, 380, 381, 382, 383, 384, 385, 386, 387, 388, 389, 390, 391, 392, 393, 394, 395, 396, 397, 398, 399, 400, 401, 402, 280, 281, 282, 283, 403, 404, 405, 406, 407, 408, 409, 410, 411, 764, 765, 766, 767, 614, 615, 768, 769, 618, 619, 620, 621, 484, 485, 486, 481, 482, 770, 771, 772, 773, 535, 536, 637, 638, 613, 774, 640, 641, 642, 643, 538, 539, 540, 775, 776, 777, 778, 572, 573, 574, 575, 437, 438, 439, 440, 441, 442, 443, 284, 285, 286, 287, 779, 445, 446, 447, 780, 781, 782, 783, 859, 860, 861, 862, 863, 879, 880, 881, 882, 883, 884, 890, 891, 892, 893, 894, 895, 896, 897, 898] (by decide +kernel) (by decide +kernel)) (goodIn_sub (fun _ h => List.mem_append_left _ (List.mem_append_left _ (List.mem_append_right _ h))) (by decide +kernel))
set_option maxRecDepth 20000 in
theorem gL_law_L_runScript : GoodIn wsL_law (va_wsS RL 154 yL_runScript wsL_runScript) := goodIn_app (goodIn_of _ (by decide +kernel)) ggL_law_L_runScript
set_option maxRecDepth 20000 in
theorem ggL_law_X8_runScript : GoodIn wsL_law wsX8_runScript := goodIn_r _ [787, 788, 231, 88, 89, 130, 131, 5, 132, 133, 134, 135, 136, 137, 417, 418, 419, 789, 790, 791, 792, 602, 603, 604, 605, 232, 233, 202, 203, 204, 212, 213, 214, 215, 94, 216, 217, 218, 219, 220, 221, 222, 93, 223, 224, 225, 226, 227, 228, 229, 230, 234, 235, 236, 237, 238, 239, 240, 241, 242, 243, 244, 245, 246, 247, 248, 249, 250, 251, 252, 253, 254, 255, 256, 257, 258, 259, 98, 99, 100, 260, 261, 262, 263, 264, 265, 626, 627, 628, 648, 649, 650, 651, 584, 585, 586, 458, 459, 460, 461, 462, 463, 464, 465, 466, 864, 865, 866, 867, 868, 869, 870, 871, 872, 873, 874, 875, 876] (by decide +kernel) (by decide +kernel)
set_option maxRecDepth 20000 in
theorem gL_law_X8_runScript : GoodIn wsL_law (wsV RL 157 RX8 yX8_runScript wsX8_runScript) := goodIn_app (goodIn_of _ (by decide +kernel)) ggL_law_X8_runScript
set_option maxRecDepth 20000 in
theorem ggL_law_L_simulate : GoodIn wsL_law wsL_simulate := goodIn_ca (goodIn_r _ [795, 105, 796, 797, 798, 2, 799, 111, 112, 22, 21, 800, 801, 730, 560, 561, 20, 562, 44, 48, 49, 277, 278, 279, 563, 564, 565, 43, 566, 54, 55, 56, 567, 568, 569, 47, 570, 61, 62, 288, 289, 802, 803, 804, 805, 806, 765, 766, 767, 614, 615, 768, 345, 346, 347, 769, 618, 619, 620, 621, 484, 485, 486, 481, 482, 344, 807, 771, 772, 773, 535, 536, 637, 638, 613, 774, 640, 641, 642, 643, 538, 539, 540, 808, 308, 309, 310, 311, 312, 313, 314, 315, 316, 317, 318, 319, 320, 321, 322, 323, 324, 325, 326, 327, 328, 329, 330, 331, 332, 333, 334, 335, 336, 337, 338, 339, 340, 341, 342, 343, 348, 349, 350, 351, 352, 353, 354, 355, 356, 357, 358, 359, 360, 361, 362, 363, 364, 365, 366, 367, 368, 369, 370, 371, 372, 373, 374, 375, 376, 377, 378, 379, 380, 381, 382, 383, 384, 385, 386, 387, 388, 389, 390, 391, 392, 393, 394, 395, 396, 397, 398, 399, 400, 401, 402, 280, 281, 282, 283, 403, 404, 405, 406, 407, 408, 409, 410, 411, 432, 433, 434, 435, 436, 437, 438, 439, 440, 441, 442, 443, 859, 860, 861, 862, 863, 879, 880, 881, 882, 883, 884, 890, 891, 892, 893, 894, 895, 896, 897, 898] (by decide +kernel) (by decide +kernel)) (goodIn_sub (fun _ h => List.mem_append_left _ (List.mem_append_left _ (List.mem_append_right _ h))) (by decide +kernel))
set_option maxRecDepth 20000 in
theorem gL_law_L_simulate : GoodIn wsL_law (va_wsS RL 158 yL_simulate wsL_simulate) := goodIn_app (goodIn_of _ (by decide +kernel)) ggL_law_L_simulate
set_option maxRecDepth 20000 in
theorem ggL_law_X8_simulate : GoodIn wsL_law wsX8_simulate := goodIn_r _ [812, 813, 88, 89, 814, 815, 130, 131, 5, 132, 133, 134, 135, 136, 137, 417, 418, 419, 816, 817, 818, 819, 626, 627, 628, 202, 203, 204, 205, 206, 207, 208, 209, 210, 211, 212, 213, 214, 215, 94, 216, 217, 218, 219, 220, 221, 222, 93, 223, 224, 225, 226, 227, 228, 229, 230, 231, 232, 233, 234, 235, 236, 237, 238, 239, 240, 241, 242, 243, 244, 245, 246, 247, 248, 249, 250, 251, 252, 253, 254, 255, 256, 257, 258, 259, 98, 99, 100, 260, 261, 262, 263, 264, 265, 458, 459, 460, 461, 462, 463, 464, 465, 466, 864, 865, 866, 867, 868, 869, 870, 871, 872, 873, 874, 875, 876] (by decide +kernel) (by decide +kernel)
set_option maxRecDepth 20000 in
theorem gL_law_X8_simulate : GoodIn wsL_law (wsV RL 161 RX8 yX8_simulate wsX8_simulate) := goodIn_app (goodIn_of _ (by decide +kernel)) ggL_law_X8_simulate
set_option maxRecDepth 20000 in
theorem ggL_law_L_save : GoodIn wsL_law wsL_save := goodIn_ca (goodIn_r _ [822, 473, 823, 824, 825, 2, 826, 478, 479, 30, 21, 827, 828, 829, 830, 831, 832, 29, 833, 79, 81, 834, 560, 561, 20, 562, 44, 48, 49, 277, 278, 279, 563, 564, 565, 43, 566, 54, 55, 56, 567, 568, 569, 47, 570, 61, 62, 288, 289, 432, 433, 434, 435, 859, 860, 861, 862, 863, 879, 880, 881, 882, 883, 884, 888, 889, 890, 891, 892, 893, 894, 895, 896, 897, 898] (by decide +kernel) (by decide +kernel)) (goodIn_sub (fun _ h => List.mem_append_right _ h) (by decide +kernel))
set_option maxRecDepth 20000 in
theorem gL_law_L_save : GoodIn wsL_law (va_wsS RL 162 yL_save wsL_save) := goodIn_app (goodIn_of _ (by decide +kernel)) ggL_law_L_save
set_option maxRecDepth 20000 in
theorem ggL_law_X8_save : GoodIn wsL_law wsX8_save := goodIn_r _ [838, 88, 91, 92, 130, 131, 5, 132, 133, 134, 135, 136, 137, 417, 418, 419, 864, 865, 866, 867, 868, 869, 870, 871, 872, 873, 874, 875, 876] (by decide +kernel) (by decide +kernel)
set_option maxRecDepth 20000 in
theorem gL_law_X8_save : GoodIn wsL_law (wsV RL 164 RX8 yX8_save wsX8_save) := goodIn_app (goodIn_of _ (by decide +kernel)) ggL_law_X8_save
set_option maxRecDepth 20000 in
theorem ggL_law_L_restore : GoodIn wsL_law wsL_restore := goodIn_ca (goodIn_ca (goodIn_r _ [841, 473, 106, 842, 843, 844, 2, 845, 478, 479, 113, 114, 30, 21, 26, 827, 828, 829, 846, 847, 848, 29, 849, 81, 850, 851, 852, 853, 79, 854, 834, 560, 561, 20, 562, 44, 48, 49, 277, 278, 279, 563, 564, 565, 43, 566, 54, 55, 56, 567, 568, 569, 47, 570, 61, 62, 288, 289, 290, 291, 292, 25, 293, 294, 432, 433, 434, 435, 859, 860, 861, 862, 863, 879, 880, 881, 882, 883, 884, 888, 889, 890, 891, 892, 893, 894, 895, 896, 897, 898, 885, 886, 887] (by decide +kernel) (by decide +kernel)) (goodIn_sub (fun _ h => List.mem_append_right _ h) (by decide +kernel))) (goodIn_sub (fun _ h => List.mem_append_left _ (List.mem_append_right _ h)) (by decide +kernel))
set_option maxRecDepth 20000 in
theorem gL_law_L_restore : GoodIn wsL_law (va_wsS RL 165 yL_restore wsL_restore) := goodIn_app (goodIn_of _ (by decide +kernel)) ggL_law_L_restore
set_option maxRecDepth 20000 in
theorem ggL_law_X8_restore : GoodIn wsL_law wsX8_restore := goodIn_r _ [858, 92, 91, 88, 416, 130, 131, 5, 132, 133, 134, 135, 136, 137, 417, 418, 419, 864, 865, 866, 867, 868, 869, 870, 871, 872, 873, 874, 875, 876] (by decide +kernel) (by decide +kernel)
set_option maxRecDepth 20000 in
theorem gL_law_X8_restore : GoodIn wsL_law (wsV RL 167 RX8 yX8_restore wsX8_restore) := goodIn_app (goodIn_of _ (by decide +kernel)) ggL_law_X8_restore
