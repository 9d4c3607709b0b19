/-! the law: words of its calls, more -/
set_option maxRecDepth 20000 in
theorem ggL_law_L_refuses_k0 : GoodIn wsL_law wsL_refuses_r1 := goodIn_r _ [97, 320, 533, 89, 90, 82, 91, 92, 93, 94, 95, 96, 4, 98, 99, 100, 2, 101, 102, 103, 104, 105, 14, 106] (by decide +kernel) (by decide +kernel)
set_option maxRecDepth 20000 in
theorem ggL_law_L_refuses_k1 : GoodIn wsL_law wsL_refuses_r2 := goodIn_r _ [107, 108, 13, 109, 110, 111, 112, 113, 114, 33, 115, 116, 117, 118, 119, 120, 121, 18, 23, 27, 122, 123, 124, 125] (by decide +kernel) (by decide +kernel)
set_option maxRecDepth 20000 in
theorem ggL_law_L_refuses_k2 : GoodIn wsL_law wsL_refuses_r3 := goodIn_r _ [126, 127, 128, 129, 130, 131, 132, 133, 134, 135, 136, 137, 138, 139, 140, 141, 142, 143, 144, 145, 17, 146, 41, 45] (by decide +kernel) (by decide +kernel)
set_option maxRecDepth 20000 in
theorem ggL_law_L_refuses_k3 : GoodIn wsL_law wsL_refuses_r4 := goodIn_r _ [147, 148, 149, 150, 151, 152, 40, 153, 51, 52, 53, 154, 155, 156, 44, 157, 158, 159, 60, 61, 62, 63, 46, 160] (by decide +kernel) (by decide +kernel)
set_option maxRecDepth 20000 in
theorem ggL_law_L_refuses_k4 : GoodIn wsL_law wsL_refuses_r5 := goodIn_r _ [161, 162, 22, 163, 164, 165, 166, 167, 26, 168, 78, 169, 170, 171, 172, 173, 174, 175, 176, 177, 178, 179, 180, 181] (by decide +kernel) (by decide +kernel)
set_option maxRecDepth 20000 in
theorem ggL_law_L_refuses_k5 : GoodIn wsL_law wsL_refuses_r6 := goodIn_r _ [182, 183, 184, 185, 186, 187, 188, 189, 190, 191, 192, 193, 194, 195, 196, 197, 198, 199, 200, 201, 202, 203, 204, 205] (by decide +kernel) (by decide +kernel)
set_option maxRecDepth 20000 in
theorem ggL_law_L_refuses_k6 : GoodIn wsL_law wsL_refuses_r7 := goodIn_r _ [206, 207, 208, 209, 210, 211, 212, 213, 214, 215, 216, 217, 218, 219, 220, 221, 222, 223, 224, 225, 226, 227, 228, 229] (by decide +kernel) (by decide +kernel)
set_option maxRecDepth 20000 in
theorem ggL_law_L_refuses_k7 : GoodIn wsL_law wsL_refuses_r8 := goodIn_r _ [230, 231, 232, 233, 234, 235, 236, 237, 238, 239, 240, 241, 242, 243, 244, 245, 246, 247, 248, 249, 250, 251, 58, 59] (by decide +kernel) (by decide +kernel)
set_option maxRecDepth 20000 in
theorem ggL_law_L_refuses_k8 : GoodIn wsL_law wsL_refuses_r9 := goodIn_r _ [252, 253, 254, 255, 256, 257, 258, 259, 260, 261, 262, 263, 264, 265, 266, 267, 268, 269, 270, 271, 272, 273, 274, 275] (by decide +kernel) (by decide +kernel)
set_option maxRecDepth 20000 in
theorem ggL_law_L_refuses_k9 : GoodIn wsL_law wsL_refuses_r10 := goodIn_r _ [276, 277, 278, 279, 280, 281, 282, 283, 284, 285, 286, 287, 288, 289, 290, 291, 292, 293, 294, 295, 296, 297, 298, 299] (by decide +kernel) (by decide +kernel)
set_option maxRecDepth 20000 in
theorem ggL_law_L_refuses_k10 : GoodIn wsL_law wsL_refuses_r11 := goodIn_r _ [300, 301, 302, 303, 304, 305, 306, 307, 308, 309, 310, 311, 312, 313, 314, 315, 316, 317, 318, 319, 321, 322, 323, 324] (by decide +kernel) (by decide +kernel)
set_option maxRecDepth 20000 in
theorem ggL_law_L_refuses_k11 : GoodIn wsL_law wsL_refuses_r12 := goodIn_r _ [325, 326, 327, 328, 329, 330, 331, 332, 333, 334, 335, 336, 337, 338, 339, 340, 341, 342, 343, 344, 345, 346, 347, 348] (by decide +kernel) (by decide +kernel)
set_option maxRecDepth 20000 in
theorem ggL_law_L_refuses_k12 : GoodIn wsL_law wsL_refuses_r13 := goodIn_r _ [349, 350, 351, 352, 353, 354, 355, 356, 357, 358, 359, 360, 361, 362, 363, 364, 365, 366, 367, 368, 369, 370, 371, 372] (by decide +kernel) (by decide +kernel)
set_option maxRecDepth 20000 in
theorem ggL_law_L_refuses_k13 : GoodIn wsL_law wsL_refuses_r14 := goodIn_r _ [373, 374, 375, 376, 377, 378, 379, 380, 381, 382, 383, 384, 385, 386, 387, 69, 388, 389, 390, 391, 392, 393, 394, 395] (by decide +kernel) (by decide +kernel)
set_option maxRecDepth 20000 in
theorem ggL_law_L_refuses_k14 : GoodIn wsL_law wsL_refuses_r15 := goodIn_r _ [396, 397, 398, 399, 400, 401, 402, 403, 404, 405, 406, 407, 408, 409, 410, 411, 412, 413, 414, 415, 416, 417, 418, 419] (by decide +kernel) (by decide +kernel)
set_option maxRecDepth 20000 in
theorem ggL_law_L_refuses_k15 : GoodIn wsL_law wsL_refuses_r16 := goodIn_r _ [420, 421, 422, 423, 424, 425, 426, 427, 428, 429, 430, 431, 432, 433, 434, 435, 436, 437, 438, 439, 440, 441, 442, 443] (by decide +kernel) (by decide +kernel)
set_option maxRecDepth 20000 in
theorem ggL_law_L_refuses_k16 : GoodIn wsL_law wsL_refuses_r17 := goodIn_r _ [444, 445, 446, 447, 448, 19, 449, 450, 451, 452, 453, 454, 455, 456, 457, 458, 459, 460, 461, 462, 463, 464, 465, 466] (by decide +kernel) (by decide +kernel)
set_option maxRecDepth 20000 in
theorem ggL_law_L_refuses_k17 : GoodIn wsL_law wsL_refuses_r18 := goodIn_r _ [467, 468, 469, 470, 471, 472, 473, 474, 475, 476, 477, 478, 479, 480, 481, 482, 483, 484, 485, 486, 487, 488, 489, 490] (by decide +kernel) (by decide +kernel)
set_option maxRecDepth 20000 in
theorem ggL_law_L_refuses_k18 : GoodIn wsL_law wsL_refuses_r19 := goodIn_r _ [491, 492, 493, 494, 495, 76, 496, 497, 498, 499, 500, 501, 502, 503, 504, 505, 506, 507, 508, 509, 510, 511, 512, 522] (by decide +kernel) (by decide +kernel)
set_option maxRecDepth 20000 in
theorem ggL_law_L_refuses_k19 : GoodIn wsL_law wsL_refuses_r20 := goodIn_r _ [523, 524, 525, 526, 527, 528, 529, 534, 535, 536, 537, 538, 539, 540, 541, 542, 543, 544, 545, 546, 547, 548, 549, 550] (by decide +kernel) (by decide +kernel)
set_option maxRecDepth 20000 in
theorem ggL_law_L_refuses_k20 : GoodIn wsL_law wsL_refuses_r21 := goodIn_r _ [551, 552, 553, 554, 555, 556, 557, 558, 559, 560, 561, 562, 563, 564, 565, 566, 567, 568, 518, 519, 520, 521, 569, 570] (by decide +kernel) (by decide +kernel)
set_option maxRecDepth 20000 in
theorem ggL_law_L_refuses_k21 : GoodIn wsL_law wsL_refuses_r22 := goodIn_r _ [571, 572, 573, 574, 575, 576, 577, 578, 579, 580, 581, 582, 583, 584, 585, 586, 587, 588, 589] (by decide +kernel) (by decide +kernel)
set_option maxRecDepth 20000 in
theorem ggL_law_L_refuses_k22 : GoodIn wsL_law wsX70 := goodIn_r _ [615, 616, 617, 618, 619] (by decide +kernel) (by decide +kernel)
set_option maxRecDepth 20000 in
theorem ggL_law_L_refuses_k23 : GoodIn wsL_law wsX00 := goodIn_r _ [620, 621] (by decide +kernel) (by decide +kernel)
set_option maxRecDepth 20000 in
theorem ggL_law_L_refuses_k24 : GoodIn wsL_law wsX60 := goodIn_r _ [622, 623, 624, 625, 626, 627] (by decide +kernel) (by decide +kernel)
set_option maxRecDepth 20000 in
theorem ggL_law_L_refuses_k25 : GoodIn wsL_law wsX20 := goodIn_r _ [633, 634, 635, 636, 637] (by decide +kernel) (by decide +kernel)
set_option maxRecDepth 20000 in
theorem ggL_law_L_refuses_k26 : GoodIn wsL_law wsX40 := goodIn_r _ [638, 639, 640, 641] (by decide +kernel) (by decide +kernel)
set_option maxRecDepth 20000 in
theorem ggL_law_L_refuses_k27 : GoodIn wsL_law wsX10 := goodIn_r _ [628, 629, 630] (by decide +kernel) (by decide +kernel)
set_option maxRecDepth 20000 in
theorem ggL_law_L_refuses_k28 : GoodIn wsL_law wsX50 := goodIn_r _ [631, 632] (by decide +kernel) (by decide +kernel)
set_option maxRecDepth 20000 in
set_option maxRecDepth 100000 in
theorem ggL_law_L_refuses : GoodIn wsL_law wsL_refuses := goodIn_ca (goodIn_ca (goodIn_ca (goodIn_hc (List.mem_of_getElem? (i := 532) (by rfl)) (by decide +kernel) (goodIn_app (goodIn_app (goodIn_app (goodIn_app (goodIn_app (goodIn_app (goodIn_app (goodIn_app ggL_law_L_refuses_k0 (goodIn_app ggL_law_L_refuses_k1 (goodIn_app ggL_law_L_refuses_k2 (goodIn_app ggL_law_L_refuses_k3 (goodIn_app ggL_law_L_refuses_k4 (goodIn_app ggL_law_L_refuses_k5 (goodIn_app ggL_law_L_refuses_k6 (goodIn_app ggL_law_L_refuses_k7 (goodIn_app ggL_law_L_refuses_k8 (goodIn_app ggL_law_L_refuses_k9 (goodIn_app ggL_law_L_refuses_k10 (goodIn_app ggL_law_L_refuses_k11 (goodIn_app ggL_law_L_refuses_k12 (goodIn_app ggL_law_L_refuses_k13 (goodIn_app ggL_law_L_refuses_k14 (goodIn_app ggL_law_L_refuses_k15 (goodIn_app ggL_law_L_refuses_k16 (goodIn_app ggL_law_L_refuses_k17 (goodIn_app ggL_law_L_refuses_k18 (goodIn_app ggL_law_L_refuses_k19 (goodIn_app ggL_law_L_refuses_k20 ggL_law_L_refuses_k21))))))))))))))))))))) ggL_law_L_refuses_k22) ggL_law_L_refuses_k23) ggL_law_L_refuses_k24) ggL_law_L_refuses_k25) ggL_law_L_refuses_k26) ggL_law_L_refuses_k27) ggL_law_L_refuses_k28)) (goodIn_sub (fun _ h => List.mem_append_left _ (List.mem_append_left _ (List.mem_append_right _ h))) (by decide +kernel))) (goodIn_sub (fun _ h => List.mem_append_left _ (List.mem_append_right _ h)) (by decide +kernel))) (goodIn_sub (fun _ h => List.mem_append_right _ h) (by decide +kernel))
set_option maxRecDepth 20000 in
theorem gL_law_L_refuses : GoodIn wsL_law (va_wsS RL 175 yL_refuses wsL_refuses) := goodIn_app (goodIn_of _ (by decide +kernel)) ggL_law_L_refuses
