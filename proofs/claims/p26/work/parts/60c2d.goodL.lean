/-! the law: words of its calls, more -/
set_option maxRecDepth 20000 in
theorem ggL_law_L_alike_k0 : GoodIn wsL_law wsL_alike_r1 := goodIn_r _ [574, 575, 82, 576, 95, 97, 577, 578, 579, 2, 580, 102, 103, 19, 18, 581, 582, 480, 395, 396, 17, 397, 41, 45] (by decide +kernel) (by decide +kernel)
set_option maxRecDepth 20000 in
theorem ggL_law_L_alike_k1 : GoodIn wsL_law wsL_alike_r2 := goodIn_r _ [46, 147, 148, 149, 398, 399, 400, 40, 401, 51, 52, 53, 402, 403, 404, 44, 405, 58, 59, 158, 159, 583, 584, 585] (by decide +kernel) (by decide +kernel)
set_option maxRecDepth 20000 in
theorem ggL_law_L_alike_k2 : GoodIn wsL_law wsL_alike_r3 := goodIn_r _ [586, 587, 555, 556, 557, 381, 382, 558, 215, 216, 217, 559, 407, 408, 409, 410, 331, 332, 333, 328, 329, 214, 588, 561] (by decide +kernel) (by decide +kernel)
set_option maxRecDepth 20000 in
theorem ggL_law_L_alike_k3 : GoodIn wsL_law wsL_alike_r4 := goodIn_r _ [562, 563, 367, 368, 419, 420, 380, 564, 422, 423, 424, 425, 370, 371, 372, 589, 178, 179, 180, 181, 182, 183, 184, 185] (by decide +kernel) (by decide +kernel)
set_option maxRecDepth 20000 in
theorem ggL_law_L_alike_k4 : GoodIn wsL_law wsL_alike_r5 := goodIn_r _ [186, 187, 188, 189, 190, 191, 192, 193, 194, 195, 196, 197, 198, 199, 200, 201, 202, 203, 204, 205, 206, 207, 208, 209] (by decide +kernel) (by decide +kernel)
set_option maxRecDepth 20000 in
theorem ggL_law_L_alike_k5 : GoodIn wsL_law wsL_alike_r6 := goodIn_r _ [210, 211, 212, 213, 218, 219, 220, 221, 222, 223, 224, 225, 226, 227, 228, 229, 230, 231, 232, 233, 234, 235, 236, 237] (by decide +kernel) (by decide +kernel)
set_option maxRecDepth 20000 in
theorem ggL_law_L_alike_k6 : GoodIn wsL_law wsL_alike_r7 := goodIn_r _ [238, 239, 240, 241, 242, 243, 244, 245, 246, 247, 248, 249, 250, 251, 252, 253, 254, 255, 256, 257, 258, 259, 260, 261] (by decide +kernel) (by decide +kernel)
set_option maxRecDepth 20000 in
theorem ggL_law_L_alike_k7 : GoodIn wsL_law wsL_alike_r8 := goodIn_r _ [262, 263, 264, 265, 266, 267, 268, 269, 270, 271, 272, 150, 151, 152, 153, 273, 274, 275, 276, 277, 278, 279, 280, 281] (by decide +kernel) (by decide +kernel)
set_option maxRecDepth 20000 in
theorem ggL_law_L_alike_k8 : GoodIn wsL_law wsL_alike_r9 := goodIn_r _ [294, 295, 296, 297, 298, 299, 300, 301, 302, 303, 304, 305, 89, 90, 91, 92, 93, 94, 96, 4, 98, 99, 100, 101] (by decide +kernel) (by decide +kernel)
set_option maxRecDepth 20000 in
theorem ggL_law_L_alike_k9 : GoodIn wsL_law wsL_alike_r10 := goodIn_r _ [104, 105, 14, 106, 107, 108, 13, 109, 110, 111, 112, 113, 114, 33, 115, 116, 117, 118, 119, 120, 121, 23, 27, 122] (by decide +kernel) (by decide +kernel)
set_option maxRecDepth 20000 in
theorem ggL_law_L_alike_k10 : GoodIn wsL_law wsL_alike_r11 := goodIn_r _ [123, 124, 125, 126, 127, 128, 129, 130, 131, 132, 133, 134, 135, 136, 137, 138, 139, 140, 141, 142, 143, 144, 145, 146] (by decide +kernel) (by decide +kernel)
set_option maxRecDepth 20000 in
theorem ggL_law_L_alike_k11 : GoodIn wsL_law wsL_alike_r12 := goodIn_r _ [154, 155, 156, 157, 60, 61, 62, 63, 160, 161, 162, 22, 163, 164, 165, 166, 167, 26, 168, 78, 169, 170, 171, 172] (by decide +kernel) (by decide +kernel)
set_option maxRecDepth 20000 in
theorem ggL_law_L_alike_k12 : GoodIn wsL_law wsL_alike_r13 := goodIn_r _ [173, 174, 175, 176, 177, 282, 283, 284, 285, 286, 287, 288, 289, 290, 291, 292, 293, 306, 307, 308, 309, 310, 311, 312] (by decide +kernel) (by decide +kernel)
set_option maxRecDepth 20000 in
theorem ggL_law_L_alike_k13 : GoodIn wsL_law wsL_alike_r14 := goodIn_r _ [313, 314, 315, 316, 317, 318, 319, 320, 321, 322, 323, 324, 325, 326, 327, 330, 334, 335, 336, 337, 338, 339, 340, 341] (by decide +kernel) (by decide +kernel)
set_option maxRecDepth 20000 in
theorem ggL_law_L_alike_k14 : GoodIn wsL_law wsL_alike_r15 := goodIn_r _ [342, 343, 344, 345, 346, 347, 348, 349, 350, 351, 352, 353, 354, 355, 356, 357, 358, 359, 360, 361, 362, 363, 364, 365] (by decide +kernel) (by decide +kernel)
set_option maxRecDepth 20000 in
theorem ggL_law_L_alike_k15 : GoodIn wsL_law wsL_alike_r16 := goodIn_r _ [366, 369, 373, 374, 375, 376, 377, 378, 379, 383, 384, 385, 386, 387, 69, 388, 389, 390, 391, 392, 393, 394, 406, 411] (by decide +kernel) (by decide +kernel)
set_option maxRecDepth 20000 in
theorem ggL_law_L_alike_k16 : GoodIn wsL_law wsL_alike_r17 := goodIn_r _ [412, 413, 414, 415, 416, 417, 418, 421, 426, 427, 428, 429, 430, 431, 432, 433, 434, 435, 436, 437, 438, 439, 440, 441] (by decide +kernel) (by decide +kernel)
set_option maxRecDepth 20000 in
theorem ggL_law_L_alike_k17 : GoodIn wsL_law wsL_alike_r18 := goodIn_r _ [442, 443, 444, 445, 446, 447, 448, 449, 450, 451, 452, 453, 454, 455, 456, 457, 458, 459, 460, 461, 462, 463, 464, 465] (by decide +kernel) (by decide +kernel)
set_option maxRecDepth 20000 in
theorem ggL_law_L_alike_k18 : GoodIn wsL_law wsL_alike_r19 := goodIn_r _ [466, 467, 468, 469, 470, 471, 472, 473, 474, 475, 476, 477, 478, 479, 481, 482, 483, 484, 485, 486, 487, 488, 489, 490] (by decide +kernel) (by decide +kernel)
set_option maxRecDepth 20000 in
theorem ggL_law_L_alike_k19 : GoodIn wsL_law wsL_alike_r20 := goodIn_r _ [491, 492, 493, 494, 495, 76, 496, 497, 498, 499, 500, 501, 502, 503, 504, 505, 506, 507, 508, 509, 510, 511, 512] (by decide +kernel) (by decide +kernel)
set_option maxRecDepth 20000 in
theorem ggL_law_L_alike_k20 : GoodIn wsL_law wsX70 := goodIn_r _ [615, 616, 617, 618, 619] (by decide +kernel) (by decide +kernel)
set_option maxRecDepth 20000 in
theorem ggL_law_L_alike_k21 : GoodIn wsL_law wsX60 := goodIn_r _ [622, 623, 624, 625, 626, 627] (by decide +kernel) (by decide +kernel)
set_option maxRecDepth 20000 in
theorem ggL_law_L_alike_k22 : GoodIn wsL_law wsX20 := goodIn_r _ [633, 634, 635, 636, 637] (by decide +kernel) (by decide +kernel)
set_option maxRecDepth 20000 in
theorem ggL_law_L_alike_k23 : GoodIn wsL_law wsX40 := goodIn_r _ [638, 639, 640, 641] (by decide +kernel) (by decide +kernel)
set_option maxRecDepth 20000 in
theorem ggL_law_L_alike_k24 : GoodIn wsL_law wsX00 := goodIn_r _ [620, 621] (by decide +kernel) (by decide +kernel)
set_option maxRecDepth 20000 in
theorem ggL_law_L_alike_k25 : GoodIn wsL_law wsX10 := goodIn_r _ [628, 629, 630] (by decide +kernel) (by decide +kernel)
set_option maxRecDepth 20000 in
theorem ggL_law_L_alike_k26 : GoodIn wsL_law wsX50 := goodIn_r _ [631, 632] (by decide +kernel) (by decide +kernel)
set_option maxRecDepth 20000 in
set_option maxRecDepth 100000 in
theorem ggL_law_L_alike : GoodIn wsL_law wsL_alike := goodIn_ca (goodIn_ca (goodIn_ca (goodIn_hc (List.mem_of_getElem? (i := 592) (by rfl)) (by decide +kernel) (goodIn_app (goodIn_app (goodIn_app (goodIn_app (goodIn_app (goodIn_app (goodIn_app (goodIn_app ggL_law_L_alike_k0 (goodIn_app ggL_law_L_alike_k1 (goodIn_app ggL_law_L_alike_k2 (goodIn_app ggL_law_L_alike_k3 (goodIn_app ggL_law_L_alike_k4 (goodIn_app ggL_law_L_alike_k5 (goodIn_app ggL_law_L_alike_k6 (goodIn_app ggL_law_L_alike_k7 (goodIn_app ggL_law_L_alike_k8 (goodIn_app ggL_law_L_alike_k9 (goodIn_app ggL_law_L_alike_k10 (goodIn_app ggL_law_L_alike_k11 (goodIn_app ggL_law_L_alike_k12 (goodIn_app ggL_law_L_alike_k13 (goodIn_app ggL_law_L_alike_k14 (goodIn_app ggL_law_L_alike_k15 (goodIn_app ggL_law_L_alike_k16 (goodIn_app ggL_law_L_alike_k17 (goodIn_app ggL_law_L_alike_k18 ggL_law_L_alike_k19))))))))))))))))))) ggL_law_L_alike_k20) ggL_law_L_alike_k21) ggL_law_L_alike_k22) ggL_law_L_alike_k23) ggL_law_L_alike_k24) ggL_law_L_alike_k25) ggL_law_L_alike_k26)) (goodIn_sub (fun _ h => List.mem_append_left _ (List.mem_append_left _ (List.mem_append_right _ h))) (by decide +kernel))) (goodIn_sub (fun _ h => List.mem_append_left _ (List.mem_append_right _ h)) (by decide +kernel))) (goodIn_sub (fun _ h => List.mem_append_right _ h) (by decide +kernel))
set_option maxRecDepth 20000 in
theorem gL_law_L_alike : GoodIn wsL_law (va_wsS RL 178 yL_alike wsL_alike) := goodIn_app (goodIn_of _ (by decide +kernel)) ggL_law_L_alike
