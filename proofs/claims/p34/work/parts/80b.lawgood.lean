/-! words of the checksum -/
set_option maxRecDepth 20000 in
theorem zggL_law_X7_digest_1 : GoodIn wsL_law [.code yX7_digest cX7_digest 5 (some .long)] := goodIn_r _ [263] (by decide +kernel) (by decide +kernel)
set_option maxRecDepth 20000 in
theorem zggL_law_X7_digest_2 : GoodIn wsL_law wsX7_digest_r1 := goodIn_r _ [264, 36, 145, 265, 8, 9, 10, 266, 267, 268, 20, 269, 270, 271, 272, 273, 274, 275, 276, 277, 278, 279, 280, 281] (by decide +kernel) (by decide +kernel)
set_option maxRecDepth 20000 in
theorem zggL_law_X7_digest_3 : GoodIn wsL_law wsX7_digest_r2 := goodIn_r _ [205, 245, 282, 206, 207, 146, 147, 148, 149, 150, 151, 283, 284, 285, 185, 186, 286, 287, 288, 289, 290, 291, 292, 293] (by decide +kernel) (by decide +kernel)
set_option maxRecDepth 20000 in
theorem zggL_law_X7_digest_4 : GoodIn wsL_law wsX7_digest_r3 := goodIn_r _ [41, 294, 295, 296, 40, 297, 298, 76, 77, 78, 299, 300, 301, 302, 79, 303, 304, 305, 306, 307, 308, 309, 310, 311] (by decide +kernel) (by decide +kernel)
set_option maxRecDepth 20000 in
theorem zggL_law_X7_digest_5 : GoodIn wsL_law wsX7_digest_r4 := goodIn_r _ [312, 313, 314, 315, 316, 317, 35, 318, 156, 319, 320, 321, 322, 323, 324, 325, 326, 327, 328, 329, 330, 64, 331, 332] (by decide +kernel) (by decide +kernel)
set_option maxRecDepth 20000 in
theorem zggL_law_X7_digest_6 : GoodIn wsL_law wsX7_digest_r5 := goodIn_r _ [333, 66, 334, 195, 335, 336, 337, 338, 339, 340, 341, 342, 343, 344, 345, 346, 347, 348, 349, 350, 351, 352, 254, 353] (by decide +kernel) (by decide +kernel)
set_option maxRecDepth 20000 in
theorem zggL_law_X7_digest_7 : GoodIn wsL_law wsX7_digest_r6 := goodIn_r _ [354, 355, 356, 357, 358, 359, 360, 361, 362, 70, 71, 363, 364, 365, 366, 367, 368, 369, 370, 371, 372, 373, 374, 375] (by decide +kernel) (by decide +kernel)
set_option maxRecDepth 20000 in
theorem zggL_law_X7_digest_8 : GoodIn wsL_law wsX7_digest_r7 := goodIn_r _ [376, 377, 378, 379, 380, 381, 382, 383, 384, 385, 386, 387, 388, 389, 390, 391, 392, 393, 394, 395, 396, 397, 398, 399] (by decide +kernel) (by decide +kernel)
set_option maxRecDepth 20000 in
theorem zggL_law_X7_digest_9 : GoodIn wsL_law wsX7_digest_r8 := goodIn_r _ [400, 401, 402, 45, 49, 403, 404, 405, 44, 406, 407, 408, 409, 410, 411, 85, 86, 87, 88, 412, 84, 413, 414, 415] (by decide +kernel) (by decide +kernel)
set_option maxRecDepth 20000 in
theorem zggL_law_X7_digest_10 : GoodIn wsL_law wsX7_digest_r9 := goodIn_r _ [416, 417, 418, 419, 420, 421, 422, 423, 424, 425, 426, 427, 428, 429, 430, 48, 431, 432, 433, 93, 96, 434, 435, 436] (by decide +kernel) (by decide +kernel)
set_option maxRecDepth 20000 in
theorem zggL_law_X7_digest_11 : GoodIn wsL_law wsX7_digest_r10 := goodIn_r _ [437, 94, 97, 438, 95, 439, 440, 441, 442, 443, 444, 445, 446, 447, 448, 449, 450, 451, 452, 453, 454, 455, 456, 457] (by decide +kernel) (by decide +kernel)
set_option maxRecDepth 20000 in
theorem zggL_law_X7_digest_12 : GoodIn wsL_law wsX7_digest_r11 := goodIn_r _ [458, 459, 460, 461, 462, 463, 464, 465, 466, 467, 468, 469, 470, 471, 472, 473, 474, 475, 476, 477, 478, 479, 480, 481] (by decide +kernel) (by decide +kernel)
set_option maxRecDepth 20000 in
theorem zggL_law_X7_digest_13 : GoodIn wsL_law wsX7_digest_r12 := goodIn_r _ [482, 483, 484, 485, 486, 487, 488, 489, 490, 491, 492, 493, 494, 495, 496, 497, 498, 499, 500, 501, 502, 503, 504, 505] (by decide +kernel) (by decide +kernel)
set_option maxRecDepth 20000 in
theorem zggL_law_X7_digest_14 : GoodIn wsL_law wsX7_digest_r13 := goodIn_r _ [506, 507, 508, 57, 509, 510, 511, 512, 513, 514, 515, 516, 517, 518, 519, 520, 521, 522, 523, 524, 525, 526, 527, 528] (by decide +kernel) (by decide +kernel)
set_option maxRecDepth 20000 in
theorem zggL_law_X7_digest_15 : GoodIn wsL_law wsX7_digest_r14 := goodIn_r _ [529, 530, 531, 53, 532, 533, 534, 52, 535, 536, 537, 102, 104, 105, 538, 539, 540, 541, 106, 542, 103, 543, 544, 545] (by decide +kernel) (by decide +kernel)
set_option maxRecDepth 20000 in
theorem zggL_law_X7_digest_16 : GoodIn wsL_law wsX7_digest_r15 := goodIn_r _ [546, 547, 548, 549, 550, 551, 552, 553, 554, 555, 556, 557, 558, 559, 560, 561] (by decide +kernel) (by decide +kernel)
set_option maxRecDepth 20000 in
theorem zggL_law_X7_digest_17 : GoodIn wsL_law wsX70 := goodIn_r _ [637, 638, 639, 640, 641, 642, 643, 644] (by decide +kernel) (by decide +kernel)
set_option maxRecDepth 20000 in
theorem zggL_law_X7_digest_18 : GoodIn wsL_law wsX60 := goodIn_r _ [645, 646, 647] (by decide +kernel) (by decide +kernel)
set_option maxRecDepth 20000 in
theorem zggL_law_X7_digest_19 : GoodIn wsL_law wsX30 := goodIn_r _ [679, 680, 681, 682] (by decide +kernel) (by decide +kernel)
set_option maxRecDepth 20000 in
theorem zggL_law_X7_digest_20 : GoodIn wsL_law wsX40 := goodIn_r _ [648, 649, 650, 651, 652] (by decide +kernel) (by decide +kernel)
set_option maxRecDepth 20000 in
theorem zggL_law_X7_digest_21 : GoodIn wsL_law wsX50 := goodIn_r _ [659, 660, 661, 662, 663, 664, 665] (by decide +kernel) (by decide +kernel)
set_option maxRecDepth 20000 in
theorem zggL_law_X7_digest_22 : GoodIn wsL_law wsX10 := goodIn_r _ [653, 654, 655, 656, 657, 658] (by decide +kernel) (by decide +kernel)
set_option maxRecDepth 20000 in
theorem zggL_law_X7_digest_23 : GoodIn wsL_law wsX20 := goodIn_r _ [673, 674, 675, 676, 677, 678] (by decide +kernel) (by decide +kernel)
set_option maxRecDepth 20000 in
theorem zggL_law_X7_digest_24 : GoodIn wsL_law wsX00 := goodIn_r _ [666, 667, 668, 669, 670, 671, 672] (by decide +kernel) (by decide +kernel)
set_option maxRecDepth 20000 in
theorem ggL_law_X7_digest : GoodIn wsL_law wsX7_digest := goodIn_ca (goodIn_ca (goodIn_app (a := [.code yX7_digest cX7_digest 5 (some .long)]) zggL_law_X7_digest_1 (goodIn_app (goodIn_app (goodIn_app (goodIn_app (goodIn_app (goodIn_app (goodIn_app (goodIn_app (goodIn_app (zggL_law_X7_digest_2) (goodIn_app (zggL_law_X7_digest_3) (goodIn_app (zggL_law_X7_digest_4) (goodIn_app (zggL_law_X7_digest_5) (goodIn_app (zggL_law_X7_digest_6) (goodIn_app (zggL_law_X7_digest_7) (goodIn_app (zggL_law_X7_digest_8) (goodIn_app (zggL_law_X7_digest_9) (goodIn_app (zggL_law_X7_digest_10) (goodIn_app (zggL_law_X7_digest_11) (goodIn_app (zggL_law_X7_digest_12) (goodIn_app (zggL_law_X7_digest_13) (goodIn_app (zggL_law_X7_digest_14) (goodIn_app (zggL_law_X7_digest_15) (zggL_law_X7_digest_16))))))))))))))) (zggL_law_X7_digest_17)) (zggL_law_X7_digest_18)) (zggL_law_X7_digest_19)) (zggL_law_X7_digest_20)) (zggL_law_X7_digest_21)) (zggL_law_X7_digest_22)) (zggL_law_X7_digest_23)) (zggL_law_X7_digest_24))) (goodIn_sub (fun _ h => List.mem_append_left _ (List.mem_append_left _ (List.mem_append_right _ h))) (by decide +kernel))) (goodIn_sub (fun _ h => List.mem_append_right _ h) (by decide +kernel))
set_option maxRecDepth 20000 in
theorem gL_law_X7_digest : GoodIn wsL_law (wsV RL 25 RX7 yX7_digest wsX7_digest) := goodIn_app (goodIn_of _ (by decide +kernel)) ggL_law_X7_digest
-- uses: gL_law_X7_digest
