set_option maxRecDepth 20000 in
theorem in_wsL_law_r17 : GoodIn lw_tbl wsL_law_r17 := goodIn_r _ [355, 356, 357, 358, 359, 360, 361, 362, 363, 364, 379, 365, 367, 10, 368, 369, 370, 371, 372, 373, 374, 375, 377, 11] (by decide +kernel) (by decide +kernel)
set_option maxRecDepth 20000 in
theorem in_wsL_law_r18 : GoodIn lw_tbl wsL_law_r18 := goodIn_r _ [378, 779, 780, 781, 782, 783, 784, 785, 380, 381, 382, 383, 384, 786, 787, 788, 789, 790, 791, 385, 386, 387, 388, 139] (by decide +kernel) (by decide +kernel)
set_option maxRecDepth 20000 in
theorem in_wsL_law_r19 : GoodIn lw_tbl wsL_law_r19 := goodIn_r _ [389, 390, 391, 392, 792, 793, 794, 795, 393, 394, 395, 396, 135, 137, 397, 398, 399, 400, 401, 402, 37, 403, 796, 797] (by decide +kernel) (by decide +kernel)
set_option maxRecDepth 20000 in
theorem in_wsL_law_r20 : GoodIn lw_tbl wsL_law_r20 := goodIn_r _ [798, 799, 800, 801, 802, 404, 405, 406, 407, 408, 409, 410, 411, 803, 804, 805, 806, 412, 413, 414, 415, 416, 807, 808] (by decide +kernel) (by decide +kernel)
set_option maxRecDepth 20000 in
theorem in_wsL_law_r21 : GoodIn lw_tbl wsL_law_r21 := goodIn_r _ [809, 810, 811, 417, 418, 419, 420, 161, 421, 422, 423, 424, 425, 426, 427, 428, 812, 813, 814, 815, 816, 817, 429, 430] (by decide +kernel) (by decide +kernel)
set_option maxRecDepth 20000 in
theorem in_wsL_law_r22 : GoodIn lw_tbl wsL_law_r22 := goodIn_r _ [431, 432, 433, 434, 435, 436, 445, 437, 439, 12, 440, 441, 443, 13, 444, 818, 819, 820, 821, 619, 826, 620, 822, 824] (by decide +kernel) (by decide +kernel)
set_option maxRecDepth 20000 in
theorem in_wsL_law_r23 : GoodIn lw_tbl wsL_law_r23 := goodIn_r _ [24, 825, 621, 622, 446, 447, 448, 449, 159, 460, 458, 459, 450, 451, 452, 453, 454, 455, 456, 457, 827, 828, 829, 830] (by decide +kernel) (by decide +kernel)
set_option maxRecDepth 20000 in
theorem in_wsL_law_r24 : GoodIn lw_tbl wsL_law_r24 := goodIn_r _ [461, 462, 463, 464, 78, 71, 831, 832, 833, 834, 465, 466, 467, 468, 469, 470, 471, 472, 473, 475, 14, 476, 477, 478] (by decide +kernel) (by decide +kernel)
set_option maxRecDepth 20000 in
theorem in_wsL_law_r25 : GoodIn lw_tbl wsL_law_r25 := goodIn_r _ [479, 480, 481, 482, 483, 484, 485, 487, 15, 488, 835, 836, 837, 838, 839, 841, 25, 842, 843, 845, 26, 846, 489, 490] (by decide +kernel) (by decide +kernel)
set_option maxRecDepth 20000 in
theorem in_wsL_law_r26 : GoodIn lw_tbl wsL_law_r26 := goodIn_r _ [491, 492, 493, 494, 495, 496, 847, 848, 849, 850, 851, 853, 27, 854, 497, 498, 499, 500, 501, 855, 856, 857, 858, 502] (by decide +kernel) (by decide +kernel)
set_option maxRecDepth 20000 in
theorem in_wsL_law_r27 : GoodIn lw_tbl wsL_law_r27 := goodIn_r _ [503, 504, 505, 506, 73, 859, 860, 861, 862, 863, 507, 508, 509, 510, 511, 864, 865, 866, 867, 512, 513, 514, 515, 177] (by decide +kernel) (by decide +kernel)
set_option maxRecDepth 20000 in
theorem in_wsL_law_r28 : GoodIn lw_tbl wsL_law_r28 := goodIn_r _ [516, 517, 518, 519, 176, 868, 869, 870, 871, 623, 520, 521, 522, 523, 524, 525, 526, 527, 528, 529, 530, 531, 532, 533] (by decide +kernel) (by decide +kernel)
set_option maxRecDepth 20000 in
theorem in_wsL_law_r29 : GoodIn lw_tbl wsL_law_r29 := goodIn_r _ [534, 535, 536, 537, 538, 539, 872, 873, 874, 875, 540, 541, 542, 543, 876, 877, 878, 879, 544, 545, 546, 547, 548, 549] (by decide +kernel) (by decide +kernel)
set_option maxRecDepth 20000 in
theorem in_wsL_law_r30 : GoodIn lw_tbl wsL_law_r30 := goodIn_r _ [550, 551, 552, 553, 554, 555, 880, 881, 882, 883, 556, 557, 558, 559, 560, 561, 562, 563, 564, 566, 567, 568, 570, 571] (by decide +kernel) (by decide +kernel)
set_option maxRecDepth 20000 in
theorem in_wsL_law_r31 : GoodIn lw_tbl wsL_law_r31 := goodIn_r _ [572, 573, 574, 575, 576, 578, 579, 580, 581, 584, 585, 586, 587, 884, 885, 886, 887, 888] (by decide +kernel) (by decide +kernel)
set_option maxRecDepth 20000 in
theorem in_wsX50 : GoodIn lw_tbl wsX50 := goodIn_r _ [189, 191, 193, 195, 197] (by decide +kernel) (by decide +kernel)
set_option maxRecDepth 20000 in
theorem in_wsX60 : GoodIn lw_tbl wsX60 := goodIn_r _ [625, 627, 629, 631, 633, 635, 637, 639, 641, 643, 645, 647, 649, 651, 653, 655, 657, 659, 661, 663, 665, 667, 669, 671, 673] (by decide +kernel) (by decide +kernel)
set_option maxRecDepth 20000 in
theorem in_wsX20 : GoodIn lw_tbl wsX20 := goodIn_r _ [79, 81, 83, 85, 87, 89, 91, 93, 95] (by decide +kernel) (by decide +kernel)
set_option maxRecDepth 20000 in
theorem in_wsX10 : GoodIn lw_tbl wsX10 := goodIn_r _ [112, 114, 116, 118] (by decide +kernel) (by decide +kernel)
set_option maxRecDepth 20000 in
theorem in_wsX40 : GoodIn lw_tbl wsX40 := goodIn_r _ [140, 142, 144] (by decide +kernel) (by decide +kernel)
set_option maxRecDepth 20000 in
theorem in_wsX30 : GoodIn lw_tbl wsX30 := goodIn_r _ [163, 165, 167] (by decide +kernel) (by decide +kernel)
set_option maxRecDepth 20000 in
theorem in_wsX00 : GoodIn lw_tbl wsX00 := goodIn_r _ [179, 181] (by decide +kernel) (by decide +kernel)
theorem gd_wsL_law : GoodIn lw_tbl wsL_law := by
  unfold wsL_law
  rw [List.append_nil]
  exact goodIn_app (goodIn_app (goodIn_app (goodIn_app (goodIn_app (goodIn_app (goodIn_app ((goodIn_app in_wsL_law_r1 (goodIn_app in_wsL_law_r2 (goodIn_app in_wsL_law_r3 (goodIn_app in_wsL_law_r4 (goodIn_app in_wsL_law_r5 (goodIn_app in_wsL_law_r6 (goodIn_app in_wsL_law_r7 (goodIn_app in_wsL_law_r8 (goodIn_app in_wsL_law_r9 (goodIn_app in_wsL_law_r10 (goodIn_app in_wsL_law_r11 (goodIn_app in_wsL_law_r12 (goodIn_app in_wsL_law_r13 (goodIn_app in_wsL_law_r14 (goodIn_app in_wsL_law_r15 (goodIn_app in_wsL_law_r16 (goodIn_app in_wsL_law_r17 (goodIn_app in_wsL_law_r18 (goodIn_app in_wsL_law_r19 (goodIn_app in_wsL_law_r20 (goodIn_app in_wsL_law_r21 (goodIn_app in_wsL_law_r22 (goodIn_app in_wsL_law_r23 (goodIn_app in_wsL_law_r24 (goodIn_app in_wsL_law_r25 (goodIn_app in_wsL_law_r26 (goodIn_app in_wsL_law_r27 (goodIn_app in_wsL_law_r28 (goodIn_app in_wsL_law_r29 (goodIn_app in_wsL_law_r30 (in_wsL_law_r31)))))))))))))))))))))))))))))))) in_wsX50) in_wsX60) in_wsX20) in_wsX10) in_wsX40) in_wsX30) in_wsX00
theorem wsL_law_in : ∀ w ∈ wsL_law, w ∈ lw_tbl := fun w h => (gd_wsL_law w h).1
