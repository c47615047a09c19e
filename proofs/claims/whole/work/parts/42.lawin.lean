/-! the words of the law's own list stand in the tables -/
section LAWIN
set_option maxRecDepth 20000 in
theorem wl_r1 : ∀ w ∈ wsL_law0_r1, w ∈ lw_tbl := fun w h => (goodIn_r wsL_law0_r1 [39, 40, 23, 748, 749, 29, 975, 976, 41, 42, 43, 44, 45, 46, 47, 48, 24, 231, 232, 49, 50, 51, 52, 53] (by decide +kernel) (by decide +kernel) w h).1
set_option maxRecDepth 20000 in
theorem wl_r2 : ∀ w ∈ wsL_law0_r2, w ∈ lw_tbl := fun w h => (goodIn_r wsL_law0_r2 [175, 55, 25, 126, 127, 27, 176, 153, 154, 28, 178, 182, 184, 188, 192, 194, 195, 56, 57, 58, 59, 60, 61, 26] (by decide +kernel) (by decide +kernel) w h).1
set_option maxRecDepth 20000 in
theorem wl_r3 : ∀ w ∈ wsL_law0_r3, w ∈ lw_tbl := fun w h => (goodIn_r wsL_law0_r3 [83, 63, 64, 65, 128, 129, 130, 131, 151, 132, 135, 152, 137, 155, 156, 157, 158, 159, 160, 162, 750, 751, 752, 753] (by decide +kernel) (by decide +kernel) w h).1
set_option maxRecDepth 20000 in
theorem wl_r4 : ∀ w ∈ wsL_law0_r4, w ∈ lw_tbl := fun w h => (goodIn_r wsL_law0_r4 [754, 755, 756, 758, 411, 412, 22, 413, 414, 415, 416, 417, 418, 419, 439, 34, 181, 420, 421, 422, 423, 33, 455, 456] (by decide +kernel) (by decide +kernel) w h).1
set_option maxRecDepth 20000 in
theorem wl_r5 : ∀ w ∈ wsL_law0_r5, w ∈ lw_tbl := fun w h => (goodIn_r wsL_law0_r5 [457, 458, 180, 459, 460, 461, 462, 86, 89, 91, 94, 96, 98, 100, 101, 463, 464, 465, 466, 66, 70, 71, 777, 778] (by decide +kernel) (by decide +kernel) w h).1
set_option maxRecDepth 20000 in
theorem wl_r6 : ∀ w ∈ wsL_law0_r6, w ∈ lw_tbl := fun w h => (goodIn_r wsL_law0_r6 [779, 780, 757, 781, 782, 783, 773, 774, 775, 776, 467, 468, 469, 470, 471, 472, 473, 474, 87, 475, 267, 268, 269, 270] (by decide +kernel) (by decide +kernel) w h).1
set_option maxRecDepth 20000 in
theorem wl_r7 : ∀ w ∈ wsL_law0_r7, w ∈ lw_tbl := fun w h => (goodIn_r wsL_law0_r7 [35, 784, 785, 786, 787, 788, 790, 2, 791, 792, 794, 3, 795, 476, 477, 478, 479, 480, 481, 482, 99, 796, 797, 798] (by decide +kernel) (by decide +kernel) w h).1
set_option maxRecDepth 20000 in
theorem wl_r8 : ∀ w ∈ wsL_law0_r8, w ∈ lw_tbl := fun w h => (goodIn_r wsL_law0_r8 [799, 483, 484, 485, 486, 487, 488, 489, 97, 185, 183, 198, 490, 491, 492, 493, 494, 495, 496, 497, 103, 800, 801, 802] (by decide +kernel) (by decide +kernel) w h).1
set_option maxRecDepth 20000 in
theorem wl_r9 : ∀ w ∈ wsL_law0_r9, w ∈ lw_tbl := fun w h => (goodIn_r wsL_law0_r9 [803, 238, 239, 240, 241, 804, 805, 806, 807, 498, 499, 500, 501, 502, 503, 504, 808, 809, 810, 811, 505, 506, 507, 508] (by decide +kernel) (by decide +kernel) w h).1
set_option maxRecDepth 20000 in
theorem wl_r10 : ∀ w ∈ wsL_law0_r10, w ∈ lw_tbl := fun w h => (goodIn_r wsL_law0_r10 [509, 510, 511, 187, 812, 813, 814, 815, 512, 513, 514, 515, 516, 517, 518, 189, 816, 817, 818, 819, 519, 520, 521, 522] (by decide +kernel) (by decide +kernel) w h).1
set_option maxRecDepth 20000 in
theorem wl_r11 : ∀ w ∈ wsL_law0_r11, w ∈ lw_tbl := fun w h => (goodIn_r wsL_law0_r11 [523, 524, 525, 191, 179, 526, 527, 528, 529, 164, 820, 821, 822, 823, 530, 531, 532, 533, 534, 535, 536, 193, 537, 538] (by decide +kernel) (by decide +kernel) w h).1
set_option maxRecDepth 20000 in
theorem wl_r12 : ∀ w ∈ wsL_law0_r12, w ∈ lw_tbl := fun w h => (goodIn_r wsL_law0_r12 [539, 540, 95, 824, 825, 826, 827, 242, 243, 244, 245, 196, 828, 829, 830, 831, 541, 542, 543, 544, 545, 546, 547, 548] (by decide +kernel) (by decide +kernel) w h).1
set_option maxRecDepth 20000 in
theorem wl_r13 : ∀ w ∈ wsL_law0_r13, w ∈ lw_tbl := fun w h => (goodIn_r wsL_law0_r13 [549, 550, 551, 84, 197, 552, 553, 554, 555, 68, 69, 832, 833, 834, 835, 246, 247, 248, 249, 250, 251, 252, 253, 254] (by decide +kernel) (by decide +kernel) w h).1
set_option maxRecDepth 20000 in
theorem wl_r14 : ∀ w ∈ wsL_law0_r14, w ∈ lw_tbl := fun w h => (goodIn_r wsL_law0_r14 [255, 256, 257, 140, 258, 259, 260, 261, 163, 190, 161, 262, 263, 264, 265, 266, 338, 339, 340, 341, 342, 343, 344, 345] (by decide +kernel) (by decide +kernel) w h).1
set_option maxRecDepth 20000 in
theorem wl_r15 : ∀ w ∈ wsL_law0_r15, w ∈ lw_tbl := fun w h => (goodIn_r wsL_law0_r15 [346, 347, 348, 349, 350, 351, 352, 353, 354, 355, 356, 357, 358, 359, 360, 361, 362, 363, 364, 365, 104, 186, 102, 88] (by decide +kernel) (by decide +kernel) w h).1
set_option maxRecDepth 20000 in
theorem wl_r16 : ∀ w ∈ wsL_law0_r16, w ∈ lw_tbl := fun w h => (goodIn_r wsL_law0_r16 [366, 367, 36, 368, 369, 370, 371, 372, 373, 374, 375, 376, 92, 377, 378, 379, 380, 382, 383, 384, 385, 386, 387, 388] (by decide +kernel) (by decide +kernel) w h).1
set_option maxRecDepth 20000 in
theorem wl_r17 : ∀ w ∈ wsL_law0_r17, w ∈ lw_tbl := fun w h => (goodIn_r wsL_law0_r17 [391, 392, 393, 395, 396, 397, 398, 399, 400, 401, 402, 404, 405, 406, 407, 408, 409, 410, 836, 837, 838, 839, 840, 842] (by decide +kernel) (by decide +kernel) w h).1
set_option maxRecDepth 20000 in
theorem wl_r18 : ∀ w ∈ wsL_law0_r18, w ∈ lw_tbl := fun w h => (goodIn_r wsL_law0_r18 [4, 843, 759, 844, 846, 5, 847, 848, 850, 6, 851, 852, 854, 7, 855, 856, 858, 8, 859, 860, 862, 9, 863, 864] (by decide +kernel) (by decide +kernel) w h).1
set_option maxRecDepth 20000 in
theorem wl_r19 : ∀ w ∈ wsL_law0_r19, w ∈ lw_tbl := fun w h => (goodIn_r wsL_law0_r19 [866, 10, 867, 868, 870, 11, 871, 872, 874, 12, 875, 876, 878, 13, 879, 880, 882, 14, 883, 891, 884, 885, 886, 887] (by decide +kernel) (by decide +kernel) w h).1
set_option maxRecDepth 20000 in
theorem wl_r20 : ∀ w ∈ wsL_law0_r20, w ∈ lw_tbl := fun w h => (goodIn_r wsL_law0_r20 [888, 889, 890, 892, 894, 15, 895, 896, 897, 898, 899, 556, 557, 558, 559, 560, 561, 562, 199, 564, 565, 566, 567, 568] (by decide +kernel) (by decide +kernel) w h).1
set_option maxRecDepth 20000 in
theorem wl_r21 : ∀ w ∈ wsL_law0_r21, w ∈ lw_tbl := fun w h => (goodIn_r wsL_law0_r21 [569, 570, 571, 572, 573, 574, 575, 576, 577, 578, 579, 580, 581, 582, 583, 584, 585, 586, 587, 588, 589, 590, 591, 592] (by decide +kernel) (by decide +kernel) w h).1
set_option maxRecDepth 20000 in
theorem wl_r22 : ∀ w ∈ wsL_law0_r22, w ∈ lw_tbl := fun w h => (goodIn_r wsL_law0_r22 [593, 594, 595, 596, 597, 598, 599, 600, 601, 900, 901, 902, 903, 904, 906, 16, 907, 908, 910, 17, 911, 912, 914, 18] (by decide +kernel) (by decide +kernel) w h).1
set_option maxRecDepth 20000 in
theorem wl_r23 : ∀ w ∈ wsL_law0_r23, w ∈ lw_tbl := fun w h => (goodIn_r wsL_law0_r23 [915, 602, 603, 604, 605, 606, 607, 608, 177, 138, 609, 611, 1, 612, 613, 141, 617, 618, 619, 620, 134, 139, 136, 621] (by decide +kernel) (by decide +kernel) w h).1
set_option maxRecDepth 20000 in
theorem wl_r24 : ∀ w ∈ wsL_law0_r24, w ∈ lw_tbl := fun w h => (goodIn_r wsL_law0_r24 [622, 623, 624, 625, 626, 627, 628, 629, 630, 37, 631, 632, 633, 634, 635, 636, 637, 638, 639, 640, 641, 642, 643, 916] (by decide +kernel) (by decide +kernel) w h).1
set_option maxRecDepth 20000 in
theorem wl_r25 : ∀ w ∈ wsL_law0_r25, w ∈ lw_tbl := fun w h => (goodIn_r wsL_law0_r25 [917, 918, 919, 920, 922, 19, 923, 924, 926, 20, 927, 928, 929, 930, 931, 933, 21, 934, 644, 645, 646, 647, 648, 649] (by decide +kernel) (by decide +kernel) w h).1
set_option maxRecDepth 20000 in
theorem wl_r26 : ∀ w ∈ wsL_law0_r26, w ∈ lw_tbl := fun w h => (goodIn_r wsL_law0_r26 [650, 133, 935, 936, 937, 938, 651, 652, 653, 654, 655, 656, 657, 658, 939, 940, 941, 942, 659, 660, 661, 662, 663, 664] (by decide +kernel) (by decide +kernel) w h).1
set_option maxRecDepth 20000 in
theorem wl_r27 : ∀ w ∈ wsL_law0_r27, w ∈ lw_tbl := fun w h => (goodIn_r wsL_law0_r27 [665, 666, 943, 944, 945, 946, 667, 668, 669, 670, 671, 672, 673, 93, 947, 948, 949, 950, 674, 675, 676, 677, 678, 679] (by decide +kernel) (by decide +kernel) w h).1
set_option maxRecDepth 20000 in
theorem wl_r28 : ∀ w ∈ wsL_law0_r28, w ∈ lw_tbl := fun w h => (goodIn_r wsL_law0_r28 [680, 90, 951, 952, 953, 954, 681, 682, 683, 684, 685, 686, 687, 85, 67, 955, 956, 957, 958, 688, 689, 690, 691, 692] (by decide +kernel) (by decide +kernel) w h).1
set_option maxRecDepth 20000 in
theorem wl_r29 : ∀ w ∈ wsL_law0_r29, w ∈ lw_tbl := fun w h => (goodIn_r wsL_law0_r29 [693, 694, 696, 959, 960, 961, 962, 697, 698, 699, 700, 701, 702, 703, 165, 704, 705, 706, 707, 963, 964, 965, 966, 709] (by decide +kernel) (by decide +kernel) w h).1
set_option maxRecDepth 20000 in
theorem wl_r30 : ∀ w ∈ wsL_law0_r30, w ∈ lw_tbl := fun w h => (goodIn_r wsL_law0_r30 [710, 711, 712, 713, 714, 715, 716, 717, 718, 719, 200, 720, 721, 722, 723, 724, 725, 726, 727, 728, 729, 730, 731, 732] (by decide +kernel) (by decide +kernel) w h).1
set_option maxRecDepth 20000 in
theorem wl_r31 : ∀ w ∈ wsL_law0_r31, w ∈ lw_tbl := fun w h => (goodIn_r wsL_law0_r31 [734, 733, 38, 735, 736, 737, 738, 739, 967, 968, 969, 970, 740, 741, 742, 743, 744, 745, 746, 971, 972, 973, 974] (by decide +kernel) (by decide +kernel) w h).1
set_option maxRecDepth 20000 in
theorem wl_X0 : ∀ w ∈ wsX00, w ∈ lw_tbl := fun w h => (goodIn_r wsX00 [72, 74, 76, 78, 80] (by decide +kernel) (by decide +kernel) w h).1
set_option maxRecDepth 20000 in
theorem wl_X1 : ∀ w ∈ wsX10, w ∈ lw_tbl := fun w h => (goodIn_r wsX10 [166, 168, 170, 172] (by decide +kernel) (by decide +kernel) w h).1
set_option maxRecDepth 20000 in
theorem wl_X2 : ∀ w ∈ wsX20, w ∈ lw_tbl := fun w h => (goodIn_r wsX20 [142, 144, 146, 148] (by decide +kernel) (by decide +kernel) w h).1
set_option maxRecDepth 20000 in
theorem wl_X3 : ∀ w ∈ wsX30, w ∈ lw_tbl := fun w h => (goodIn_r wsX30 [105, 107, 109, 111, 113, 115, 117, 119, 121, 123] (by decide +kernel) (by decide +kernel) w h).1
set_option maxRecDepth 20000 in
theorem wl_X4 : ∀ w ∈ wsX40, w ∈ lw_tbl := fun w h => (goodIn_r wsX40 [201, 203, 205, 207, 209, 211, 213, 215, 217, 219, 221, 223, 225, 227] (by decide +kernel) (by decide +kernel) w h).1
set_option maxRecDepth 20000 in
theorem wl_X5 : ∀ w ∈ wsX50, w ∈ lw_tbl := fun w h => (goodIn_r wsX50 [233, 235] (by decide +kernel) (by decide +kernel) w h).1
set_option maxRecDepth 20000 in
theorem wl_X6 : ∀ w ∈ wsX60, w ∈ lw_tbl := fun w h => (goodIn_r wsX60 [760, 762, 764, 766, 768, 770] (by decide +kernel) (by decide +kernel) w h).1
theorem wl_app {a b : List Cond} (ha : ∀ w ∈ a, w ∈ lw_tbl) (hb : ∀ w ∈ b, w ∈ lw_tbl) : ∀ w ∈ a ++ b, w ∈ lw_tbl := fun w h => (List.mem_append.mp h).elim (ha w) (hb w)
theorem wl_0 : ∀ w ∈ wsL_law0, w ∈ lw_tbl := wl_app (wl_app (wl_app (wl_app (wl_app (wl_app (wl_app (wl_app (wl_app wl_r1 (wl_app wl_r2 (wl_app wl_r3 (wl_app wl_r4 (wl_app wl_r5 (wl_app wl_r6 (wl_app wl_r7 (wl_app wl_r8 (wl_app wl_r9 (wl_app wl_r10 (wl_app wl_r11 (wl_app wl_r12 (wl_app wl_r13 (wl_app wl_r14 (wl_app wl_r15 (wl_app wl_r16 (wl_app wl_r17 (wl_app wl_r18 (wl_app wl_r19 (wl_app wl_r20 (wl_app wl_r21 (wl_app wl_r22 (wl_app wl_r23 (wl_app wl_r24 (wl_app wl_r25 (wl_app wl_r26 (wl_app wl_r27 (wl_app wl_r28 (wl_app wl_r29 (wl_app wl_r30 (wl_r31))))))))))))))))))))))))))))))) wl_X5) wl_X6) wl_X4) wl_X3) wl_X2) wl_X1) wl_X0) (fun _ h => absurd h List.not_mem_nil)
set_option maxRecDepth 20000 in
theorem wsL_law_x0 : ∀ w ∈ (vx_atS RX5 32 "java/lang/IllegalStateException" ["java/lang/RuntimeException", "java/lang/Exception"]).filter goodWord, w ∈ lw_tbl := by decide +kernel
set_option maxRecDepth 20000 in
theorem wsL_law_x1 : ∀ w ∈ (vx_atS RX5 186 "java/lang/IllegalArgumentException" ["java/lang/RuntimeException", "java/lang/Exception"]).filter goodWord, w ∈ lw_tbl := by decide +kernel
set_option maxRecDepth 20000 in
theorem wsL_law_x2 : ∀ w ∈ (vx_atS RX4 58 "java/lang/IndexOutOfBoundsException" ["java/lang/RuntimeException", "java/lang/Exception"]).filter goodWord, w ∈ lw_tbl := by decide +kernel
set_option maxRecDepth 20000 in
theorem wsL_law_x3 : ∀ w ∈ (vx_atS RX5 199 "java/lang/IndexOutOfBoundsException" ["java/lang/RuntimeException", "java/lang/Exception"]).filter goodWord, w ∈ lw_tbl := by decide +kernel
theorem wsL_law_in : ∀ w ∈ wsL_law, w ∈ lw_tbl := wl_app (wl_app (wl_app (wl_app wl_0 wsL_law_x0) wsL_law_x1) wsL_law_x2) wsL_law_x3
theorem inlX0 : ∀ w ∈ wsX00, w ∈ wsL_law := fun _ h => List.mem_append_left _ (List.mem_append_left _ (List.mem_append_left _ (List.mem_append_left _ (List.mem_append_left _ (List.mem_append_right _ h)))))
theorem inlX1 : ∀ w ∈ wsX10, w ∈ wsL_law := fun _ h => List.mem_append_left _ (List.mem_append_left _ (List.mem_append_left _ (List.mem_append_left _ (List.mem_append_left _ (List.mem_append_left _ (List.mem_append_right _ h))))))
theorem inlX2 : ∀ w ∈ wsX20, w ∈ wsL_law := fun _ h => List.mem_append_left _ (List.mem_append_left _ (List.mem_append_left _ (List.mem_append_left _ (List.mem_append_left _ (List.mem_append_left _ (List.mem_append_left _ (List.mem_append_right _ h)))))))
theorem inlX3 : ∀ w ∈ wsX30, w ∈ wsL_law := fun _ h => List.mem_append_left _ (List.mem_append_left _ (List.mem_append_left _ (List.mem_append_left _ (List.mem_append_left _ (List.mem_append_left _ (List.mem_append_left _ (List.mem_append_left _ (List.mem_append_right _ h))))))))
theorem inlX4 : ∀ w ∈ wsX40, w ∈ wsL_law := fun _ h => List.mem_append_left _ (List.mem_append_left _ (List.mem_append_left _ (List.mem_append_left _ (List.mem_append_left _ (List.mem_append_left _ (List.mem_append_left _ (List.mem_append_left _ (List.mem_append_left _ (List.mem_append_right _ h)))))))))
theorem inlX5 : ∀ w ∈ wsX50, w ∈ wsL_law := fun _ h => List.mem_append_left _ (List.mem_append_left _ (List.mem_append_left _ (List.mem_append_left _ (List.mem_append_left _ (List.mem_append_left _ (List.mem_append_left _ (List.mem_append_left _ (List.mem_append_left _ (List.mem_append_left _ (List.mem_append_left _ (List.mem_append_right _ h)))))))))))
theorem inlX6 : ∀ w ∈ wsX60, w ∈ wsL_law := fun _ h => List.mem_append_left _ (List.mem_append_left _ (List.mem_append_left _ (List.mem_append_left _ (List.mem_append_left _ (List.mem_append_left _ (List.mem_append_left _ (List.mem_append_left _ (List.mem_append_left _ (List.mem_append_left _ (List.mem_append_right _ h))))))))))
end LAWIN
