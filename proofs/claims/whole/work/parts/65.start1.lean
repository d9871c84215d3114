/-! the words of the walks are words of the tables -/
theorem inT {L : List Cond} (is : List Nat) (h : L = is.filterMap (fun i => lw_tbl[i]?)) : ∀ w ∈ L, w ∈ lw_tbl := by
  subst h
  intro w hw
  obtain ⟨i, -, hi⟩ := List.mem_filterMap.mp hw
  exact List.mem_of_getElem? hi
set_option maxRecDepth 100000 in
theorem it_r1 : ∀ w ∈ wsL_law0_r1, w ∈ lw_tbl := inT [71, 72, 49, 789, 790, 55, 203, 73, 74, 75, 76, 77, 78, 79, 80, 50, 160, 102, 103, 53, 161, 162, 163, 164] rfl
set_option maxRecDepth 100000 in
theorem it_r2 : ∀ w ∈ wsL_law0_r2, w ∈ lw_tbl := inT [128, 165, 130, 54, 168, 173, 82, 83, 84, 101, 87, 85, 88, 89, 90, 104, 105, 106, 114, 116, 107, 108, 52, 109] rfl
set_option maxRecDepth 100000 in
theorem it_r3 : ∀ w ∈ wsL_law0_r3, w ∈ lw_tbl := inT [118, 110, 111, 51, 112, 113, 132, 133, 134, 135, 137, 139, 141, 143, 145, 791, 792, 793, 794, 797, 798, 800, 801, 802] rfl
set_option maxRecDepth 100000 in
theorem it_r4 : ∀ w ∈ wsL_law0_r4, w ∈ lw_tbl := inT [803, 804, 805, 806, 807, 808, 809, 883, 810, 811, 813, 814, 815, 816, 817, 818, 281, 282, 48, 283, 284, 285, 286, 287] rfl
set_option maxRecDepth 100000 in
theorem it_r5 : ∀ w ∈ wsL_law0_r5, w ∈ lw_tbl := inT [288, 289, 294, 59, 362, 60, 91, 290, 291, 292, 293, 378, 379, 380, 381, 382, 383, 61, 384, 888, 889, 890, 891, 795] rfl
set_option maxRecDepth 100000 in
theorem it_r6 : ∀ w ∈ wsL_law0_r6, w ∈ lw_tbl := inT [796, 892, 894, 20, 895, 896, 898, 21, 899, 884, 885, 886, 887, 385, 386, 387, 388, 389, 390, 391, 226, 393, 62, 208] rfl
set_option maxRecDepth 100000 in
theorem it_r7 : ∀ w ∈ wsL_law0_r7, w ∈ lw_tbl := inT [209, 210, 211, 117, 395, 396, 397, 398, 400, 402, 404, 406, 399, 417, 418, 419, 420, 119, 120, 421, 423, 1, 424, 425] rfl
set_option maxRecDepth 100000 in
theorem it_r8 : ∀ w ∈ wsL_law0_r8, w ∈ lw_tbl := inT [427, 2, 428, 429, 431, 3, 432, 473, 437, 64, 438, 474, 433, 434, 63, 435, 436, 439, 440, 441, 442, 443, 444, 445] rfl
set_option maxRecDepth 100000 in
theorem it_r9 : ∀ w ∈ wsL_law0_r9, w ∈ lw_tbl := inT [446, 1115, 447, 460, 461, 462, 463, 464, 466, 467, 468, 469, 470, 472, 471, 65, 900, 901, 902, 903, 799, 475, 476, 477] rfl
set_option maxRecDepth 100000 in
theorem it_r10 : ∀ w ∈ wsL_law0_r10, w ∈ lw_tbl := inT [478, 479, 480, 481, 482, 501, 68, 401, 522, 523, 69, 483, 485, 4, 486, 226, 212, 213, 214, 215, 216, 217, 66, 218] rfl
set_option maxRecDepth 100000 in
theorem it_r11 : ∀ w ∈ wsL_law0_r11, w ∈ lw_tbl := inT [219, 220, 67, 221, 222, 223, 224, 225, 488, 490, 5, 491, 492, 493, 494, 495, 496, 497, 498, 499, 500, 517, 518, 519] rfl
set_option maxRecDepth 100000 in
theorem it_r12 : ∀ w ∈ wsL_law0_r12, w ∈ lw_tbl := inT [520, 235, 524, 525, 526, 527, 528, 529, 70, 561, 564, 550, 553, 555, 557, 559, 531, 532, 533, 534, 537, 540, 227, 228] rfl
set_option maxRecDepth 100000 in
theorem it_r13 : ∀ w ∈ wsL_law0_r13, w ∈ lw_tbl := inT [229, 230, 237, 562, 231, 232, 233, 234, 236, 238, 239, 240, 241, 904, 905, 906, 907, 908, 910, 22, 911, 912, 914, 23] rfl
set_option maxRecDepth 100000 in
theorem it_r14 : ∀ w ∈ wsL_law0_r14, w ∈ lw_tbl := inT [915, 916, 917, 918, 919, 920, 921, 922, 923, 924, 925, 927, 24, 928, 929, 931, 25, 932, 582, 583, 584, 585, 586, 587] rfl
set_option maxRecDepth 100000 in
theorem it_r15 : ∀ w ∈ wsL_law0_r15, w ∈ lw_tbl := inT [588, 403, 589, 591, 6, 592, 594, 595, 596, 597, 598, 599, 600, 601, 602, 603, 604, 605, 606, 607, 608, 609, 610, 541] rfl
set_option maxRecDepth 100000 in
theorem it_r16 : ∀ w ∈ wsL_law0_r16, w ∈ lw_tbl := inT [538, 535, 611, 612, 613, 614, 615, 933, 934, 935, 936, 937, 939, 26, 940, 941, 943, 27, 944, 945, 947, 28, 948, 949] rfl
set_option maxRecDepth 100000 in
theorem it_r17 : ∀ w ∈ wsL_law0_r17, w ∈ lw_tbl := inT [951, 29, 952, 953, 955, 30, 956, 616, 617, 618, 619, 620, 621, 622, 623, 957, 958, 959, 960, 624, 625, 626, 627, 628] rfl
set_option maxRecDepth 100000 in
theorem it_r18 : ∀ w ∈ wsL_law0_r18, w ∈ lw_tbl := inT [629, 630, 631, 632, 633, 961, 962, 963, 964, 204, 205, 206, 207, 965, 966, 967, 968, 635, 636, 637, 638, 639, 640, 641] rfl
set_option maxRecDepth 100000 in
theorem it_r19 : ∀ w ∈ wsL_law0_r19, w ∈ lw_tbl := inT [166, 169, 643, 645, 7, 646, 167, 170, 171, 172, 647, 649, 8, 650, 669, 651, 653, 9, 654, 405, 407, 655, 656, 657] rfl
set_option maxRecDepth 100000 in
theorem it_r20 : ∀ w ∈ wsL_law0_r20, w ∈ lw_tbl := inT [658, 565, 659, 660, 661, 662, 663, 664, 665, 666, 667, 668, 670, 671, 672, 673, 674, 675, 676, 677, 678, 680, 10, 681] rfl
set_option maxRecDepth 100000 in
theorem it_r21 : ∀ w ∈ wsL_law0_r21, w ∈ lw_tbl := inT [140, 144, 682, 683, 684, 685, 686, 688, 11, 689, 146, 690, 691, 693, 12, 694, 522, 142, 552, 554, 556, 136, 138, 695] rfl
set_option maxRecDepth 100000 in
theorem it_r22 : ∀ w ∈ wsL_law0_r22, w ∈ lw_tbl := inT [696, 697, 698, 700, 13, 701, 558, 560, 702, 703, 704, 705, 706, 708, 14, 709, 563, 566, 542, 710, 711, 712, 713, 714] rfl
set_option maxRecDepth 100000 in
theorem it_r23 : ∀ w ∈ wsL_law0_r23, w ∈ lw_tbl := inT [715, 716, 717, 718, 719, 720, 721, 722, 723, 725, 15, 726, 727, 729, 16, 730, 731, 733, 17, 734, 735, 737, 18, 738] rfl
set_option maxRecDepth 100000 in
theorem it_r24 : ∀ w ∈ wsL_law0_r24, w ∈ lw_tbl := inT [969, 970, 971, 972, 819, 820, 821, 822, 823, 812, 973, 975, 31, 976, 981, 977, 979, 32, 980, 982, 984, 33, 985, 986] rfl
set_option maxRecDepth 100000 in
theorem it_r25 : ∀ w ∈ wsL_law0_r25, w ∈ lw_tbl := inT [987, 988, 990, 34, 991, 992, 994, 35, 995, 996, 998, 36, 999, 1000, 1001, 1002, 1004, 37, 1005, 1006, 1008, 38, 1009, 1010] rfl
set_option maxRecDepth 100000 in
theorem it_r26 : ∀ w ∈ wsL_law0_r26, w ∈ lw_tbl := inT [1012, 39, 1013, 1014, 1016, 40, 1017, 1018, 1020, 41, 1021, 1022, 1024, 42, 1025, 1026, 1028, 43, 1029, 1030, 1032, 44, 1033, 1034] rfl
set_option maxRecDepth 100000 in
theorem it_r27 : ∀ w ∈ wsL_law0_r27, w ∈ lw_tbl := inT [1036, 45, 1037, 242, 243, 244, 245, 1038, 1039, 1040, 1041, 246, 247, 248, 249, 1042, 1043, 1044, 1045, 250, 251, 252, 253, 1046] rfl
set_option maxRecDepth 100000 in
theorem it_r28 : ∀ w ∈ wsL_law0_r28, w ∈ lw_tbl := inT [1047, 1048, 1049, 254, 255, 256, 257, 1050, 1051, 1052, 1053, 258, 259, 260, 261, 1054, 1055, 1056, 1057, 262, 263, 264, 265, 1058] rfl
set_option maxRecDepth 100000 in
theorem it_r29 : ∀ w ∈ wsL_law0_r29, w ∈ lw_tbl := inT [1059, 1060, 1061, 739, 740, 741, 742, 743, 744, 745, 1062, 1063, 1064, 1065, 747, 748, 749, 750, 751, 752, 753, 1066, 1067, 1068] rfl
set_option maxRecDepth 100000 in
theorem it_r30 : ∀ w ∈ wsL_law0_r30, w ∈ lw_tbl := inT [1069, 754, 755, 756, 757, 758, 759, 760, 1070, 1071, 1072, 1073, 761, 762, 763, 764, 765, 766, 767, 1074, 1075, 1076, 1077, 768] rfl
set_option maxRecDepth 100000 in
theorem it_r31 : ∀ w ∈ wsL_law0_r31, w ∈ lw_tbl := inT [769, 770, 771, 772, 773, 774, 775, 777, 19, 778, 780, 278, 279, 280, 1078, 1079, 1080, 1081, 1082, 1084, 46, 1085, 1086, 1088] rfl
set_option maxRecDepth 100000 in
theorem it_r32 : ∀ w ∈ wsL_law0_r32, w ∈ lw_tbl := inT [47, 1089, 781, 782, 783, 784, 785, 786, 787, 539, 536, 1090, 1091, 1092, 1093, 266, 267, 268, 269, 270, 271, 272, 273, 274] rfl
set_option maxRecDepth 100000 in
theorem it_r33 : ∀ w ∈ wsL_law0_r33, w ∈ lw_tbl := inT [275, 276, 551, 277, 1094, 1095, 1096, 1097, 1098, 1099] rfl
set_option maxRecDepth 100000 in
theorem it_wsX50 : ∀ w ∈ wsX50, w ∈ lw_tbl := inT [174, 176, 178, 180, 182, 184, 186, 188, 190, 192, 194, 196, 198, 200] rfl
set_option maxRecDepth 100000 in
theorem it_wsX60 : ∀ w ∈ wsX60, w ∈ lw_tbl := inT [824, 826, 828, 830, 832, 834, 836, 838, 840, 842, 844, 846, 848, 850, 852, 854, 856, 858, 860, 862, 864, 866, 868, 870, 872, 874, 876, 878, 880] rfl
set_option maxRecDepth 100000 in
theorem it_wsX10 : ∀ w ∈ wsX10, w ∈ lw_tbl := inT [92, 94, 96, 98] rfl
set_option maxRecDepth 100000 in
theorem it_wsJx4a65c0 : ∀ w ∈ wsJx4a65c0, w ∈ lw_tbl := inT [125, 121, 123] rfl
set_option maxRecDepth 100000 in
theorem it_wsX00 : ∀ w ∈ wsX00, w ∈ lw_tbl := inT [147, 149, 151, 153, 155, 157] rfl
set_option maxRecDepth 100000 in
theorem it_wsX40 : ∀ w ∈ wsX40, w ∈ lw_tbl := inT [408, 410, 412, 414] rfl
set_option maxRecDepth 100000 in
theorem it_wsX20 : ∀ w ∈ wsX20, w ∈ lw_tbl := inT [567, 569, 571, 573, 575, 577, 579] rfl
set_option maxRecDepth 100000 in
theorem it_wsX30 : ∀ w ∈ wsX30, w ∈ lw_tbl := inT [543, 545, 547] rfl
set_option maxRecDepth 100000 in
theorem it_t1 : ∀ w ∈ (vx_atS RX5 55 "java/lang/IndexOutOfBoundsException" ["java/lang/RuntimeException", "java/lang/Exception"]).filter goodWord, w ∈ lw_tbl := inT [56, 316, 325, 329, 332, 334, 317, 318, 77, 78, 319, 324, 330, 350, 306, 351, 308, 352, 310, 320, 322, 312, 346, 347, 349, 312, 337, 338, 339, 340, 340, 341, 342, 343, 343, 344, 345, 346, 336, 295, 303, 304, 305, 307, 309, 311, 315, 314, 313] (by decide +kernel)
set_option maxRecDepth 100000 in
theorem it_t2 : ∀ w ∈ (vx_atS RX5 65 "java/lang/IllegalStateException" ["java/lang/RuntimeException", "java/lang/Exception"]).filter goodWord, w ∈ lw_tbl := inT [56, 316, 325, 329, 332, 334, 317, 318, 77, 78, 319, 324, 330, 350, 306, 351, 308, 352, 310, 320, 322, 312, 346, 347, 349, 312, 373, 374, 375, 340, 340, 341, 342, 343, 343, 344, 345, 346, 372, 363, 365, 328, 366, 367, 368, 369, 315, 314, 370] (by decide +kernel)
set_option maxRecDepth 100000 in
theorem it_t3 : ∀ w ∈ (vx_atS RX5 95 "java/lang/IllegalArgumentException" ["java/lang/RuntimeException", "java/lang/Exception"]).filter goodWord, w ∈ lw_tbl := inT [56, 316, 325, 329, 332, 334, 317, 318, 77, 78, 319, 324, 330, 350, 306, 351, 308, 352, 310, 320, 322, 312, 346, 347, 349, 312, 512, 513, 514, 340, 340, 341, 342, 343, 343, 344, 345, 346, 511, 502, 504, 327, 505, 506, 507, 508, 315, 314, 509] (by decide +kernel)
set_option maxRecDepth 100000 in
theorem it_gxw : ∀ w ∈ gxw, w ∈ lw_tbl := inT [131, 394, 81, 530, 1108, 1110, 1101, 129, 465, 299, 300, 1116, 297, 298, 301, 302, 86, 296, 364, 503] rfl
set_option maxRecDepth 100000 in
theorem it_str : ∀ w ∈ gstr.map (fun x => Cond.stringRef RX5 x.1 x.2), w ∈ lw_tbl := inT [634, 642, 746, 788, 487, 779, 593, 335, 371, 392, 510, 521] rfl
set_option maxRecDepth 100000 in
theorem it_0 : ∀ w ∈ wsL_law0, w ∈ lw_tbl := List.forall_mem_append.mpr ⟨List.forall_mem_append.mpr ⟨List.forall_mem_append.mpr ⟨List.forall_mem_append.mpr ⟨List.forall_mem_append.mpr ⟨List.forall_mem_append.mpr ⟨List.forall_mem_append.mpr ⟨List.forall_mem_append.mpr ⟨List.forall_mem_append.mpr ⟨List.forall_mem_append.mpr ⟨it_r1, List.forall_mem_append.mpr ⟨it_r2, List.forall_mem_append.mpr ⟨it_r3, List.forall_mem_append.mpr ⟨it_r4, List.forall_mem_append.mpr ⟨it_r5, List.forall_mem_append.mpr ⟨it_r6, List.forall_mem_append.mpr ⟨it_r7, List.forall_mem_append.mpr ⟨it_r8, List.forall_mem_append.mpr ⟨it_r9, List.forall_mem_append.mpr ⟨it_r10, List.forall_mem_append.mpr ⟨it_r11, List.forall_mem_append.mpr ⟨it_r12, List.forall_mem_append.mpr ⟨it_r13, List.forall_mem_append.mpr ⟨it_r14, List.forall_mem_append.mpr ⟨it_r15, List.forall_mem_append.mpr ⟨it_r16, List.forall_mem_append.mpr ⟨it_r17, List.forall_mem_append.mpr ⟨it_r18, List.forall_mem_append.mpr ⟨it_r19, List.forall_mem_append.mpr ⟨it_r20, List.forall_mem_append.mpr ⟨it_r21, List.forall_mem_append.mpr ⟨it_r22, List.forall_mem_append.mpr ⟨it_r23, List.forall_mem_append.mpr ⟨it_r24, List.forall_mem_append.mpr ⟨it_r25, List.forall_mem_append.mpr ⟨it_r26, List.forall_mem_append.mpr ⟨it_r27, List.forall_mem_append.mpr ⟨it_r28, List.forall_mem_append.mpr ⟨it_r29, List.forall_mem_append.mpr ⟨it_r30, List.forall_mem_append.mpr ⟨it_r31, List.forall_mem_append.mpr ⟨it_r32, it_r33⟩⟩⟩⟩⟩⟩⟩⟩⟩⟩⟩⟩⟩⟩⟩⟩⟩⟩⟩⟩⟩⟩⟩⟩⟩⟩⟩⟩⟩⟩⟩⟩, it_wsX50⟩, it_wsX60⟩, it_wsX10⟩, it_wsJx4a65c0⟩, it_wsX00⟩, it_wsX40⟩, it_wsX20⟩, it_wsX30⟩, fun _ h => nomatch h⟩
set_option maxRecDepth 100000 in
theorem wsL_in : ∀ w ∈ wsL_law, w ∈ lw_tbl := List.forall_mem_append.mpr ⟨List.forall_mem_append.mpr ⟨List.forall_mem_append.mpr ⟨it_0, it_t1⟩, it_t2⟩, it_t3⟩
