/-! words by their places -/
theorem zmem_f {big ws : List Cond} (is : List Nat) (h : is.map (fun i => big[i]?) = ws.map some) : ∀ w ∈ ws, w ∈ big := by
  intro w hw
  have h1 : some w ∈ ws.map some := List.mem_map.mpr ⟨w, hw, rfl⟩
  rw [← h] at h1
  obtain ⟨i, -, hi⟩ := List.mem_map.mp h1
  exact List.mem_of_getElem? hi
theorem zmem_app {big a b : List Cond} (ha : ∀ w ∈ a, w ∈ big) (hb : ∀ w ∈ b, w ∈ big) : ∀ w ∈ a ++ b, w ∈ big := fun w h => (List.mem_append.mp h).elim (ha w) (hb w)
set_option maxRecDepth 20000 in
theorem zi_wsL_law_r1 : ∀ w ∈ wsL_law_r1, w ∈ lw_tbl := zmem_f [55, 56, 41, 712, 713, 52, 57, 58, 59, 60, 61, 62, 63, 64, 42, 373, 79, 80, 43, 374, 96, 97, 44, 375] (by rfl)
set_option maxRecDepth 20000 in
theorem zi_wsL_law_r2 : ∀ w ∈ wsL_law_r2, w ∈ lw_tbl := zmem_f [177, 178, 45, 376, 377, 378, 379, 223, 224, 46, 380, 243, 244, 47, 381, 382, 383, 384, 66, 67, 68, 78, 69, 70] (by rfl)
set_option maxRecDepth 20000 in
theorem zi_wsL_law_r3 : ∀ w ∈ wsL_law_r3, w ∈ lw_tbl := zmem_f [81, 82, 83, 84, 95, 86, 87, 85, 99, 100, 101, 102, 105, 108, 111, 114, 117, 120, 123, 126, 130, 134, 137, 139] (by rfl)
set_option maxRecDepth 20000 in
theorem zi_wsL_law_r4 : ∀ w ∈ wsL_law_r4, w ∈ lw_tbl := zmem_f [141, 143, 179, 180, 181, 182, 186, 187, 188, 189, 191, 193, 195, 183, 197, 200, 185, 226, 227, 228, 229, 230, 231, 232] (by rfl)
set_option maxRecDepth 20000 in
theorem zi_wsL_law_r5 : ∀ w ∈ wsL_law_r5, w ∈ lw_tbl := zmem_f [246, 247, 248, 249, 250, 251, 252, 264, 265, 266, 48, 267, 1032, 268, 269, 270, 271, 272, 1033, 274, 275, 276, 277, 278] (by rfl)
set_option maxRecDepth 20000 in
theorem zi_wsL_law_r6 : ∀ w ∈ wsL_law_r6, w ∈ lw_tbl := zmem_f [279, 280, 281, 282, 283, 49, 284, 285, 286, 287, 288, 290, 291, 50, 292, 293, 294, 51, 295, 296, 297, 298, 299, 300] (by rfl)
set_option maxRecDepth 20000 in
theorem zi_wsL_law_r7 : ∀ w ∈ wsL_law_r7, w ∈ lw_tbl := zmem_f [301, 302, 303, 304, 305, 306, 308, 310, 312, 313, 314, 315, 316, 317, 318, 319, 320, 321, 322, 323, 324, 326, 0, 327] (by rfl)
set_option maxRecDepth 20000 in
theorem zi_wsL_law_r8 : ∀ w ∈ wsL_law_r8, w ∈ lw_tbl := zmem_f [328, 329, 330, 331, 332, 333, 334, 335, 337, 1, 338, 339, 340, 341, 342, 344, 2, 345, 346, 347, 348, 349, 351, 352] (by rfl)
set_option maxRecDepth 20000 in
theorem zi_wsL_law_r9 : ∀ w ∈ wsL_law_r9, w ∈ lw_tbl := zmem_f [353, 354, 355, 356, 357, 358, 359, 360, 361, 362, 363, 364, 365, 366, 367, 368, 369, 370, 371, 372, 714, 715, 716, 717] (by rfl)
set_option maxRecDepth 20000 in
theorem zi_wsL_law_r10 : ∀ w ∈ wsL_law_r10, w ∈ lw_tbl := zmem_f [727, 729, 733, 734, 736, 737, 738, 739, 740, 741, 743, 746, 747, 749, 751, 752, 753, 754, 756, 718, 720, 19, 721, 722] (by rfl)
set_option maxRecDepth 20000 in
theorem zi_wsL_law_r11 : ∀ w ∈ wsL_law_r11, w ∈ lw_tbl := zmem_f [724, 20, 725, 411, 412, 413, 414, 820, 821, 822, 823, 726, 824, 825, 826, 415, 416, 417, 418, 827, 828, 829, 830, 419] (by rfl)
set_option maxRecDepth 20000 in
theorem zi_wsL_law_r12 : ∀ w ∈ wsL_law_r12, w ∈ lw_tbl := zmem_f [420, 421, 422, 831, 832, 833, 834, 730, 835, 837, 21, 838, 728, 731, 732, 735, 839, 841, 22, 842, 843, 845, 23, 846] (by rfl)
set_option maxRecDepth 20000 in
theorem zi_wsL_law_r13 : ∀ w ∈ wsL_law_r13, w ∈ lw_tbl := zmem_f [847, 849, 24, 850, 423, 424, 425, 426, 427, 428, 429, 430, 431, 432, 433, 434, 435, 436, 437, 438, 439, 440, 441, 851] (by rfl)
set_option maxRecDepth 20000 in
theorem zi_wsL_law_r14 : ∀ w ∈ wsL_law_r14, w ∈ lw_tbl := zmem_f [852, 853, 854, 745, 742, 744, 442, 443, 444, 445, 446, 447, 448, 449, 450, 855, 856, 857, 858, 859, 861, 25, 862, 863] (by rfl)
set_option maxRecDepth 20000 in
theorem zi_wsL_law_r15 : ∀ w ∈ wsL_law_r15, w ∈ lw_tbl := zmem_f [865, 26, 866, 451, 452, 453, 454, 455, 456, 457, 458, 867, 868, 869, 870, 871, 873, 27, 874, 459, 460, 461, 462, 463] (by rfl)
set_option maxRecDepth 20000 in
theorem zi_wsL_law_r16 : ∀ w ∈ wsL_law_r16, w ∈ lw_tbl := zmem_f [464, 465, 466, 467, 468, 470, 3, 471, 875, 876, 877, 878, 879, 881, 28, 882, 883, 884, 885, 472, 473, 474, 475, 886] (by rfl)
set_option maxRecDepth 20000 in
theorem zi_wsL_law_r17 : ∀ w ∈ wsL_law_r17, w ∈ lw_tbl := zmem_f [887, 888, 889, 476, 477, 478, 479, 480, 481, 482, 483, 890, 891, 892, 893, 484, 485, 486, 487, 488, 489, 490, 491, 492] (by rfl)
set_option maxRecDepth 20000 in
theorem zi_wsL_law_r18 : ∀ w ∈ wsL_law_r18, w ∈ lw_tbl := zmem_f [493, 494, 495, 496, 894, 895, 896, 897, 497, 498, 499, 500, 501, 503, 4, 504, 505, 506, 507, 508, 509, 511, 5, 512] (by rfl)
set_option maxRecDepth 20000 in
theorem zi_wsL_law_r19 : ∀ w ∈ wsL_law_r19, w ∈ lw_tbl := zmem_f [513, 514, 516, 6, 517, 518, 520, 7, 521, 522, 524, 8, 525, 526, 528, 9, 529, 530, 532, 10, 533, 534, 536, 11] (by rfl)
set_option maxRecDepth 20000 in
theorem zi_wsL_law_r20 : ∀ w ∈ wsL_law_r20, w ∈ lw_tbl := zmem_f [537, 538, 539, 540, 541, 542, 543, 544, 546, 12, 547, 548, 550, 13, 551, 552, 554, 14, 555, 556, 557, 53, 558, 898] (by rfl)
set_option maxRecDepth 20000 in
theorem zi_wsL_law_r21 : ∀ w ∈ wsL_law_r21, w ∈ lw_tbl := zmem_f [899, 900, 901, 902, 904, 29, 905, 906, 908, 30, 909, 748, 750, 910, 912, 31, 913, 755, 914, 916, 32, 917, 918, 920] (by rfl)
set_option maxRecDepth 20000 in
theorem zi_wsL_law_r22 : ∀ w ∈ wsL_law_r22, w ∈ lw_tbl := zmem_f [33, 921, 922, 923, 924, 925, 926, 927, 928, 930, 34, 931, 932, 934, 35, 935, 936, 938, 36, 939, 559, 560, 561, 562] (by rfl)
set_option maxRecDepth 20000 in
theorem zi_wsL_law_r23 : ∀ w ∈ wsL_law_r23, w ∈ lw_tbl := zmem_f [940, 941, 942, 943, 563, 564, 565, 566, 944, 945, 946, 947, 567, 568, 569, 570, 948, 949, 950, 951, 571, 572, 573, 574] (by rfl)
set_option maxRecDepth 20000 in
theorem zi_wsL_law_r24 : ∀ w ∈ wsL_law_r24, w ∈ lw_tbl := zmem_f [952, 953, 954, 955, 575, 576, 577, 578, 579, 580, 581, 582, 583, 585, 15, 586, 956, 957, 958, 959, 587, 588, 589, 590] (by rfl)
set_option maxRecDepth 20000 in
theorem zi_wsL_law_r25 : ∀ w ∈ wsL_law_r25, w ∈ lw_tbl := zmem_f [591, 592, 593, 594, 595, 596, 597, 598, 599, 600, 960, 961, 962, 963, 601, 602, 603, 604, 613, 605, 607, 16, 608, 609] (by rfl)
set_option maxRecDepth 20000 in
theorem zi_wsL_law_r26 : ∀ w ∈ wsL_law_r26, w ∈ lw_tbl := zmem_f [610, 611, 612, 964, 965, 966, 967, 968, 970, 37, 971, 972, 974, 38, 975, 614, 615, 616, 617, 618, 619, 620, 976, 977] (by rfl)
set_option maxRecDepth 20000 in
theorem zi_wsL_law_r27 : ∀ w ∈ wsL_law_r27, w ∈ lw_tbl := zmem_f [978, 979, 621, 622, 623, 624, 625, 626, 627, 628, 629, 630, 631, 54, 632, 633, 634, 635, 980, 981, 982, 983, 984, 986] (by rfl)
set_option maxRecDepth 20000 in
theorem zi_wsL_law_r28 : ∀ w ∈ wsL_law_r28, w ∈ lw_tbl := zmem_f [39, 987, 636, 637, 638, 639, 988, 989, 990, 991, 640, 641, 642, 643, 644, 646, 17, 647, 648, 649, 650, 651, 992, 993] (by rfl)
set_option maxRecDepth 20000 in
theorem zi_wsL_law_r29 : ∀ w ∈ wsL_law_r29, w ∈ lw_tbl := zmem_f [994, 995, 652, 653, 654, 655, 656, 657, 658, 659, 996, 997, 998, 999, 660, 661, 662, 663, 664, 665, 666, 667, 1000, 1001] (by rfl)
set_option maxRecDepth 20000 in
theorem zi_wsL_law_r30 : ∀ w ∈ wsL_law_r30, w ∈ lw_tbl := zmem_f [1002, 1003, 668, 669, 670, 671, 1004, 1005, 1006, 1007, 672, 673, 674, 675, 676, 677, 678, 679, 1008, 1009, 1010, 1011, 680, 681] (by rfl)
set_option maxRecDepth 20000 in
theorem zi_wsL_law_r31 : ∀ w ∈ wsL_law_r31, w ∈ lw_tbl := zmem_f [682, 683, 684, 685, 686, 1012, 1013, 1014, 1015, 687, 688, 689, 690, 691, 692, 693, 694, 695, 1016, 1017, 1018, 1019, 696, 697] (by rfl)
set_option maxRecDepth 20000 in
theorem zi_wsL_law_r32 : ∀ w ∈ wsL_law_r32, w ∈ lw_tbl := zmem_f [698, 699, 700, 702, 18, 703, 1020, 1021, 1022, 1023, 704, 705, 706, 707, 1024, 1025, 1026, 1027, 708, 709, 710, 711, 1028, 1029] (by rfl)
set_option maxRecDepth 20000 in
theorem zi_wsL_law_r33 : ∀ w ∈ wsL_law_r33, w ∈ lw_tbl := zmem_f [1030, 1031] (by rfl)
set_option maxRecDepth 20000 in
theorem inX0 : ∀ w ∈ wsX00, w ∈ lw_tbl := zmem_f [146, 148, 150, 152, 154, 156, 158, 160, 162, 164, 166, 168, 170, 172, 174] (by rfl)
set_option maxRecDepth 20000 in
theorem inX1 : ∀ w ∈ wsX10, w ∈ lw_tbl := zmem_f [234, 236, 238, 240] (by rfl)
set_option maxRecDepth 20000 in
theorem inX2 : ∀ w ∈ wsX20, w ∈ lw_tbl := zmem_f [88, 90, 92] (by rfl)
set_option maxRecDepth 20000 in
theorem inX3 : ∀ w ∈ wsX30, w ∈ lw_tbl := zmem_f [73, 75] (by rfl)
set_option maxRecDepth 20000 in
theorem inX4 : ∀ w ∈ wsX40, w ∈ lw_tbl := zmem_f [254, 256, 258, 260] (by rfl)
set_option maxRecDepth 20000 in
theorem inX5 : ∀ w ∈ wsX50, w ∈ lw_tbl := zmem_f [202, 204, 206, 208, 210, 212, 214, 216, 218, 220] (by rfl)
set_option maxRecDepth 20000 in
theorem inX6 : ∀ w ∈ wsX60, w ∈ lw_tbl := zmem_f [385, 387, 389, 391, 393, 395, 397, 399, 401, 403, 405, 407] (by rfl)
set_option maxRecDepth 20000 in
theorem inX7 : ∀ w ∈ wsX70, w ∈ lw_tbl := zmem_f [757, 759, 761, 763, 765, 767, 769, 771, 773, 775, 777, 779, 781, 783, 785, 787, 789, 791, 793, 795, 797, 799, 801, 803, 805, 807, 809, 811, 813, 815, 817] (by rfl)
theorem wsL_law_in : ∀ w ∈ wsL_law, w ∈ lw_tbl := zmem_app (zmem_app (zmem_app (zmem_app (zmem_app (zmem_app (zmem_app (zmem_app (zmem_app (zmem_app zi_wsL_law_r1 (zmem_app zi_wsL_law_r2 (zmem_app zi_wsL_law_r3 (zmem_app zi_wsL_law_r4 (zmem_app zi_wsL_law_r5 (zmem_app zi_wsL_law_r6 (zmem_app zi_wsL_law_r7 (zmem_app zi_wsL_law_r8 (zmem_app zi_wsL_law_r9 (zmem_app zi_wsL_law_r10 (zmem_app zi_wsL_law_r11 (zmem_app zi_wsL_law_r12 (zmem_app zi_wsL_law_r13 (zmem_app zi_wsL_law_r14 (zmem_app zi_wsL_law_r15 (zmem_app zi_wsL_law_r16 (zmem_app zi_wsL_law_r17 (zmem_app zi_wsL_law_r18 (zmem_app zi_wsL_law_r19 (zmem_app zi_wsL_law_r20 (zmem_app zi_wsL_law_r21 (zmem_app zi_wsL_law_r22 (zmem_app zi_wsL_law_r23 (zmem_app zi_wsL_law_r24 (zmem_app zi_wsL_law_r25 (zmem_app zi_wsL_law_r26 (zmem_app zi_wsL_law_r27 (zmem_app zi_wsL_law_r28 (zmem_app zi_wsL_law_r29 (zmem_app zi_wsL_law_r30 (zmem_app zi_wsL_law_r31 (zmem_app zi_wsL_law_r32 zi_wsL_law_r33)))))))))))))))))))))))))))))))) inX6) inX7) inX3) inX2) inX0) inX5) inX1) inX4) (fun w h => absurd h List.not_mem_nil)
