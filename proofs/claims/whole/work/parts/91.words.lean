/-! ===== the words of the walk are the tables' words, each by its place ===== -/
theorem tb_in {big ws : List Cond} (ps : List Nat) (h : ws = ps.filterMap (fun i => big[i]?)) : ∀ w ∈ ws, w ∈ big := fun w hw => by
  rw [h] at hw
  obtain ⟨i, -, hi⟩ := List.mem_filterMap.mp hw
  exact List.mem_of_getElem? hi
set_option maxRecDepth 20000 in
theorem tb_0 : ∀ w ∈ pr_A0, w ∈ lw_tbl := tb_in [123, 124, 68, 69, 368, 125, 128, 131, 134, 137, 140, 143, 146, 148, 685, 604, 601, 603, 50, 179, 180, 118, 181, 376, 182, 693, 694, 671, 670, 61, 550, 638, 639, 640, 60, 641, 645, 646, 564, 565] (by decide +kernel)
set_option maxRecDepth 20000 in
theorem tb_1 : ∀ w ∈ pr_A1, w ∈ lw_tbl := tb_in [634, 647, 497, 498, 635, 636, 637, 56, 642, 644, 5, 651, 656, 309, 310, 311, 727, 312, 755, 743, 314, 316, 776, 751, 752, 754, 7, 58, 763, 759, 760, 762, 9, 767, 771, 322, 324, 748, 750, 6] (by decide +kernel)
set_option maxRecDepth 20000 in
theorem tb_2 : ∀ w ∈ pr_A2, w ∈ lw_tbl := tb_in [756, 758, 8, 318, 320, 764, 766, 10, 768, 770, 11, 747, 326, 328, 772, 740, 741, 742, 744, 745, 746, 773, 774, 775, 739, 87, 88, 89, 90, 173, 174, 175, 176, 188, 178, 82, 235, 83, 84, 53] (by decide +kernel)
set_option maxRecDepth 20000 in
theorem tb_3 : ∀ w ∈ pr_A3, w ∈ lw_tbl := tb_in [236, 119, 120, 54, 239, 169, 170, 55, 242, 86, 122, 172, 81, 75, 76, 254, 255, 256, 78, 52, 80, 74, 364, 91, 93, 95, 96, 97, 98, 380, 198, 204, 372, 190, 193, 195, 201, 203, 208, 211] (by decide +kernel)
set_option maxRecDepth 20000 in
theorem tb_4 : ∀ w ∈ pr_A4, w ∈ lw_tbl := tb_in [373, 374, 375, 377, 378, 379, 361, 362, 363, 365, 366, 367, 369, 370, 371, 358, 258, 260, 262, 264, 265, 266, 267, 355, 356, 357, 354, 680, 681, 689, 690, 691, 692, 676, 677, 678, 679, 682, 683, 684] (by decide +kernel)
set_option maxRecDepth 20000 in
theorem tb_5 : ∀ w ∈ pr_A5, w ∈ lw_tbl := tb_in [686, 687, 688, 675, 669, 672, 673, 674, 668, 412, 629, 630, 410, 411, 51, 428, 494, 495, 426, 427, 486, 490, 496, 491, 492, 493, 698, 699, 432, 470, 515, 516, 468, 469, 517, 512, 513, 514, 511, 529] (by decide +kernel)
set_option maxRecDepth 20000 in
theorem tb_6 : ∀ w ∈ pr_A6, w ∈ lw_tbl := tb_in [525, 526, 528, 1, 522, 523, 524, 521, 538, 542, 546, 547, 548, 549, 558, 562, 563, 555, 557, 3, 559, 560, 561, 554, 577, 573, 574, 576, 581, 585, 589, 593, 570, 571, 572, 578, 579, 580, 582, 583] (by decide +kernel)
set_option maxRecDepth 20000 in
theorem tb_7 : ∀ w ∈ pr_A7, w ∈ lw_tbl := tb_in [584, 586, 587, 588, 590, 591, 592, 569, 534, 535, 536, 537, 539, 540, 541, 543, 544, 545, 551, 552, 553, 566, 568, 4, 533, 597, 598, 599, 600, 508, 510, 0, 518, 519, 520, 530, 532, 2, 594, 595] (by decide +kernel)
set_option maxRecDepth 20000 in
theorem tb_8 : ∀ w ∈ pr_A8, w ∈ lw_tbl := tb_in [596, 507, 708, 666, 667, 709, 430, 431, 710, 505, 506, 707, 446, 450, 615, 294, 295, 71, 297, 296, 73, 293, 67, 70, 381, 382, 289, 290, 57, 383, 384, 305, 306, 385, 72, 292, 308, 351, 352, 353] (by decide +kernel)
set_option maxRecDepth 20000 in
theorem tb_9 : ∀ w ∈ pr_A9, w ∈ lw_tbl := tb_in [66, 403, 404, 401, 402, 400, 416, 417, 419, 423, 413, 424, 409, 414, 415, 421, 422, 425, 429, 408, 436, 441, 443, 444, 445, 447, 448, 449, 440, 454, 455, 459, 466, 464, 465, 467, 463, 474, 478, 483] (by decide +kernel)
set_option maxRecDepth 20000 in
theorem tb_10 : ∀ w ∈ pr_A10, w ∈ lw_tbl := tb_in [484, 485, 487, 488, 489, 482, 503, 504, 502, 616, 610, 611, 612, 613, 614, 609, 621, 620, 626, 627, 628, 631, 632, 633, 648, 649, 650, 652, 653, 654, 655, 625, 660, 665, 695, 696, 697, 664, 704, 705] (by decide +kernel)
set_option maxRecDepth 20000 in
theorem tb_11 : ∀ w ∈ pr_A11, w ∈ lw_tbl := tb_in [706, 703, 714, 721, 722, 718, 723, 719, 720, 724, 725, 726, 731, 736, 737, 738, 735, 788, 781, 782, 783, 784, 785, 787, 12, 780, 792, 800, 797, 799, 13, 796, 804, 817, 824, 821, 825, 822, 823, 59] (by decide +kernel)
set_option maxRecDepth 20000 in
theorem tb_12 : ∀ w ∈ pr_A12, w ∈ lw_tbl := tb_in [814, 815, 816, 818, 820, 15, 810, 826, 827, 856, 828, 829, 833, 811, 813, 14, 809, 863, 973, 988, 881, 1032, 1040, 872, 861, 862, 928, 878, 880, 17, 860, 864, 876, 873, 877, 869, 871, 16, 874, 875] (by decide +kernel)
set_option maxRecDepth 20000 in
theorem tb_13 : ∀ w ∈ pr_A13, w ∈ lw_tbl := tb_in [868, 885, 889, 893, 897, 908, 904, 902, 903, 905, 907, 18, 901, 912, 916, 924, 925, 927, 20, 920, 921, 923, 19, 977, 945, 949, 950, 954, 962, 958, 959, 961, 27, 970, 971, 972, 966, 967, 969, 29] (by decide +kernel)
set_option maxRecDepth 20000 in
theorem tb_14 : ∀ w ∈ pr_A14, w ∈ lw_tbl := tb_in [974, 976, 30, 981, 951, 953, 25, 985, 986, 987, 992, 996, 1004, 1000, 1001, 1003, 36, 942, 944, 23, 946, 948, 24, 955, 957, 26, 963, 965, 28, 978, 980, 31, 982, 984, 32, 989, 991, 33, 993, 995] (by decide +kernel)
set_option maxRecDepth 20000 in
theorem tb_15 : ∀ w ∈ pr_A15, w ∈ lw_tbl := tb_in [34, 997, 999, 35, 941, 938, 940, 22, 937, 933, 934, 936, 21, 932, 1008, 1012, 1020, 1017, 1019, 37, 1016, 1024, 1036, 1029, 1031, 38, 1033, 1035, 39, 1037, 1039, 40, 1028, 1048, 1045, 1047, 41, 1044, 1052, 1056] (by decide +kernel)
set_option maxRecDepth 20000 in
theorem tb_16 : ∀ w ∈ pr_A16, w ∈ lw_tbl := tb_in [1057, 830, 1058, 1062, 1074, 831, 1086, 832, 1071, 1073, 43, 1078, 1082, 1090, 1075, 1077, 44, 1083, 1085, 46, 834, 1079, 1081, 45, 1087, 1089, 47, 1070, 1067, 1069, 42, 1066, 1100, 1096, 1095, 1064, 1065, 1097, 1099, 48] (by decide +kernel)
set_option maxRecDepth 20000 in
theorem tb_17 : ∀ w ∈ pr_A17, w ∈ lw_tbl := tb_in [1094, 1104, 1108, 1112, 565, 498, 641, 62, 63, 805, 806, 1113, 64, 65, 807, 808, 397, 398, 399, 857, 858, 859, 405, 406, 407, 865, 866, 867, 433, 434, 435, 882, 883, 884, 437, 438, 439, 886, 887, 888] (by decide +kernel)
set_option maxRecDepth 20000 in
theorem tb_18 : ∀ w ∈ pr_A18, w ∈ lw_tbl := tb_in [451, 452, 453, 890, 891, 892, 456, 457, 458, 894, 895, 896, 460, 461, 462, 898, 899, 900, 471, 472, 473, 909, 910, 911, 475, 476, 477, 913, 914, 915, 479, 480, 481, 917, 918, 919, 499, 500, 501, 929] (by decide +kernel)
set_option maxRecDepth 20000 in
theorem tb_19 : ∀ w ∈ pr_A19, w ∈ lw_tbl := tb_in [930, 931, 606, 607, 608, 1005, 1006, 1007, 617, 618, 619, 1009, 1010, 1011, 622, 623, 624, 1013, 1014, 1015, 657, 658, 659, 1021, 1022, 1023, 661, 662, 663, 1025, 1026, 1027, 700, 701, 702, 1041, 1042, 1043, 711, 712] (by decide +kernel)
set_option maxRecDepth 20000 in
theorem tb_20 : ∀ w ∈ pr_A20, w ∈ lw_tbl := tb_in [713, 1049, 1050, 1051, 715, 716, 717, 1053, 1054, 1055, 728, 729, 730, 1059, 1060, 1061, 732, 733, 734, 1063, 777, 778, 779, 1091, 1092, 1093, 789, 790, 791, 1101, 1102, 1103, 793, 794, 795, 1105, 1106, 1107, 801, 802] (by decide +kernel)
set_option maxRecDepth 20000 in
theorem tb_21 : ∀ w ∈ pr_A21, w ∈ lw_tbl := tb_in [803, 1109, 1110, 1111] (by decide +kernel)
set_option maxRecDepth 20000 in
theorem tb_22 : ∀ w ∈ wsX00, w ∈ lw_tbl := tb_in [150, 152, 154, 156, 158, 160, 162, 164, 166] (by decide +kernel)
set_option maxRecDepth 20000 in
theorem tb_23 : ∀ w ∈ wsX10, w ∈ lw_tbl := tb_in [183, 185] (by decide +kernel)
set_option maxRecDepth 20000 in
theorem tb_24 : ∀ w ∈ wsX20, w ∈ lw_tbl := tb_in [330, 332, 334, 336, 338, 340, 342, 344, 346, 348] (by decide +kernel)
set_option maxRecDepth 20000 in
theorem tb_25 : ∀ w ∈ wsX30, w ∈ lw_tbl := tb_in [268, 270, 272, 274, 276, 278, 280, 282, 284, 286] (by decide +kernel)
set_option maxRecDepth 20000 in
theorem tb_26 : ∀ w ∈ wsX40, w ∈ lw_tbl := tb_in [101, 103, 105, 107, 109, 111, 113, 115] (by decide +kernel)
set_option maxRecDepth 20000 in
theorem tb_27 : ∀ w ∈ wsX50, w ∈ lw_tbl := tb_in [214, 216, 218, 220, 222, 224, 226, 228, 230, 232] (by decide +kernel)
set_option maxRecDepth 20000 in
theorem tb_28 : ∀ w ∈ wsX60, w ∈ lw_tbl := tb_in [300, 302] (by decide +kernel)
set_option maxRecDepth 20000 in
theorem tb_29 : ∀ w ∈ wsX70, w ∈ lw_tbl := tb_in [245, 247, 249, 251] (by decide +kernel)
set_option maxRecDepth 20000 in
theorem tb_30 : ∀ w ∈ wsX80, w ∈ lw_tbl := tb_in [386, 388, 390, 392, 394] (by decide +kernel)
set_option maxRecDepth 20000 in
theorem tb_31 : ∀ w ∈ wsX90, w ∈ lw_tbl := tb_in [835, 837, 839, 841, 843, 845, 847, 849, 851, 853] (by decide +kernel)
theorem tb_all : ∀ w ∈ pr_AL, w ∈ lw_tbl := by
  intro w h
  unfold pr_AL at h
  rcases List.mem_append.mp h with h | h
  · exact tb_0 w h
  rcases List.mem_append.mp h with h | h
  · exact tb_1 w h
  rcases List.mem_append.mp h with h | h
  · exact tb_2 w h
  rcases List.mem_append.mp h with h | h
  · exact tb_3 w h
  rcases List.mem_append.mp h with h | h
  · exact tb_4 w h
  rcases List.mem_append.mp h with h | h
  · exact tb_5 w h
  rcases List.mem_append.mp h with h | h
  · exact tb_6 w h
  rcases List.mem_append.mp h with h | h
  · exact tb_7 w h
  rcases List.mem_append.mp h with h | h
  · exact tb_8 w h
  rcases List.mem_append.mp h with h | h
  · exact tb_9 w h
  rcases List.mem_append.mp h with h | h
  · exact tb_10 w h
  rcases List.mem_append.mp h with h | h
  · exact tb_11 w h
  rcases List.mem_append.mp h with h | h
  · exact tb_12 w h
  rcases List.mem_append.mp h with h | h
  · exact tb_13 w h
  rcases List.mem_append.mp h with h | h
  · exact tb_14 w h
  rcases List.mem_append.mp h with h | h
  · exact tb_15 w h
  rcases List.mem_append.mp h with h | h
  · exact tb_16 w h
  rcases List.mem_append.mp h with h | h
  · exact tb_17 w h
  rcases List.mem_append.mp h with h | h
  · exact tb_18 w h
  rcases List.mem_append.mp h with h | h
  · exact tb_19 w h
  rcases List.mem_append.mp h with h | h
  · exact tb_20 w h
  rcases List.mem_append.mp h with h | h
  · exact tb_21 w h
  rcases List.mem_append.mp h with h | h
  · exact tb_22 w h
  rcases List.mem_append.mp h with h | h
  · exact tb_23 w h
  rcases List.mem_append.mp h with h | h
  · exact tb_24 w h
  rcases List.mem_append.mp h with h | h
  · exact tb_25 w h
  rcases List.mem_append.mp h with h | h
  · exact tb_26 w h
  rcases List.mem_append.mp h with h | h
  · exact tb_27 w h
  rcases List.mem_append.mp h with h | h
  · exact tb_28 w h
  rcases List.mem_append.mp h with h | h
  · exact tb_29 w h
  rcases List.mem_append.mp h with h | h
  · exact tb_30 w h
  exact tb_31 w h
