set_option maxRecDepth 100000 in
theorem tk_wsp : tws = ([48, 49, 50, 51, 52, 53, 54, 55, 56, 57, 58, 59, 60, 61, 62, 63, 64, 66, 67, 69, 70, 71, 72, 74, 75, 76, 78, 79, 80, 81, 82, 83, 84, 86, 88, 90, 92, 94, 97, 98, 99, 100, 101, 102, 104, 105, 106, 107, 108, 109, 111, 113, 115, 117, 119, 122, 123, 124, 125, 127, 128, 129, 131, 132, 135, 137, 139, 141, 144, 145, 146, 147, 149, 150, 151, 152, 153, 154, 155, 157, 159, 161, 163, 166, 167, 169, 171, 172, 174, 177, 179, 182, 183, 184, 185, 186, 188, 189, 191, 192, 193, 194, 196, 197, 198, 199, 200, 201, 203, 205, 207, 209, 211, 213, 215, 217, 219, 221, 223, 225, 228, 229, 230, 231, 233, 234, 235, 236, 237, 238, 240, 242, 244, 247, 248, 249, 250, 252, 253, 254, 255, 256, 257, 259, 260, 262, 264, 266, 268, 270, 273, 274, 275, 276, 277, 278, 279, 280, 281, 283, 285, 287, 289, 291, 293, 295, 298, 299, 300, 302, 303, 304, 306, 307, 308, 310, 311, 312, 314, 315, 316, 318, 319, 320, 321, 322, 324, 325, 326, 328, 329, 330, 332, 333, 334, 336, 337, 338, 340, 341, 342, 344, 345, 346, 348, 349, 350, 352, 353, 354, 356, 357, 358, 360, 361, 362, 364, 365, 366, 368, 369, 370, 371, 373, 374, 375, 377, 378, 379, 381, 382, 383, 385, 386, 387, 389, 390, 391, 393, 394, 395, 396, 398, 399, 400, 402, 403, 404, 406, 407, 408, 410, 412, 414, 415, 416, 417, 418, 420, 421, 422, 424, 425, 426, 428, 430, 431, 432, 434, 435, 437, 439, 440, 442, 444, 445, 446, 448, 449, 450, 451, 453, 455, 457, 458, 459, 460, 461, 463, 465, 467, 469, 470, 471, 473, 474, 476, 478, 480, 482, 484, 486, 487, 488, 490, 492, 493, 494, 496, 497, 498, 499, 500, 501, 503, 504, 505, 506, 508, 509, 510, 512, 513, 514, 516, 517, 518, 520, 521, 522, 524, 525, 526, 528, 529, 531, 533, 535, 537, 539, 541, 543, 545, 546, 548, 549, 551, 553, 555, 557, 559, 560, 562, 564, 566, 567, 568, 570, 571, 573, 575, 576, 577, 579, 581, 583, 585, 587, 589, 590, 591, 593, 595, 596, 598, 600, 601, 603, 605, 607, 609, 610, 611, 612, 614, 615, 616, 618, 619, 620, 622, 623, 624, 625, 627, 628, 629, 630, 631, 632, 633, 634, 635, 636, 637, 638, 639, 640, 641, 642, 643, 644, 645, 646, 647, 648, 649, 650, 651, 652, 653, 654, 655, 656, 657, 658, 659, 660, 661, 662, 663, 664, 666, 668, 670, 672, 674, 676, 678, 680, 682, 684, 686, 688, 690, 692, 694, 696, 698, 700, 702, 704, 706, 708, 710, 712, 714, 716, 718, 720, 722, 724, 726, 728, 730, 732, 734, 737, 738, 739, 741, 742, 743, 745, 747, 749, 750, 751, 752, 753, 755, 756, 757, 759, 760, 761, 763, 764, 765, 767, 769, 771, 772, 773, 775, 777, 779, 781, 783, 784, 785, 787, 789, 791, 792, 793, 795, 796, 797, 799, 800, 801, 803, 805, 807, 808, 809, 810, 812, 814, 816, 818, 820, 821, 822, 823, 825, 827, 829, 831, 833, 835, 837, 839, 841, 842, 843, 845, 846, 847, 849, 850, 851, 853, 854, 855, 857, 858, 859, 861, 863, 865, 867, 869, 871, 873, 875, 877, 879, 881, 883, 885, 887, 889, 891, 893, 894, 896, 898, 900, 901, 903, 905, 906, 907, 909, 910, 911, 0, 1, 2, 3, 4, 5, 6, 7, 8, 9, 10, 11, 12, 13, 14, 15, 16, 17, 18, 19, 20, 21, 22, 23, 24, 25, 26, 27, 28, 29, 30, 31, 32, 33, 34, 35, 36, 37, 38, 39, 40, 41, 42, 43, 44, 45, 46, 47] : List Nat).filterMap (fun i => lw_tbl[i]?) := by decide +kernel
theorem tk_in : ∀ x ∈ tws, x ∈ lw_tbl := by
  intro x hx
  rw [tk_wsp] at hx
  obtain ⟨i, -, hi⟩ := List.mem_filterMap.mp hx
  exact List.mem_of_getElem? hi
set_option maxRecDepth 100000 in
theorem tc_0 : mm_cw tm_0 ∈ lw_tbl := List.mem_of_getElem? (i := 77) rfl
set_option maxRecDepth 100000 in
theorem tc_1 : mm_cw tm_1 ∈ lw_tbl := List.mem_of_getElem? (i := 65) rfl
set_option maxRecDepth 100000 in
theorem tc_2 : mm_cw tm_2 ∈ lw_tbl := List.mem_of_getElem? (i := 301) rfl
set_option maxRecDepth 100000 in
theorem tc_3 : mm_cw tm_3 ∈ lw_tbl := List.mem_of_getElem? (i := 309) rfl
set_option maxRecDepth 100000 in
theorem tc_4 : mm_cw tm_4 ∈ lw_tbl := List.mem_of_getElem? (i := 323) rfl
set_option maxRecDepth 100000 in
theorem tc_5 : mm_cw tm_5 ∈ lw_tbl := List.mem_of_getElem? (i := 339) rfl
set_option maxRecDepth 100000 in
theorem tc_6 : mm_cw tm_6 ∈ lw_tbl := List.mem_of_getElem? (i := 347) rfl
set_option maxRecDepth 100000 in
theorem tc_7 : mm_cw tm_7 ∈ lw_tbl := List.mem_of_getElem? (i := 351) rfl
set_option maxRecDepth 100000 in
theorem tc_8 : mm_cw tm_8 ∈ lw_tbl := List.mem_of_getElem? (i := 363) rfl
set_option maxRecDepth 100000 in
theorem tc_9 : mm_cw tm_9 ∈ lw_tbl := List.mem_of_getElem? (i := 376) rfl
set_option maxRecDepth 100000 in
theorem tc_10 : mm_cw tm_10 ∈ lw_tbl := List.mem_of_getElem? (i := 388) rfl
set_option maxRecDepth 100000 in
theorem tc_11 : mm_cw tm_11 ∈ lw_tbl := List.mem_of_getElem? (i := 397) rfl
set_option maxRecDepth 100000 in
theorem tc_12 : mm_cw tm_12 ∈ lw_tbl := List.mem_of_getElem? (i := 405) rfl
set_option maxRecDepth 100000 in
theorem tc_13 : mm_cw tm_13 ∈ lw_tbl := List.mem_of_getElem? (i := 419) rfl
set_option maxRecDepth 100000 in
theorem tc_14 : mm_cw tm_14 ∈ lw_tbl := List.mem_of_getElem? (i := 447) rfl
set_option maxRecDepth 100000 in
theorem tc_15 : mm_cw tm_15 ∈ lw_tbl := List.mem_of_getElem? (i := 502) rfl
set_option maxRecDepth 100000 in
theorem tc_16 : mm_cw tm_16 ∈ lw_tbl := List.mem_of_getElem? (i := 507) rfl
set_option maxRecDepth 100000 in
theorem tc_17 : mm_cw tm_17 ∈ lw_tbl := List.mem_of_getElem? (i := 511) rfl
set_option maxRecDepth 100000 in
theorem tc_18 : mm_cw tm_18 ∈ lw_tbl := List.mem_of_getElem? (i := 515) rfl
set_option maxRecDepth 100000 in
theorem tc_19 : mm_cw tm_19 ∈ lw_tbl := List.mem_of_getElem? (i := 523) rfl
set_option maxRecDepth 100000 in
theorem tc_20 : mm_cw tm_20 ∈ lw_tbl := List.mem_of_getElem? (i := 613) rfl
set_option maxRecDepth 100000 in
theorem tc_21 : mm_cw tm_21 ∈ lw_tbl := List.mem_of_getElem? (i := 617) rfl
set_option maxRecDepth 100000 in
theorem tc_22 : mm_cw tm_22 ∈ lw_tbl := List.mem_of_getElem? (i := 73) rfl
set_option maxRecDepth 100000 in
theorem tc_23 : mm_cw tm_23 ∈ lw_tbl := List.mem_of_getElem? (i := 331) rfl
set_option maxRecDepth 100000 in
theorem tc_24 : mm_cw tm_24 ∈ lw_tbl := List.mem_of_getElem? (i := 317) rfl
set_option maxRecDepth 100000 in
theorem tc_25 : mm_cw tm_25 ∈ lw_tbl := List.mem_of_getElem? (i := 384) rfl
set_option maxRecDepth 100000 in
theorem tc_26 : mm_cw tm_26 ∈ lw_tbl := List.mem_of_getElem? (i := 305) rfl
set_option maxRecDepth 100000 in
theorem tc_27 : mm_cw tm_27 ∈ lw_tbl := List.mem_of_getElem? (i := 313) rfl
set_option maxRecDepth 100000 in
theorem tc_28 : mm_cw tm_28 ∈ lw_tbl := List.mem_of_getElem? (i := 335) rfl
set_option maxRecDepth 100000 in
theorem tc_29 : mm_cw tm_29 ∈ lw_tbl := List.mem_of_getElem? (i := 372) rfl
set_option maxRecDepth 100000 in
theorem tc_30 : mm_cw tm_30 ∈ lw_tbl := List.mem_of_getElem? (i := 103) rfl
set_option maxRecDepth 100000 in
theorem tc_31 : mm_cw tm_31 ∈ lw_tbl := List.mem_of_getElem? (i := 359) rfl
set_option maxRecDepth 100000 in
theorem tc_32 : mm_cw tm_32 ∈ lw_tbl := List.mem_of_getElem? (i := 327) rfl
set_option maxRecDepth 100000 in
theorem tc_33 : mm_cw tm_33 ∈ lw_tbl := List.mem_of_getElem? (i := 343) rfl
set_option maxRecDepth 100000 in
theorem tc_34 : mm_cw tm_34 ∈ lw_tbl := List.mem_of_getElem? (i := 355) rfl
set_option maxRecDepth 100000 in
theorem tc_35 : mm_cw tm_35 ∈ lw_tbl := List.mem_of_getElem? (i := 367) rfl
set_option maxRecDepth 100000 in
theorem tc_36 : mm_cw tm_36 ∈ lw_tbl := List.mem_of_getElem? (i := 380) rfl
set_option maxRecDepth 100000 in
theorem tc_37 : mm_cw tm_37 ∈ lw_tbl := List.mem_of_getElem? (i := 392) rfl
set_option maxRecDepth 100000 in
theorem tc_38 : mm_cw tm_38 ∈ lw_tbl := List.mem_of_getElem? (i := 401) rfl
set_option maxRecDepth 100000 in
theorem tc_39 : mm_cw tm_39 ∈ lw_tbl := List.mem_of_getElem? (i := 433) rfl
set_option maxRecDepth 100000 in
theorem tc_40 : mm_cw tm_40 ∈ lw_tbl := List.mem_of_getElem? (i := 126) rfl
set_option maxRecDepth 100000 in
theorem tc_41 : mm_cw tm_41 ∈ lw_tbl := List.mem_of_getElem? (i := 409) rfl
set_option maxRecDepth 100000 in
theorem tc_42 : mm_cw tm_42 ∈ lw_tbl := List.mem_of_getElem? (i := 413) rfl
set_option maxRecDepth 100000 in
theorem tc_43 : mm_cw tm_43 ∈ lw_tbl := List.mem_of_getElem? (i := 148) rfl
set_option maxRecDepth 100000 in
theorem tc_44 : mm_cw tm_44 ∈ lw_tbl := List.mem_of_getElem? (i := 423) rfl
set_option maxRecDepth 100000 in
theorem tc_45 : mm_cw tm_45 ∈ lw_tbl := List.mem_of_getElem? (i := 438) rfl
set_option maxRecDepth 100000 in
theorem tc_46 : mm_cw tm_46 ∈ lw_tbl := List.mem_of_getElem? (i := 443) rfl
set_option maxRecDepth 100000 in
theorem tc_47 : mm_cw tm_47 ∈ lw_tbl := List.mem_of_getElem? (i := 429) rfl
set_option maxRecDepth 100000 in
theorem tc_48 : mm_cw tm_48 ∈ lw_tbl := List.mem_of_getElem? (i := 170) rfl
set_option maxRecDepth 100000 in
theorem tc_49 : mm_cw tm_49 ∈ lw_tbl := List.mem_of_getElem? (i := 472) rfl
set_option maxRecDepth 100000 in
theorem tc_50 : mm_cw tm_50 ∈ lw_tbl := List.mem_of_getElem? (i := 519) rfl
set_option maxRecDepth 100000 in
theorem tc_51 : mm_cw tm_51 ∈ lw_tbl := List.mem_of_getElem? (i := 495) rfl
set_option maxRecDepth 100000 in
theorem tc_52 : mm_cw tm_52 ∈ lw_tbl := List.mem_of_getElem? (i := 187) rfl
set_option maxRecDepth 100000 in
theorem tc_53 : mm_cw tm_53 ∈ lw_tbl := List.mem_of_getElem? (i := 452) rfl
set_option maxRecDepth 100000 in
theorem tc_54 : mm_cw tm_54 ∈ lw_tbl := List.mem_of_getElem? (i := 456) rfl
set_option maxRecDepth 100000 in
theorem tc_55 : mm_cw tm_55 ∈ lw_tbl := List.mem_of_getElem? (i := 477) rfl
set_option maxRecDepth 100000 in
theorem tc_56 : mm_cw tm_56 ∈ lw_tbl := List.mem_of_getElem? (i := 464) rfl
set_option maxRecDepth 100000 in
theorem tc_57 : mm_cw tm_57 ∈ lw_tbl := List.mem_of_getElem? (i := 485) rfl
set_option maxRecDepth 100000 in
theorem tc_58 : mm_cw tm_58 ∈ lw_tbl := List.mem_of_getElem? (i := 491) rfl
set_option maxRecDepth 100000 in
theorem tc_59 : mm_cw tm_59 ∈ lw_tbl := List.mem_of_getElem? (i := 481) rfl
set_option maxRecDepth 100000 in
theorem tc_60 : mm_cw tm_60 ∈ lw_tbl := List.mem_of_getElem? (i := 468) rfl
set_option maxRecDepth 100000 in
theorem tc_61 : mm_cw tm_61 ∈ lw_tbl := List.mem_of_getElem? (i := 232) rfl
set_option maxRecDepth 100000 in
theorem tc_62 : mm_cw tm_62 ∈ lw_tbl := List.mem_of_getElem? (i := 527) rfl
set_option maxRecDepth 100000 in
theorem tc_63 : mm_cw tm_63 ∈ lw_tbl := List.mem_of_getElem? (i := 532) rfl
set_option maxRecDepth 100000 in
theorem tc_64 : mm_cw tm_64 ∈ lw_tbl := List.mem_of_getElem? (i := 536) rfl
set_option maxRecDepth 100000 in
theorem tc_65 : mm_cw tm_65 ∈ lw_tbl := List.mem_of_getElem? (i := 554) rfl
set_option maxRecDepth 100000 in
theorem tc_66 : mm_cw tm_66 ∈ lw_tbl := List.mem_of_getElem? (i := 540) rfl
set_option maxRecDepth 100000 in
theorem tc_67 : mm_cw tm_67 ∈ lw_tbl := List.mem_of_getElem? (i := 558) rfl
set_option maxRecDepth 100000 in
theorem tc_68 : mm_cw tm_68 ∈ lw_tbl := List.mem_of_getElem? (i := 544) rfl
set_option maxRecDepth 100000 in
theorem tc_69 : mm_cw tm_69 ∈ lw_tbl := List.mem_of_getElem? (i := 565) rfl
set_option maxRecDepth 100000 in
theorem tc_70 : mm_cw tm_70 ∈ lw_tbl := List.mem_of_getElem? (i := 561) rfl
set_option maxRecDepth 100000 in
theorem tc_71 : mm_cw tm_71 ∈ lw_tbl := List.mem_of_getElem? (i := 550) rfl
set_option maxRecDepth 100000 in
theorem tc_72 : mm_cw tm_72 ∈ lw_tbl := List.mem_of_getElem? (i := 547) rfl
set_option maxRecDepth 100000 in
theorem tc_73 : mm_cw tm_73 ∈ lw_tbl := List.mem_of_getElem? (i := 251) rfl
set_option maxRecDepth 100000 in
theorem tc_74 : mm_cw tm_74 ∈ lw_tbl := List.mem_of_getElem? (i := 569) rfl
set_option maxRecDepth 100000 in
theorem tc_75 : mm_cw tm_75 ∈ lw_tbl := List.mem_of_getElem? (i := 621) rfl
set_option maxRecDepth 100000 in
theorem tc_76 : mm_cw tm_76 ∈ lw_tbl := List.mem_of_getElem? (i := 580) rfl
set_option maxRecDepth 100000 in
theorem tc_77 : mm_cw tm_77 ∈ lw_tbl := List.mem_of_getElem? (i := 574) rfl
set_option maxRecDepth 100000 in
theorem tc_78 : mm_cw tm_78 ∈ lw_tbl := List.mem_of_getElem? (i := 584) rfl
set_option maxRecDepth 100000 in
theorem tc_79 : mm_cw tm_79 ∈ lw_tbl := List.mem_of_getElem? (i := 594) rfl
set_option maxRecDepth 100000 in
theorem tc_80 : mm_cw tm_80 ∈ lw_tbl := List.mem_of_getElem? (i := 599) rfl
set_option maxRecDepth 100000 in
theorem tc_81 : mm_cw tm_81 ∈ lw_tbl := List.mem_of_getElem? (i := 604) rfl
set_option maxRecDepth 100000 in
theorem tc_82 : mm_cw tm_82 ∈ lw_tbl := List.mem_of_getElem? (i := 608) rfl
set_option maxRecDepth 100000 in
theorem tc_83 : mm_cw tm_83 ∈ lw_tbl := List.mem_of_getElem? (i := 588) rfl
set_option maxRecDepth 100000 in
theorem tc_84 : mm_cw tm_84 ∈ lw_tbl := List.mem_of_getElem? (i := 626) rfl
set_option maxRecDepth 100000 in
theorem tc_85 : mm_cw tm_85 ∈ lw_tbl := List.mem_of_getElem? (i := 748) rfl
set_option maxRecDepth 100000 in
theorem tc_86 : mm_cw tm_86 ∈ lw_tbl := List.mem_of_getElem? (i := 740) rfl
set_option maxRecDepth 100000 in
theorem tc_87 : mm_cw tm_87 ∈ lw_tbl := List.mem_of_getElem? (i := 744) rfl
set_option maxRecDepth 100000 in
theorem tc_88 : mm_cw tm_88 ∈ lw_tbl := List.mem_of_getElem? (i := 770) rfl
set_option maxRecDepth 100000 in
theorem tc_89 : mm_cw tm_89 ∈ lw_tbl := List.mem_of_getElem? (i := 778) rfl
set_option maxRecDepth 100000 in
theorem tc_90 : mm_cw tm_90 ∈ lw_tbl := List.mem_of_getElem? (i := 790) rfl
set_option maxRecDepth 100000 in
theorem tc_91 : mm_cw tm_91 ∈ lw_tbl := List.mem_of_getElem? (i := 754) rfl
set_option maxRecDepth 100000 in
theorem tc_92 : mm_cw tm_92 ∈ lw_tbl := List.mem_of_getElem? (i := 758) rfl
set_option maxRecDepth 100000 in
theorem tc_93 : mm_cw tm_93 ∈ lw_tbl := List.mem_of_getElem? (i := 762) rfl
set_option maxRecDepth 100000 in
theorem tc_94 : mm_cw tm_94 ∈ lw_tbl := List.mem_of_getElem? (i := 766) rfl
set_option maxRecDepth 100000 in
theorem tc_95 : mm_cw tm_95 ∈ lw_tbl := List.mem_of_getElem? (i := 782) rfl
set_option maxRecDepth 100000 in
theorem tc_96 : mm_cw tm_96 ∈ lw_tbl := List.mem_of_getElem? (i := 774) rfl
set_option maxRecDepth 100000 in
theorem tc_97 : mm_cw tm_97 ∈ lw_tbl := List.mem_of_getElem? (i := 786) rfl
set_option maxRecDepth 100000 in
theorem tc_98 : mm_cw tm_98 ∈ lw_tbl := List.mem_of_getElem? (i := 794) rfl
set_option maxRecDepth 100000 in
theorem tc_99 : mm_cw tm_99 ∈ lw_tbl := List.mem_of_getElem? (i := 798) rfl
set_option maxRecDepth 100000 in
theorem tc_100 : mm_cw tm_100 ∈ lw_tbl := List.mem_of_getElem? (i := 806) rfl
set_option maxRecDepth 100000 in
theorem tc_101 : mm_cw tm_101 ∈ lw_tbl := List.mem_of_getElem? (i := 802) rfl
set_option maxRecDepth 100000 in
theorem tc_102 : mm_cw tm_102 ∈ lw_tbl := List.mem_of_getElem? (i := 815) rfl
set_option maxRecDepth 100000 in
theorem tc_103 : mm_cw tm_103 ∈ lw_tbl := List.mem_of_getElem? (i := 819) rfl
set_option maxRecDepth 100000 in
theorem tc_104 : mm_cw tm_104 ∈ lw_tbl := List.mem_of_getElem? (i := 811) rfl
set_option maxRecDepth 100000 in
theorem tc_105 : mm_cw tm_105 ∈ lw_tbl := List.mem_of_getElem? (i := 832) rfl
set_option maxRecDepth 100000 in
theorem tc_106 : mm_cw tm_106 ∈ lw_tbl := List.mem_of_getElem? (i := 840) rfl
set_option maxRecDepth 100000 in
theorem tc_107 : mm_cw tm_107 ∈ lw_tbl := List.mem_of_getElem? (i := 836) rfl
set_option maxRecDepth 100000 in
theorem tc_108 : mm_cw tm_108 ∈ lw_tbl := List.mem_of_getElem? (i := 828) rfl
set_option maxRecDepth 100000 in
theorem tc_109 : mm_cw tm_109 ∈ lw_tbl := List.mem_of_getElem? (i := 824) rfl
set_option maxRecDepth 100000 in
theorem tc_110 : mm_cw tm_110 ∈ lw_tbl := List.mem_of_getElem? (i := 844) rfl
set_option maxRecDepth 100000 in
theorem tc_111 : mm_cw tm_111 ∈ lw_tbl := List.mem_of_getElem? (i := 848) rfl
set_option maxRecDepth 100000 in
theorem tc_112 : mm_cw tm_112 ∈ lw_tbl := List.mem_of_getElem? (i := 852) rfl
set_option maxRecDepth 100000 in
theorem tc_113 : mm_cw tm_113 ∈ lw_tbl := List.mem_of_getElem? (i := 856) rfl
set_option maxRecDepth 100000 in
theorem tc_114 : mm_cw tm_114 ∈ lw_tbl := List.mem_of_getElem? (i := 895) rfl
set_option maxRecDepth 100000 in
theorem tc_115 : mm_cw tm_115 ∈ lw_tbl := List.mem_of_getElem? (i := 868) rfl
set_option maxRecDepth 100000 in
theorem tc_116 : mm_cw tm_116 ∈ lw_tbl := List.mem_of_getElem? (i := 872) rfl
set_option maxRecDepth 100000 in
theorem tc_117 : mm_cw tm_117 ∈ lw_tbl := List.mem_of_getElem? (i := 876) rfl
set_option maxRecDepth 100000 in
theorem tc_118 : mm_cw tm_118 ∈ lw_tbl := List.mem_of_getElem? (i := 884) rfl
set_option maxRecDepth 100000 in
theorem tc_119 : mm_cw tm_119 ∈ lw_tbl := List.mem_of_getElem? (i := 880) rfl
set_option maxRecDepth 100000 in
theorem tc_120 : mm_cw tm_120 ∈ lw_tbl := List.mem_of_getElem? (i := 888) rfl
set_option maxRecDepth 100000 in
theorem tc_121 : mm_cw tm_121 ∈ lw_tbl := List.mem_of_getElem? (i := 892) rfl
set_option maxRecDepth 100000 in
theorem tc_122 : mm_cw tm_122 ∈ lw_tbl := List.mem_of_getElem? (i := 899) rfl
set_option maxRecDepth 100000 in
theorem tc_123 : mm_cw tm_123 ∈ lw_tbl := List.mem_of_getElem? (i := 904) rfl
set_option maxRecDepth 100000 in
theorem tc_124 : mm_cw tm_124 ∈ lw_tbl := List.mem_of_getElem? (i := 864) rfl
set_option maxRecDepth 100000 in
theorem tc_125 : mm_cw tm_125 ∈ lw_tbl := List.mem_of_getElem? (i := 860) rfl
set_option maxRecDepth 100000 in
theorem tc_126 : mm_cw tm_126 ∈ lw_tbl := List.mem_of_getElem? (i := 908) rfl
set_option maxRecDepth 100000 in
theorem tc_127 : mm_cw tm_127 ∈ lw_tbl := List.mem_of_getElem? (i := 912) rfl
set_option maxRecDepth 100000 in
theorem tc_all : ∀ w ∈ ([0, 1, 2, 3, 4, 5, 6, 7, 8, 9, 10, 11, 12, 13, 14, 15, 16, 17, 18, 19, 20, 21, 22, 23, 24, 25, 26, 27, 28, 29, 30, 31, 32, 33, 34, 35, 36, 37, 38, 39, 40, 41, 42, 43, 44, 45, 46, 47, 48, 49, 50, 51, 52, 53, 54, 55, 56, 57, 58, 59, 60, 61, 62, 63, 64, 65, 66, 67, 68, 69, 70, 71, 72, 73, 74, 75, 76, 77, 78, 79, 80, 81, 82, 83, 84, 85, 86, 87, 88, 89, 90, 91, 92, 93, 94, 95, 96, 97, 98, 99, 100, 101, 102, 103, 104, 105, 106, 107, 108, 109, 110, 111, 112, 113, 114, 115, 116, 117, 118, 119, 120, 121, 122, 123, 124, 125, 126, 127] : List Nat), mm_cw (tmi w) ∈ lw_tbl := List.forall_mem_cons.mpr ⟨tc_0, List.forall_mem_cons.mpr ⟨tc_1, List.forall_mem_cons.mpr ⟨tc_2, List.forall_mem_cons.mpr ⟨tc_3, List.forall_mem_cons.mpr ⟨tc_4, List.forall_mem_cons.mpr ⟨tc_5, List.forall_mem_cons.mpr ⟨tc_6, List.forall_mem_cons.mpr ⟨tc_7, List.forall_mem_cons.mpr ⟨tc_8, List.forall_mem_cons.mpr ⟨tc_9, List.forall_mem_cons.mpr ⟨tc_10, List.forall_mem_cons.mpr ⟨tc_11, List.forall_mem_cons.mpr ⟨tc_12, List.forall_mem_cons.mpr ⟨tc_13, List.forall_mem_cons.mpr ⟨tc_14, List.forall_mem_cons.mpr ⟨tc_15, List.forall_mem_cons.mpr ⟨tc_16, List.forall_mem_cons.mpr ⟨tc_17, List.forall_mem_cons.mpr ⟨tc_18, List.forall_mem_cons.mpr ⟨tc_19, List.forall_mem_cons.mpr ⟨tc_20, List.forall_mem_cons.mpr ⟨tc_21, List.forall_mem_cons.mpr ⟨tc_22, List.forall_mem_cons.mpr ⟨tc_23, List.forall_mem_cons.mpr ⟨tc_24, List.forall_mem_cons.mpr ⟨tc_25, List.forall_mem_cons.mpr ⟨tc_26, List.forall_mem_cons.mpr ⟨tc_27, List.forall_mem_cons.mpr ⟨tc_28, List.forall_mem_cons.mpr ⟨tc_29, List.forall_mem_cons.mpr ⟨tc_30, List.forall_mem_cons.mpr ⟨tc_31, List.forall_mem_cons.mpr ⟨tc_32, List.forall_mem_cons.mpr ⟨tc_33, List.forall_mem_cons.mpr ⟨tc_34, List.forall_mem_cons.mpr ⟨tc_35, List.forall_mem_cons.mpr ⟨tc_36, List.forall_mem_cons.mpr ⟨tc_37, List.forall_mem_cons.mpr ⟨tc_38, List.forall_mem_cons.mpr ⟨tc_39, List.forall_mem_cons.mpr ⟨tc_40, List.forall_mem_cons.mpr ⟨tc_41, List.forall_mem_cons.mpr ⟨tc_42, List.forall_mem_cons.mpr ⟨tc_43, List.forall_mem_cons.mpr ⟨tc_44, List.forall_mem_cons.mpr ⟨tc_45, List.forall_mem_cons.mpr ⟨tc_46, List.forall_mem_cons.mpr ⟨tc_47, List.forall_mem_cons.mpr ⟨tc_48, List.forall_mem_cons.mpr ⟨tc_49, List.forall_mem_cons.mpr ⟨tc_50, List.forall_mem_cons.mpr ⟨tc_51, List.forall_mem_cons.mpr ⟨tc_52, List.forall_mem_cons.mpr ⟨tc_53, List.forall_mem_cons.mpr ⟨tc_54, List.forall_mem_cons.mpr ⟨tc_55, List.forall_mem_cons.mpr ⟨tc_56, List.forall_mem_cons.mpr ⟨tc_57, List.forall_mem_cons.mpr ⟨tc_58, List.forall_mem_cons.mpr ⟨tc_59, List.forall_mem_cons.mpr ⟨tc_60, List.forall_mem_cons.mpr ⟨tc_61, List.forall_mem_cons.mpr ⟨tc_62, List.forall_mem_cons.mpr ⟨tc_63, List.forall_mem_cons.mpr ⟨tc_64, List.forall_mem_cons.mpr ⟨tc_65, List.forall_mem_cons.mpr ⟨tc_66, List.forall_mem_cons.mpr ⟨tc_67, List.forall_mem_cons.mpr ⟨tc_68, List.forall_mem_cons.mpr ⟨tc_69, List.forall_mem_cons.mpr ⟨tc_70, List.forall_mem_cons.mpr ⟨tc_71, List.forall_mem_cons.mpr ⟨tc_72, List.forall_mem_cons.mpr ⟨tc_73, List.forall_mem_cons.mpr ⟨tc_74, List.forall_mem_cons.mpr ⟨tc_75, List.forall_mem_cons.mpr ⟨tc_76, List.forall_mem_cons.mpr ⟨tc_77, List.forall_mem_cons.mpr ⟨tc_78, List.forall_mem_cons.mpr ⟨tc_79, List.forall_mem_cons.mpr ⟨tc_80, List.forall_mem_cons.mpr ⟨tc_81, List.forall_mem_cons.mpr ⟨tc_82, List.forall_mem_cons.mpr ⟨tc_83, List.forall_mem_cons.mpr ⟨tc_84, List.forall_mem_cons.mpr ⟨tc_85, List.forall_mem_cons.mpr ⟨tc_86, List.forall_mem_cons.mpr ⟨tc_87, List.forall_mem_cons.mpr ⟨tc_88, List.forall_mem_cons.mpr ⟨tc_89, List.forall_mem_cons.mpr ⟨tc_90, List.forall_mem_cons.mpr ⟨tc_91, List.forall_mem_cons.mpr ⟨tc_92, List.forall_mem_cons.mpr ⟨tc_93, List.forall_mem_cons.mpr ⟨tc_94, List.forall_mem_cons.mpr ⟨tc_95, List.forall_mem_cons.mpr ⟨tc_96, List.forall_mem_cons.mpr ⟨tc_97, List.forall_mem_cons.mpr ⟨tc_98, List.forall_mem_cons.mpr ⟨tc_99, List.forall_mem_cons.mpr ⟨tc_100, List.forall_mem_cons.mpr ⟨tc_101, List.forall_mem_cons.mpr ⟨tc_102, List.forall_mem_cons.mpr ⟨tc_103, List.forall_mem_cons.mpr ⟨tc_104, List.forall_mem_cons.mpr ⟨tc_105, List.forall_mem_cons.mpr ⟨tc_106, List.forall_mem_cons.mpr ⟨tc_107, List.forall_mem_cons.mpr ⟨tc_108, List.forall_mem_cons.mpr ⟨tc_109, List.forall_mem_cons.mpr ⟨tc_110, List.forall_mem_cons.mpr ⟨tc_111, List.forall_mem_cons.mpr ⟨tc_112, List.forall_mem_cons.mpr ⟨tc_113, List.forall_mem_cons.mpr ⟨tc_114, List.forall_mem_cons.mpr ⟨tc_115, List.forall_mem_cons.mpr ⟨tc_116, List.forall_mem_cons.mpr ⟨tc_117, List.forall_mem_cons.mpr ⟨tc_118, List.forall_mem_cons.mpr ⟨tc_119, List.forall_mem_cons.mpr ⟨tc_120, List.forall_mem_cons.mpr ⟨tc_121, List.forall_mem_cons.mpr ⟨tc_122, List.forall_mem_cons.mpr ⟨tc_123, List.forall_mem_cons.mpr ⟨tc_124, List.forall_mem_cons.mpr ⟨tc_125, List.forall_mem_cons.mpr ⟨tc_126, List.forall_mem_cons.mpr ⟨tc_127,  fun _ h => absurd h List.not_mem_nil⟩⟩⟩⟩⟩⟩⟩⟩⟩⟩⟩⟩⟩⟩⟩⟩⟩⟩⟩⟩⟩⟩⟩⟩⟩⟩⟩⟩⟩⟩⟩⟩⟩⟩⟩⟩⟩⟩⟩⟩⟩⟩⟩⟩⟩⟩⟩⟩⟩⟩⟩⟩⟩⟩⟩⟩⟩⟩⟩⟩⟩⟩⟩⟩⟩⟩⟩⟩⟩⟩⟩⟩⟩⟩⟩⟩⟩⟩⟩⟩⟩⟩⟩⟩⟩⟩⟩⟩⟩⟩⟩⟩⟩⟩⟩⟩⟩⟩⟩⟩⟩⟩⟩⟩⟩⟩⟩⟩⟩⟩⟩⟩⟩⟩⟩⟩⟩⟩⟩⟩⟩⟩⟩⟩⟩⟩⟩⟩
set_option maxRecDepth 100000 in
theorem tc_ok : ∀ w, w < 128 → mm_cw (tmi w) ∈ lw_tbl := fun w hw => tc_all w (by have h := List.mem_range.mpr hw; exact h)
set_option maxRecDepth 100000 in
theorem tc_oi : Cond.code objectInit ⟨#[0xb1]⟩ 1 none ∈ lw_tbl := List.mem_of_getElem? (i := 68) rfl
set_option maxRecDepth 100000 in
theorem tc_nF : tnF.map (fun q => Cond.fieldLinkNest q.1 q.2.1 q.2.2.1 q.2.2.2.1 q.2.2.2.2.1 q.2.2.2.2.2) = ([110, 130, 133, 134, 173, 175, 176, 195, 202, 204, 258] : List Nat).filterMap (fun i => lw_tbl[i]?) := by decide +kernel
set_option maxRecDepth 100000 in
theorem tc_nM : tnM.map (fun q => Cond.methodLinkNest q.1 q.2.1 q.2.2.1 q.2.2.2) = ([168, 190] : List Nat).filterMap (fun i => lw_tbl[i]?) := by decide +kernel
theorem tc_mF : ∀ q ∈ tnF, Cond.fieldLinkNest q.1 q.2.1 q.2.2.1 q.2.2.2.1 q.2.2.2.2.1 q.2.2.2.2.2 ∈ lw_tbl := by
  intro q hq
  have h1 := List.mem_map_of_mem (f := fun q : mm_F => Cond.fieldLinkNest q.1 q.2.1 q.2.2.1 q.2.2.2.1 q.2.2.2.2.1 q.2.2.2.2.2) hq
  rw [tc_nF] at h1
  obtain ⟨i, -, hi⟩ := List.mem_filterMap.mp h1
  exact List.mem_of_getElem? hi
theorem tc_mM : ∀ q ∈ tnM, Cond.methodLinkNest q.1 q.2.1 q.2.2.1 q.2.2.2 ∈ lw_tbl := by
  intro q hq
  have h1 := List.mem_map_of_mem (f := fun q : mm_N => Cond.methodLinkNest q.1 q.2.1 q.2.2.1 q.2.2.2) hq
  rw [tc_nM] at h1
  obtain ⟨i, -, hi⟩ := List.mem_filterMap.mp h1
  exact List.mem_of_getElem? hi
theorem tc_inst : ∀ q ∈ tcl, Cond.instantiable q.1 q.2.2 ∈ tws := by
  have h : tcl.all (fun q => decide (Cond.instantiable q.1 q.2.2 ∈ tws)) = true := by decide +kernel
  intro q hq
  exact of_decide_eq_true (List.all_eq_true.mp h q hq)
theorem tc_arr : Cond.arrayClass .int ∈ tws ∧ Cond.arrayClass .boolean ∈ tws ∧ Cond.arrayClass .char ∈ tws := ⟨by decide +kernel, by decide +kernel, by decide +kernel⟩
