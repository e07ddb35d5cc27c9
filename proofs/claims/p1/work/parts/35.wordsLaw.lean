theorem wl_p {ws : List Cond} (ps : List Nat) (hp : ws = ps.filterMap (fun i => lw_tbl[i]?)) : ∀ w ∈ ws, w ∈ lw_tbl := by
  intro w hw
  rw [hp] at hw
  obtain ⟨i, -, hi⟩ := List.mem_filterMap.mp hw
  first | exact List.mem_of_getElem? hi | exact List.getElem?_mem hi
theorem wl_a {a b : List Cond} (ha : ∀ w ∈ a, w ∈ lw_tbl) (hb : ∀ w ∈ b, w ∈ lw_tbl) : ∀ w ∈ a ++ b, w ∈ lw_tbl := fun w h => (List.mem_append.mp h).elim (ha w) (hb w)
set_option maxRecDepth 20000 in
theorem wl_r1 : ∀ w ∈ wsL_law0_r1, w ∈ lw_tbl := wl_p [55, 56, 37, 679, 680, 40, 921, 57, 58, 59, 60, 61, 62, 63, 64, 38, 108, 91, 92, 39, 109, 104, 110, 90] (by decide +kernel)
set_option maxRecDepth 20000 in
theorem wl_r2 : ∀ w ∈ wsL_law0_r2, w ∈ lw_tbl := wl_p [111, 106, 112, 113, 114, 115, 116, 66, 67, 68, 71, 72, 73, 69, 74, 75, 93, 94, 95, 96, 98, 97, 681, 682] (by decide +kernel)
set_option maxRecDepth 20000 in
theorem wl_r3 : ∀ w ∈ wsL_law0_r3, w ∈ lw_tbl := wl_p [683, 684, 686, 687, 688, 689, 744, 690, 693, 694, 695, 696, 697, 698, 699, 685, 701, 148, 149, 36, 150, 151, 152, 153] (by decide +kernel)
set_option maxRecDepth 20000 in
theorem wl_r4 : ∀ w ∈ wsL_law0_r4, w ∈ lw_tbl := wl_p [154, 155, 156, 232, 45, 276, 47, 277, 278, 48, 157, 158, 159, 160, 161, 162, 163, 44, 248, 249, 250, 251, 252, 254] (by decide +kernel)
set_option maxRecDepth 20000 in
theorem wl_r5 : ∀ w ∈ wsL_law0_r5, w ∈ lw_tbl := wl_p [1, 255, 256, 258, 2, 259, 260, 261, 46, 262, 263, 264, 265, 266, 267, 268, 46, 269, 270, 271, 272, 273, 274, 275] (by decide +kernel)
set_option maxRecDepth 20000 in
theorem wl_r6 : ∀ w ∈ wsL_law0_r6, w ∈ lw_tbl := wl_p [279, 280, 281, 282, 283, 286, 287, 288, 289, 284, 285, 303, 304, 305, 306, 309, 311, 307, 320, 322, 3, 323, 324, 325] (by decide +kernel)
set_option maxRecDepth 20000 in
theorem wl_r7 : ∀ w ∈ wsL_law0_r7, w ∈ lw_tbl := wl_p [326, 327, 328, 329, 330, 331, 332, 333, 334, 335, 336, 749, 750, 751, 752, 691, 692, 753, 755, 19, 756, 704, 757, 759] (by decide +kernel)
set_option maxRecDepth 20000 in
theorem wl_r8 : ∀ w ∈ wsL_law0_r8, w ∈ lw_tbl := wl_p [20, 760, 761, 763, 21, 764, 765, 767, 22, 768, 769, 771, 23, 772, 773, 775, 24, 776, 703, 777, 779, 25, 780, 781] (by decide +kernel)
set_option maxRecDepth 20000 in
theorem wl_r9 : ∀ w ∈ wsL_law0_r9, w ∈ lw_tbl := wl_p [782, 783, 784, 786, 26, 787, 745, 746, 747, 748, 337, 338, 339, 340, 341, 342, 343, 788, 789, 790, 791, 345, 346, 347] (by decide +kernel)
set_option maxRecDepth 20000 in
theorem wl_r10 : ∀ w ∈ wsL_law0_r10, w ∈ lw_tbl := wl_p [348, 349, 350, 351, 352, 357, 49, 353, 355, 4, 356, 792, 793, 794, 795, 796, 798, 27, 799, 136, 137, 138, 139, 800] (by decide +kernel)
set_option maxRecDepth 20000 in
theorem wl_r11 : ∀ w ∈ wsL_law0_r11, w ∈ lw_tbl := wl_p [801, 802, 803, 374, 375, 376, 377, 378, 379, 380, 381, 382, 383, 384, 385, 804, 805, 806, 807, 808, 809, 810, 811, 386] (by decide +kernel)
set_option maxRecDepth 20000 in
theorem wl_r12 : ∀ w ∈ wsL_law0_r12, w ∈ lw_tbl := wl_p [387, 388, 389, 390, 391, 392, 393, 395, 5, 396, 812, 813, 814, 815, 397, 398, 399, 400, 401, 402, 403, 404, 405, 406] (by decide +kernel)
set_option maxRecDepth 20000 in
theorem wl_r13 : ∀ w ∈ wsL_law0_r13, w ∈ lw_tbl := wl_p [407, 816, 817, 818, 819, 408, 409, 410, 411, 412, 413, 414, 820, 821, 822, 823, 415, 416, 417, 418, 419, 420, 421, 422] (by decide +kernel)
set_option maxRecDepth 20000 in
theorem wl_r14 : ∀ w ∈ wsL_law0_r14, w ∈ lw_tbl := wl_p [423, 424, 425, 426, 427, 50, 428, 429, 431, 6, 432, 433, 435, 7, 436, 437, 824, 825, 826, 827, 828, 830, 28, 831] (by decide +kernel)
set_option maxRecDepth 20000 in
theorem wl_r15 : ∀ w ∈ wsL_law0_r15, w ∈ lw_tbl := wl_p [832, 834, 29, 835, 438, 439, 440, 441, 442, 443, 444, 445, 446, 447, 448, 449, 451, 8, 452, 453, 836, 837, 838, 839] (by decide +kernel)
set_option maxRecDepth 20000 in
theorem wl_r16 : ∀ w ∈ wsL_law0_r16, w ∈ lw_tbl := wl_p [840, 454, 455, 456, 457, 458, 459, 460, 461, 462, 463, 464, 465, 466, 51, 467, 468, 469, 470, 841, 842, 843, 844, 471] (by decide +kernel)
set_option maxRecDepth 20000 in
theorem wl_r17 : ∀ w ∈ wsL_law0_r17, w ∈ lw_tbl := wl_p [472, 473, 474, 475, 476, 477, 484, 52, 478, 480, 9, 481, 485, 486, 487, 488, 494, 496, 498, 500, 502, 492, 489, 490] (by decide +kernel)
set_option maxRecDepth 20000 in
theorem wl_r18 : ∀ w ∈ wsL_law0_r18, w ∈ lw_tbl := wl_p [845, 846, 847, 848, 700, 849, 851, 30, 852, 521, 522, 523, 524, 525, 526, 527, 529, 531, 10, 532, 533, 534, 535, 536] (by decide +kernel)
set_option maxRecDepth 20000 in
theorem wl_r19 : ∀ w ∈ wsL_law0_r19, w ∈ lw_tbl := wl_p [537, 539, 11, 540, 541, 542, 543, 544, 545, 547, 12, 548, 549, 550, 552, 13, 553, 554, 555, 557, 14, 558, 559, 561] (by decide +kernel)
set_option maxRecDepth 20000 in
theorem wl_r20 : ∀ w ∈ wsL_law0_r20, w ∈ lw_tbl := wl_p [15, 562, 563, 564, 566, 16, 567, 568, 570, 17, 571, 572, 573, 574, 575, 576, 577, 578, 579, 580, 581, 582, 583, 585] (by decide +kernel)
set_option maxRecDepth 20000 in
theorem wl_r21 : ∀ w ∈ wsL_law0_r21, w ∈ lw_tbl := wl_p [586, 587, 589, 588, 53, 853, 854, 855, 856, 857, 859, 31, 860, 702, 861, 863, 32, 864, 865, 867, 33, 868, 140, 141] (by decide +kernel)
set_option maxRecDepth 20000 in
theorem wl_r22 : ∀ w ∈ wsL_law0_r22, w ∈ lw_tbl := wl_p [142, 143, 869, 870, 871, 872, 144, 145, 146, 147, 873, 874, 875, 876, 590, 591, 592, 593, 594, 595, 596, 597, 599, 18] (by decide +kernel)
set_option maxRecDepth 20000 in
theorem wl_r23 : ∀ w ∈ wsL_law0_r23, w ∈ lw_tbl := wl_p [600, 877, 878, 879, 880, 881, 883, 34, 884, 602, 603, 604, 605, 606, 607, 608, 609, 610, 54, 885, 886, 887, 888, 626] (by decide +kernel)
set_option maxRecDepth 20000 in
theorem wl_r24 : ∀ w ∈ wsL_law0_r24, w ∈ lw_tbl := wl_p [627, 628, 629, 630, 631, 632, 889, 890, 891, 892, 633, 634, 635, 636, 637, 638, 639, 640, 641, 642, 893, 894, 895, 896] (by decide +kernel)
set_option maxRecDepth 20000 in
theorem wl_r25 : ∀ w ∈ wsL_law0_r25, w ∈ lw_tbl := wl_p [897, 899, 35, 900, 644, 645, 646, 647, 648, 649, 650, 901, 902, 903, 904, 651, 652, 653, 654, 655, 656, 657, 905, 906] (by decide +kernel)
set_option maxRecDepth 20000 in
theorem wl_r26 : ∀ w ∈ wsL_law0_r26, w ∈ lw_tbl := wl_p [907, 908, 658, 659, 660, 661, 662, 663, 664, 909, 910, 911, 912, 665, 666, 667, 668, 669, 670, 671, 913, 914, 915, 916] (by decide +kernel)
set_option maxRecDepth 20000 in
theorem wl_r27 : ∀ w ∈ wsL_law0_r27, w ∈ lw_tbl := wl_p [672, 673, 674, 675, 676, 677, 678, 917, 918, 919, 920] (by decide +kernel)
set_option maxRecDepth 20000 in
theorem wl_X0 : ∀ w ∈ wsX00, w ∈ lw_tbl := wl_p [504, 506, 508, 510, 512, 514, 516, 518] (by decide +kernel)
set_option maxRecDepth 20000 in
theorem wl_X1 : ∀ w ∈ wsX10, w ∈ lw_tbl := wl_p [99, 101] (by decide +kernel)
set_option maxRecDepth 20000 in
theorem wl_X2 : ∀ w ∈ wsX20, w ∈ lw_tbl := wl_p [79, 81, 83, 85, 87] (by decide +kernel)
set_option maxRecDepth 20000 in
theorem wl_X3 : ∀ w ∈ wsX30, w ∈ lw_tbl := wl_p [313, 315, 317] (by decide +kernel)
set_option maxRecDepth 20000 in
theorem wl_X4 : ∀ w ∈ wsX40, w ∈ lw_tbl := wl_p [290, 292, 294, 296, 298, 300] (by decide +kernel)
set_option maxRecDepth 20000 in
theorem wl_X5 : ∀ w ∈ wsX50, w ∈ lw_tbl := wl_p [117, 119, 121, 123, 125, 127, 129, 131, 133] (by decide +kernel)
set_option maxRecDepth 20000 in
theorem wl_X6 : ∀ w ∈ wsX60, w ∈ lw_tbl := wl_p [705, 707, 709, 711, 713, 715, 717, 719, 721, 723, 725, 727, 729, 731, 733, 735, 737, 739, 741] (by decide +kernel)
set_option maxRecDepth 20000 in
theorem wl_x0 : ∀ w ∈ (vx_atS RX5 66 "java/lang/IllegalStateException" ["java/lang/RuntimeException", "java/lang/Exception"]).filter goodWord, w ∈ lw_tbl := wl_p [41, 185, 194, 199, 202, 204, 186, 187, 61, 62, 188, 193, 200, 220, 175, 221, 177, 222, 179, 189, 191, 181, 216, 217, 219, 181, 243, 244, 245, 210, 210, 211, 212, 213, 213, 214, 215, 216, 242, 233, 235, 196, 236, 237, 238, 239, 184, 183, 240] (by decide +kernel)
set_option maxRecDepth 20000 in
theorem wl_x1 : ∀ w ∈ (vx_atS RX5 218 "java/lang/IllegalArgumentException" ["java/lang/RuntimeException", "java/lang/Exception"]).filter goodWord, w ∈ lw_tbl := wl_p [41, 185, 194, 199, 202, 204, 186, 187, 61, 62, 188, 193, 200, 220, 175, 221, 177, 222, 179, 189, 191, 181, 216, 217, 219, 181, 207, 208, 209, 210, 210, 211, 212, 213, 213, 214, 215, 216, 206, 164, 172, 173, 174, 176, 178, 180, 184, 183, 182] (by decide +kernel)
set_option maxRecDepth 20000 in
theorem wl_x2 : ∀ w ∈ (vx_atS RX5 95 "java/lang/IndexOutOfBoundsException" ["java/lang/RuntimeException", "java/lang/Exception"]).filter goodWord, w ∈ lw_tbl := wl_p [41, 185, 194, 199, 202, 204, 186, 187, 61, 62, 188, 193, 200, 220, 175, 221, 177, 222, 179, 189, 191, 181, 216, 217, 219, 181, 368, 369, 370, 210, 210, 211, 212, 213, 213, 214, 215, 216, 367, 358, 360, 197, 361, 362, 363, 364, 184, 183, 365] (by decide +kernel)
set_option maxRecDepth 20000 in
theorem wl_x3 : ∀ w ∈ (vx_atX RX5 169 "java/util/NoSuchElementException" 13 nsB "java/lang/RuntimeException" ["java/lang/Exception"]).filter goodWord, w ∈ lw_tbl := wl_p [41, 185, 194, 199, 202, 204, 186, 187, 61, 62, 188, 193, 200, 220, 175, 221, 177, 222, 179, 189, 191, 181, 216, 217, 219, 181, 621, 622, 623, 210, 210, 211, 212, 213, 213, 214, 215, 216, 620, 611, 613, 198, 614, 615, 616, 617, 184, 183, 618] (by decide +kernel)
theorem wl_law0 : ∀ w ∈ wsL_law0, w ∈ lw_tbl := (wl_a (wl_a (wl_a (wl_a (wl_a (wl_a (wl_a (wl_a (wl_a wl_r1 (wl_a wl_r2 (wl_a wl_r3 (wl_a wl_r4 (wl_a wl_r5 (wl_a wl_r6 (wl_a wl_r7 (wl_a wl_r8 (wl_a wl_r9 (wl_a wl_r10 (wl_a wl_r11 (wl_a wl_r12 (wl_a wl_r13 (wl_a wl_r14 (wl_a wl_r15 (wl_a wl_r16 (wl_a wl_r17 (wl_a wl_r18 (wl_a wl_r19 (wl_a wl_r20 (wl_a wl_r21 (wl_a wl_r22 (wl_a wl_r23 (wl_a wl_r24 (wl_a wl_r25 (wl_a wl_r26 wl_r27)))))))))))))))))))))))))) wl_X5) wl_X6) wl_X2) wl_X1) wl_X3) wl_X4) wl_X0) (fun _ h => absurd h List.not_mem_nil))
theorem wl_law : ∀ w ∈ wsL_law, w ∈ lw_tbl := wl_a (wl_a (wl_a (wl_a wl_law0 wl_x0) wl_x1) wl_x2) wl_x3
