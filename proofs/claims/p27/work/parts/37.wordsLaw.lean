theorem wl_p {ws : List Cond} (ps : List Nat) (hp : ws = ps.filterMap (fun i => lw_tbl[i]?)) : ∀ w ∈ ws, w ∈ lw_tbl := by
  intro w hw
  rw [hp] at hw
  obtain ⟨i, -, hi⟩ := List.mem_filterMap.mp hw
  first | exact List.mem_of_getElem? hi | exact List.getElem?_mem hi
theorem wl_a {a b : List Cond} (ha : ∀ w ∈ a, w ∈ lw_tbl) (hb : ∀ w ∈ b, w ∈ lw_tbl) : ∀ w ∈ a ++ b, w ∈ lw_tbl := fun w h => (List.mem_append.mp h).elim (ha w) (hb w)
set_option maxRecDepth 20000 in
theorem wl_r1 : ∀ w ∈ wsL_law0_r1, w ∈ lw_tbl := wl_p [37, 38, 20, 672, 72, 39, 40, 41, 42, 43, 44, 45, 46, 21, 90, 73, 74, 22, 91, 86, 92, 93, 88, 94] (by decide +kernel)
set_option maxRecDepth 20000 in
theorem wl_r2 : ∀ w ∈ wsL_law0_r2, w ∈ lw_tbl := wl_p [95, 96, 97, 98, 48, 49, 50, 53, 54, 55, 51, 56, 57, 75, 76, 77, 78, 80, 79, 118, 119, 120, 121, 126] (by decide +kernel)
set_option maxRecDepth 20000 in
theorem wl_r3 : ∀ w ∈ wsL_law0_r3, w ∈ lw_tbl := wl_p [127, 128, 129, 130, 131, 19, 132, 133, 134, 135, 136, 137, 138, 139, 140, 141, 142, 143, 219, 27, 263, 29, 264, 265] (by decide +kernel)
set_option maxRecDepth 20000 in
theorem wl_r4 : ∀ w ∈ wsL_law0_r4, w ∈ lw_tbl := wl_p [30, 144, 145, 146, 147, 148, 149, 150, 26, 235, 236, 237, 238, 239, 241, 1, 242, 243, 245, 2, 246, 247, 248, 28] (by decide +kernel)
set_option maxRecDepth 20000 in
theorem wl_r5 : ∀ w ∈ wsL_law0_r5, w ∈ lw_tbl := wl_p [249, 250, 251, 252, 253, 254, 255, 28, 256, 257, 258, 259, 260, 261, 262, 266, 267, 268, 269, 270, 273, 274, 275, 276] (by decide +kernel)
set_option maxRecDepth 20000 in
theorem wl_r6 : ∀ w ∈ wsL_law0_r6, w ∈ lw_tbl := wl_p [271, 272, 290, 291, 292, 293, 296, 298, 294, 307, 309, 3, 310, 311, 312, 313, 314, 315, 316, 317, 318, 319, 320, 321] (by decide +kernel)
set_option maxRecDepth 20000 in
theorem wl_r7 : ∀ w ∈ wsL_law0_r7, w ∈ lw_tbl := wl_p [322, 323, 324, 325, 326, 327, 328, 329, 330, 361, 362, 363, 335, 364, 365, 366, 367, 340, 342, 4, 343, 344, 31, 368] (by decide +kernel)
set_option maxRecDepth 20000 in
theorem wl_r8 : ∀ w ∈ wsL_law0_r8, w ∈ lw_tbl := wl_p [369, 370, 371, 372, 439, 440, 441, 442, 443, 444, 445, 452, 32, 446, 448, 9, 449, 453, 454, 455, 456, 462, 464, 466] (by decide +kernel)
set_option maxRecDepth 20000 in
theorem wl_r9 : ∀ w ∈ wsL_law0_r9, w ∈ lw_tbl := wl_p [468, 470, 460, 457, 458, 558, 559, 560, 561, 562, 563, 564, 565, 567, 18, 568, 594, 595, 596, 597, 598, 599, 600, 122] (by decide +kernel)
set_option maxRecDepth 20000 in
theorem wl_r10 : ∀ w ∈ wsL_law0_r10, w ∈ lw_tbl := wl_p [123, 124, 125, 570, 571, 572, 573, 574, 575, 576, 577, 578, 33, 501, 502, 503, 504, 489, 490, 491, 492, 493, 494, 495] (by decide +kernel)
set_option maxRecDepth 20000 in
theorem wl_r11 : ∀ w ∈ wsL_law0_r11, w ∈ lw_tbl := wl_p [497, 499, 10, 500, 505, 507, 11, 508, 509, 510, 511, 512, 513, 515, 12, 516, 517, 403, 34, 404, 518, 520, 13, 521] (by decide +kernel)
set_option maxRecDepth 20000 in
theorem wl_r12 : ∀ w ∈ wsL_law0_r12, w ∈ lw_tbl := wl_p [522, 523, 525, 14, 526, 527, 529, 15, 530, 531, 532, 534, 16, 535, 536, 538, 17, 539, 540, 541, 542, 543, 544, 545] (by decide +kernel)
set_option maxRecDepth 20000 in
theorem wl_r13 : ∀ w ∈ wsL_law0_r13, w ∈ lw_tbl := wl_p [546, 547, 548, 549, 550, 551, 553, 554, 555, 557, 556, 35, 601, 602, 603, 604, 605, 606, 607, 384, 385, 386, 387, 388] (by decide +kernel)
set_option maxRecDepth 20000 in
theorem wl_r14 : ∀ w ∈ wsL_law0_r14, w ∈ lw_tbl := wl_p [389, 390, 380, 382, 5, 383, 373, 374, 375, 376, 377, 378, 379, 608, 609, 610, 611, 612, 613, 614, 332, 333, 334, 336] (by decide +kernel)
set_option maxRecDepth 20000 in
theorem wl_r15 : ∀ w ∈ wsL_law0_r15, w ∈ lw_tbl := wl_p [337, 338, 339, 615, 616, 617, 618, 619, 620, 621, 622, 623, 624, 625, 414, 415, 416, 391, 392, 393, 394, 395, 396, 397] (by decide +kernel)
set_option maxRecDepth 20000 in
theorem wl_r16 : ∀ w ∈ wsL_law0_r16, w ∈ lw_tbl := wl_p [398, 399, 400, 401, 402, 405, 407, 6, 408, 409, 411, 7, 412, 413, 626, 627, 628, 629, 630, 631, 632, 633, 634, 635] (by decide +kernel)
set_option maxRecDepth 20000 in
theorem wl_r17 : ∀ w ∈ wsL_law0_r17, w ∈ lw_tbl := wl_p [636, 428, 430, 8, 431, 432, 417, 418, 419, 420, 421, 422, 423, 424, 425, 426, 427, 433, 434, 36, 435, 436, 437, 438] (by decide +kernel)
set_option maxRecDepth 20000 in
theorem wl_r18 : ∀ w ∈ wsL_law0_r18, w ∈ lw_tbl := wl_p [637, 638, 639, 640, 641, 642, 643, 644, 645, 646, 647, 648, 649, 650, 651, 652, 653, 654, 655, 656, 658, 659, 660, 661] (by decide +kernel)
set_option maxRecDepth 20000 in
theorem wl_r19 : ∀ w ∈ wsL_law0_r19, w ∈ lw_tbl := wl_p [662, 663, 664, 665, 666, 667, 668, 669, 670, 671] (by decide +kernel)
set_option maxRecDepth 20000 in
theorem wl_X0 : ∀ w ∈ wsX00, w ∈ lw_tbl := wl_p [472, 474, 476, 478, 480, 482, 484, 486] (by decide +kernel)
set_option maxRecDepth 20000 in
theorem wl_X1 : ∀ w ∈ wsX10, w ∈ lw_tbl := wl_p [81, 83] (by decide +kernel)
set_option maxRecDepth 20000 in
theorem wl_X2 : ∀ w ∈ wsX20, w ∈ lw_tbl := wl_p [61, 63, 65, 67, 69] (by decide +kernel)
set_option maxRecDepth 20000 in
theorem wl_X3 : ∀ w ∈ wsX30, w ∈ lw_tbl := wl_p [300, 302, 304] (by decide +kernel)
set_option maxRecDepth 20000 in
theorem wl_X4 : ∀ w ∈ wsX40, w ∈ lw_tbl := wl_p [277, 279, 281, 283, 285, 287] (by decide +kernel)
set_option maxRecDepth 20000 in
theorem wl_X5 : ∀ w ∈ wsX50, w ∈ lw_tbl := wl_p [99, 101, 103, 105, 107, 109, 111, 113, 115] (by decide +kernel)
set_option maxRecDepth 20000 in
theorem wl_x0 : ∀ w ∈ (vx_atS RX5 66 "java/lang/IllegalStateException" ["java/lang/RuntimeException", "java/lang/Exception"]).filter goodWord, w ∈ lw_tbl := wl_p [23, 172, 181, 186, 189, 191, 173, 174, 43, 44, 175, 180, 187, 207, 162, 208, 164, 209, 166, 176, 178, 168, 203, 204, 206, 168, 230, 231, 232, 197, 197, 198, 199, 200, 200, 201, 202, 203, 229, 220, 222, 183, 223, 224, 225, 226, 171, 170, 227] (by decide +kernel)
set_option maxRecDepth 20000 in
theorem wl_x1 : ∀ w ∈ (vx_atS RX5 218 "java/lang/IllegalArgumentException" ["java/lang/RuntimeException", "java/lang/Exception"]).filter goodWord, w ∈ lw_tbl := wl_p [23, 172, 181, 186, 189, 191, 173, 174, 43, 44, 175, 180, 187, 207, 162, 208, 164, 209, 166, 176, 178, 168, 203, 204, 206, 168, 194, 195, 196, 197, 197, 198, 199, 200, 200, 201, 202, 203, 193, 151, 159, 160, 161, 163, 165, 167, 171, 170, 169] (by decide +kernel)
set_option maxRecDepth 20000 in
theorem wl_x2 : ∀ w ∈ (vx_atS RX5 95 "java/lang/IndexOutOfBoundsException" ["java/lang/RuntimeException", "java/lang/Exception"]).filter goodWord, w ∈ lw_tbl := wl_p [23, 172, 181, 186, 189, 191, 173, 174, 43, 44, 175, 180, 187, 207, 162, 208, 164, 209, 166, 176, 178, 168, 203, 204, 206, 168, 355, 356, 357, 197, 197, 198, 199, 200, 200, 201, 202, 203, 354, 345, 347, 184, 348, 349, 350, 351, 171, 170, 352] (by decide +kernel)
set_option maxRecDepth 20000 in
theorem wl_x3 : ∀ w ∈ (vx_atX RX5 169 "java/util/NoSuchElementException" 13 nsB "java/lang/RuntimeException" ["java/lang/Exception"]).filter goodWord, w ∈ lw_tbl := wl_p [23, 172, 181, 186, 189, 191, 173, 174, 43, 44, 175, 180, 187, 207, 162, 208, 164, 209, 166, 176, 178, 168, 203, 204, 206, 168, 589, 590, 591, 197, 197, 198, 199, 200, 200, 201, 202, 203, 588, 579, 581, 185, 582, 583, 584, 585, 171, 170, 586] (by decide +kernel)
theorem wl_law0 : ∀ w ∈ wsL_law0, w ∈ lw_tbl := (wl_a (wl_a (wl_a (wl_a (wl_a (wl_a (wl_a (wl_a wl_r1 (wl_a wl_r2 (wl_a wl_r3 (wl_a wl_r4 (wl_a wl_r5 (wl_a wl_r6 (wl_a wl_r7 (wl_a wl_r8 (wl_a wl_r9 (wl_a wl_r10 (wl_a wl_r11 (wl_a wl_r12 (wl_a wl_r13 (wl_a wl_r14 (wl_a wl_r15 (wl_a wl_r16 (wl_a wl_r17 (wl_a wl_r18 wl_r19)))))))))))))))))) wl_X5) wl_X2) wl_X1) wl_X3) wl_X4) wl_X0) (fun _ h => absurd h List.not_mem_nil))
theorem wl_law : ∀ w ∈ wsL_law, w ∈ lw_tbl := wl_a (wl_a (wl_a (wl_a wl_law0 wl_x0) wl_x1) wl_x2) wl_x3
