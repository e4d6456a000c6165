set_option maxRecDepth 100000 in
theorem wsL_in_1 : ∀ w ∈ wsL_law_r1, w ∈ lw_tbl := sub_p _ [53, 54, 43, 566, 567, 50, 55, 56, 57, 58, 59, 60, 61, 62, 44, 229, 122, 123, 45, 230, 149, 231, 151, 152] rfl
set_option maxRecDepth 100000 in
theorem wsL_in_2 : ∀ w ∈ wsL_law_r2, w ∈ lw_tbl := sub_p _ [46, 232, 168, 169, 47, 233, 193, 194, 48, 234, 235, 204, 49, 64, 65, 66, 67, 70, 72, 77, 121, 81, 86, 92] rfl
set_option maxRecDepth 100000 in
theorem wsL_in_3 : ∀ w ∈ wsL_law_r3, w ∈ lw_tbl := sub_p _ [98, 125, 126, 127, 128, 132, 137, 154, 155, 156, 167, 157, 161, 171, 172, 173, 174, 175, 176, 177, 178, 179, 196, 197] rfl
set_option maxRecDepth 100000 in
theorem wsL_in_4 : ∀ w ∈ wsL_law_r4, w ∈ lw_tbl := sub_p _ [198, 199, 206, 207, 208, 209, 211, 212, 213, 214, 215, 568, 569, 570, 571, 572, 573, 575, 576, 577, 578, 579, 581, 584] rfl
set_option maxRecDepth 100000 in
theorem wsL_in_5 : ∀ w ∈ wsL_law_r5, w ∈ lw_tbl := sub_p _ [585, 586, 587, 648, 588, 589, 590, 592, 593, 594, 595, 596, 251, 252, 253, 254, 255, 256, 257, 258, 259, 260, 261, 262] rfl
set_option maxRecDepth 100000 in
theorem wsL_in_6 : ∀ w ∈ wsL_law_r6, w ∈ lw_tbl := sub_p _ [649, 650, 651, 652, 653, 574, 580, 582, 583, 654, 655, 656, 263, 264, 265, 266, 267, 268, 269, 270, 271, 272, 273, 274] rfl
set_option maxRecDepth 100000 in
theorem wsL_in_7 : ∀ w ∈ wsL_law_r7, w ∈ lw_tbl := sub_p _ [275, 276, 277, 278, 279, 280, 281, 657, 658, 659, 660, 661, 663, 21, 664, 665, 667, 22, 668, 282, 283, 284, 285, 286] rfl
set_option maxRecDepth 100000 in
theorem wsL_in_8 : ∀ w ∈ wsL_law_r8, w ∈ lw_tbl := sub_p _ [287, 288, 289, 669, 670, 671, 672, 290, 291, 292, 293, 673, 674, 675, 676, 294, 295, 296, 297, 298, 299, 300, 301, 677] rfl
set_option maxRecDepth 100000 in
theorem wsL_in_9 : ∀ w ∈ wsL_law_r9, w ∈ lw_tbl := sub_p _ [678, 679, 680, 302, 303, 304, 305, 681, 682, 683, 684, 306, 307, 308, 309, 310, 311, 312, 313, 315, 316, 317, 318, 319] rfl
set_option maxRecDepth 100000 in
theorem wsL_in_10 : ∀ w ∈ wsL_law_r10, w ∈ lw_tbl := sub_p _ [320, 321, 322, 323, 685, 686, 687, 688, 689, 691, 23, 692, 693, 695, 24, 696, 697, 699, 25, 700, 324, 325, 326, 327] rfl
set_option maxRecDepth 100000 in
theorem wsL_in_11 : ∀ w ∈ wsL_law_r11, w ∈ lw_tbl := sub_p _ [328, 329, 330, 331, 332, 333, 51, 334, 701, 702, 703, 704, 335, 336, 337, 338, 339, 341, 0, 342, 343, 345, 1, 346] rfl
set_option maxRecDepth 100000 in
theorem wsL_in_12 : ∀ w ∈ wsL_law_r12, w ∈ lw_tbl := sub_p _ [347, 348, 349, 350, 351, 352, 353, 705, 706, 707, 708, 709, 711, 26, 712, 713, 715, 27, 716, 354, 355, 356, 357, 358] rfl
set_option maxRecDepth 100000 in
theorem wsL_in_13 : ∀ w ∈ wsL_law_r13, w ∈ lw_tbl := sub_p _ [359, 360, 361, 362, 363, 364, 365, 367, 368, 717, 718, 719, 720, 369, 370, 371, 372, 721, 722, 723, 724, 373, 374, 375] rfl
set_option maxRecDepth 100000 in
theorem wsL_in_14 : ∀ w ∈ wsL_law_r14, w ∈ lw_tbl := sub_p _ [376, 377, 378, 379, 380, 381, 383, 2, 384, 725, 726, 727, 728, 729, 731, 28, 732, 733, 735, 29, 736, 385, 386, 387] rfl
set_option maxRecDepth 100000 in
theorem wsL_in_15 : ∀ w ∈ wsL_law_r15, w ∈ lw_tbl := sub_p _ [388, 389, 390, 392, 3, 393, 394, 395, 396, 397, 398, 399, 400, 401, 402, 404, 4, 405, 406, 408, 5, 409, 412, 413] rfl
set_option maxRecDepth 100000 in
theorem wsL_in_16 : ∀ w ∈ wsL_law_r16, w ∈ lw_tbl := sub_p _ [414, 415, 416, 417, 52, 418, 419, 421, 6, 422, 423, 424, 425, 426, 427, 429, 7, 430, 435, 431, 432, 433, 434, 436] rfl
set_option maxRecDepth 100000 in
theorem wsL_in_17 : ∀ w ∈ wsL_law_r17, w ∈ lw_tbl := sub_p _ [438, 8, 439, 442, 444, 9, 445, 446, 448, 10, 449, 450, 451, 452, 453, 454, 455, 456, 457, 459, 458, 460, 461, 462] rfl
set_option maxRecDepth 100000 in
theorem wsL_in_18 : ∀ w ∈ wsL_law_r18, w ∈ lw_tbl := sub_p _ [463, 464, 465, 466, 467, 470, 468, 471, 472, 473, 474, 737, 738, 739, 740, 741, 742, 744, 30, 745, 591, 746, 747, 748] rfl
set_option maxRecDepth 100000 in
theorem wsL_in_19 : ∀ w ∈ wsL_law_r19, w ∈ lw_tbl := sub_p _ [749, 750, 752, 31, 753, 754, 756, 32, 757, 758, 760, 33, 761, 762, 763, 764, 765, 766, 767, 768, 769, 771, 34, 772] rfl
set_option maxRecDepth 100000 in
theorem wsL_in_20 : ∀ w ∈ wsL_law_r20, w ∈ lw_tbl := sub_p _ [773, 775, 35, 776, 475, 476, 477, 478, 479, 481, 11, 482, 483, 484, 485, 486, 777, 778, 779, 780, 781, 783, 36, 784] rfl
set_option maxRecDepth 100000 in
theorem wsL_in_21 : ∀ w ∈ wsL_law_r21, w ∈ lw_tbl := sub_p _ [487, 488, 489, 490, 785, 786, 787, 788, 789, 491, 492, 493, 494, 790, 791, 792, 793, 495, 496, 497, 498, 499, 500, 501] rfl
set_option maxRecDepth 100000 in
theorem wsL_in_22 : ∀ w ∈ wsL_law_r22, w ∈ lw_tbl := sub_p _ [502, 503, 505, 12, 506, 507, 508, 510, 13, 511, 512, 514, 516, 14, 517, 519, 521, 15, 522, 523, 525, 16, 526, 527] rfl
set_option maxRecDepth 100000 in
theorem wsL_in_23 : ∀ w ∈ wsL_law_r23, w ∈ lw_tbl := sub_p _ [529, 17, 530, 531, 533, 18, 534, 535, 536, 537, 538, 539, 540, 541, 542, 544, 19, 545, 546, 548, 20, 549, 794, 795] rfl
set_option maxRecDepth 100000 in
theorem wsL_in_24 : ∀ w ∈ wsL_law_r24, w ∈ lw_tbl := sub_p _ [796, 797, 798, 800, 37, 801, 802, 804, 38, 805, 806, 808, 39, 809, 810, 812, 40, 813, 550, 551, 552, 553, 554, 555] rfl
set_option maxRecDepth 100000 in
theorem wsL_in_25 : ∀ w ∈ wsL_law_r25, w ∈ lw_tbl := sub_p _ [556, 557, 814, 815, 816, 817, 818, 820, 41, 821, 558, 559, 560, 561, 562, 563, 564, 565, 822, 823, 824, 825] rfl
theorem inX0 : ∀ w ∈ wsX00, w ∈ lw_tbl := by decide +kernel
theorem inX1 : ∀ w ∈ wsX10, w ∈ lw_tbl := by decide +kernel
theorem inX2 : ∀ w ∈ wsX20, w ∈ lw_tbl := by decide +kernel
theorem inX3 : ∀ w ∈ wsX30, w ∈ lw_tbl := by decide +kernel
theorem inX4 : ∀ w ∈ wsX40, w ∈ lw_tbl := by decide +kernel
theorem inX5 : ∀ w ∈ wsX50, w ∈ lw_tbl := by decide +kernel
theorem inX6 : ∀ w ∈ wsX60, w ∈ lw_tbl := by decide +kernel
theorem inX7 : ∀ w ∈ wsX70, w ∈ lw_tbl := by decide +kernel
theorem wsL_law_in : ∀ w ∈ wsL_law, w ∈ lw_tbl := List.forall_mem_append.mpr ⟨List.forall_mem_append.mpr ⟨List.forall_mem_append.mpr ⟨List.forall_mem_append.mpr ⟨List.forall_mem_append.mpr ⟨List.forall_mem_append.mpr ⟨List.forall_mem_append.mpr ⟨List.forall_mem_append.mpr ⟨List.forall_mem_append.mpr ⟨List.forall_mem_append.mpr ⟨wsL_in_1, List.forall_mem_append.mpr ⟨wsL_in_2, List.forall_mem_append.mpr ⟨wsL_in_3, List.forall_mem_append.mpr ⟨wsL_in_4, List.forall_mem_append.mpr ⟨wsL_in_5, List.forall_mem_append.mpr ⟨wsL_in_6, List.forall_mem_append.mpr ⟨wsL_in_7, List.forall_mem_append.mpr ⟨wsL_in_8, List.forall_mem_append.mpr ⟨wsL_in_9, List.forall_mem_append.mpr ⟨wsL_in_10, List.forall_mem_append.mpr ⟨wsL_in_11, List.forall_mem_append.mpr ⟨wsL_in_12, List.forall_mem_append.mpr ⟨wsL_in_13, List.forall_mem_append.mpr ⟨wsL_in_14, List.forall_mem_append.mpr ⟨wsL_in_15, List.forall_mem_append.mpr ⟨wsL_in_16, List.forall_mem_append.mpr ⟨wsL_in_17, List.forall_mem_append.mpr ⟨wsL_in_18, List.forall_mem_append.mpr ⟨wsL_in_19, List.forall_mem_append.mpr ⟨wsL_in_20, List.forall_mem_append.mpr ⟨wsL_in_21, List.forall_mem_append.mpr ⟨wsL_in_22, List.forall_mem_append.mpr ⟨wsL_in_23, List.forall_mem_append.mpr ⟨wsL_in_24, wsL_in_25⟩⟩⟩⟩⟩⟩⟩⟩⟩⟩⟩⟩⟩⟩⟩⟩⟩⟩⟩⟩⟩⟩⟩⟩, inX6⟩, inX7⟩, inX4⟩, inX5⟩, inX3⟩, inX0⟩, inX1⟩, inX2⟩, fun _ h => absurd h List.not_mem_nil⟩
theorem inlX0 : ∀ w ∈ wsX00, w ∈ wsL_law := fun _ h => List.mem_append_left _ (List.mem_append_left _ (List.mem_append_left _ (List.mem_append_right _ h)))
theorem inlX1 : ∀ w ∈ wsX10, w ∈ wsL_law := fun _ h => List.mem_append_left _ (List.mem_append_left _ (List.mem_append_right _ h))
theorem inlX2 : ∀ w ∈ wsX20, w ∈ wsL_law := fun _ h => List.mem_append_left _ (List.mem_append_right _ h)
theorem inlX3 : ∀ w ∈ wsX30, w ∈ wsL_law := fun _ h => List.mem_append_left _ (List.mem_append_left _ (List.mem_append_left _ (List.mem_append_left _ (List.mem_append_right _ h))))
theorem inlX4 : ∀ w ∈ wsX40, w ∈ wsL_law := fun _ h => List.mem_append_left _ (List.mem_append_left _ (List.mem_append_left _ (List.mem_append_left _ (List.mem_append_left _ (List.mem_append_left _ (List.mem_append_right _ h))))))
theorem inlX5 : ∀ w ∈ wsX50, w ∈ wsL_law := fun _ h => List.mem_append_left _ (List.mem_append_left _ (List.mem_append_left _ (List.mem_append_left _ (List.mem_append_left _ (List.mem_append_right _ h)))))
theorem inlX6 : ∀ w ∈ wsX60, w ∈ wsL_law := fun _ h => List.mem_append_left _ (List.mem_append_left _ (List.mem_append_left _ (List.mem_append_left _ (List.mem_append_left _ (List.mem_append_left _ (List.mem_append_left _ (List.mem_append_left _ (List.mem_append_right _ h))))))))
theorem inlX7 : ∀ w ∈ wsX70, w ∈ wsL_law := fun _ h => List.mem_append_left _ (List.mem_append_left _ (List.mem_append_left _ (List.mem_append_left _ (List.mem_append_left _ (List.mem_append_left _ (List.mem_append_left _ (List.mem_append_right _ h)))))))
