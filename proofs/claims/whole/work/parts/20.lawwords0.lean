theorem in_r {big : List Cond} {ws : List Cond} (ps : List Nat) (hp : ws = ps.filterMap (fun i => big[i]?)) : ∀ w ∈ ws, w ∈ big := by
  intro w hw
  rw [hp] at hw
  obtain ⟨i, -, hi⟩ := List.mem_filterMap.mp hw
  first | exact List.mem_of_getElem? hi | exact List.getElem?_mem hi
set_option maxRecDepth 20000 in
theorem wsL_law_c1 : ∀ w ∈ wsL_law0_r1, w ∈ lw_tbl := in_r [49, 50, 38, 509, 510, 39, 107, 51, 52, 53, 54, 55, 56, 106, 57, 58, 59, 60, 61, 62, 63, 64, 65, 66] (by decide +kernel)
set_option maxRecDepth 20000 in
theorem wsL_law_c2 : ∀ w ∈ wsL_law0_r2, w ∈ lw_tbl := in_r [67, 68, 69, 70, 71, 72, 511, 512, 513, 514, 515, 516, 517, 518, 519, 520, 521, 522, 523, 524, 525, 526, 201, 202] (by decide +kernel)
set_option maxRecDepth 20000 in
theorem wsL_law_c3 : ∀ w ∈ wsL_law0_r3, w ∈ lw_tbl := in_r [37, 203, 204, 205, 206, 207, 208, 215, 43, 209, 210, 211, 212, 213, 214, 120, 121, 122, 283, 284, 285, 568, 569, 570] (by decide +kernel)
set_option maxRecDepth 20000 in
theorem wsL_law_c4 : ∀ w ∈ wsL_law0_r4, w ∈ lw_tbl := in_r [571, 572, 574, 14, 575, 576, 578, 15, 579, 580, 582, 16, 583, 584, 586, 17, 587, 530, 588, 590, 18, 591, 592, 594] (by decide +kernel)
set_option maxRecDepth 20000 in
theorem wsL_law_c5 : ∀ w ∈ wsL_law0_r5, w ∈ lw_tbl := in_r [19, 595, 527, 564, 565, 566, 567, 286, 287, 288, 289, 290, 291, 292, 596, 597, 598, 599, 293, 294, 295, 296, 297, 298] (by decide +kernel)
set_option maxRecDepth 20000 in
theorem wsL_law_c6 : ∀ w ∈ wsL_law0_r6, w ∈ lw_tbl := in_r [299, 300, 305, 44, 302, 303, 304, 131, 132, 45, 133, 134, 135, 136, 600, 601, 602, 603, 604, 606, 20, 607, 321, 322] (by decide +kernel)
set_option maxRecDepth 20000 in
theorem wsL_law_c7 : ∀ w ∈ wsL_law0_r7, w ∈ lw_tbl := in_r [323, 324, 325, 326, 327, 608, 609, 610, 611, 330, 331, 332, 333, 334, 335, 336, 337, 338, 339, 612, 613, 614, 615, 341] (by decide +kernel)
set_option maxRecDepth 20000 in
theorem wsL_law_c8 : ∀ w ∈ wsL_law0_r8, w ∈ lw_tbl := in_r [342, 343, 344, 345, 346, 347, 616, 617, 618, 619, 349, 350, 351, 352, 353, 354, 355, 620, 621, 622, 623, 357, 358, 359] (by decide +kernel)
set_option maxRecDepth 20000 in
theorem wsL_law_c9 : ∀ w ∈ wsL_law0_r9, w ∈ lw_tbl := in_r [360, 361, 362, 363, 364, 365, 46, 624, 625, 626, 627, 381, 382, 383, 384, 385, 386, 387, 389, 391, 11, 392, 628, 629] (by decide +kernel)
set_option maxRecDepth 20000 in
theorem wsL_law_c10 : ∀ w ∈ wsL_law0_r10, w ∈ lw_tbl := in_r [630, 631, 632, 634, 21, 635, 108, 109, 110, 111, 168, 112, 114, 0, 115, 116, 118, 1, 119, 123, 125, 2, 126, 127] (by decide +kernel)
set_option maxRecDepth 20000 in
theorem wsL_law_c11 : ∀ w ∈ wsL_law0_r11, w ∈ lw_tbl := in_r [129, 3, 130, 137, 139, 4, 140, 141, 142, 143, 144, 146, 5, 147, 148, 149, 150, 151, 152, 153, 154, 156, 6, 157] (by decide +kernel)
set_option maxRecDepth 20000 in
theorem wsL_law_c12 : ∀ w ∈ wsL_law0_r12, w ∈ lw_tbl := in_r [158, 160, 7, 161, 162, 163, 47, 164, 165, 166, 167, 169, 171, 8, 172, 636, 637, 638, 639, 529, 528, 640, 642, 22] (by decide +kernel)
set_option maxRecDepth 20000 in
theorem wsL_law_c13 : ∀ w ∈ wsL_law0_r13, w ∈ lw_tbl := in_r [643, 644, 646, 23, 647, 648, 650, 24, 651, 652, 654, 25, 655, 656, 658, 26, 659, 660, 662, 27, 663, 664, 666, 28] (by decide +kernel)
set_option maxRecDepth 20000 in
theorem wsL_law_c14 : ∀ w ∈ wsL_law0_r14, w ∈ lw_tbl := in_r [667, 668, 670, 29, 671, 393, 394, 395, 396, 397, 398, 399, 401, 403, 12, 404, 405, 406, 48, 407, 408, 410, 13, 411] (by decide +kernel)
set_option maxRecDepth 20000 in
theorem wsL_law_c15 : ∀ w ∈ wsL_law0_r15, w ∈ lw_tbl := in_r [412, 413, 414, 415, 416, 417, 418, 419, 420, 421, 672, 673, 674, 675, 676, 678, 30, 679, 680, 682, 31, 683, 684, 686] (by decide +kernel)
set_option maxRecDepth 20000 in
theorem wsL_law_c16 : ∀ w ∈ wsL_law0_r16, w ∈ lw_tbl := in_r [32, 687, 688, 690, 33, 691, 173, 174, 175, 176, 692, 693, 694, 695, 696, 698, 34, 699, 422, 423, 424, 425, 426, 427] (by decide +kernel)
set_option maxRecDepth 20000 in
theorem wsL_law_c17 : ∀ w ∈ wsL_law0_r17, w ∈ lw_tbl := in_r [428, 700, 701, 702, 703, 177, 178, 179, 180, 704, 705, 706, 707, 429, 430, 431, 432, 433, 434, 435, 708, 709, 710, 711] (by decide +kernel)
set_option maxRecDepth 20000 in
theorem wsL_law_c18 : ∀ w ∈ wsL_law0_r18, w ∈ lw_tbl := in_r [181, 182, 183, 184, 712, 713, 714, 715, 436, 437, 438, 439, 440, 441, 442, 716, 717, 718, 719, 185, 186, 187, 188, 720] (by decide +kernel)
set_option maxRecDepth 20000 in
theorem wsL_law_c19 : ∀ w ∈ wsL_law0_r19, w ∈ lw_tbl := in_r [721, 722, 723, 443, 444, 445, 446, 447, 448, 449, 724, 725, 726, 727, 451, 452, 453, 454, 455, 456, 457, 728, 729, 730] (by decide +kernel)
set_option maxRecDepth 20000 in
theorem wsL_law_c20 : ∀ w ∈ wsL_law0_r20, w ∈ lw_tbl := in_r [731, 458, 459, 460, 461, 462, 463, 464, 732, 733, 734, 735, 466, 467, 468, 469, 470, 471, 472, 736, 737, 738, 739, 189] (by decide +kernel)
set_option maxRecDepth 20000 in
theorem wsL_law_c21 : ∀ w ∈ wsL_law0_r21, w ∈ lw_tbl := in_r [190, 191, 192, 740, 741, 742, 743, 473, 474, 475, 476, 477, 478, 479, 744, 745, 746, 747, 748, 750, 35, 751, 481, 482] (by decide +kernel)
set_option maxRecDepth 20000 in
theorem wsL_law_c22 : ∀ w ∈ wsL_law0_r22, w ∈ lw_tbl := in_r [483, 484, 485, 486, 487, 752, 753, 754, 755, 488, 489, 490, 491, 492, 493, 494, 197, 199, 9, 200, 756, 757, 758, 759] (by decide +kernel)
set_option maxRecDepth 20000 in
theorem wsL_law_c23 : ∀ w ∈ wsL_law0_r23, w ∈ lw_tbl := in_r [760, 762, 36, 763, 495, 496, 497, 498, 499, 500, 501, 764, 765, 766, 767, 193, 194, 195, 196, 768, 769, 770, 771, 502] (by decide +kernel)
set_option maxRecDepth 20000 in
theorem wsL_law_c24 : ∀ w ∈ wsL_law0_r24, w ∈ lw_tbl := in_r [503, 504, 505, 506, 507, 508, 772, 773, 774, 775] (by decide +kernel)
set_option maxRecDepth 20000 in
theorem wsL_law_f0 : ∀ w ∈ wsX00, w ∈ lw_tbl := in_r [73, 75, 77, 79, 81, 83, 85, 87, 89, 91, 93, 95, 97, 99, 101, 103] (by decide +kernel)
set_option maxRecDepth 20000 in
theorem wsL_law_f1 : ∀ w ∈ wsX10, w ∈ lw_tbl := in_r [531, 533, 535, 537, 539, 541, 543, 545, 547, 549, 551, 553, 555, 557, 559, 561] (by decide +kernel)
theorem wsL_law_in0 : ∀ w ∈ wsL_law0, w ∈ lw_tbl := fun w h => (List.mem_append.mp h).elim (fun h => (List.mem_append.mp h).elim (fun h => (List.mem_append.mp h).elim (fun h => (List.mem_append.mp h).elim (fun h => wsL_law_c1 w h) (fun h => (List.mem_append.mp h).elim (fun h => wsL_law_c2 w h) (fun h => (List.mem_append.mp h).elim (fun h => wsL_law_c3 w h) (fun h => (List.mem_append.mp h).elim (fun h => wsL_law_c4 w h) (fun h => (List.mem_append.mp h).elim (fun h => wsL_law_c5 w h) (fun h => (List.mem_append.mp h).elim (fun h => wsL_law_c6 w h) (fun h => (List.mem_append.mp h).elim (fun h => wsL_law_c7 w h) (fun h => (List.mem_append.mp h).elim (fun h => wsL_law_c8 w h) (fun h => (List.mem_append.mp h).elim (fun h => wsL_law_c9 w h) (fun h => (List.mem_append.mp h).elim (fun h => wsL_law_c10 w h) (fun h => (List.mem_append.mp h).elim (fun h => wsL_law_c11 w h) (fun h => (List.mem_append.mp h).elim (fun h => wsL_law_c12 w h) (fun h => (List.mem_append.mp h).elim (fun h => wsL_law_c13 w h) (fun h => (List.mem_append.mp h).elim (fun h => wsL_law_c14 w h) (fun h => (List.mem_append.mp h).elim (fun h => wsL_law_c15 w h) (fun h => (List.mem_append.mp h).elim (fun h => wsL_law_c16 w h) (fun h => (List.mem_append.mp h).elim (fun h => wsL_law_c17 w h) (fun h => (List.mem_append.mp h).elim (fun h => wsL_law_c18 w h) (fun h => (List.mem_append.mp h).elim (fun h => wsL_law_c19 w h) (fun h => (List.mem_append.mp h).elim (fun h => wsL_law_c20 w h) (fun h => (List.mem_append.mp h).elim (fun h => wsL_law_c21 w h) (fun h => (List.mem_append.mp h).elim (fun h => wsL_law_c22 w h) (fun h => (List.mem_append.mp h).elim (fun h => wsL_law_c23 w h) (fun h => wsL_law_c24 w h)))))))))))))))))))))))) (fun h => wsL_law_f0 w h)) (fun h => wsL_law_f1 w h)) (fun h => absurd h List.not_mem_nil)
theorem wsL_law_x0 : ∀ w ∈ (vx_atS RX0 71 "java/lang/IndexOutOfBoundsException" ["java/lang/RuntimeException", "java/lang/Exception"]).filter goodWord, w ∈ lw_tbl := by decide +kernel
theorem wsL_law_x1 : ∀ w ∈ (vx_atS RX0 91 "java/lang/IllegalArgumentException" ["java/lang/RuntimeException", "java/lang/Exception"]).filter goodWord, w ∈ lw_tbl := by decide +kernel
theorem wsL_law_x2 : ∀ w ∈ (vx_atS RX0 115 "java/lang/IllegalStateException" ["java/lang/RuntimeException", "java/lang/Exception"]).filter goodWord, w ∈ lw_tbl := by decide +kernel
theorem wsL_law_in : ∀ w ∈ wsL_law, w ∈ lw_tbl := fun w h => (List.mem_append.mp h).elim (fun h => (List.mem_append.mp h).elim (fun h => (List.mem_append.mp h).elim (fun h => wsL_law_in0 w h) (fun h => wsL_law_x0 w h)) (fun h => wsL_law_x1 w h)) (fun h => wsL_law_x2 w h)
theorem inlX0 : ∀ w ∈ wsX00, w ∈ wsL_law := fun _ h => List.mem_append_left _ (List.mem_append_left _ (List.mem_append_left _ (List.mem_append_left _ (List.mem_append_left _ (List.mem_append_right _ h)))))
theorem inX0 : ∀ w ∈ wsX00, w ∈ lw_tbl := fun w h => wsL_law_in w (inlX0 w h)
theorem inlX1 : ∀ w ∈ wsX10, w ∈ wsL_law := fun _ h => List.mem_append_left _ (List.mem_append_left _ (List.mem_append_left _ (List.mem_append_left _ (List.mem_append_right _ h))))
theorem inX1 : ∀ w ∈ wsX10, w ∈ lw_tbl := fun w h => wsL_law_in w (inlX1 w h)
theorem inJ6 : ∀ w ∈ wsJ60, w ∈ lw_tbl := by decide +kernel
theorem inJ13 : ∀ w ∈ wsJ130, w ∈ lw_tbl := by decide +kernel
theorem inJ9 : ∀ w ∈ wsJ90, w ∈ lw_tbl := by decide +kernel
theorem inJ0 : ∀ w ∈ wsJ00, w ∈ lw_tbl := by decide +kernel
