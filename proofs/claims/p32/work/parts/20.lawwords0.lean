theorem in_r {big : List Cond} {ws : List Cond} (ps : List Nat) (hp : ws = ps.filterMap (fun i => big[i]?)) : ∀ w ∈ ws, w ∈ big := by
  intro w hw
  rw [hp] at hw
  obtain ⟨i, -, hi⟩ := List.mem_filterMap.mp hw
  first | exact List.mem_of_getElem? hi | exact List.getElem?_mem hi
set_option maxRecDepth 20000 in
theorem wsL_law_c1 : ∀ w ∈ wsL_law0_r1, w ∈ lw_tbl := in_r [25, 26, 15, 82, 27, 28, 29, 30, 31, 32, 33, 34, 35, 36, 37, 38, 39, 40, 41, 42, 43, 44, 83, 45] (by decide +kernel)
set_option maxRecDepth 20000 in
theorem wsL_law_c2 : ∀ w ∈ wsL_law0_r2, w ∈ lw_tbl := in_r [46, 47, 48, 138, 139, 14, 140, 141, 142, 143, 144, 145, 316, 317, 318, 319, 320, 321, 322, 158, 19, 155, 156, 157] (by decide +kernel)
set_option maxRecDepth 20000 in
theorem wsL_law_c3 : ∀ w ∈ wsL_law0_r3, w ∈ lw_tbl := in_r [323, 324, 325, 326, 327, 329, 10, 330, 245, 246, 247, 106, 107, 108, 331, 332, 333, 334, 88, 89, 20, 90, 91, 92] (by decide +kernel)
set_option maxRecDepth 20000 in
theorem wsL_law_c4 : ∀ w ∈ wsL_law0_r4, w ∈ lw_tbl := in_r [93, 335, 336, 337, 338, 339, 341, 11, 342, 113, 115, 3, 116, 343, 344, 345, 346, 347, 348, 349, 350, 351, 352, 353] (by decide +kernel)
set_option maxRecDepth 20000 in
theorem wsL_law_c5 : ∀ w ∈ wsL_law0_r5, w ∈ lw_tbl := in_r [354, 84, 85, 86, 87, 355, 356, 357, 358, 394, 395, 396, 146, 147, 148, 149, 150, 151, 152, 153, 154, 229, 21, 226] (by decide +kernel)
set_option maxRecDepth 20000 in
theorem wsL_law_c6 : ∀ w ∈ wsL_law0_r6, w ∈ lw_tbl := in_r [227, 228, 397, 398, 399, 400, 401, 402, 403, 255, 256, 257, 404, 405, 406, 407, 248, 249, 250, 251, 252, 253, 254, 408] (by decide +kernel)
set_option maxRecDepth 20000 in
theorem wsL_law_c7 : ∀ w ∈ wsL_law0_r7, w ∈ lw_tbl := in_r [409, 410, 411, 412, 413, 414, 415, 416, 417, 419, 420, 421, 422, 423, 424, 425, 427, 428, 429, 430, 260, 261, 262, 263] (by decide +kernel)
set_option maxRecDepth 20000 in
theorem wsL_law_c8 : ∀ w ∈ wsL_law0_r8, w ∈ lw_tbl := in_r [264, 265, 266, 267, 269, 22, 432, 433, 434, 435, 436, 437, 438, 440, 441, 442, 443, 298, 98, 100, 0, 101, 102, 104] (by decide +kernel)
set_option maxRecDepth 20000 in
theorem wsL_law_c9 : ∀ w ∈ wsL_law0_r9, w ∈ lw_tbl := in_r [1, 105, 109, 111, 2, 112, 117, 119, 4, 120, 121, 122, 123, 124, 126, 5, 127, 128, 129, 130, 131, 132, 133, 134] (by decide +kernel)
set_option maxRecDepth 20000 in
theorem wsL_law_c10 : ∀ w ∈ wsL_law0_r10, w ∈ lw_tbl := in_r [136, 6, 137, 444, 446, 12, 447, 303, 304, 23, 305, 306, 307, 308, 299, 301, 9, 302, 448, 449, 450, 451, 452, 453] (by decide +kernel)
set_option maxRecDepth 20000 in
theorem wsL_law_c11 : ∀ w ∈ wsL_law0_r11, w ∈ lw_tbl := in_r [454, 455, 457, 13, 458, 459, 460, 24, 461, 294, 296, 8, 297, 462, 463, 464, 465, 466, 467, 468, 469, 470, 471, 472] (by decide +kernel)
set_option maxRecDepth 20000 in
theorem wsL_law_c12 : ∀ w ∈ wsL_law0_r12, w ∈ lw_tbl := in_r [473, 474, 475, 360, 361, 362, 476, 477, 478, 479, 480, 481, 482, 483, 484, 485, 486, 487, 488, 94, 95, 96, 97, 366] (by decide +kernel)
set_option maxRecDepth 20000 in
theorem wsL_law_c13 : ∀ w ∈ wsL_law0_r13, w ∈ lw_tbl := in_r [367, 368, 369, 370, 371, 372, 383, 384, 385, 377, 378, 379, 380, 381, 382, 386, 387, 388, 389, 390, 391, 392, 393, 363] (by decide +kernel)
set_option maxRecDepth 20000 in
theorem wsL_law_c14 : ∀ w ∈ wsL_law0_r14, w ∈ lw_tbl := in_r [364, 365, 309, 310, 311, 312, 313, 314, 315, 374, 375, 376, 285, 286, 287, 288, 289, 290, 291] (by decide +kernel)
set_option maxRecDepth 20000 in
theorem wsL_law_f0 : ∀ w ∈ wsX00, w ∈ lw_tbl := in_r [49, 51, 53, 55, 57, 59, 61, 63, 65, 67, 69, 71, 73, 75, 77, 79] (by decide +kernel)
theorem wsL_law_in0 : ∀ w ∈ wsL_law0, w ∈ lw_tbl := fun w h => (List.mem_append.mp h).elim (fun h => (List.mem_append.mp h).elim (fun h => (List.mem_append.mp h).elim (fun h => wsL_law_c1 w h) (fun h => (List.mem_append.mp h).elim (fun h => wsL_law_c2 w h) (fun h => (List.mem_append.mp h).elim (fun h => wsL_law_c3 w h) (fun h => (List.mem_append.mp h).elim (fun h => wsL_law_c4 w h) (fun h => (List.mem_append.mp h).elim (fun h => wsL_law_c5 w h) (fun h => (List.mem_append.mp h).elim (fun h => wsL_law_c6 w h) (fun h => (List.mem_append.mp h).elim (fun h => wsL_law_c7 w h) (fun h => (List.mem_append.mp h).elim (fun h => wsL_law_c8 w h) (fun h => (List.mem_append.mp h).elim (fun h => wsL_law_c9 w h) (fun h => (List.mem_append.mp h).elim (fun h => wsL_law_c10 w h) (fun h => (List.mem_append.mp h).elim (fun h => wsL_law_c11 w h) (fun h => (List.mem_append.mp h).elim (fun h => wsL_law_c12 w h) (fun h => (List.mem_append.mp h).elim (fun h => wsL_law_c13 w h) (fun h => wsL_law_c14 w h)))))))))))))) (fun h => wsL_law_f0 w h)) (fun h => absurd h List.not_mem_nil)
theorem wsL_law_x0 : ∀ w ∈ (vx_atS RX0 71 "java/lang/IndexOutOfBoundsException" ["java/lang/RuntimeException", "java/lang/Exception"]).filter goodWord, w ∈ lw_tbl := by decide +kernel
theorem wsL_law_x1 : ∀ w ∈ (vx_atS RX0 91 "java/lang/IllegalArgumentException" ["java/lang/RuntimeException", "java/lang/Exception"]).filter goodWord, w ∈ lw_tbl := by decide +kernel
theorem wsL_law_x2 : ∀ w ∈ (vx_atS RX0 115 "java/lang/IllegalStateException" ["java/lang/RuntimeException", "java/lang/Exception"]).filter goodWord, w ∈ lw_tbl := by decide +kernel
theorem wsL_law_in : ∀ w ∈ wsL_law, w ∈ lw_tbl := fun w h => (List.mem_append.mp h).elim (fun h => (List.mem_append.mp h).elim (fun h => (List.mem_append.mp h).elim (fun h => wsL_law_in0 w h) (fun h => wsL_law_x0 w h)) (fun h => wsL_law_x1 w h)) (fun h => wsL_law_x2 w h)
theorem inlX0 : ∀ w ∈ wsX00, w ∈ wsL_law := fun _ h => List.mem_append_left _ (List.mem_append_left _ (List.mem_append_left _ (List.mem_append_left _ (List.mem_append_right _ h))))
theorem inX0 : ∀ w ∈ wsX00, w ∈ lw_tbl := fun w h => wsL_law_in w (inlX0 w h)
theorem inX1 : ∀ w ∈ wsX10, w ∈ lw_tbl := by decide +kernel
theorem inJ6 : ∀ w ∈ wsJ60, w ∈ lw_tbl := by decide +kernel
theorem inJ13 : ∀ w ∈ wsJ130, w ∈ lw_tbl := by decide +kernel
theorem inJ9 : ∀ w ∈ wsJ90, w ∈ lw_tbl := by decide +kernel
theorem inJ0 : ∀ w ∈ wsJ00, w ∈ lw_tbl := by decide +kernel
