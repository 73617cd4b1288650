set_option maxRecDepth 20000 in
theorem lin_1 : ∀ w ∈ wsL_law0_r1, w ∈ lw_tbl := fun w h => (goodIn_r wsL_law0_r1 [41, 42, 32, 322, 323, 33, 423, 43, 44, 45, 46, 47, 48, 49, 324, 325, 326, 327, 53, 54, 55, 56, 342, 343] (by decide +kernel) (by decide +kernel) w h).1
set_option maxRecDepth 20000 in
theorem lin_2 : ∀ w ∈ wsL_law0_r2, w ∈ lw_tbl := fun w h => (goodIn_r wsL_law0_r2 [344, 345, 328, 329, 57, 58, 59, 60, 346, 347, 348, 349, 86, 87, 31, 88, 89, 90, 91, 92, 93, 143, 38, 71] (by decide +kernel) (by decide +kernel) w h).1
set_option maxRecDepth 20000 in
theorem lin_3 : ∀ w ∈ wsL_law0_r3, w ∈ lw_tbl := fun w h => (goodIn_r wsL_law0_r3 [72, 73, 74, 75, 76, 77, 94, 96, 1, 97, 78, 80, 0, 81, 68, 69, 70, 98, 100, 2, 101, 102, 104, 3] (by decide +kernel) (by decide +kernel) w h).1
set_option maxRecDepth 20000 in
theorem lin_4 : ∀ w ∈ wsL_law0_r4, w ∈ lw_tbl := fun w h => (goodIn_r wsL_law0_r4 [105, 106, 108, 4, 109, 110, 111, 112, 113, 114, 115, 116, 117, 118, 34, 119, 120, 121, 122, 123, 125, 5, 126, 127] (by decide +kernel) (by decide +kernel) w h).1
set_option maxRecDepth 20000 in
theorem lin_5 : ∀ w ∈ wsL_law0_r5, w ∈ lw_tbl := fun w h => (goodIn_r wsL_law0_r5 [129, 6, 130, 131, 133, 7, 134, 135, 137, 8, 138, 139, 141, 9, 142, 350, 351, 352, 353, 330, 354, 356, 21, 357] (by decide +kernel) (by decide +kernel) w h).1
set_option maxRecDepth 20000 in
theorem lin_6 : ∀ w ∈ wsL_law0_r6, w ∈ lw_tbl := fun w h => (goodIn_r wsL_law0_r6 [358, 359, 361, 22, 362, 363, 365, 23, 366, 367, 369, 24, 370, 371, 373, 25, 374, 375, 377, 26, 378, 379, 381, 27] (by decide +kernel) (by decide +kernel) w h).1
set_option maxRecDepth 20000 in
theorem lin_7 : ∀ w ∈ wsL_law0_r7, w ∈ lw_tbl := fun w h => (goodIn_r wsL_law0_r7 [382, 383, 385, 28, 386, 387, 389, 29, 390, 338, 339, 340, 341, 210, 211, 212, 213, 214, 215, 216, 219, 221, 11, 222] (by decide +kernel) (by decide +kernel) w h).1
set_option maxRecDepth 20000 in
theorem lin_8 : ∀ w ∈ wsL_law0_r8, w ∈ lw_tbl := fun w h => (goodIn_r wsL_law0_r8 [223, 225, 12, 226, 227, 229, 13, 230, 391, 392, 393, 394, 395, 397, 30, 398, 61, 62, 63, 64, 65, 66, 67, 399] (by decide +kernel) (by decide +kernel) w h).1
set_option maxRecDepth 20000 in
theorem lin_9 : ∀ w ∈ wsL_law0_r9, w ∈ lw_tbl := fun w h => (goodIn_r wsL_law0_r9 [400, 401, 402, 231, 232, 233, 234, 253, 254, 255, 256, 261, 39, 257, 258, 259, 260, 264, 265, 266, 268, 269, 270, 403] (by decide +kernel) (by decide +kernel) w h).1
set_option maxRecDepth 20000 in
theorem lin_10 : ∀ w ∈ wsL_law0_r10, w ∈ lw_tbl := fun w h => (goodIn_r wsL_law0_r10 [404, 405, 406, 407, 271, 272, 273, 274, 275, 276, 277, 278, 280, 14, 281, 282, 284, 15, 285, 286, 288, 16, 289, 290] (by decide +kernel) (by decide +kernel) w h).1
set_option maxRecDepth 20000 in
theorem lin_11 : ∀ w ∈ wsL_law0_r11, w ∈ lw_tbl := fun w h => (goodIn_r wsL_law0_r11 [291, 292, 293, 295, 17, 296, 297, 298, 299, 300, 302, 18, 303, 304, 306, 19, 307, 408, 409, 410, 411, 412, 413, 414] (by decide +kernel) (by decide +kernel) w h).1
set_option maxRecDepth 20000 in
theorem lin_12 : ∀ w ∈ wsL_law0_r12, w ∈ lw_tbl := fun w h => (goodIn_r wsL_law0_r12 [82, 83, 84, 85, 415, 416, 417, 418, 310, 311, 312, 313, 314, 315, 316, 317, 319, 20, 320, 419, 420, 421, 422] (by decide +kernel) (by decide +kernel) w h).1
theorem inX0 : ∀ w ∈ wsX00, w ∈ lw_tbl := by decide +kernel
theorem inX1 : ∀ w ∈ wsX10, w ∈ lw_tbl := by decide +kernel
theorem wsL_law_in0 : ∀ w ∈ wsL_law0, w ∈ lw_tbl := fun w h => (List.mem_append.mp h).elim (fun h => (List.mem_append.mp h).elim (fun h => (List.mem_append.mp h).elim (fun h => (List.mem_append.mp h).elim (fun h => lin_1 w h) (fun h => (List.mem_append.mp h).elim (fun h => lin_2 w h) (fun h => (List.mem_append.mp h).elim (fun h => lin_3 w h) (fun h => (List.mem_append.mp h).elim (fun h => lin_4 w h) (fun h => (List.mem_append.mp h).elim (fun h => lin_5 w h) (fun h => (List.mem_append.mp h).elim (fun h => lin_6 w h) (fun h => (List.mem_append.mp h).elim (fun h => lin_7 w h) (fun h => (List.mem_append.mp h).elim (fun h => lin_8 w h) (fun h => (List.mem_append.mp h).elim (fun h => lin_9 w h) (fun h => (List.mem_append.mp h).elim (fun h => lin_10 w h) (fun h => (List.mem_append.mp h).elim (fun h => lin_11 w h) (fun h => lin_12 w h)))))))))))) (fun h => inX0 w h)) (fun h => inX1 w h)) (fun h => absurd h List.not_mem_nil)
theorem wsL_law_x0 : ∀ w ∈ (vx_atS RX0 37 "java/lang/IllegalArgumentException" ["java/lang/RuntimeException", "java/lang/Exception"]).filter goodWord, w ∈ lw_tbl := by decide +kernel
theorem wsL_law_x1 : ∀ w ∈ (vx_atM "java/lang/ArithmeticException" ["java/lang/RuntimeException", "java/lang/Exception"]).filter goodWord, w ∈ lw_tbl := by decide +kernel
theorem wsL_law_x2 : ∀ w ∈ (vx_atS RX0 72 "java/lang/ArithmeticException" ["java/lang/RuntimeException", "java/lang/Exception"]).filter goodWord, w ∈ lw_tbl := by decide +kernel
theorem wsL_law_in : ∀ w ∈ wsL_law, w ∈ lw_tbl := fun w h => (List.mem_append.mp h).elim (fun h => (List.mem_append.mp h).elim (fun h => (List.mem_append.mp h).elim (fun h => wsL_law_in0 w h) (fun h => wsL_law_x0 w h)) (fun h => wsL_law_x1 w h)) (fun h => wsL_law_x2 w h)
theorem inlX0 : ∀ w ∈ wsX00, w ∈ wsL_law := fun _ h => List.mem_append_left _ (List.mem_append_left _ (List.mem_append_left _ (List.mem_append_left _ (List.mem_append_left _ (List.mem_append_right _ h)))))
theorem inlX1 : ∀ w ∈ wsX10, w ∈ wsL_law := fun _ h => List.mem_append_left _ (List.mem_append_left _ (List.mem_append_left _ (List.mem_append_left _ (List.mem_append_right _ h))))
