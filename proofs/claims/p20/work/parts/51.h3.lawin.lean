/-! 51.h3.lawin: the law's words are among those of the tables -/
set_option maxRecDepth 20000 in
theorem in_wsL_law0_r1 : ∀ w ∈ wsL_law0_r1, w ∈ lw_tbl := fun w h => (goodIn_p wsL_law0_r1 [44, 45, 32, 145, 144, 538, 602, 488, 34, 489, 603, 534, 46, 47, 48, 49, 50, 51, 172, 52, 53, 33, 169, 170] (by decide +kernel) (by decide +kernel) w h).1
set_option maxRecDepth 20000 in
theorem in_wsL_law0_r2 : ∀ w ∈ wsL_law0_r2, w ∈ lw_tbl := fun w h => (goodIn_p wsL_law0_r2 [146, 147, 35, 171, 55, 56, 57, 87, 89, 91, 94, 95, 96, 98, 106, 109, 111, 113, 100, 58, 60, 0, 61, 62] (by decide +kernel) (by decide +kernel) w h).1
set_option maxRecDepth 20000 in
theorem in_wsL_law0_r3 : ∀ w ∈ wsL_law0_r3, w ∈ lw_tbl := fun w h => (goodIn_p wsL_law0_r3 [63, 64, 66, 67, 68, 70, 1, 71, 72, 74, 2, 75, 77, 78, 79, 80, 81, 82, 84, 3, 85, 149, 150, 151] (by decide +kernel) (by decide +kernel) w h).1
set_option maxRecDepth 20000 in
theorem in_wsL_law0_r4 : ∀ w ∈ wsL_law0_r4, w ∈ lw_tbl := fun w h => (goodIn_p wsL_law0_r4 [152, 153, 154, 155, 518, 519, 31, 520, 521, 522, 36, 532, 523, 524, 525, 526, 531, 533, 535, 536, 537, 539, 529, 494] (by decide +kernel) (by decide +kernel) w h).1
set_option maxRecDepth 20000 in
theorem in_wsL_law0_r5 : ∀ w ∈ wsL_law0_r5, w ∈ lw_tbl := fun w h => (goodIn_p wsL_law0_r5 [495, 496, 497, 514, 515, 516, 517, 510, 511, 512, 513, 559, 560, 561, 562, 190, 40, 327, 41, 564, 565, 566, 568, 569] (by decide +kernel) (by decide +kernel) w h).1
set_option maxRecDepth 20000 in
theorem in_wsL_law0_r6 : ∀ w ∈ wsL_law0_r6, w ∈ lw_tbl := fun w h => (goodIn_p wsL_law0_r6 [570, 571, 186, 187, 188, 189, 573, 574, 575, 530, 576, 484, 485, 486, 487, 468, 469, 470, 471, 472, 473, 474, 475, 476] (by decide +kernel) (by decide +kernel) w h).1
set_option maxRecDepth 20000 in
theorem in_wsL_law0_r7 : ∀ w ∈ wsL_law0_r7, w ∈ lw_tbl := fun w h => (goodIn_p wsL_law0_r7 [477, 478, 479, 480, 481, 482, 577, 491, 492, 493, 578, 579, 580, 581, 343, 42, 409, 23, 410, 411, 275, 7, 276, 399] (by decide +kernel) (by decide +kernel) w h).1
set_option maxRecDepth 20000 in
theorem in_wsL_law0_r8 : ∀ w ∈ wsL_law0_r8, w ∈ lw_tbl := fun w h => (goodIn_p wsL_law0_r8 [401, 21, 402, 414, 24, 415, 303, 305, 304, 43, 407, 416, 418, 25, 419, 320, 321, 322, 323, 324, 325, 326, 361, 16] (by decide +kernel) (by decide +kernel) w h).1
set_option maxRecDepth 20000 in
theorem in_wsL_law0_r9 : ∀ w ∈ wsL_law0_r9, w ∈ lw_tbl := fun w h => (goodIn_p wsL_law0_r9 [362, 156, 586, 587, 588, 589, 590, 591, 592, 436, 28, 437, 593, 503, 504, 505, 594, 507, 508, 509, 528, 595, 596, 597] (by decide +kernel) (by decide +kernel) w h).1
set_option maxRecDepth 20000 in
theorem in_wsL_law0_r10 : ∀ w ∈ wsL_law0_r10, w ∈ lw_tbl := fun w h => (goodIn_p wsL_law0_r10 [598, 317, 15, 318, 313, 14, 314, 102, 104, 315, 421, 422, 423, 424, 426, 428, 26, 429, 432, 27, 433, 440, 29, 441] (by decide +kernel) (by decide +kernel) w h).1
set_option maxRecDepth 20000 in
theorem in_wsL_law0_r11 : ∀ w ∈ wsL_law0_r11, w ∈ lw_tbl := fun w h => (goodIn_p wsL_law0_r11 [444, 30, 445, 182, 183, 184, 185, 260, 5, 261, 264, 6, 265, 267, 268, 269, 270, 446, 447, 448, 449, 301, 12, 302] (by decide +kernel) (by decide +kernel) w h).1
set_option maxRecDepth 20000 in
theorem in_wsL_law0_r12 : ∀ w ∈ wsL_law0_r12, w ∈ lw_tbl := fun w h => (goodIn_p wsL_law0_r12 [390, 19, 391, 392, 393, 34, 394, 395, 397, 20, 398, 403, 405, 22, 406, 412, 420, 308, 13, 309, 310, 292, 10, 293] (by decide +kernel) (by decide +kernel) w h).1
set_option maxRecDepth 20000 in
theorem in_wsL_law0_r13 : ∀ w ∈ wsL_law0_r13, w ∈ lw_tbl := fun w h => (goodIn_p wsL_law0_r13 [294, 296, 11, 297, 286, 288, 9, 289, 311, 451, 452, 453, 454, 369, 17, 370, 374, 18, 375, 376, 378, 379, 380, 363] (by decide +kernel) (by decide +kernel) w h).1
set_option maxRecDepth 20000 in
theorem in_wsL_law0_r14 : ∀ w ∈ wsL_law0_r14, w ∈ lw_tbl := fun w h => (goodIn_p wsL_law0_r14 [364, 365, 366, 383, 384, 385, 386, 460, 461, 462, 463, 527, 464, 465, 466, 467, 483, 490, 498, 499, 500, 501, 502, 506] (by decide +kernel) (by decide +kernel) w h).1
set_option maxRecDepth 20000 in
theorem in_wsL_law0_r15 : ∀ w ∈ wsL_law0_r15, w ∈ lw_tbl := fun w h => (goodIn_p wsL_law0_r15 [278, 279, 280, 281, 284, 8, 285, 455, 456, 457, 458, 459] (by decide +kernel) (by decide +kernel) w h).1
theorem in_chunks : ∀ w ∈ ((wsL_law0_r1 ++ (wsL_law0_r2 ++ (wsL_law0_r3 ++ (wsL_law0_r4 ++ (wsL_law0_r5 ++ (wsL_law0_r6 ++ (wsL_law0_r7 ++ (wsL_law0_r8 ++ (wsL_law0_r9 ++ (wsL_law0_r10 ++ (wsL_law0_r11 ++ (wsL_law0_r12 ++ (wsL_law0_r13 ++ (wsL_law0_r14 ++ wsL_law0_r15))))))))))))))), w ∈ lw_tbl := by
  intro w h
  rcases List.mem_append.mp h with h | h
  · exact in_wsL_law0_r1 w h
  rcases List.mem_append.mp h with h | h
  · exact in_wsL_law0_r2 w h
  rcases List.mem_append.mp h with h | h
  · exact in_wsL_law0_r3 w h
  rcases List.mem_append.mp h with h | h
  · exact in_wsL_law0_r4 w h
  rcases List.mem_append.mp h with h | h
  · exact in_wsL_law0_r5 w h
  rcases List.mem_append.mp h with h | h
  · exact in_wsL_law0_r6 w h
  rcases List.mem_append.mp h with h | h
  · exact in_wsL_law0_r7 w h
  rcases List.mem_append.mp h with h | h
  · exact in_wsL_law0_r8 w h
  rcases List.mem_append.mp h with h | h
  · exact in_wsL_law0_r9 w h
  rcases List.mem_append.mp h with h | h
  · exact in_wsL_law0_r10 w h
  rcases List.mem_append.mp h with h | h
  · exact in_wsL_law0_r11 w h
  rcases List.mem_append.mp h with h | h
  · exact in_wsL_law0_r12 w h
  rcases List.mem_append.mp h with h | h
  · exact in_wsL_law0_r13 w h
  rcases List.mem_append.mp h with h | h
  · exact in_wsL_law0_r14 w h
  exact in_wsL_law0_r15 w h
theorem in_wsX20 : ∀ w ∈ wsX20, w ∈ lw_tbl := by decide +kernel
theorem in_wsX30 : ∀ w ∈ wsX30, w ∈ lw_tbl := by decide +kernel
theorem in_wsX10 : ∀ w ∈ wsX10, w ∈ lw_tbl := by decide +kernel
theorem in_wsX00 : ∀ w ∈ wsX00, w ∈ lw_tbl := by decide +kernel
theorem wsL_law_in0 : ∀ w ∈ wsL_law0, w ∈ lw_tbl := fun w h => (List.mem_append.mp h).elim (fun h => (List.mem_append.mp h).elim (fun h => (List.mem_append.mp h).elim (fun h => (List.mem_append.mp h).elim (fun h => (List.mem_append.mp h).elim (fun h => in_chunks w h) (fun h => in_wsX20 w h)) (fun h => in_wsX30 w h)) (fun h => in_wsX10 w h)) (fun h => in_wsX00 w h)) (fun h => absurd h List.not_mem_nil)
theorem wsL_law_x0 : ∀ w ∈ (vx_atS RX2 42 "java/lang/IndexOutOfBoundsException" ["java/lang/RuntimeException", "java/lang/Exception"]).filter goodWord, w ∈ lw_tbl := by decide +kernel
theorem wsL_law_x1 : ∀ w ∈ (vx_atS RX2 52 "java/lang/IllegalArgumentException" ["java/lang/RuntimeException", "java/lang/Exception"]).filter goodWord, w ∈ lw_tbl := by decide +kernel
theorem wsL_law_x2 : ∀ w ∈ (vx_atS RX2 118 "java/lang/IllegalStateException" ["java/lang/RuntimeException", "java/lang/Exception"]).filter goodWord, w ∈ lw_tbl := by decide +kernel
theorem wsL_law_in : ∀ w ∈ wsL_law, w ∈ lw_tbl := fun w h => (List.mem_append.mp h).elim (fun h => (List.mem_append.mp h).elim (fun h => (List.mem_append.mp h).elim (fun h => wsL_law_in0 w h) (fun h => wsL_law_x0 w h)) (fun h => wsL_law_x1 w h)) (fun h => wsL_law_x2 w h)
theorem inlX0 : ∀ w ∈ wsX00, w ∈ wsL_law := fun _ h => List.mem_append_left _ (List.mem_append_left _ (List.mem_append_left _ (List.mem_append_left _ (List.mem_append_right _ h))))
theorem inlX1 : ∀ w ∈ wsX10, w ∈ wsL_law := fun _ h => List.mem_append_left _ (List.mem_append_left _ (List.mem_append_left _ (List.mem_append_left _ (List.mem_append_left _ (List.mem_append_right _ h)))))
theorem inlX2 : ∀ w ∈ wsX20, w ∈ wsL_law := fun _ h => List.mem_append_left _ (List.mem_append_left _ (List.mem_append_left _ (List.mem_append_left _ (List.mem_append_left _ (List.mem_append_left _ (List.mem_append_left _ (List.mem_append_right _ h)))))))
theorem inlX3 : ∀ w ∈ wsX30, w ∈ wsL_law := fun _ h => List.mem_append_left _ (List.mem_append_left _ (List.mem_append_left _ (List.mem_append_left _ (List.mem_append_left _ (List.mem_append_left _ (List.mem_append_right _ h))))))
