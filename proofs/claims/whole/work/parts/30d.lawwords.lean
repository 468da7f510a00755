/-! THE LAW'S WORDS among the tables', by their places (laid by wip/whole/lawwords.py) -/
theorem jx_places {big ws : List Cond} (ps : List Nat) (hp : ws = ps.filterMap (fun i => big[i]?)) : ∀ w ∈ ws, w ∈ big := by
  intro w hw
  rw [hp] at hw
  obtain ⟨i, -, hi⟩ := List.mem_filterMap.mp hw
  exact List.mem_of_getElem? hi
theorem jx_app {big a b : List Cond} (ha : ∀ w ∈ a, w ∈ big) (hb : ∀ w ∈ b, w ∈ big) : ∀ w ∈ a ++ b, w ∈ big := fun w h => (List.mem_append.mp h).elim (ha w) (hb w)
set_option maxRecDepth 100000 in
theorem in_wsL_law0_r1 : ∀ w ∈ wsL_law0_r1, w ∈ lw_tbl := jx_places [58, 59, 44, 538, 539, 46, 790, 789, 60, 61, 62, 63, 64, 65, 93, 94, 66, 67, 45, 95, 96, 97, 98, 99] (by decide +kernel)
set_option maxRecDepth 100000 in
theorem in_wsL_law0_r2 : ∀ w ∈ wsL_law0_r2, w ∈ lw_tbl := jx_places [100, 101, 102, 103, 104, 69, 70, 71, 72, 74, 76, 78, 80, 540, 541, 542, 543, 544, 545, 550, 551, 552, 553, 554] (by decide +kernel)
set_option maxRecDepth 100000 in
theorem in_wsL_law0_r3 : ∀ w ∈ wsL_law0_r3, w ∈ lw_tbl := jx_places [555, 557, 558, 128, 129, 130, 131, 132, 134, 0, 135, 136, 137, 138, 140, 1, 141, 142, 144, 2, 145, 146, 148, 147] (by decide +kernel)
set_option maxRecDepth 100000 in
theorem in_wsL_law0_r4 : ∀ w ∈ wsL_law0_r4, w ∈ lw_tbl := jx_places [47, 149, 151, 3, 152, 153, 154, 155, 156, 157, 158, 159, 160, 161, 162, 594, 595, 596, 597, 556, 598, 599, 546, 549] (by decide +kernel)
set_option maxRecDepth 100000 in
theorem in_wsL_law0_r5 : ∀ w ∈ wsL_law0_r5, w ∈ lw_tbl := jx_places [547, 548, 600, 601, 602, 603, 604, 605, 221, 222, 43, 223, 224, 225, 226, 227, 228, 229, 233, 51, 301, 52, 73, 317] (by decide +kernel)
set_option maxRecDepth 100000 in
theorem in_wsL_law0_r6 : ∀ w ∈ wsL_law0_r6, w ∈ lw_tbl := jx_places [230, 231, 232, 187, 189, 4, 190, 191, 193, 5, 194, 195, 197, 6, 198, 199, 200, 201, 202, 203, 204, 205, 206, 207] (by decide +kernel)
set_option maxRecDepth 100000 in
theorem in_wsL_law0_r7 : ∀ w ∈ wsL_law0_r7, w ∈ lw_tbl := jx_places [208, 209, 210, 211, 212, 318, 320, 8, 321, 81, 77, 79, 75, 322, 324, 9, 325, 326, 327, 328, 329, 330, 331, 332] (by decide +kernel)
set_option maxRecDepth 100000 in
theorem in_wsL_law0_r8 : ∀ w ∈ wsL_law0_r8, w ∈ lw_tbl := jx_places [333, 334, 335, 336, 338, 10, 339, 340, 342, 11, 343, 606, 607, 608, 609, 610, 611, 612, 613, 615, 21, 616, 617, 619] (by decide +kernel)
set_option maxRecDepth 100000 in
theorem in_wsL_law0_r9 : ∀ w ∈ wsL_law0_r9, w ∈ lw_tbl := jx_places [22, 620, 621, 623, 23, 624, 625, 627, 24, 628, 629, 631, 25, 632, 633, 635, 26, 636, 637, 639, 27, 640, 641, 642] (by decide +kernel)
set_option maxRecDepth 100000 in
theorem in_wsL_law0_r10 : ∀ w ∈ wsL_law0_r10, w ∈ lw_tbl := jx_places [643, 644, 645, 646, 647, 649, 28, 650, 651, 653, 29, 654, 590, 591, 592, 593, 344, 345, 346, 347, 348, 349, 350, 655] (by decide +kernel)
set_option maxRecDepth 100000 in
theorem in_wsL_law0_r11 : ∀ w ∈ wsL_law0_r11, w ∈ lw_tbl := jx_places [656, 657, 658, 353, 354, 355, 356, 357, 358, 359, 659, 660, 661, 662, 163, 164, 165, 166, 663, 664, 665, 666, 167, 168] (by decide +kernel)
set_option maxRecDepth 100000 in
theorem in_wsL_law0_r12 : ∀ w ∈ wsL_law0_r12, w ∈ lw_tbl := jx_places [169, 170, 667, 668, 669, 670, 171, 172, 173, 174, 671, 672, 673, 674, 175, 176, 177, 178, 675, 676, 677, 678, 179, 180] (by decide +kernel)
set_option maxRecDepth 100000 in
theorem in_wsL_law0_r13 : ∀ w ∈ wsL_law0_r13, w ∈ lw_tbl := jx_places [181, 182, 679, 680, 681, 682, 360, 361, 362, 363, 364, 365, 366, 367, 371, 53, 368, 369, 370, 387, 388, 54, 389, 390] (by decide +kernel)
set_option maxRecDepth 100000 in
theorem in_wsL_law0_r14 : ∀ w ∈ wsL_law0_r14, w ∈ lw_tbl := jx_places [391, 392, 683, 684, 685, 686, 687, 688, 689, 393, 394, 395, 396, 397, 398, 399, 690, 691, 692, 693, 401, 402, 403, 404] (by decide +kernel)
set_option maxRecDepth 100000 in
theorem in_wsL_law0_r15 : ∀ w ∈ wsL_law0_r15, w ∈ lw_tbl := jx_places [405, 406, 407, 694, 695, 696, 697, 408, 409, 410, 411, 412, 413, 414, 698, 699, 700, 701, 702, 704, 30, 705, 415, 416] (by decide +kernel)
set_option maxRecDepth 100000 in
theorem in_wsL_law0_r16 : ∀ w ∈ wsL_law0_r16, w ∈ lw_tbl := jx_places [417, 418, 419, 420, 421, 706, 707, 708, 709, 422, 423, 424, 425, 426, 427, 428, 710, 711, 712, 713, 183, 184, 185, 186] (by decide +kernel)
set_option maxRecDepth 100000 in
theorem in_wsL_law0_r17 : ∀ w ∈ wsL_law0_r17, w ∈ lw_tbl := jx_places [714, 715, 716, 717, 429, 430, 431, 432, 433, 434, 435, 718, 719, 720, 721, 437, 438, 439, 440, 441, 442, 443, 444, 446] (by decide +kernel)
set_option maxRecDepth 100000 in
theorem in_wsL_law0_r18 : ∀ w ∈ wsL_law0_r18, w ∈ lw_tbl := jx_places [12, 447, 449, 451, 13, 452, 453, 454, 55, 456, 457, 458, 459, 460, 461, 462, 472, 473, 474, 475, 476, 477, 56, 478] (by decide +kernel)
set_option maxRecDepth 100000 in
theorem in_wsL_law0_r19 : ∀ w ∈ wsL_law0_r19, w ∈ lw_tbl := jx_places [479, 481, 14, 482, 483, 485, 15, 486, 487, 488, 489, 490, 491, 493, 16, 494, 524, 525, 57, 526, 495, 497, 17, 498] (by decide +kernel)
set_option maxRecDepth 100000 in
theorem in_wsL_law0_r20 : ∀ w ∈ wsL_law0_r20, w ∈ lw_tbl := jx_places [502, 504, 18, 505, 507, 509, 510, 511, 513, 515, 19, 516, 517, 519, 20, 520, 521, 522, 523, 722, 723, 724, 725, 726] (by decide +kernel)
set_option maxRecDepth 100000 in
theorem in_wsL_law0_r21 : ∀ w ∈ wsL_law0_r21, w ∈ lw_tbl := jx_places [728, 31, 729, 730, 732, 32, 733, 734, 736, 33, 737, 738, 739, 740, 741, 743, 34, 744, 745, 747, 35, 748, 749, 751] (by decide +kernel)
set_option maxRecDepth 100000 in
theorem in_wsL_law0_r22 : ∀ w ∈ wsL_law0_r22, w ∈ lw_tbl := jx_places [36, 752, 753, 755, 37, 756, 757, 759, 38, 760, 761, 763, 39, 764, 765, 767, 40, 768, 769, 771, 41, 772, 773, 775] (by decide +kernel)
set_option maxRecDepth 100000 in
theorem in_wsL_law0_r23 : ∀ w ∈ wsL_law0_r23, w ∈ lw_tbl := jx_places [42, 776, 527, 528, 529, 530, 531, 532, 533, 534, 535, 536, 537, 777, 778, 779, 780, 213, 214, 215, 216, 781, 782, 783] (by decide +kernel)
set_option maxRecDepth 100000 in
theorem in_wsL_law0_r24 : ∀ w ∈ wsL_law0_r24, w ∈ lw_tbl := jx_places [784, 217, 218, 219, 220, 785, 786, 787, 788] (by decide +kernel)
set_option maxRecDepth 100000 in
theorem inX0 : ∀ w ∈ wsX00, w ∈ lw_tbl := jx_places [82, 84, 86, 88, 90] (by decide +kernel)
set_option maxRecDepth 100000 in
theorem inX1 : ∀ w ∈ wsX10, w ∈ lw_tbl := jx_places [463, 465, 467, 469] (by decide +kernel)
set_option maxRecDepth 100000 in
theorem inX2 : ∀ w ∈ wsX20, w ∈ lw_tbl := jx_places [105, 107, 109, 111, 113, 115, 117, 119, 121, 123, 125] (by decide +kernel)
set_option maxRecDepth 100000 in
theorem inX3 : ∀ w ∈ wsX30, w ∈ lw_tbl := jx_places [559, 561, 563, 565, 567, 569, 571, 573, 575, 577, 579, 581, 583, 585, 587] (by decide +kernel)
theorem wsL_law_in0 : ∀ w ∈ wsL_law0, w ∈ lw_tbl := jx_app (jx_app (jx_app (jx_app (jx_app (jx_app in_wsL_law0_r1 (jx_app in_wsL_law0_r2 (jx_app in_wsL_law0_r3 (jx_app in_wsL_law0_r4 (jx_app in_wsL_law0_r5 (jx_app in_wsL_law0_r6 (jx_app in_wsL_law0_r7 (jx_app in_wsL_law0_r8 (jx_app in_wsL_law0_r9 (jx_app in_wsL_law0_r10 (jx_app in_wsL_law0_r11 (jx_app in_wsL_law0_r12 (jx_app in_wsL_law0_r13 (jx_app in_wsL_law0_r14 (jx_app in_wsL_law0_r15 (jx_app in_wsL_law0_r16 (jx_app in_wsL_law0_r17 (jx_app in_wsL_law0_r18 (jx_app in_wsL_law0_r19 (jx_app in_wsL_law0_r20 (jx_app in_wsL_law0_r21 (jx_app in_wsL_law0_r22 (jx_app in_wsL_law0_r23 in_wsL_law0_r24))))))))))))))))))))))) inX2) inX3) inX0) inX1) (fun w h => absurd h List.not_mem_nil)
theorem wsL_law_x0 : ∀ w ∈ (vx_atS RX2 75 "java/lang/IllegalArgumentException" ["java/lang/RuntimeException", "java/lang/Exception"]).filter goodWord, w ∈ lw_tbl := by decide +kernel
theorem wsL_law_x1 : ∀ w ∈ (vx_atS RX2 86 "java/lang/IllegalStateException" ["java/lang/RuntimeException", "java/lang/Exception"]).filter goodWord, w ∈ lw_tbl := by decide +kernel
theorem wsL_law_x2 : ∀ w ∈ (vx_atS RX2 117 "java/lang/IndexOutOfBoundsException" ["java/lang/RuntimeException", "java/lang/Exception"]).filter goodWord, w ∈ lw_tbl := by decide +kernel
theorem wsL_law_in : ∀ w ∈ wsL_law, w ∈ lw_tbl := fun w h => (List.mem_append.mp h).elim (fun h => (List.mem_append.mp h).elim (fun h => (List.mem_append.mp h).elim (fun h => wsL_law_in0 w h) (fun h => wsL_law_x0 w h)) (fun h => wsL_law_x1 w h)) (fun h => wsL_law_x2 w h)
theorem inlX0 : ∀ w ∈ wsX00, w ∈ wsL_law := fun _ h => List.mem_append_left _ (List.mem_append_left _ (List.mem_append_left _ (List.mem_append_left _ (List.mem_append_left _ (List.mem_append_right _ h)))))
theorem inlX1 : ∀ w ∈ wsX10, w ∈ wsL_law := fun _ h => List.mem_append_left _ (List.mem_append_left _ (List.mem_append_left _ (List.mem_append_left _ (List.mem_append_right _ h))))
theorem inlX2 : ∀ w ∈ wsX20, w ∈ wsL_law := fun _ h => List.mem_append_left _ (List.mem_append_left _ (List.mem_append_left _ (List.mem_append_left _ (List.mem_append_left _ (List.mem_append_left _ (List.mem_append_left _ (List.mem_append_right _ h)))))))
theorem inlX3 : ∀ w ∈ wsX30, w ∈ wsL_law := fun _ h => List.mem_append_left _ (List.mem_append_left _ (List.mem_append_left _ (List.mem_append_left _ (List.mem_append_left _ (List.mem_append_left _ (List.mem_append_right _ h))))))
theorem inJx145de : ∀ w ∈ wsJx145de0, w ∈ lw_tbl := by decide +kernel
theorem inJ13 : ∀ w ∈ wsJ130, w ∈ lw_tbl := by decide +kernel
theorem inJ9 : ∀ w ∈ wsJ90, w ∈ lw_tbl := by decide +kernel
theorem inJ0 : ∀ w ∈ wsJ00, w ∈ lw_tbl := by decide +kernel
theorem inJ10 : ∀ w ∈ wsJ100, w ∈ lw_tbl := by decide +kernel
theorem inJ7 : ∀ w ∈ wsJ70, w ∈ lw_tbl := by decide +kernel
