/-! THE LAW'S WORDS among the tables', by their places (laid by wip/whole/lawwords.py) -/
theorem jx_places {big ws : List Cond} (ps : List Nat) (hp : ws = ps.filterMap (fun i => big[i]?)) : ∀ w ∈ ws, w ∈ big := by
  intro w hw
  rw [hp] at hw
  obtain ⟨i, -, hi⟩ := List.mem_filterMap.mp hw
  exact List.mem_of_getElem? hi
theorem jx_app {big a b : List Cond} (ha : ∀ w ∈ a, w ∈ big) (hb : ∀ w ∈ b, w ∈ big) : ∀ w ∈ a ++ b, w ∈ big := fun w h => (List.mem_append.mp h).elim (ha w) (hb w)
set_option maxRecDepth 100000 in
theorem in_wsL_law0_r1 : ∀ w ∈ wsL_law0_r1, w ∈ lw_tbl := jx_places [57, 58, 43, 533, 534, 45, 785, 784, 59, 60, 61, 62, 63, 64, 92, 93, 65, 66, 44, 94, 95, 96, 97, 98] (by decide +kernel)
set_option maxRecDepth 100000 in
theorem in_wsL_law0_r2 : ∀ w ∈ wsL_law0_r2, w ∈ lw_tbl := jx_places [99, 100, 101, 102, 103, 68, 69, 70, 71, 73, 75, 77, 79, 535, 536, 537, 538, 539, 540, 545, 546, 547, 548, 549] (by decide +kernel)
set_option maxRecDepth 100000 in
theorem in_wsL_law0_r3 : ∀ w ∈ wsL_law0_r3, w ∈ lw_tbl := jx_places [550, 552, 553, 127, 128, 129, 130, 131, 133, 0, 134, 135, 136, 137, 139, 1, 140, 141, 143, 142, 46, 144, 146, 2] (by decide +kernel)
set_option maxRecDepth 100000 in
theorem in_wsL_law0_r4 : ∀ w ∈ wsL_law0_r4, w ∈ lw_tbl := jx_places [147, 148, 149, 150, 151, 152, 153, 154, 155, 156, 157, 589, 590, 591, 592, 551, 593, 594, 541, 544, 542, 543, 595, 596] (by decide +kernel)
set_option maxRecDepth 100000 in
theorem in_wsL_law0_r5 : ∀ w ∈ wsL_law0_r5, w ∈ lw_tbl := jx_places [597, 598, 599, 600, 216, 217, 42, 218, 219, 220, 221, 222, 223, 224, 228, 50, 296, 51, 72, 312, 225, 226, 227, 182] (by decide +kernel)
set_option maxRecDepth 100000 in
theorem in_wsL_law0_r6 : ∀ w ∈ wsL_law0_r6, w ∈ lw_tbl := jx_places [184, 3, 185, 186, 188, 4, 189, 190, 192, 5, 193, 194, 195, 196, 197, 198, 199, 200, 201, 202, 203, 204, 205, 206] (by decide +kernel)
set_option maxRecDepth 100000 in
theorem in_wsL_law0_r7 : ∀ w ∈ wsL_law0_r7, w ∈ lw_tbl := jx_places [207, 313, 315, 7, 316, 80, 76, 78, 74, 317, 319, 8, 320, 321, 322, 323, 324, 325, 326, 327, 328, 329, 330, 331] (by decide +kernel)
set_option maxRecDepth 100000 in
theorem in_wsL_law0_r8 : ∀ w ∈ wsL_law0_r8, w ∈ lw_tbl := jx_places [333, 9, 334, 335, 337, 10, 338, 601, 602, 603, 604, 605, 606, 607, 608, 610, 20, 611, 612, 614, 21, 615, 616, 618] (by decide +kernel)
set_option maxRecDepth 100000 in
theorem in_wsL_law0_r9 : ∀ w ∈ wsL_law0_r9, w ∈ lw_tbl := jx_places [22, 619, 620, 622, 23, 623, 624, 626, 24, 627, 628, 630, 25, 631, 632, 634, 26, 635, 636, 637, 638, 639, 640, 641] (by decide +kernel)
set_option maxRecDepth 100000 in
theorem in_wsL_law0_r10 : ∀ w ∈ wsL_law0_r10, w ∈ lw_tbl := jx_places [642, 644, 27, 645, 646, 648, 28, 649, 585, 586, 587, 588, 339, 340, 341, 342, 343, 344, 345, 650, 651, 652, 653, 348] (by decide +kernel)
set_option maxRecDepth 100000 in
theorem in_wsL_law0_r11 : ∀ w ∈ wsL_law0_r11, w ∈ lw_tbl := jx_places [349, 350, 351, 352, 353, 354, 654, 655, 656, 657, 158, 159, 160, 161, 658, 659, 660, 661, 162, 163, 164, 165, 662, 663] (by decide +kernel)
set_option maxRecDepth 100000 in
theorem in_wsL_law0_r12 : ∀ w ∈ wsL_law0_r12, w ∈ lw_tbl := jx_places [664, 665, 166, 167, 168, 169, 666, 667, 668, 669, 170, 171, 172, 173, 670, 671, 672, 673, 174, 175, 176, 177, 674, 675] (by decide +kernel)
set_option maxRecDepth 100000 in
theorem in_wsL_law0_r13 : ∀ w ∈ wsL_law0_r13, w ∈ lw_tbl := jx_places [676, 677, 355, 356, 357, 358, 359, 360, 361, 362, 366, 52, 363, 364, 365, 382, 383, 53, 384, 385, 386, 387, 678, 679] (by decide +kernel)
set_option maxRecDepth 100000 in
theorem in_wsL_law0_r14 : ∀ w ∈ wsL_law0_r14, w ∈ lw_tbl := jx_places [680, 681, 682, 683, 684, 388, 389, 390, 391, 392, 393, 394, 685, 686, 687, 688, 396, 397, 398, 399, 400, 401, 402, 689] (by decide +kernel)
set_option maxRecDepth 100000 in
theorem in_wsL_law0_r15 : ∀ w ∈ wsL_law0_r15, w ∈ lw_tbl := jx_places [690, 691, 692, 403, 404, 405, 406, 407, 408, 409, 693, 694, 695, 696, 697, 699, 29, 700, 410, 411, 412, 413, 414, 415] (by decide +kernel)
set_option maxRecDepth 100000 in
theorem in_wsL_law0_r16 : ∀ w ∈ wsL_law0_r16, w ∈ lw_tbl := jx_places [416, 701, 702, 703, 704, 417, 418, 419, 420, 421, 422, 423, 705, 706, 707, 708, 178, 179, 180, 181, 709, 710, 711, 712] (by decide +kernel)
set_option maxRecDepth 100000 in
theorem in_wsL_law0_r17 : ∀ w ∈ wsL_law0_r17, w ∈ lw_tbl := jx_places [424, 425, 426, 427, 428, 429, 430, 713, 714, 715, 716, 432, 433, 434, 435, 436, 437, 438, 439, 441, 11, 442, 444, 446] (by decide +kernel)
set_option maxRecDepth 100000 in
theorem in_wsL_law0_r18 : ∀ w ∈ wsL_law0_r18, w ∈ lw_tbl := jx_places [12, 447, 448, 449, 54, 451, 452, 453, 454, 455, 456, 457, 467, 468, 469, 470, 471, 472, 55, 473, 474, 476, 13, 477] (by decide +kernel)
set_option maxRecDepth 100000 in
theorem in_wsL_law0_r19 : ∀ w ∈ wsL_law0_r19, w ∈ lw_tbl := jx_places [478, 480, 14, 481, 482, 483, 484, 485, 486, 488, 15, 489, 519, 520, 56, 521, 490, 492, 16, 493, 497, 499, 17, 500] (by decide +kernel)
set_option maxRecDepth 100000 in
theorem in_wsL_law0_r20 : ∀ w ∈ wsL_law0_r20, w ∈ lw_tbl := jx_places [502, 504, 505, 506, 508, 510, 18, 511, 512, 514, 19, 515, 516, 517, 518, 717, 718, 719, 720, 721, 723, 30, 724, 725] (by decide +kernel)
set_option maxRecDepth 100000 in
theorem in_wsL_law0_r21 : ∀ w ∈ wsL_law0_r21, w ∈ lw_tbl := jx_places [727, 31, 728, 729, 731, 32, 732, 733, 734, 735, 736, 738, 33, 739, 740, 742, 34, 743, 744, 746, 35, 747, 748, 750] (by decide +kernel)
set_option maxRecDepth 100000 in
theorem in_wsL_law0_r22 : ∀ w ∈ wsL_law0_r22, w ∈ lw_tbl := jx_places [36, 751, 752, 754, 37, 755, 756, 758, 38, 759, 760, 762, 39, 763, 764, 766, 40, 767, 768, 770, 41, 771, 522, 523] (by decide +kernel)
set_option maxRecDepth 100000 in
theorem in_wsL_law0_r23 : ∀ w ∈ wsL_law0_r23, w ∈ lw_tbl := jx_places [524, 525, 526, 527, 528, 529, 530, 531, 532, 772, 773, 774, 775, 208, 209, 210, 211, 776, 777, 778, 779, 212, 213, 214] (by decide +kernel)
set_option maxRecDepth 100000 in
theorem in_wsL_law0_r24 : ∀ w ∈ wsL_law0_r24, w ∈ lw_tbl := jx_places [215, 780, 781, 782, 783] (by decide +kernel)
set_option maxRecDepth 100000 in
theorem inX0 : ∀ w ∈ wsX00, w ∈ lw_tbl := jx_places [81, 83, 85, 87, 89] (by decide +kernel)
set_option maxRecDepth 100000 in
theorem inX1 : ∀ w ∈ wsX10, w ∈ lw_tbl := jx_places [458, 460, 462, 464] (by decide +kernel)
set_option maxRecDepth 100000 in
theorem inX2 : ∀ w ∈ wsX20, w ∈ lw_tbl := jx_places [104, 106, 108, 110, 112, 114, 116, 118, 120, 122, 124] (by decide +kernel)
set_option maxRecDepth 100000 in
theorem inX3 : ∀ w ∈ wsX30, w ∈ lw_tbl := jx_places [554, 556, 558, 560, 562, 564, 566, 568, 570, 572, 574, 576, 578, 580, 582] (by decide +kernel)
theorem wsL_law_in0 : ∀ w ∈ wsL_law0, w ∈ lw_tbl := jx_app (jx_app (jx_app (jx_app (jx_app (jx_app in_wsL_law0_r1 (jx_app in_wsL_law0_r2 (jx_app in_wsL_law0_r3 (jx_app in_wsL_law0_r4 (jx_app in_wsL_law0_r5 (jx_app in_wsL_law0_r6 (jx_app in_wsL_law0_r7 (jx_app in_wsL_law0_r8 (jx_app in_wsL_law0_r9 (jx_app in_wsL_law0_r10 (jx_app in_wsL_law0_r11 (jx_app in_wsL_law0_r12 (jx_app in_wsL_law0_r13 (jx_app in_wsL_law0_r14 (jx_app in_wsL_law0_r15 (jx_app in_wsL_law0_r16 (jx_app in_wsL_law0_r17 (jx_app in_wsL_law0_r18 (jx_app in_wsL_law0_r19 (jx_app in_wsL_law0_r20 (jx_app in_wsL_law0_r21 (jx_app in_wsL_law0_r22 (jx_app in_wsL_law0_r23 in_wsL_law0_r24))))))))))))))))))))))) inX2) inX3) inX0) inX1) (fun w h => absurd h List.not_mem_nil)
theorem wsL_law_x0 : ∀ w ∈ (vx_atS RX2 75 "java/lang/IllegalArgumentException" ["java/lang/RuntimeException", "java/lang/Exception"]).filter goodWord, w ∈ lw_tbl := by decide +kernel
theorem wsL_law_x1 : ∀ w ∈ (vx_atS RX2 86 "java/lang/IllegalStateException" ["java/lang/RuntimeException", "java/lang/Exception"]).filter goodWord, w ∈ lw_tbl := by decide +kernel
theorem wsL_law_x2 : ∀ w ∈ (vx_atS RX2 117 "java/lang/IndexOutOfBoundsException" ["java/lang/RuntimeException", "java/lang/Exception"]).filter goodWord, w ∈ lw_tbl := by decide +kernel
theorem wsL_law_in : ∀ w ∈ wsL_law, w ∈ lw_tbl := fun w h => (List.mem_append.mp h).elim (fun h => (List.mem_append.mp h).elim (fun h => (List.mem_append.mp h).elim (fun h => wsL_law_in0 w h) (fun h => wsL_law_x0 w h)) (fun h => wsL_law_x1 w h)) (fun h => wsL_law_x2 w h)
theorem inlX0 : ∀ w ∈ wsX00, w ∈ wsL_law := fun _ h => List.mem_append_left _ (List.mem_append_left _ (List.mem_append_left _ (List.mem_append_left _ (List.mem_append_left _ (List.mem_append_right _ h)))))
theorem inlX1 : ∀ w ∈ wsX10, w ∈ wsL_law := fun _ h => List.mem_append_left _ (List.mem_append_left _ (List.mem_append_left _ (List.mem_append_left _ (List.mem_append_right _ h))))
theorem inlX2 : ∀ w ∈ wsX20, w ∈ wsL_law := fun _ h => List.mem_append_left _ (List.mem_append_left _ (List.mem_append_left _ (List.mem_append_left _ (List.mem_append_left _ (List.mem_append_left _ (List.mem_append_left _ (List.mem_append_right _ h)))))))
theorem inlX3 : ∀ w ∈ wsX30, w ∈ wsL_law := fun _ h => List.mem_append_left _ (List.mem_append_left _ (List.mem_append_left _ (List.mem_append_left _ (List.mem_append_left _ (List.mem_append_left _ (List.mem_append_right _ h))))))
theorem inJx145de : ∀ w ∈ wsJx145de0, w ∈ lw_tbl := by decide +kernel
theorem inJ13 : ∀ w ∈ wsJ130, w ∈ lw_tbl := by decide +kernel
theorem inJ9 : ∀ w ∈ wsJ90, w ∈ lw_tbl := by decide +kernel
theorem inJ0 : ∀ w ∈ wsJ00, w ∈ lw_tbl := by decide +kernel
theorem inJ10 : ∀ w ∈ wsJ100, w ∈ lw_tbl := by decide +kernel
theorem inJ7 : ∀ w ∈ wsJ70, w ∈ lw_tbl := by decide +kernel
