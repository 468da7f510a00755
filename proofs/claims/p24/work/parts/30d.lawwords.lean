/-! THE LAW'S WORDS among the tables', by their places (laid by wip/whole/lawwords.py) -/
theorem jx_places {big ws : List Cond} (ps : List Nat) (hp : ws = ps.filterMap (fun i => big[i]?)) : ∀ w ∈ ws, w ∈ big := by
  intro w hw
  rw [hp] at hw
  obtain ⟨i, -, hi⟩ := List.mem_filterMap.mp hw
  exact List.mem_of_getElem? hi
theorem jx_app {big a b : List Cond} (ha : ∀ w ∈ a, w ∈ big) (hb : ∀ w ∈ b, w ∈ big) : ∀ w ∈ a ++ b, w ∈ big := fun w h => (List.mem_append.mp h).elim (ha w) (hb w)
set_option maxRecDepth 100000 in
theorem in_wsL_law0_r1 : ∀ w ∈ wsL_law0_r1, w ∈ lw_tbl := jx_places [23, 24, 13, 382, 383, 25, 26, 27, 28, 29, 30, 58, 59, 31, 32, 14, 60, 61, 62, 63, 64, 65, 66, 67] (by decide +kernel)
set_option maxRecDepth 100000 in
theorem in_wsL_law0_r2 : ∀ w ∈ wsL_law0_r2, w ∈ lw_tbl := jx_places [68, 69, 34, 35, 36, 37, 39, 41, 43, 45, 369, 370, 12, 371, 372, 93, 94, 95, 96, 97, 99, 0, 100, 101] (by decide +kernel)
set_option maxRecDepth 100000 in
theorem in_wsL_law0_r3 : ∀ w ∈ wsL_law0_r3, w ∈ lw_tbl := jx_places [102, 103, 105, 1, 106, 107, 109, 2, 110, 111, 113, 112, 15, 114, 116, 3, 117, 118, 119, 120, 121, 122, 123, 124] (by decide +kernel)
set_option maxRecDepth 100000 in
theorem in_wsL_law0_r4 : ∀ w ∈ wsL_law0_r4, w ∈ lw_tbl := jx_places [125, 126, 127, 294, 295, 296, 297, 298, 299, 300, 301, 286, 287, 288, 289, 376, 377, 378, 336, 337, 338, 339, 135, 19] (by decide +kernel)
set_option maxRecDepth 100000 in
theorem in_wsL_law0_r5 : ∀ w ∈ wsL_law0_r5, w ∈ lw_tbl := jx_places [38, 40, 132, 133, 134, 215, 216, 217, 373, 374, 375, 290, 291, 292, 293, 302, 303, 304, 305, 309, 20, 306, 307, 308] (by decide +kernel)
set_option maxRecDepth 100000 in
theorem in_wsL_law0_r6 : ∀ w ∈ wsL_law0_r6, w ∈ lw_tbl := jx_places [211, 213, 7, 214, 325, 326, 21, 327, 328, 329, 330, 344, 345, 346, 347, 44, 340, 341, 342, 343, 42, 331, 332, 333] (by decide +kernel)
set_option maxRecDepth 100000 in
theorem in_wsL_law0_r7 : ∀ w ∈ wsL_law0_r7, w ∈ lw_tbl := jx_places [334, 282, 283, 284, 285, 348, 349, 350, 351, 46, 272, 273, 274, 275, 229, 22, 352, 353, 354, 355, 203, 205, 5, 206] (by decide +kernel)
set_option maxRecDepth 100000 in
theorem in_wsL_law0_r8 : ∀ w ∈ wsL_law0_r8, w ∈ lw_tbl := jx_places [207, 209, 6, 210, 218, 219, 220, 221, 222, 223, 224, 225, 226, 227, 228, 278, 279, 280, 281, 379, 380, 381, 356, 357] (by decide +kernel)
set_option maxRecDepth 100000 in
theorem in_wsL_law0_r9 : ∀ w ∈ wsL_law0_r9, w ∈ lw_tbl := jx_places [358, 359, 250, 252, 9, 253, 254, 255, 256, 128, 129, 130, 131, 245, 246, 248, 8, 249, 257, 258, 259, 260, 261, 262] (by decide +kernel)
set_option maxRecDepth 100000 in
theorem in_wsL_law0_r10 : ∀ w ∈ wsL_law0_r10, w ∈ lw_tbl := jx_places [263, 264, 266, 10, 267, 268, 270, 11, 271, 361, 362, 363, 364, 365, 366, 367, 368] (by decide +kernel)
set_option maxRecDepth 100000 in
theorem inX0 : ∀ w ∈ wsX00, w ∈ lw_tbl := jx_places [47, 49, 51, 53, 55] (by decide +kernel)
set_option maxRecDepth 100000 in
theorem inX2 : ∀ w ∈ wsX20, w ∈ lw_tbl := jx_places [70, 72, 74, 76, 78, 80, 82, 84, 86, 88, 90] (by decide +kernel)
theorem wsL_law_in0 : ∀ w ∈ wsL_law0, w ∈ lw_tbl := jx_app (jx_app (jx_app (jx_app in_wsL_law0_r1 (jx_app in_wsL_law0_r2 (jx_app in_wsL_law0_r3 (jx_app in_wsL_law0_r4 (jx_app in_wsL_law0_r5 (jx_app in_wsL_law0_r6 (jx_app in_wsL_law0_r7 (jx_app in_wsL_law0_r8 (jx_app in_wsL_law0_r9 in_wsL_law0_r10))))))))) inX2) inX0) (fun w h => absurd h List.not_mem_nil)
theorem wsL_law_x0 : ∀ w ∈ (vx_atS RX2 75 "java/lang/IllegalArgumentException" ["java/lang/RuntimeException", "java/lang/Exception"]).filter goodWord, w ∈ lw_tbl := by decide +kernel
theorem wsL_law_x1 : ∀ w ∈ (vx_atS RX2 117 "java/lang/IndexOutOfBoundsException" ["java/lang/RuntimeException", "java/lang/Exception"]).filter goodWord, w ∈ lw_tbl := by decide +kernel
theorem wsL_law_x2 : ∀ w ∈ (vx_atS RX2 86 "java/lang/IllegalStateException" ["java/lang/RuntimeException", "java/lang/Exception"]).filter goodWord, w ∈ lw_tbl := by decide +kernel
theorem wsL_law_in : ∀ w ∈ wsL_law, w ∈ lw_tbl := fun w h => (List.mem_append.mp h).elim (fun h => (List.mem_append.mp h).elim (fun h => (List.mem_append.mp h).elim (fun h => wsL_law_in0 w h) (fun h => wsL_law_x0 w h)) (fun h => wsL_law_x1 w h)) (fun h => wsL_law_x2 w h)
theorem inlX0 : ∀ w ∈ wsX00, w ∈ wsL_law := fun _ h => List.mem_append_left _ (List.mem_append_left _ (List.mem_append_left _ (List.mem_append_left _ (List.mem_append_right _ h))))
theorem inlX2 : ∀ w ∈ wsX20, w ∈ wsL_law := fun _ h => List.mem_append_left _ (List.mem_append_left _ (List.mem_append_left _ (List.mem_append_left _ (List.mem_append_left _ (List.mem_append_right _ h)))))
theorem inJx145de : ∀ w ∈ wsJx145de0, w ∈ lw_tbl := by decide +kernel
theorem inJ13 : ∀ w ∈ wsJ130, w ∈ lw_tbl := by decide +kernel
theorem inJ0 : ∀ w ∈ wsJ00, w ∈ lw_tbl := by decide +kernel
theorem inJ10 : ∀ w ∈ wsJ100, w ∈ lw_tbl := by decide +kernel
