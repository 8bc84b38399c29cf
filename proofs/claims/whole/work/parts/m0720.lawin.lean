theorem wliM {big ws : List Cond} (ps : List Nat) (hp : ws = ps.filterMap (fun i => big[i]?)) : ∀ w ∈ ws, w ∈ big := by
  intro w hw
  rw [hp] at hw
  obtain ⟨i, -, hi⟩ := List.mem_filterMap.mp hw
  exact List.mem_of_getElem? hi
set_option maxRecDepth 100000 in
theorem wli_1 : ∀ w ∈ wsL_law_r1, w ∈ lw_tbl := wliM [83, 84, 65, 1036, 1037, 77, 1369, 85, 86, 87, 88, 89, 90, 91, 92, 66, 318, 319, 119, 120, 67, 320, 132, 133] (by decide +kernel)
set_option maxRecDepth 100000 in
theorem wli_2 : ∀ w ∈ wsL_law_r2, w ∈ lw_tbl := wliM [68, 321, 160, 161, 69, 322, 191, 192, 70, 323, 213, 214, 71, 324, 233, 234, 72, 325, 243, 244, 73, 326, 327, 266] (by decide +kernel)
set_option maxRecDepth 100000 in
theorem wli_3 : ∀ w ∈ wsL_law_r3, w ∈ lw_tbl := wliM [267, 74, 328, 281, 282, 75, 329, 330, 94, 95, 96, 118, 99, 100, 101, 102, 97, 103, 104, 122, 123, 124, 125, 126] (by decide +kernel)
set_option maxRecDepth 100000 in
theorem wli_4 : ∀ w ∈ wsL_law_r4, w ∈ lw_tbl := wliM [134, 135, 136, 137, 139, 141, 142, 143, 144, 138, 140, 162, 163, 164, 165, 166, 167, 168, 170, 171, 172, 173, 169, 194] (by decide +kernel)
set_option maxRecDepth 100000 in
theorem wli_5 : ∀ w ∈ wsL_law_r5, w ∈ lw_tbl := wliM [195, 196, 197, 198, 199, 200, 201, 216, 217, 218, 219, 220, 232, 221, 222, 236, 237, 238, 239, 246, 247, 248, 249, 253] (by decide +kernel)
set_option maxRecDepth 100000 in
theorem wli_6 : ∀ w ∈ wsL_law_r6, w ∈ lw_tbl := wliM [251, 254, 255, 256, 269, 270, 271, 272, 274, 275, 284, 285, 286, 287, 289, 290, 296, 297, 298, 299, 300, 301, 302, 303] (by decide +kernel)
set_option maxRecDepth 100000 in
theorem wli_7 : ∀ w ∈ wsL_law_r7, w ∈ lw_tbl := wliM [304, 305, 76, 306, 307, 308, 309, 310, 312, 0, 313, 314, 316, 1, 317, 1038, 1039, 1040, 1041, 1052, 1059, 1060, 1061, 1062] (by decide +kernel)
set_option maxRecDepth 100000 in
theorem wli_8 : ∀ w ∈ wsL_law_r8, w ∈ lw_tbl := wliM [1063, 1064, 1065, 1066, 1042, 1044, 33, 1045, 1046, 1048, 34, 1049, 358, 359, 360, 361, 362, 363, 364, 365, 366, 367, 368, 369] (by decide +kernel)
set_option maxRecDepth 100000 in
theorem wli_9 : ∀ w ∈ wsL_law_r9, w ∈ lw_tbl := wliM [370, 371, 372, 373, 1102, 1103, 1104, 1105, 1050, 1053, 1109, 1106, 1107, 1108, 374, 375, 376, 377, 378, 379, 380, 381, 1110, 1111] (by decide +kernel)
set_option maxRecDepth 100000 in
theorem wli_10 : ∀ w ∈ wsL_law_r10, w ∈ lw_tbl := wliM [1112, 1113, 382, 383, 384, 385, 386, 387, 388, 389, 390, 391, 392, 393, 394, 396, 2, 397, 398, 399, 400, 401, 402, 403] (by decide +kernel)
set_option maxRecDepth 100000 in
theorem wli_11 : ∀ w ∈ wsL_law_r11, w ∈ lw_tbl := wliM [404, 405, 407, 3, 408, 409, 410, 411, 424, 426, 4, 427, 428, 429, 430, 78, 431, 1370, 432, 433, 434, 435, 436, 1371] (by decide +kernel)
set_option maxRecDepth 100000 in
theorem wli_12 : ∀ w ∈ wsL_law_r12, w ∈ lw_tbl := wliM [438, 439, 440, 441, 442, 443, 444, 445, 446, 447, 79, 448, 449, 450, 451, 452, 454, 455, 80, 456, 457, 458, 81, 459] (by decide +kernel)
