theorem wliM {big ws : List Cond} (ps : List Nat) (hp : ws = ps.filterMap (fun i => big[i]?)) : ∀ w ∈ ws, w ∈ big := by
  intro w hw
  rw [hp] at hw
  obtain ⟨i, -, hi⟩ := List.mem_filterMap.mp hw
  exact List.mem_of_getElem? hi
set_option maxRecDepth 100000 in
theorem wli_1 : ∀ w ∈ wsL_law_r1, w ∈ lw_tbl := wliM [89, 90, 71, 1064, 1065, 83, 1397, 91, 92, 93, 94, 95, 96, 97, 98, 72, 327, 328, 125, 126, 73, 329, 138, 139] (by decide +kernel)
set_option maxRecDepth 100000 in
theorem wli_2 : ∀ w ∈ wsL_law_r2, w ∈ lw_tbl := wliM [74, 330, 169, 170, 75, 331, 200, 201, 76, 332, 222, 223, 77, 333, 242, 243, 78, 334, 252, 253, 79, 335, 336, 275] (by decide +kernel)
set_option maxRecDepth 100000 in
theorem wli_3 : ∀ w ∈ wsL_law_r3, w ∈ lw_tbl := wliM [276, 80, 337, 290, 291, 81, 338, 339, 100, 101, 102, 124, 105, 106, 107, 108, 103, 109, 110, 128, 129, 130, 131, 132] (by decide +kernel)
set_option maxRecDepth 100000 in
theorem wli_4 : ∀ w ∈ wsL_law_r4, w ∈ lw_tbl := wliM [140, 141, 142, 143, 146, 147, 148, 149, 150, 151, 144, 145, 171, 172, 173, 174, 175, 176, 177, 179, 180, 181, 182, 178] (by decide +kernel)
set_option maxRecDepth 100000 in
theorem wli_5 : ∀ w ∈ wsL_law_r5, w ∈ lw_tbl := wliM [203, 204, 205, 206, 207, 208, 209, 210, 225, 226, 227, 228, 229, 241, 230, 231, 245, 246, 247, 248, 255, 256, 257, 258] (by decide +kernel)
set_option maxRecDepth 100000 in
theorem wli_6 : ∀ w ∈ wsL_law_r6, w ∈ lw_tbl := wliM [262, 260, 263, 264, 265, 278, 279, 280, 281, 283, 284, 293, 294, 295, 296, 298, 299, 305, 306, 307, 308, 309, 310, 311] (by decide +kernel)
set_option maxRecDepth 100000 in
theorem wli_7 : ∀ w ∈ wsL_law_r7, w ∈ lw_tbl := wliM [312, 313, 314, 82, 315, 316, 317, 318, 319, 321, 0, 322, 323, 325, 1, 326, 1066, 1067, 1068, 1069, 1080, 1087, 1088, 1089] (by decide +kernel)
set_option maxRecDepth 100000 in
theorem wli_8 : ∀ w ∈ wsL_law_r8, w ∈ lw_tbl := wliM [1090, 1091, 1092, 1093, 1094, 1070, 1072, 39, 1073, 1074, 1076, 40, 1077, 367, 368, 369, 370, 371, 372, 373, 374, 375, 376, 377] (by decide +kernel)
set_option maxRecDepth 100000 in
theorem wli_9 : ∀ w ∈ wsL_law_r9, w ∈ lw_tbl := wliM [378, 379, 380, 381, 382, 1130, 1131, 1132, 1133, 1078, 1081, 1137, 1134, 1135, 1136, 383, 384, 385, 386, 387, 388, 389, 390, 1138] (by decide +kernel)
set_option maxRecDepth 100000 in
theorem wli_10 : ∀ w ∈ wsL_law_r10, w ∈ lw_tbl := wliM [1139, 1140, 1141, 391, 392, 393, 394, 395, 396, 397, 398, 399, 400, 401, 402, 403, 405, 2, 406, 407, 408, 409, 410, 411] (by decide +kernel)
set_option maxRecDepth 100000 in
theorem wli_11 : ∀ w ∈ wsL_law_r11, w ∈ lw_tbl := wliM [412, 413, 414, 416, 3, 417, 418, 419, 420, 432, 434, 4, 435, 436, 437, 438, 84, 439, 1398, 440, 441, 442, 443, 444] (by decide +kernel)
set_option maxRecDepth 100000 in
theorem wli_12 : ∀ w ∈ wsL_law_r12, w ∈ lw_tbl := wliM [1399, 446, 447, 448, 449, 450, 451, 452, 453, 454, 455, 85, 456, 457, 458, 459, 460, 462, 463, 86, 464, 465, 466, 87] (by decide +kernel)
