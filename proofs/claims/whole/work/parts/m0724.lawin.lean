set_option maxRecDepth 100000 in
theorem wlx_1 : ∀ w ∈ wsX10, w ∈ lw_tbl := wliM [257, 259, 261, 263] (by decide +kernel)
set_option maxRecDepth 100000 in
theorem wlx_2 : ∀ w ∈ wsX20, w ∈ lw_tbl := wliM [240] (by decide +kernel)
set_option maxRecDepth 100000 in
theorem wlx_3 : ∀ w ∈ wsX30, w ∈ lw_tbl := wliM [276, 278] (by decide +kernel)
set_option maxRecDepth 100000 in
theorem wlx_4 : ∀ w ∈ wsX40, w ∈ lw_tbl := wliM [145, 147, 149, 151, 153, 155, 157] (by decide +kernel)
set_option maxRecDepth 100000 in
theorem wlx_5 : ∀ w ∈ wsX50, w ∈ lw_tbl := wliM [105, 107, 109, 111, 113, 115] (by decide +kernel)
set_option maxRecDepth 100000 in
theorem wlx_6 : ∀ w ∈ wsX60, w ∈ lw_tbl := wliM [223, 225, 227, 229] (by decide +kernel)
set_option maxRecDepth 100000 in
theorem wlx_7 : ∀ w ∈ wsX70, w ∈ lw_tbl := wliM [202, 204, 206, 208, 210] (by decide +kernel)
set_option maxRecDepth 100000 in
theorem wlx_8 : ∀ w ∈ wsX80, w ∈ lw_tbl := wliM [127, 129] (by decide +kernel)
set_option maxRecDepth 100000 in
theorem wlx_9 : ∀ w ∈ wsX90, w ∈ lw_tbl := wliM [174, 176, 178, 180, 182, 184, 186, 188] (by decide +kernel)
set_option maxRecDepth 100000 in
theorem wlx_10 : ∀ w ∈ wsX100, w ∈ lw_tbl := wliM [331, 333, 335, 337, 339, 341, 343, 345, 347, 349, 351, 353, 355] (by decide +kernel)
set_option maxRecDepth 100000 in
theorem wlx_11 : ∀ w ∈ wsX110, w ∈ lw_tbl := wliM [1067, 1069, 1071, 1073, 1075, 1077, 1079, 1081, 1083, 1085, 1087, 1089, 1091, 1093, 1095, 1097, 1099] (by decide +kernel)
