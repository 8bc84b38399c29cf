set_option maxRecDepth 100000 in
theorem wlx_0 : ∀ w ∈ wsX00, w ∈ lw_tbl := wliM [300, 302] (by decide +kernel)
set_option maxRecDepth 100000 in
theorem wlx_1 : ∀ w ∈ wsX10, w ∈ lw_tbl := wliM [266, 268, 270, 272] (by decide +kernel)
set_option maxRecDepth 100000 in
theorem wlx_2 : ∀ w ∈ wsX20, w ∈ lw_tbl := wliM [249] (by decide +kernel)
set_option maxRecDepth 100000 in
theorem wlx_3 : ∀ w ∈ wsX30, w ∈ lw_tbl := wliM [285, 287] (by decide +kernel)
set_option maxRecDepth 100000 in
theorem wlx_4 : ∀ w ∈ wsX40, w ∈ lw_tbl := wliM [152, 154, 156, 158, 160, 162, 164, 166] (by decide +kernel)
set_option maxRecDepth 100000 in
theorem wlx_5 : ∀ w ∈ wsX50, w ∈ lw_tbl := wliM [111, 113, 115, 117, 119, 121] (by decide +kernel)
set_option maxRecDepth 100000 in
theorem wlx_6 : ∀ w ∈ wsX60, w ∈ lw_tbl := wliM [232, 234, 236, 238] (by decide +kernel)
set_option maxRecDepth 100000 in
theorem wlx_7 : ∀ w ∈ wsX70, w ∈ lw_tbl := wliM [211, 213, 215, 217, 219] (by decide +kernel)
set_option maxRecDepth 100000 in
theorem wlx_8 : ∀ w ∈ wsX80, w ∈ lw_tbl := wliM [133, 135] (by decide +kernel)
set_option maxRecDepth 100000 in
theorem wlx_9 : ∀ w ∈ wsX90, w ∈ lw_tbl := wliM [183, 185, 187, 189, 191, 193, 195, 197] (by decide +kernel)
set_option maxRecDepth 100000 in
theorem wlx_10 : ∀ w ∈ wsX100, w ∈ lw_tbl := wliM [340, 342, 344, 346, 348, 350, 352, 354, 356, 358, 360, 362, 364] (by decide +kernel)
set_option maxRecDepth 100000 in
theorem wlx_11 : ∀ w ∈ wsX110, w ∈ lw_tbl := wliM [1095, 1097, 1099, 1101, 1103, 1105, 1107, 1109, 1111, 1113, 1115, 1117, 1119, 1121, 1123, 1125, 1127] (by decide +kernel)
