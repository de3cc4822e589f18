set_option maxRecDepth 1000000 in
theorem xk_112 : xi_112.all (xokE xe_112) = true := by decide +kernel
set_option maxRecDepth 1000000 in
theorem xm_112 : xokM xe_112 = true := by decide +kernel
set_option maxRecDepth 1000000 in
theorem xc_112 : Cond.code xe_112.2.1 xe_112.2.2.1 xe_112.2.2.2.1 xe_112.2.2.2.2.1 ∈ lw_tbl := List.mem_of_getElem? (i := xe_112.2.2.2.2.2.2.2.1) rfl
set_option maxRecDepth 1000000 in
theorem xk_113 : xi_113.all (xokE xe_113) = true := by decide +kernel
set_option maxRecDepth 1000000 in
theorem xm_113 : xokM xe_113 = true := by decide +kernel
set_option maxRecDepth 1000000 in
theorem xc_113 : Cond.code xe_113.2.1 xe_113.2.2.1 xe_113.2.2.2.1 xe_113.2.2.2.2.1 ∈ lw_tbl := List.mem_of_getElem? (i := xe_113.2.2.2.2.2.2.2.1) rfl
set_option maxRecDepth 1000000 in
theorem xk_114 : xi_114.all (xokE xe_114) = true := by decide +kernel
set_option maxRecDepth 1000000 in
theorem xm_114 : xokM xe_114 = true := by decide +kernel
set_option maxRecDepth 1000000 in
theorem xc_114 : Cond.code xe_114.2.1 xe_114.2.2.1 xe_114.2.2.2.1 xe_114.2.2.2.2.1 ∈ lw_tbl := List.mem_of_getElem? (i := xe_114.2.2.2.2.2.2.2.1) rfl
set_option maxRecDepth 1000000 in
theorem xk_115 : xi_115.all (xokE xe_115) = true := by decide +kernel
set_option maxRecDepth 1000000 in
theorem xm_115 : xokM xe_115 = true := by decide +kernel
set_option maxRecDepth 1000000 in
theorem xc_115 : Cond.code xe_115.2.1 xe_115.2.2.1 xe_115.2.2.2.1 xe_115.2.2.2.2.1 ∈ lw_tbl := List.mem_of_getElem? (i := xe_115.2.2.2.2.2.2.2.1) rfl
set_option maxRecDepth 1000000 in
theorem xk_116 : xi_116.all (xokE xe_116) = true := by decide +kernel
set_option maxRecDepth 1000000 in
theorem xm_116 : xokM xe_116 = true := by decide +kernel
set_option maxRecDepth 1000000 in
theorem xc_116 : Cond.code xe_116.2.1 xe_116.2.2.1 xe_116.2.2.2.1 xe_116.2.2.2.2.1 ∈ lw_tbl := List.mem_of_getElem? (i := xe_116.2.2.2.2.2.2.2.1) rfl
set_option maxRecDepth 1000000 in
theorem xk_117 : xi_117.all (xokE xe_117) = true := by decide +kernel
set_option maxRecDepth 1000000 in
theorem xm_117 : xokM xe_117 = true := by decide +kernel
set_option maxRecDepth 1000000 in
theorem xc_117 : Cond.code xe_117.2.1 xe_117.2.2.1 xe_117.2.2.2.1 xe_117.2.2.2.2.1 ∈ lw_tbl := List.mem_of_getElem? (i := xe_117.2.2.2.2.2.2.2.1) rfl
set_option maxRecDepth 1000000 in
theorem xk_118 : xi_118.all (xokE xe_118) = true := by decide +kernel
set_option maxRecDepth 1000000 in
theorem xm_118 : xokM xe_118 = true := by decide +kernel
set_option maxRecDepth 1000000 in
theorem xc_118 : Cond.code xe_118.2.1 xe_118.2.2.1 xe_118.2.2.2.1 xe_118.2.2.2.2.1 ∈ lw_tbl := List.mem_of_getElem? (i := xe_118.2.2.2.2.2.2.2.1) rfl
set_option maxRecDepth 1000000 in
theorem xk_119 : xi_119.all (xokE xe_119) = true := by decide +kernel
set_option maxRecDepth 1000000 in
theorem xm_119 : xokM xe_119 = true := by decide +kernel
set_option maxRecDepth 1000000 in
theorem xc_119 : Cond.code xe_119.2.1 xe_119.2.2.1 xe_119.2.2.2.1 xe_119.2.2.2.2.1 ∈ lw_tbl := List.mem_of_getElem? (i := xe_119.2.2.2.2.2.2.2.1) rfl
set_option maxRecDepth 1000000 in
theorem xk_120 : xi_120.all (xokE xe_120) = true := by decide +kernel
set_option maxRecDepth 1000000 in
theorem xm_120 : xokM xe_120 = true := by decide +kernel
set_option maxRecDepth 1000000 in
theorem xc_120 : Cond.code xe_120.2.1 xe_120.2.2.1 xe_120.2.2.2.1 xe_120.2.2.2.2.1 ∈ lw_tbl := List.mem_of_getElem? (i := xe_120.2.2.2.2.2.2.2.1) rfl
set_option maxRecDepth 1000000 in
theorem xk_121 : xi_121.all (xokE xe_121) = true := by decide +kernel
set_option maxRecDepth 1000000 in
theorem xm_121 : xokM xe_121 = true := by decide +kernel
set_option maxRecDepth 1000000 in
theorem xc_121 : Cond.code xe_121.2.1 xe_121.2.2.1 xe_121.2.2.2.1 xe_121.2.2.2.2.1 ∈ lw_tbl := List.mem_of_getElem? (i := xe_121.2.2.2.2.2.2.2.1) rfl
set_option maxRecDepth 1000000 in
theorem xk_122 : xi_122.all (xokE xe_122) = true := by decide +kernel
set_option maxRecDepth 1000000 in
theorem xm_122 : xokM xe_122 = true := by decide +kernel
set_option maxRecDepth 1000000 in
theorem xc_122 : Cond.code xe_122.2.1 xe_122.2.2.1 xe_122.2.2.2.1 xe_122.2.2.2.2.1 ∈ lw_tbl := List.mem_of_getElem? (i := xe_122.2.2.2.2.2.2.2.1) rfl
set_option maxRecDepth 1000000 in
theorem xk_123 : xi_123.all (xokE xe_123) = true := by decide +kernel
set_option maxRecDepth 1000000 in
theorem xm_123 : xokM xe_123 = true := by decide +kernel
set_option maxRecDepth 1000000 in
theorem xc_123 : Cond.code xe_123.2.1 xe_123.2.2.1 xe_123.2.2.2.1 xe_123.2.2.2.2.1 ∈ lw_tbl := List.mem_of_getElem? (i := xe_123.2.2.2.2.2.2.2.1) rfl
set_option maxRecDepth 1000000 in
theorem xk_124 : xi_124.all (xokE xe_124) = true := by decide +kernel
set_option maxRecDepth 1000000 in
theorem xm_124 : xokM xe_124 = true := by decide +kernel
set_option maxRecDepth 1000000 in
theorem xc_124 : Cond.code xe_124.2.1 xe_124.2.2.1 xe_124.2.2.2.1 xe_124.2.2.2.2.1 ∈ lw_tbl := List.mem_of_getElem? (i := xe_124.2.2.2.2.2.2.2.1) rfl
set_option maxRecDepth 1000000 in
theorem xk_125 : xi_125.all (xokE xe_125) = true := by decide +kernel
set_option maxRecDepth 1000000 in
theorem xm_125 : xokM xe_125 = true := by decide +kernel
set_option maxRecDepth 1000000 in
theorem xc_125 : Cond.code xe_125.2.1 xe_125.2.2.1 xe_125.2.2.2.1 xe_125.2.2.2.2.1 ∈ lw_tbl := List.mem_of_getElem? (i := xe_125.2.2.2.2.2.2.2.1) rfl
set_option maxRecDepth 1000000 in
theorem xk_126 : xi_126.all (xokE xe_126) = true := by decide +kernel
set_option maxRecDepth 1000000 in
theorem xm_126 : xokM xe_126 = true := by decide +kernel
set_option maxRecDepth 1000000 in
theorem xc_126 : Cond.code xe_126.2.1 xe_126.2.2.1 xe_126.2.2.2.1 xe_126.2.2.2.2.1 ∈ lw_tbl := List.mem_of_getElem? (i := xe_126.2.2.2.2.2.2.2.1) rfl
set_option maxRecDepth 1000000 in
theorem xk_127 : xi_127.all (xokE xe_127) = true := by decide +kernel
set_option maxRecDepth 1000000 in
theorem xm_127 : xokM xe_127 = true := by decide +kernel
set_option maxRecDepth 1000000 in
theorem xc_127 : Cond.code xe_127.2.1 xe_127.2.2.1 xe_127.2.2.2.1 xe_127.2.2.2.2.1 ∈ lw_tbl := List.mem_of_getElem? (i := xe_127.2.2.2.2.2.2.2.1) rfl
set_option maxRecDepth 1000000 in
theorem xk_128 : xi_128.all (xokE xe_128) = true := by decide +kernel
set_option maxRecDepth 1000000 in
theorem xm_128 : xokM xe_128 = true := by decide +kernel
set_option maxRecDepth 1000000 in
theorem xc_128 : Cond.code xe_128.2.1 xe_128.2.2.1 xe_128.2.2.2.1 xe_128.2.2.2.2.1 ∈ lw_tbl := List.mem_of_getElem? (i := xe_128.2.2.2.2.2.2.2.1) rfl
set_option maxRecDepth 1000000 in
theorem xk_129 : xi_129.all (xokE xe_129) = true := by decide +kernel
set_option maxRecDepth 1000000 in
theorem xm_129 : xokM xe_129 = true := by decide +kernel
set_option maxRecDepth 1000000 in
theorem xc_129 : Cond.code xe_129.2.1 xe_129.2.2.1 xe_129.2.2.2.1 xe_129.2.2.2.2.1 ∈ lw_tbl := List.mem_of_getElem? (i := xe_129.2.2.2.2.2.2.2.1) rfl
set_option maxRecDepth 1000000 in
theorem xk_130 : xi_130.all (xokE xe_130) = true := by decide +kernel
set_option maxRecDepth 1000000 in
theorem xm_130 : xokM xe_130 = true := by decide +kernel
set_option maxRecDepth 1000000 in
theorem xc_130 : Cond.code xe_130.2.1 xe_130.2.2.1 xe_130.2.2.2.1 xe_130.2.2.2.2.1 ∈ lw_tbl := List.mem_of_getElem? (i := xe_130.2.2.2.2.2.2.2.1) rfl
set_option maxRecDepth 1000000 in
theorem xk_131 : xi_131.all (xokE xe_131) = true := by decide +kernel
set_option maxRecDepth 1000000 in
theorem xm_131 : xokM xe_131 = true := by decide +kernel
set_option maxRecDepth 1000000 in
theorem xc_131 : Cond.code xe_131.2.1 xe_131.2.2.1 xe_131.2.2.2.1 xe_131.2.2.2.2.1 ∈ lw_tbl := List.mem_of_getElem? (i := xe_131.2.2.2.2.2.2.2.1) rfl
set_option maxRecDepth 1000000 in
theorem xk_132 : xi_132.all (xokE xe_132) = true := by decide +kernel
set_option maxRecDepth 1000000 in
theorem xm_132 : xokM xe_132 = true := by decide +kernel
set_option maxRecDepth 1000000 in
theorem xc_132 : Cond.code xe_132.2.1 xe_132.2.2.1 xe_132.2.2.2.1 xe_132.2.2.2.2.1 ∈ lw_tbl := List.mem_of_getElem? (i := xe_132.2.2.2.2.2.2.2.1) rfl
set_option maxRecDepth 1000000 in
theorem xk_133 : xi_133.all (xokE xe_133) = true := by decide +kernel
set_option maxRecDepth 1000000 in
theorem xm_133 : xokM xe_133 = true := by decide +kernel
set_option maxRecDepth 1000000 in
theorem xc_133 : Cond.code xe_133.2.1 xe_133.2.2.1 xe_133.2.2.2.1 xe_133.2.2.2.2.1 ∈ lw_tbl := List.mem_of_getElem? (i := xe_133.2.2.2.2.2.2.2.1) rfl
set_option maxRecDepth 1000000 in
theorem xk_134 : xi_134.all (xokE xe_134) = true := by decide +kernel
set_option maxRecDepth 1000000 in
theorem xm_134 : xokM xe_134 = true := by decide +kernel
set_option maxRecDepth 1000000 in
theorem xc_134 : Cond.code xe_134.2.1 xe_134.2.2.1 xe_134.2.2.2.1 xe_134.2.2.2.2.1 ∈ lw_tbl := List.mem_of_getElem? (i := xe_134.2.2.2.2.2.2.2.1) rfl
set_option maxRecDepth 1000000 in
theorem xk_135 : xi_135.all (xokE xe_135) = true := by decide +kernel
set_option maxRecDepth 1000000 in
theorem xm_135 : xokM xe_135 = true := by decide +kernel
set_option maxRecDepth 1000000 in
theorem xc_135 : Cond.code xe_135.2.1 xe_135.2.2.1 xe_135.2.2.2.1 xe_135.2.2.2.2.1 ∈ lw_tbl := List.mem_of_getElem? (i := xe_135.2.2.2.2.2.2.2.1) rfl
set_option maxRecDepth 1000000 in
theorem xk_136 : xi_136.all (xokE xe_136) = true := by decide +kernel
set_option maxRecDepth 1000000 in
theorem xm_136 : xokM xe_136 = true := by decide +kernel
set_option maxRecDepth 1000000 in
theorem xc_136 : Cond.code xe_136.2.1 xe_136.2.2.1 xe_136.2.2.2.1 xe_136.2.2.2.2.1 ∈ lw_tbl := List.mem_of_getElem? (i := xe_136.2.2.2.2.2.2.2.1) rfl
set_option maxRecDepth 1000000 in
theorem xk_137 : xi_137.all (xokE xe_137) = true := by decide +kernel
set_option maxRecDepth 1000000 in
theorem xm_137 : xokM xe_137 = true := by decide +kernel
set_option maxRecDepth 1000000 in
theorem xc_137 : Cond.code xe_137.2.1 xe_137.2.2.1 xe_137.2.2.2.1 xe_137.2.2.2.2.1 ∈ lw_tbl := List.mem_of_getElem? (i := xe_137.2.2.2.2.2.2.2.1) rfl
set_option maxRecDepth 1000000 in
theorem xk_138 : xi_138.all (xokE xe_138) = true := by decide +kernel
set_option maxRecDepth 1000000 in
theorem xm_138 : xokM xe_138 = true := by decide +kernel
set_option maxRecDepth 1000000 in
theorem xc_138 : Cond.code xe_138.2.1 xe_138.2.2.1 xe_138.2.2.2.1 xe_138.2.2.2.2.1 ∈ lw_tbl := List.mem_of_getElem? (i := xe_138.2.2.2.2.2.2.2.1) rfl
set_option maxRecDepth 1000000 in
theorem xk_139 : xi_139.all (xokE xe_139) = true := by decide +kernel
set_option maxRecDepth 1000000 in
theorem xm_139 : xokM xe_139 = true := by decide +kernel
set_option maxRecDepth 1000000 in
theorem xc_139 : Cond.code xe_139.2.1 xe_139.2.2.1 xe_139.2.2.2.1 xe_139.2.2.2.2.1 ∈ lw_tbl := List.mem_of_getElem? (i := xe_139.2.2.2.2.2.2.2.1) rfl
set_option maxRecDepth 1000000 in
theorem xk_140 : xi_140.all (xokE xe_140) = true := by decide +kernel
set_option maxRecDepth 1000000 in
theorem xm_140 : xokM xe_140 = true := by decide +kernel
set_option maxRecDepth 1000000 in
theorem xc_140 : Cond.code xe_140.2.1 xe_140.2.2.1 xe_140.2.2.2.1 xe_140.2.2.2.2.1 ∈ lw_tbl := List.mem_of_getElem? (i := xe_140.2.2.2.2.2.2.2.1) rfl
set_option maxRecDepth 1000000 in
theorem xk_141 : xi_141.all (xokE xe_141) = true := by decide +kernel
set_option maxRecDepth 1000000 in
theorem xm_141 : xokM xe_141 = true := by decide +kernel
set_option maxRecDepth 1000000 in
theorem xc_141 : Cond.code xe_141.2.1 xe_141.2.2.1 xe_141.2.2.2.1 xe_141.2.2.2.2.1 ∈ lw_tbl := List.mem_of_getElem? (i := xe_141.2.2.2.2.2.2.2.1) rfl
set_option maxRecDepth 1000000 in
theorem xk_142 : xi_142.all (xokE xe_142) = true := by decide +kernel
set_option maxRecDepth 1000000 in
theorem xm_142 : xokM xe_142 = true := by decide +kernel
set_option maxRecDepth 1000000 in
theorem xc_142 : Cond.code xe_142.2.1 xe_142.2.2.1 xe_142.2.2.2.1 xe_142.2.2.2.2.1 ∈ lw_tbl := List.mem_of_getElem? (i := xe_142.2.2.2.2.2.2.2.1) rfl
set_option maxRecDepth 1000000 in
theorem xk_143 : xi_143.all (xokE xe_143) = true := by decide +kernel
set_option maxRecDepth 1000000 in
theorem xm_143 : xokM xe_143 = true := by decide +kernel
set_option maxRecDepth 1000000 in
theorem xc_143 : Cond.code xe_143.2.1 xe_143.2.2.1 xe_143.2.2.2.1 xe_143.2.2.2.2.1 ∈ lw_tbl := List.mem_of_getElem? (i := xe_143.2.2.2.2.2.2.2.1) rfl
set_option maxRecDepth 1000000 in
theorem xk_144 : xi_144.all (xokE xe_144) = true := by decide +kernel
set_option maxRecDepth 1000000 in
theorem xm_144 : xokM xe_144 = true := by decide +kernel
set_option maxRecDepth 1000000 in
theorem xc_144 : Cond.code xe_144.2.1 xe_144.2.2.1 xe_144.2.2.2.1 xe_144.2.2.2.2.1 ∈ lw_tbl := List.mem_of_getElem? (i := xe_144.2.2.2.2.2.2.2.1) rfl
set_option maxRecDepth 1000000 in
theorem xk_145 : xi_145.all (xokE xe_145) = true := by decide +kernel
set_option maxRecDepth 1000000 in
theorem xm_145 : xokM xe_145 = true := by decide +kernel
set_option maxRecDepth 1000000 in
theorem xc_145 : Cond.code xe_145.2.1 xe_145.2.2.1 xe_145.2.2.2.1 xe_145.2.2.2.2.1 ∈ lw_tbl := List.mem_of_getElem? (i := xe_145.2.2.2.2.2.2.2.1) rfl
set_option maxRecDepth 1000000 in
theorem xk_146 : xi_146.all (xokE xe_146) = true := by decide +kernel
set_option maxRecDepth 1000000 in
theorem xm_146 : xokM xe_146 = true := by decide +kernel
set_option maxRecDepth 1000000 in
theorem xc_146 : Cond.code xe_146.2.1 xe_146.2.2.1 xe_146.2.2.2.1 xe_146.2.2.2.2.1 ∈ lw_tbl := List.mem_of_getElem? (i := xe_146.2.2.2.2.2.2.2.1) rfl
set_option maxRecDepth 1000000 in
theorem xk_147 : xi_147.all (xokE xe_147) = true := by decide +kernel
set_option maxRecDepth 1000000 in
theorem xm_147 : xokM xe_147 = true := by decide +kernel
set_option maxRecDepth 1000000 in
theorem xc_147 : Cond.code xe_147.2.1 xe_147.2.2.1 xe_147.2.2.2.1 xe_147.2.2.2.2.1 ∈ lw_tbl := List.mem_of_getElem? (i := xe_147.2.2.2.2.2.2.2.1) rfl
set_option maxRecDepth 1000000 in
theorem xk_148 : xi_148.all (xokE xe_148) = true := by decide +kernel
set_option maxRecDepth 1000000 in
theorem xm_148 : xokM xe_148 = true := by decide +kernel
set_option maxRecDepth 1000000 in
theorem xc_148 : Cond.code xe_148.2.1 xe_148.2.2.1 xe_148.2.2.2.1 xe_148.2.2.2.2.1 ∈ lw_tbl := List.mem_of_getElem? (i := xe_148.2.2.2.2.2.2.2.1) rfl
set_option maxRecDepth 1000000 in
theorem xk_149 : xi_149.all (xokE xe_149) = true := by decide +kernel
set_option maxRecDepth 1000000 in
theorem xm_149 : xokM xe_149 = true := by decide +kernel
set_option maxRecDepth 1000000 in
theorem xc_149 : Cond.code xe_149.2.1 xe_149.2.2.1 xe_149.2.2.2.1 xe_149.2.2.2.2.1 ∈ lw_tbl := List.mem_of_getElem? (i := xe_149.2.2.2.2.2.2.2.1) rfl
set_option maxRecDepth 1000000 in
theorem xk_150 : xi_150.all (xokE xe_150) = true := by decide +kernel
set_option maxRecDepth 1000000 in
theorem xm_150 : xokM xe_150 = true := by decide +kernel
set_option maxRecDepth 1000000 in
theorem xc_150 : Cond.code xe_150.2.1 xe_150.2.2.1 xe_150.2.2.2.1 xe_150.2.2.2.2.1 ∈ lw_tbl := List.mem_of_getElem? (i := xe_150.2.2.2.2.2.2.2.1) rfl
set_option maxRecDepth 1000000 in
theorem xk_151 : xi_151.all (xokE xe_151) = true := by decide +kernel
set_option maxRecDepth 1000000 in
theorem xm_151 : xokM xe_151 = true := by decide +kernel
set_option maxRecDepth 1000000 in
theorem xc_151 : Cond.code xe_151.2.1 xe_151.2.2.1 xe_151.2.2.2.1 xe_151.2.2.2.2.1 ∈ lw_tbl := List.mem_of_getElem? (i := xe_151.2.2.2.2.2.2.2.1) rfl
set_option maxRecDepth 1000000 in
theorem xk_152 : xi_152.all (xokE xe_152) = true := by decide +kernel
set_option maxRecDepth 1000000 in
theorem xm_152 : xokM xe_152 = true := by decide +kernel
set_option maxRecDepth 1000000 in
theorem xc_152 : Cond.code xe_152.2.1 xe_152.2.2.1 xe_152.2.2.2.1 xe_152.2.2.2.2.1 ∈ lw_tbl := List.mem_of_getElem? (i := xe_152.2.2.2.2.2.2.2.1) rfl
set_option maxRecDepth 1000000 in
theorem xk_153 : xi_153.all (xokE xe_153) = true := by decide +kernel
set_option maxRecDepth 1000000 in
theorem xm_153 : xokM xe_153 = true := by decide +kernel
set_option maxRecDepth 1000000 in
theorem xc_153 : Cond.code xe_153.2.1 xe_153.2.2.1 xe_153.2.2.2.1 xe_153.2.2.2.2.1 ∈ lw_tbl := List.mem_of_getElem? (i := xe_153.2.2.2.2.2.2.2.1) rfl
set_option maxRecDepth 1000000 in
theorem xk_154 : xi_154.all (xokE xe_154) = true := by decide +kernel
set_option maxRecDepth 1000000 in
theorem xm_154 : xokM xe_154 = true := by decide +kernel
set_option maxRecDepth 1000000 in
theorem xc_154 : Cond.code xe_154.2.1 xe_154.2.2.1 xe_154.2.2.2.1 xe_154.2.2.2.2.1 ∈ lw_tbl := List.mem_of_getElem? (i := xe_154.2.2.2.2.2.2.2.1) rfl
set_option maxRecDepth 1000000 in
theorem xk_155 : xi_155.all (xokE xe_155) = true := by decide +kernel
set_option maxRecDepth 1000000 in
theorem xm_155 : xokM xe_155 = true := by decide +kernel
set_option maxRecDepth 1000000 in
theorem xc_155 : Cond.code xe_155.2.1 xe_155.2.2.1 xe_155.2.2.2.1 xe_155.2.2.2.2.1 ∈ lw_tbl := List.mem_of_getElem? (i := xe_155.2.2.2.2.2.2.2.1) rfl
set_option maxRecDepth 1000000 in
theorem xk_156 : xi_156.all (xokE xe_156) = true := by decide +kernel
set_option maxRecDepth 1000000 in
theorem xm_156 : xokM xe_156 = true := by decide +kernel
set_option maxRecDepth 1000000 in
theorem xc_156 : Cond.code xe_156.2.1 xe_156.2.2.1 xe_156.2.2.2.1 xe_156.2.2.2.2.1 ∈ lw_tbl := List.mem_of_getElem? (i := xe_156.2.2.2.2.2.2.2.1) rfl
set_option maxRecDepth 1000000 in
theorem xk_157 : xi_157.all (xokE xe_157) = true := by decide +kernel
set_option maxRecDepth 1000000 in
theorem xm_157 : xokM xe_157 = true := by decide +kernel
set_option maxRecDepth 1000000 in
theorem xc_157 : Cond.code xe_157.2.1 xe_157.2.2.1 xe_157.2.2.2.1 xe_157.2.2.2.2.1 ∈ lw_tbl := List.mem_of_getElem? (i := xe_157.2.2.2.2.2.2.2.1) rfl
set_option maxRecDepth 1000000 in
theorem xk_158 : xi_158.all (xokE xe_158) = true := by decide +kernel
set_option maxRecDepth 1000000 in
theorem xm_158 : xokM xe_158 = true := by decide +kernel
set_option maxRecDepth 1000000 in
theorem xc_158 : Cond.code xe_158.2.1 xe_158.2.2.1 xe_158.2.2.2.1 xe_158.2.2.2.2.1 ∈ lw_tbl := List.mem_of_getElem? (i := xe_158.2.2.2.2.2.2.2.1) rfl
set_option maxRecDepth 1000000 in
theorem xk_159 : xi_159.all (xokE xe_159) = true := by decide +kernel
set_option maxRecDepth 1000000 in
theorem xm_159 : xokM xe_159 = true := by decide +kernel
set_option maxRecDepth 1000000 in
theorem xc_159 : Cond.code xe_159.2.1 xe_159.2.2.1 xe_159.2.2.2.1 xe_159.2.2.2.2.1 ∈ lw_tbl := List.mem_of_getElem? (i := xe_159.2.2.2.2.2.2.2.1) rfl
set_option maxRecDepth 1000000 in
theorem xk_160 : xi_160.all (xokE xe_160) = true := by decide +kernel
set_option maxRecDepth 1000000 in
theorem xm_160 : xokM xe_160 = true := by decide +kernel
set_option maxRecDepth 1000000 in
theorem xc_160 : Cond.code xe_160.2.1 xe_160.2.2.1 xe_160.2.2.2.1 xe_160.2.2.2.2.1 ∈ lw_tbl := List.mem_of_getElem? (i := xe_160.2.2.2.2.2.2.2.1) rfl
set_option maxRecDepth 1000000 in
theorem xk_161 : xi_161.all (xokE xe_161) = true := by decide +kernel
set_option maxRecDepth 1000000 in
theorem xm_161 : xokM xe_161 = true := by decide +kernel
set_option maxRecDepth 1000000 in
theorem xc_161 : Cond.code xe_161.2.1 xe_161.2.2.1 xe_161.2.2.2.1 xe_161.2.2.2.2.1 ∈ lw_tbl := List.mem_of_getElem? (i := xe_161.2.2.2.2.2.2.2.1) rfl
set_option maxRecDepth 1000000 in
theorem xk_162 : xi_162.all (xokE xe_162) = true := by decide +kernel
set_option maxRecDepth 1000000 in
theorem xm_162 : xokM xe_162 = true := by decide +kernel
set_option maxRecDepth 1000000 in
theorem xc_162 : Cond.code xe_162.2.1 xe_162.2.2.1 xe_162.2.2.2.1 xe_162.2.2.2.2.1 ∈ lw_tbl := List.mem_of_getElem? (i := xe_162.2.2.2.2.2.2.2.1) rfl
set_option maxRecDepth 1000000 in
theorem xk_163 : xi_163.all (xokE xe_163) = true := by decide +kernel
set_option maxRecDepth 1000000 in
theorem xm_163 : xokM xe_163 = true := by decide +kernel
set_option maxRecDepth 1000000 in
theorem xc_163 : Cond.code xe_163.2.1 xe_163.2.2.1 xe_163.2.2.2.1 xe_163.2.2.2.2.1 ∈ lw_tbl := List.mem_of_getElem? (i := xe_163.2.2.2.2.2.2.2.1) rfl
set_option maxRecDepth 1000000 in
theorem xk_164 : xi_164.all (xokE xe_164) = true := by decide +kernel
set_option maxRecDepth 1000000 in
theorem xm_164 : xokM xe_164 = true := by decide +kernel
set_option maxRecDepth 1000000 in
theorem xc_164 : Cond.code xe_164.2.1 xe_164.2.2.1 xe_164.2.2.2.1 xe_164.2.2.2.2.1 ∈ lw_tbl := List.mem_of_getElem? (i := xe_164.2.2.2.2.2.2.2.1) rfl
set_option maxRecDepth 1000000 in
theorem xk_165 : xi_165.all (xokE xe_165) = true := by decide +kernel
set_option maxRecDepth 1000000 in
theorem xm_165 : xokM xe_165 = true := by decide +kernel
set_option maxRecDepth 1000000 in
theorem xc_165 : Cond.code xe_165.2.1 xe_165.2.2.1 xe_165.2.2.2.1 xe_165.2.2.2.2.1 ∈ lw_tbl := List.mem_of_getElem? (i := xe_165.2.2.2.2.2.2.2.1) rfl
set_option maxRecDepth 1000000 in
theorem xk_166 : xi_166.all (xokE xe_166) = true := by decide +kernel
set_option maxRecDepth 1000000 in
theorem xm_166 : xokM xe_166 = true := by decide +kernel
set_option maxRecDepth 1000000 in
theorem xc_166 : Cond.code xe_166.2.1 xe_166.2.2.1 xe_166.2.2.2.1 xe_166.2.2.2.2.1 ∈ lw_tbl := List.mem_of_getElem? (i := xe_166.2.2.2.2.2.2.2.1) rfl
set_option maxRecDepth 1000000 in
theorem xk_167 : xi_167.all (xokE xe_167) = true := by decide +kernel
set_option maxRecDepth 1000000 in
theorem xm_167 : xokM xe_167 = true := by decide +kernel
set_option maxRecDepth 1000000 in
theorem xc_167 : Cond.code xe_167.2.1 xe_167.2.2.1 xe_167.2.2.2.1 xe_167.2.2.2.2.1 ∈ lw_tbl := List.mem_of_getElem? (i := xe_167.2.2.2.2.2.2.2.1) rfl
set_option maxRecDepth 1000000 in
theorem xk_168 : xi_168.all (xokE xe_168) = true := by decide +kernel
set_option maxRecDepth 1000000 in
theorem xm_168 : xokM xe_168 = true := by decide +kernel
set_option maxRecDepth 1000000 in
theorem xc_168 : Cond.code xe_168.2.1 xe_168.2.2.1 xe_168.2.2.2.1 xe_168.2.2.2.2.1 ∈ lw_tbl := List.mem_of_getElem? (i := xe_168.2.2.2.2.2.2.2.1) rfl
set_option maxRecDepth 1000000 in
theorem xk_169 : xi_169.all (xokE xe_169) = true := by decide +kernel
set_option maxRecDepth 1000000 in
theorem xm_169 : xokM xe_169 = true := by decide +kernel
set_option maxRecDepth 1000000 in
theorem xc_169 : Cond.code xe_169.2.1 xe_169.2.2.1 xe_169.2.2.2.1 xe_169.2.2.2.2.1 ∈ lw_tbl := List.mem_of_getElem? (i := xe_169.2.2.2.2.2.2.2.1) rfl
set_option maxRecDepth 1000000 in
theorem xk_170 : xi_170.all (xokE xe_170) = true := by decide +kernel
set_option maxRecDepth 1000000 in
theorem xm_170 : xokM xe_170 = true := by decide +kernel
set_option maxRecDepth 1000000 in
theorem xc_170 : Cond.code xe_170.2.1 xe_170.2.2.1 xe_170.2.2.2.1 xe_170.2.2.2.2.1 ∈ lw_tbl := List.mem_of_getElem? (i := xe_170.2.2.2.2.2.2.2.1) rfl
set_option maxRecDepth 1000000 in
theorem xk_171 : xi_171.all (xokE xe_171) = true := by decide +kernel
set_option maxRecDepth 1000000 in
theorem xm_171 : xokM xe_171 = true := by decide +kernel
set_option maxRecDepth 1000000 in
theorem xc_171 : Cond.code xe_171.2.1 xe_171.2.2.1 xe_171.2.2.2.1 xe_171.2.2.2.2.1 ∈ lw_tbl := List.mem_of_getElem? (i := xe_171.2.2.2.2.2.2.2.1) rfl
set_option maxRecDepth 1000000 in
theorem xk_172 : xi_172.all (xokE xe_172) = true := by decide +kernel
set_option maxRecDepth 1000000 in
theorem xm_172 : xokM xe_172 = true := by decide +kernel
set_option maxRecDepth 1000000 in
theorem xc_172 : Cond.code xe_172.2.1 xe_172.2.2.1 xe_172.2.2.2.1 xe_172.2.2.2.2.1 ∈ lw_tbl := List.mem_of_getElem? (i := xe_172.2.2.2.2.2.2.2.1) rfl
set_option maxRecDepth 1000000 in
theorem xk_173 : xi_173.all (xokE xe_173) = true := by decide +kernel
set_option maxRecDepth 1000000 in
theorem xm_173 : xokM xe_173 = true := by decide +kernel
set_option maxRecDepth 1000000 in
theorem xc_173 : Cond.code xe_173.2.1 xe_173.2.2.1 xe_173.2.2.2.1 xe_173.2.2.2.2.1 ∈ lw_tbl := List.mem_of_getElem? (i := xe_173.2.2.2.2.2.2.2.1) rfl
set_option maxRecDepth 1000000 in
theorem xk_174 : xi_174.all (xokE xe_174) = true := by decide +kernel
set_option maxRecDepth 1000000 in
theorem xm_174 : xokM xe_174 = true := by decide +kernel
set_option maxRecDepth 1000000 in
theorem xc_174 : Cond.code xe_174.2.1 xe_174.2.2.1 xe_174.2.2.2.1 xe_174.2.2.2.2.1 ∈ lw_tbl := List.mem_of_getElem? (i := xe_174.2.2.2.2.2.2.2.1) rfl
set_option maxRecDepth 1000000 in
theorem xk_175 : xi_175.all (xokE xe_175) = true := by decide +kernel
set_option maxRecDepth 1000000 in
theorem xm_175 : xokM xe_175 = true := by decide +kernel
set_option maxRecDepth 1000000 in
theorem xc_175 : Cond.code xe_175.2.1 xe_175.2.2.1 xe_175.2.2.2.1 xe_175.2.2.2.2.1 ∈ lw_tbl := List.mem_of_getElem? (i := xe_175.2.2.2.2.2.2.2.1) rfl
set_option maxRecDepth 1000000 in
theorem xk_176 : xi_176.all (xokE xe_176) = true := by decide +kernel
set_option maxRecDepth 1000000 in
theorem xm_176 : xokM xe_176 = true := by decide +kernel
set_option maxRecDepth 1000000 in
theorem xc_176 : Cond.code xe_176.2.1 xe_176.2.2.1 xe_176.2.2.2.1 xe_176.2.2.2.2.1 ∈ lw_tbl := List.mem_of_getElem? (i := xe_176.2.2.2.2.2.2.2.1) rfl
set_option maxRecDepth 1000000 in
theorem xk_177 : xi_177.all (xokE xe_177) = true := by decide +kernel
set_option maxRecDepth 1000000 in
theorem xm_177 : xokM xe_177 = true := by decide +kernel
set_option maxRecDepth 1000000 in
theorem xc_177 : Cond.code xe_177.2.1 xe_177.2.2.1 xe_177.2.2.2.1 xe_177.2.2.2.2.1 ∈ lw_tbl := List.mem_of_getElem? (i := xe_177.2.2.2.2.2.2.2.1) rfl
set_option maxRecDepth 1000000 in
theorem xk_178 : xi_178.all (xokE xe_178) = true := by decide +kernel
set_option maxRecDepth 1000000 in
theorem xm_178 : xokM xe_178 = true := by decide +kernel
set_option maxRecDepth 1000000 in
theorem xc_178 : Cond.code xe_178.2.1 xe_178.2.2.1 xe_178.2.2.2.1 xe_178.2.2.2.2.1 ∈ lw_tbl := List.mem_of_getElem? (i := xe_178.2.2.2.2.2.2.2.1) rfl
set_option maxRecDepth 1000000 in
theorem xk_179 : xi_179.all (xokE xe_179) = true := by decide +kernel
set_option maxRecDepth 1000000 in
theorem xm_179 : xokM xe_179 = true := by decide +kernel
set_option maxRecDepth 1000000 in
theorem xc_179 : Cond.code xe_179.2.1 xe_179.2.2.1 xe_179.2.2.2.1 xe_179.2.2.2.2.1 ∈ lw_tbl := List.mem_of_getElem? (i := xe_179.2.2.2.2.2.2.2.1) rfl
set_option maxRecDepth 1000000 in
theorem xk_180 : xi_180.all (xokE xe_180) = true := by decide +kernel
set_option maxRecDepth 1000000 in
theorem xm_180 : xokM xe_180 = true := by decide +kernel
set_option maxRecDepth 1000000 in
theorem xc_180 : Cond.code xe_180.2.1 xe_180.2.2.1 xe_180.2.2.2.1 xe_180.2.2.2.2.1 ∈ lw_tbl := List.mem_of_getElem? (i := xe_180.2.2.2.2.2.2.2.1) rfl
set_option maxRecDepth 1000000 in
theorem xk_181 : xi_181.all (xokE xe_181) = true := by decide +kernel
set_option maxRecDepth 1000000 in
theorem xm_181 : xokM xe_181 = true := by decide +kernel
set_option maxRecDepth 1000000 in
theorem xc_181 : Cond.code xe_181.2.1 xe_181.2.2.1 xe_181.2.2.2.1 xe_181.2.2.2.2.1 ∈ lw_tbl := List.mem_of_getElem? (i := xe_181.2.2.2.2.2.2.2.1) rfl
set_option maxRecDepth 1000000 in
theorem xk_182 : xi_182.all (xokE xe_182) = true := by decide +kernel
set_option maxRecDepth 1000000 in
theorem xm_182 : xokM xe_182 = true := by decide +kernel
set_option maxRecDepth 1000000 in
theorem xc_182 : Cond.code xe_182.2.1 xe_182.2.2.1 xe_182.2.2.2.1 xe_182.2.2.2.2.1 ∈ lw_tbl := List.mem_of_getElem? (i := xe_182.2.2.2.2.2.2.2.1) rfl
set_option maxRecDepth 1000000 in
theorem xk_183 : xi_183.all (xokE xe_183) = true := by decide +kernel
set_option maxRecDepth 1000000 in
theorem xm_183 : xokM xe_183 = true := by decide +kernel
set_option maxRecDepth 1000000 in
theorem xc_183 : Cond.code xe_183.2.1 xe_183.2.2.1 xe_183.2.2.2.1 xe_183.2.2.2.2.1 ∈ lw_tbl := List.mem_of_getElem? (i := xe_183.2.2.2.2.2.2.2.1) rfl
set_option maxRecDepth 1000000 in
theorem xk_184 : xi_184.all (xokE xe_184) = true := by decide +kernel
set_option maxRecDepth 1000000 in
theorem xm_184 : xokM xe_184 = true := by decide +kernel
set_option maxRecDepth 1000000 in
theorem xc_184 : Cond.code xe_184.2.1 xe_184.2.2.1 xe_184.2.2.2.1 xe_184.2.2.2.2.1 ∈ lw_tbl := List.mem_of_getElem? (i := xe_184.2.2.2.2.2.2.2.1) rfl
set_option maxRecDepth 1000000 in
theorem xk_185 : xi_185.all (xokE xe_185) = true := by decide +kernel
set_option maxRecDepth 1000000 in
theorem xm_185 : xokM xe_185 = true := by decide +kernel
set_option maxRecDepth 1000000 in
theorem xc_185 : Cond.code xe_185.2.1 xe_185.2.2.1 xe_185.2.2.2.1 xe_185.2.2.2.2.1 ∈ lw_tbl := List.mem_of_getElem? (i := xe_185.2.2.2.2.2.2.2.1) rfl
set_option maxRecDepth 1000000 in
theorem xk_186 : xi_186.all (xokE xe_186) = true := by decide +kernel
set_option maxRecDepth 1000000 in
theorem xm_186 : xokM xe_186 = true := by decide +kernel
set_option maxRecDepth 1000000 in
theorem xc_186 : Cond.code xe_186.2.1 xe_186.2.2.1 xe_186.2.2.2.1 xe_186.2.2.2.2.1 ∈ lw_tbl := List.mem_of_getElem? (i := xe_186.2.2.2.2.2.2.2.1) rfl
set_option maxRecDepth 1000000 in
theorem xk_187 : xi_187.all (xokE xe_187) = true := by decide +kernel
set_option maxRecDepth 1000000 in
theorem xm_187 : xokM xe_187 = true := by decide +kernel
set_option maxRecDepth 1000000 in
theorem xc_187 : Cond.code xe_187.2.1 xe_187.2.2.1 xe_187.2.2.2.1 xe_187.2.2.2.2.1 ∈ lw_tbl := List.mem_of_getElem? (i := xe_187.2.2.2.2.2.2.2.1) rfl
set_option maxRecDepth 1000000 in
theorem xk_188 : xi_188.all (xokE xe_188) = true := by decide +kernel
set_option maxRecDepth 1000000 in
theorem xm_188 : xokM xe_188 = true := by decide +kernel
set_option maxRecDepth 1000000 in
theorem xc_188 : Cond.code xe_188.2.1 xe_188.2.2.1 xe_188.2.2.2.1 xe_188.2.2.2.2.1 ∈ lw_tbl := List.mem_of_getElem? (i := xe_188.2.2.2.2.2.2.2.1) rfl
set_option maxRecDepth 1000000 in
theorem xk_189 : xi_189.all (xokE xe_189) = true := by decide +kernel
set_option maxRecDepth 1000000 in
theorem xm_189 : xokM xe_189 = true := by decide +kernel
set_option maxRecDepth 1000000 in
theorem xc_189 : Cond.code xe_189.2.1 xe_189.2.2.1 xe_189.2.2.2.1 xe_189.2.2.2.2.1 ∈ lw_tbl := List.mem_of_getElem? (i := xe_189.2.2.2.2.2.2.2.1) rfl
set_option maxRecDepth 1000000 in
theorem xk_190 : xi_190.all (xokE xe_190) = true := by decide +kernel
set_option maxRecDepth 1000000 in
theorem xm_190 : xokM xe_190 = true := by decide +kernel
set_option maxRecDepth 1000000 in
theorem xc_190 : Cond.code xe_190.2.1 xe_190.2.2.1 xe_190.2.2.2.1 xe_190.2.2.2.2.1 ∈ lw_tbl := List.mem_of_getElem? (i := xe_190.2.2.2.2.2.2.2.1) rfl
set_option maxRecDepth 1000000 in
theorem xk_191 : xi_191.all (xokE xe_191) = true := by decide +kernel
set_option maxRecDepth 1000000 in
theorem xm_191 : xokM xe_191 = true := by decide +kernel
set_option maxRecDepth 1000000 in
theorem xc_191 : Cond.code xe_191.2.1 xe_191.2.2.1 xe_191.2.2.2.1 xe_191.2.2.2.2.1 ∈ lw_tbl := List.mem_of_getElem? (i := xe_191.2.2.2.2.2.2.2.1) rfl
set_option maxRecDepth 1000000 in
theorem xk_192 : xi_192.all (xokE xe_192) = true := by decide +kernel
set_option maxRecDepth 1000000 in
theorem xm_192 : xokM xe_192 = true := by decide +kernel
set_option maxRecDepth 1000000 in
theorem xc_192 : Cond.code xe_192.2.1 xe_192.2.2.1 xe_192.2.2.2.1 xe_192.2.2.2.2.1 ∈ lw_tbl := List.mem_of_getElem? (i := xe_192.2.2.2.2.2.2.2.1) rfl
set_option maxRecDepth 1000000 in
theorem xk_193 : xi_193.all (xokE xe_193) = true := by decide +kernel
set_option maxRecDepth 1000000 in
theorem xm_193 : xokM xe_193 = true := by decide +kernel
set_option maxRecDepth 1000000 in
theorem xc_193 : Cond.code xe_193.2.1 xe_193.2.2.1 xe_193.2.2.2.1 xe_193.2.2.2.2.1 ∈ lw_tbl := List.mem_of_getElem? (i := xe_193.2.2.2.2.2.2.2.1) rfl
set_option maxRecDepth 1000000 in
theorem xk_194 : xi_194.all (xokE xe_194) = true := by decide +kernel
set_option maxRecDepth 1000000 in
theorem xm_194 : xokM xe_194 = true := by decide +kernel
set_option maxRecDepth 1000000 in
theorem xc_194 : Cond.code xe_194.2.1 xe_194.2.2.1 xe_194.2.2.2.1 xe_194.2.2.2.2.1 ∈ lw_tbl := List.mem_of_getElem? (i := xe_194.2.2.2.2.2.2.2.1) rfl
set_option maxRecDepth 1000000 in
theorem xk_195 : xi_195.all (xokE xe_195) = true := by decide +kernel
set_option maxRecDepth 1000000 in
theorem xm_195 : xokM xe_195 = true := by decide +kernel
set_option maxRecDepth 1000000 in
theorem xc_195 : Cond.code xe_195.2.1 xe_195.2.2.1 xe_195.2.2.2.1 xe_195.2.2.2.2.1 ∈ lw_tbl := List.mem_of_getElem? (i := xe_195.2.2.2.2.2.2.2.1) rfl
set_option maxRecDepth 1000000 in
theorem xk_196 : xi_196.all (xokE xe_196) = true := by decide +kernel
set_option maxRecDepth 1000000 in
theorem xm_196 : xokM xe_196 = true := by decide +kernel
set_option maxRecDepth 1000000 in
theorem xc_196 : Cond.code xe_196.2.1 xe_196.2.2.1 xe_196.2.2.2.1 xe_196.2.2.2.2.1 ∈ lw_tbl := List.mem_of_getElem? (i := xe_196.2.2.2.2.2.2.2.1) rfl
set_option maxRecDepth 1000000 in
theorem xk_197 : xi_197.all (xokE xe_197) = true := by decide +kernel
set_option maxRecDepth 1000000 in
theorem xm_197 : xokM xe_197 = true := by decide +kernel
set_option maxRecDepth 1000000 in
theorem xc_197 : Cond.code xe_197.2.1 xe_197.2.2.1 xe_197.2.2.2.1 xe_197.2.2.2.2.1 ∈ lw_tbl := List.mem_of_getElem? (i := xe_197.2.2.2.2.2.2.2.1) rfl
set_option maxRecDepth 1000000 in
theorem xk_198 : xi_198.all (xokE xe_198) = true := by decide +kernel
set_option maxRecDepth 1000000 in
theorem xm_198 : xokM xe_198 = true := by decide +kernel
set_option maxRecDepth 1000000 in
theorem xc_198 : Cond.code xe_198.2.1 xe_198.2.2.1 xe_198.2.2.2.1 xe_198.2.2.2.2.1 ∈ lw_tbl := List.mem_of_getElem? (i := xe_198.2.2.2.2.2.2.2.1) rfl
set_option maxRecDepth 1000000 in
theorem xk_199 : xi_199.all (xokE xe_199) = true := by decide +kernel
set_option maxRecDepth 1000000 in
theorem xm_199 : xokM xe_199 = true := by decide +kernel
set_option maxRecDepth 1000000 in
theorem xc_199 : Cond.code xe_199.2.1 xe_199.2.2.1 xe_199.2.2.2.1 xe_199.2.2.2.2.1 ∈ lw_tbl := List.mem_of_getElem? (i := xe_199.2.2.2.2.2.2.2.1) rfl
set_option maxRecDepth 1000000 in
theorem xk_200 : xi_200.all (xokE xe_200) = true := by decide +kernel
set_option maxRecDepth 1000000 in
theorem xm_200 : xokM xe_200 = true := by decide +kernel
set_option maxRecDepth 1000000 in
theorem xc_200 : Cond.code xe_200.2.1 xe_200.2.2.1 xe_200.2.2.2.1 xe_200.2.2.2.2.1 ∈ lw_tbl := List.mem_of_getElem? (i := xe_200.2.2.2.2.2.2.2.1) rfl
set_option maxRecDepth 1000000 in
theorem xk_201 : xi_201.all (xokE xe_201) = true := by decide +kernel
set_option maxRecDepth 1000000 in
theorem xm_201 : xokM xe_201 = true := by decide +kernel
set_option maxRecDepth 1000000 in
theorem xc_201 : Cond.code xe_201.2.1 xe_201.2.2.1 xe_201.2.2.2.1 xe_201.2.2.2.2.1 ∈ lw_tbl := List.mem_of_getElem? (i := xe_201.2.2.2.2.2.2.2.1) rfl
set_option maxRecDepth 1000000 in
theorem xk_202 : xi_202.all (xokE xe_202) = true := by decide +kernel
set_option maxRecDepth 1000000 in
theorem xm_202 : xokM xe_202 = true := by decide +kernel
set_option maxRecDepth 1000000 in
theorem xc_202 : Cond.code xe_202.2.1 xe_202.2.2.1 xe_202.2.2.2.1 xe_202.2.2.2.2.1 ∈ lw_tbl := List.mem_of_getElem? (i := xe_202.2.2.2.2.2.2.2.1) rfl
set_option maxRecDepth 1000000 in
theorem xk_203 : xi_203.all (xokE xe_203) = true := by decide +kernel
set_option maxRecDepth 1000000 in
theorem xm_203 : xokM xe_203 = true := by decide +kernel
set_option maxRecDepth 1000000 in
theorem xc_203 : Cond.code xe_203.2.1 xe_203.2.2.1 xe_203.2.2.2.1 xe_203.2.2.2.2.1 ∈ lw_tbl := List.mem_of_getElem? (i := xe_203.2.2.2.2.2.2.2.1) rfl
set_option maxRecDepth 1000000 in
theorem xk_204 : xi_204.all (xokE xe_204) = true := by decide +kernel
set_option maxRecDepth 1000000 in
theorem xm_204 : xokM xe_204 = true := by decide +kernel
set_option maxRecDepth 1000000 in
theorem xc_204 : Cond.code xe_204.2.1 xe_204.2.2.1 xe_204.2.2.2.1 xe_204.2.2.2.2.1 ∈ lw_tbl := List.mem_of_getElem? (i := xe_204.2.2.2.2.2.2.2.1) rfl
set_option maxRecDepth 1000000 in
theorem xk_205 : xi_205.all (xokE xe_205) = true := by decide +kernel
set_option maxRecDepth 1000000 in
theorem xm_205 : xokM xe_205 = true := by decide +kernel
set_option maxRecDepth 1000000 in
theorem xc_205 : Cond.code xe_205.2.1 xe_205.2.2.1 xe_205.2.2.2.1 xe_205.2.2.2.2.1 ∈ lw_tbl := List.mem_of_getElem? (i := xe_205.2.2.2.2.2.2.2.1) rfl
