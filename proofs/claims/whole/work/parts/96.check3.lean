set_option maxRecDepth 1000000 in
theorem xk_60 : xi_60.all (xokE xe_60) = true := by decide +kernel
set_option maxRecDepth 1000000 in
theorem xm_60 : xokM xe_60 = true := by decide +kernel
set_option maxRecDepth 1000000 in
theorem xc_60 : Cond.code xe_60.2.1 xe_60.2.2.1 xe_60.2.2.2.1 xe_60.2.2.2.2.1 ∈ lw_tbl := List.mem_of_getElem? (i := xe_60.2.2.2.2.2.2.2.1) rfl
set_option maxRecDepth 1000000 in
theorem xk_61 : xi_61.all (xokE xe_61) = true := by decide +kernel
set_option maxRecDepth 1000000 in
theorem xm_61 : xokM xe_61 = true := by decide +kernel
set_option maxRecDepth 1000000 in
theorem xc_61 : Cond.code xe_61.2.1 xe_61.2.2.1 xe_61.2.2.2.1 xe_61.2.2.2.2.1 ∈ lw_tbl := List.mem_of_getElem? (i := xe_61.2.2.2.2.2.2.2.1) rfl
set_option maxRecDepth 1000000 in
theorem xk_62 : xi_62.all (xokE xe_62) = true := by decide +kernel
set_option maxRecDepth 1000000 in
theorem xm_62 : xokM xe_62 = true := by decide +kernel
set_option maxRecDepth 1000000 in
theorem xc_62 : Cond.code xe_62.2.1 xe_62.2.2.1 xe_62.2.2.2.1 xe_62.2.2.2.2.1 ∈ lw_tbl := List.mem_of_getElem? (i := xe_62.2.2.2.2.2.2.2.1) rfl
set_option maxRecDepth 1000000 in
theorem xk_63 : xi_63.all (xokE xe_63) = true := by decide +kernel
set_option maxRecDepth 1000000 in
theorem xm_63 : xokM xe_63 = true := by decide +kernel
set_option maxRecDepth 1000000 in
theorem xc_63 : Cond.code xe_63.2.1 xe_63.2.2.1 xe_63.2.2.2.1 xe_63.2.2.2.2.1 ∈ lw_tbl := List.mem_of_getElem? (i := xe_63.2.2.2.2.2.2.2.1) rfl
set_option maxRecDepth 1000000 in
theorem xk_64 : xi_64.all (xokE xe_64) = true := by decide +kernel
set_option maxRecDepth 1000000 in
theorem xm_64 : xokM xe_64 = true := by decide +kernel
set_option maxRecDepth 1000000 in
theorem xc_64 : Cond.code xe_64.2.1 xe_64.2.2.1 xe_64.2.2.2.1 xe_64.2.2.2.2.1 ∈ lw_tbl := List.mem_of_getElem? (i := xe_64.2.2.2.2.2.2.2.1) rfl
set_option maxRecDepth 1000000 in
theorem xk_65 : xi_65.all (xokE xe_65) = true := by decide +kernel
set_option maxRecDepth 1000000 in
theorem xm_65 : xokM xe_65 = true := by decide +kernel
set_option maxRecDepth 1000000 in
theorem xc_65 : Cond.code xe_65.2.1 xe_65.2.2.1 xe_65.2.2.2.1 xe_65.2.2.2.2.1 ∈ lw_tbl := List.mem_of_getElem? (i := xe_65.2.2.2.2.2.2.2.1) rfl
set_option maxRecDepth 1000000 in
theorem xk_66 : xi_66.all (xokE xe_66) = true := by decide +kernel
set_option maxRecDepth 1000000 in
theorem xm_66 : xokM xe_66 = true := by decide +kernel
set_option maxRecDepth 1000000 in
theorem xc_66 : Cond.code xe_66.2.1 xe_66.2.2.1 xe_66.2.2.2.1 xe_66.2.2.2.2.1 ∈ lw_tbl := List.mem_of_getElem? (i := xe_66.2.2.2.2.2.2.2.1) rfl
set_option maxRecDepth 1000000 in
theorem xk_67 : xi_67.all (xokE xe_67) = true := by decide +kernel
set_option maxRecDepth 1000000 in
theorem xm_67 : xokM xe_67 = true := by decide +kernel
set_option maxRecDepth 1000000 in
theorem xc_67 : Cond.code xe_67.2.1 xe_67.2.2.1 xe_67.2.2.2.1 xe_67.2.2.2.2.1 ∈ lw_tbl := List.mem_of_getElem? (i := xe_67.2.2.2.2.2.2.2.1) rfl
set_option maxRecDepth 1000000 in
theorem xk_68 : xi_68.all (xokE xe_68) = true := by decide +kernel
set_option maxRecDepth 1000000 in
theorem xm_68 : xokM xe_68 = true := by decide +kernel
set_option maxRecDepth 1000000 in
theorem xc_68 : Cond.code xe_68.2.1 xe_68.2.2.1 xe_68.2.2.2.1 xe_68.2.2.2.2.1 ∈ lw_tbl := List.mem_of_getElem? (i := xe_68.2.2.2.2.2.2.2.1) rfl
set_option maxRecDepth 1000000 in
theorem xk_69 : xi_69.all (xokE xe_69) = true := by decide +kernel
set_option maxRecDepth 1000000 in
theorem xm_69 : xokM xe_69 = true := by decide +kernel
set_option maxRecDepth 1000000 in
theorem xc_69 : Cond.code xe_69.2.1 xe_69.2.2.1 xe_69.2.2.2.1 xe_69.2.2.2.2.1 ∈ lw_tbl := List.mem_of_getElem? (i := xe_69.2.2.2.2.2.2.2.1) rfl
set_option maxRecDepth 1000000 in
theorem xk_70 : xi_70.all (xokE xe_70) = true := by decide +kernel
set_option maxRecDepth 1000000 in
theorem xm_70 : xokM xe_70 = true := by decide +kernel
set_option maxRecDepth 1000000 in
theorem xc_70 : Cond.code xe_70.2.1 xe_70.2.2.1 xe_70.2.2.2.1 xe_70.2.2.2.2.1 ∈ lw_tbl := List.mem_of_getElem? (i := xe_70.2.2.2.2.2.2.2.1) rfl
set_option maxRecDepth 1000000 in
theorem xk_71 : xi_71.all (xokE xe_71) = true := by decide +kernel
set_option maxRecDepth 1000000 in
theorem xm_71 : xokM xe_71 = true := by decide +kernel
set_option maxRecDepth 1000000 in
theorem xc_71 : Cond.code xe_71.2.1 xe_71.2.2.1 xe_71.2.2.2.1 xe_71.2.2.2.2.1 ∈ lw_tbl := List.mem_of_getElem? (i := xe_71.2.2.2.2.2.2.2.1) rfl
set_option maxRecDepth 1000000 in
theorem xk_72 : xi_72.all (xokE xe_72) = true := by decide +kernel
set_option maxRecDepth 1000000 in
theorem xm_72 : xokM xe_72 = true := by decide +kernel
set_option maxRecDepth 1000000 in
theorem xc_72 : Cond.code xe_72.2.1 xe_72.2.2.1 xe_72.2.2.2.1 xe_72.2.2.2.2.1 ∈ lw_tbl := List.mem_of_getElem? (i := xe_72.2.2.2.2.2.2.2.1) rfl
set_option maxRecDepth 1000000 in
theorem xk_73 : xi_73.all (xokE xe_73) = true := by decide +kernel
set_option maxRecDepth 1000000 in
theorem xm_73 : xokM xe_73 = true := by decide +kernel
set_option maxRecDepth 1000000 in
theorem xc_73 : Cond.code xe_73.2.1 xe_73.2.2.1 xe_73.2.2.2.1 xe_73.2.2.2.2.1 ∈ lw_tbl := List.mem_of_getElem? (i := xe_73.2.2.2.2.2.2.2.1) rfl
set_option maxRecDepth 1000000 in
theorem xk_74 : xi_74.all (xokE xe_74) = true := by decide +kernel
set_option maxRecDepth 1000000 in
theorem xm_74 : xokM xe_74 = true := by decide +kernel
set_option maxRecDepth 1000000 in
theorem xc_74 : Cond.code xe_74.2.1 xe_74.2.2.1 xe_74.2.2.2.1 xe_74.2.2.2.2.1 ∈ lw_tbl := List.mem_of_getElem? (i := xe_74.2.2.2.2.2.2.2.1) rfl
set_option maxRecDepth 1000000 in
theorem xk_75 : xi_75.all (xokE xe_75) = true := by decide +kernel
set_option maxRecDepth 1000000 in
theorem xm_75 : xokM xe_75 = true := by decide +kernel
set_option maxRecDepth 1000000 in
theorem xc_75 : Cond.code xe_75.2.1 xe_75.2.2.1 xe_75.2.2.2.1 xe_75.2.2.2.2.1 ∈ lw_tbl := List.mem_of_getElem? (i := xe_75.2.2.2.2.2.2.2.1) rfl
set_option maxRecDepth 1000000 in
theorem xk_76 : xi_76.all (xokE xe_76) = true := by decide +kernel
set_option maxRecDepth 1000000 in
theorem xm_76 : xokM xe_76 = true := by decide +kernel
set_option maxRecDepth 1000000 in
theorem xc_76 : Cond.code xe_76.2.1 xe_76.2.2.1 xe_76.2.2.2.1 xe_76.2.2.2.2.1 ∈ lw_tbl := List.mem_of_getElem? (i := xe_76.2.2.2.2.2.2.2.1) rfl
set_option maxRecDepth 1000000 in
theorem xk_77 : xi_77.all (xokE xe_77) = true := by decide +kernel
set_option maxRecDepth 1000000 in
theorem xm_77 : xokM xe_77 = true := by decide +kernel
set_option maxRecDepth 1000000 in
theorem xc_77 : Cond.code xe_77.2.1 xe_77.2.2.1 xe_77.2.2.2.1 xe_77.2.2.2.2.1 ∈ lw_tbl := List.mem_of_getElem? (i := xe_77.2.2.2.2.2.2.2.1) rfl
set_option maxRecDepth 1000000 in
theorem xk_78 : xi_78.all (xokE xe_78) = true := by decide +kernel
set_option maxRecDepth 1000000 in
theorem xm_78 : xokM xe_78 = true := by decide +kernel
set_option maxRecDepth 1000000 in
theorem xc_78 : Cond.code xe_78.2.1 xe_78.2.2.1 xe_78.2.2.2.1 xe_78.2.2.2.2.1 ∈ lw_tbl := List.mem_of_getElem? (i := xe_78.2.2.2.2.2.2.2.1) rfl
set_option maxRecDepth 1000000 in
theorem xk_79 : xi_79.all (xokE xe_79) = true := by decide +kernel
set_option maxRecDepth 1000000 in
theorem xm_79 : xokM xe_79 = true := by decide +kernel
set_option maxRecDepth 1000000 in
theorem xc_79 : Cond.code xe_79.2.1 xe_79.2.2.1 xe_79.2.2.2.1 xe_79.2.2.2.2.1 ∈ lw_tbl := List.mem_of_getElem? (i := xe_79.2.2.2.2.2.2.2.1) rfl
set_option maxRecDepth 1000000 in
theorem xk_80 : xi_80.all (xokE xe_80) = true := by decide +kernel
set_option maxRecDepth 1000000 in
theorem xm_80 : xokM xe_80 = true := by decide +kernel
set_option maxRecDepth 1000000 in
theorem xc_80 : Cond.code xe_80.2.1 xe_80.2.2.1 xe_80.2.2.2.1 xe_80.2.2.2.2.1 ∈ lw_tbl := List.mem_of_getElem? (i := xe_80.2.2.2.2.2.2.2.1) rfl
set_option maxRecDepth 1000000 in
theorem xk_81 : xi_81.all (xokE xe_81) = true := by decide +kernel
set_option maxRecDepth 1000000 in
theorem xm_81 : xokM xe_81 = true := by decide +kernel
set_option maxRecDepth 1000000 in
theorem xc_81 : Cond.code xe_81.2.1 xe_81.2.2.1 xe_81.2.2.2.1 xe_81.2.2.2.2.1 ∈ lw_tbl := List.mem_of_getElem? (i := xe_81.2.2.2.2.2.2.2.1) rfl
set_option maxRecDepth 1000000 in
theorem xk_82 : xi_82.all (xokE xe_82) = true := by decide +kernel
set_option maxRecDepth 1000000 in
theorem xm_82 : xokM xe_82 = true := by decide +kernel
set_option maxRecDepth 1000000 in
theorem xc_82 : Cond.code xe_82.2.1 xe_82.2.2.1 xe_82.2.2.2.1 xe_82.2.2.2.2.1 ∈ lw_tbl := List.mem_of_getElem? (i := xe_82.2.2.2.2.2.2.2.1) rfl
set_option maxRecDepth 1000000 in
theorem xk_83 : xi_83.all (xokE xe_83) = true := by decide +kernel
set_option maxRecDepth 1000000 in
theorem xm_83 : xokM xe_83 = true := by decide +kernel
set_option maxRecDepth 1000000 in
theorem xc_83 : Cond.code xe_83.2.1 xe_83.2.2.1 xe_83.2.2.2.1 xe_83.2.2.2.2.1 ∈ lw_tbl := List.mem_of_getElem? (i := xe_83.2.2.2.2.2.2.2.1) rfl
set_option maxRecDepth 1000000 in
theorem xk_84 : xi_84.all (xokE xe_84) = true := by decide +kernel
set_option maxRecDepth 1000000 in
theorem xm_84 : xokM xe_84 = true := by decide +kernel
set_option maxRecDepth 1000000 in
theorem xc_84 : Cond.code xe_84.2.1 xe_84.2.2.1 xe_84.2.2.2.1 xe_84.2.2.2.2.1 ∈ lw_tbl := List.mem_of_getElem? (i := xe_84.2.2.2.2.2.2.2.1) rfl
set_option maxRecDepth 1000000 in
theorem xk_85 : xi_85.all (xokE xe_85) = true := by decide +kernel
set_option maxRecDepth 1000000 in
theorem xm_85 : xokM xe_85 = true := by decide +kernel
set_option maxRecDepth 1000000 in
theorem xc_85 : Cond.code xe_85.2.1 xe_85.2.2.1 xe_85.2.2.2.1 xe_85.2.2.2.2.1 ∈ lw_tbl := List.mem_of_getElem? (i := xe_85.2.2.2.2.2.2.2.1) rfl
set_option maxRecDepth 1000000 in
theorem xk_86 : xi_86.all (xokE xe_86) = true := by decide +kernel
set_option maxRecDepth 1000000 in
theorem xm_86 : xokM xe_86 = true := by decide +kernel
set_option maxRecDepth 1000000 in
theorem xc_86 : Cond.code xe_86.2.1 xe_86.2.2.1 xe_86.2.2.2.1 xe_86.2.2.2.2.1 ∈ lw_tbl := List.mem_of_getElem? (i := xe_86.2.2.2.2.2.2.2.1) rfl
set_option maxRecDepth 1000000 in
theorem xk_87 : xi_87.all (xokE xe_87) = true := by decide +kernel
set_option maxRecDepth 1000000 in
theorem xm_87 : xokM xe_87 = true := by decide +kernel
set_option maxRecDepth 1000000 in
theorem xc_87 : Cond.code xe_87.2.1 xe_87.2.2.1 xe_87.2.2.2.1 xe_87.2.2.2.2.1 ∈ lw_tbl := List.mem_of_getElem? (i := xe_87.2.2.2.2.2.2.2.1) rfl
set_option maxRecDepth 1000000 in
theorem xk_88 : xi_88.all (xokE xe_88) = true := by decide +kernel
set_option maxRecDepth 1000000 in
theorem xm_88 : xokM xe_88 = true := by decide +kernel
set_option maxRecDepth 1000000 in
theorem xc_88 : Cond.code xe_88.2.1 xe_88.2.2.1 xe_88.2.2.2.1 xe_88.2.2.2.2.1 ∈ lw_tbl := List.mem_of_getElem? (i := xe_88.2.2.2.2.2.2.2.1) rfl
set_option maxRecDepth 1000000 in
theorem xk_89 : xi_89.all (xokE xe_89) = true := by decide +kernel
set_option maxRecDepth 1000000 in
theorem xm_89 : xokM xe_89 = true := by decide +kernel
set_option maxRecDepth 1000000 in
theorem xc_89 : Cond.code xe_89.2.1 xe_89.2.2.1 xe_89.2.2.2.1 xe_89.2.2.2.2.1 ∈ lw_tbl := List.mem_of_getElem? (i := xe_89.2.2.2.2.2.2.2.1) rfl
set_option maxRecDepth 1000000 in
theorem xk_90 : xi_90.all (xokE xe_90) = true := by decide +kernel
set_option maxRecDepth 1000000 in
theorem xm_90 : xokM xe_90 = true := by decide +kernel
set_option maxRecDepth 1000000 in
theorem xc_90 : Cond.code xe_90.2.1 xe_90.2.2.1 xe_90.2.2.2.1 xe_90.2.2.2.2.1 ∈ lw_tbl := List.mem_of_getElem? (i := xe_90.2.2.2.2.2.2.2.1) rfl
set_option maxRecDepth 1000000 in
theorem xk_91 : xi_91.all (xokE xe_91) = true := by decide +kernel
set_option maxRecDepth 1000000 in
theorem xm_91 : xokM xe_91 = true := by decide +kernel
set_option maxRecDepth 1000000 in
theorem xc_91 : Cond.code xe_91.2.1 xe_91.2.2.1 xe_91.2.2.2.1 xe_91.2.2.2.2.1 ∈ lw_tbl := List.mem_of_getElem? (i := xe_91.2.2.2.2.2.2.2.1) rfl
set_option maxRecDepth 1000000 in
theorem xk_92 : xi_92.all (xokE xe_92) = true := by decide +kernel
set_option maxRecDepth 1000000 in
theorem xm_92 : xokM xe_92 = true := by decide +kernel
set_option maxRecDepth 1000000 in
theorem xc_92 : Cond.code xe_92.2.1 xe_92.2.2.1 xe_92.2.2.2.1 xe_92.2.2.2.2.1 ∈ lw_tbl := List.mem_of_getElem? (i := xe_92.2.2.2.2.2.2.2.1) rfl
set_option maxRecDepth 1000000 in
theorem xk_93 : xi_93.all (xokE xe_93) = true := by decide +kernel
set_option maxRecDepth 1000000 in
theorem xm_93 : xokM xe_93 = true := by decide +kernel
set_option maxRecDepth 1000000 in
theorem xc_93 : Cond.code xe_93.2.1 xe_93.2.2.1 xe_93.2.2.2.1 xe_93.2.2.2.2.1 ∈ lw_tbl := List.mem_of_getElem? (i := xe_93.2.2.2.2.2.2.2.1) rfl
set_option maxRecDepth 1000000 in
theorem xk_94 : xi_94.all (xokE xe_94) = true := by decide +kernel
set_option maxRecDepth 1000000 in
theorem xm_94 : xokM xe_94 = true := by decide +kernel
set_option maxRecDepth 1000000 in
theorem xc_94 : Cond.code xe_94.2.1 xe_94.2.2.1 xe_94.2.2.2.1 xe_94.2.2.2.2.1 ∈ lw_tbl := List.mem_of_getElem? (i := xe_94.2.2.2.2.2.2.2.1) rfl
set_option maxRecDepth 1000000 in
theorem xk_95 : xi_95.all (xokE xe_95) = true := by decide +kernel
set_option maxRecDepth 1000000 in
theorem xm_95 : xokM xe_95 = true := by decide +kernel
set_option maxRecDepth 1000000 in
theorem xc_95 : Cond.code xe_95.2.1 xe_95.2.2.1 xe_95.2.2.2.1 xe_95.2.2.2.2.1 ∈ lw_tbl := List.mem_of_getElem? (i := xe_95.2.2.2.2.2.2.2.1) rfl
set_option maxRecDepth 1000000 in
theorem xk_96 : xi_96.all (xokE xe_96) = true := by decide +kernel
set_option maxRecDepth 1000000 in
theorem xm_96 : xokM xe_96 = true := by decide +kernel
set_option maxRecDepth 1000000 in
theorem xc_96 : Cond.code xe_96.2.1 xe_96.2.2.1 xe_96.2.2.2.1 xe_96.2.2.2.2.1 ∈ lw_tbl := List.mem_of_getElem? (i := xe_96.2.2.2.2.2.2.2.1) rfl
set_option maxRecDepth 1000000 in
theorem xk_97 : xi_97.all (xokE xe_97) = true := by decide +kernel
set_option maxRecDepth 1000000 in
theorem xm_97 : xokM xe_97 = true := by decide +kernel
set_option maxRecDepth 1000000 in
theorem xc_97 : Cond.code xe_97.2.1 xe_97.2.2.1 xe_97.2.2.2.1 xe_97.2.2.2.2.1 ∈ lw_tbl := List.mem_of_getElem? (i := xe_97.2.2.2.2.2.2.2.1) rfl
set_option maxRecDepth 1000000 in
theorem xk_98 : xi_98.all (xokE xe_98) = true := by decide +kernel
set_option maxRecDepth 1000000 in
theorem xm_98 : xokM xe_98 = true := by decide +kernel
set_option maxRecDepth 1000000 in
theorem xc_98 : Cond.code xe_98.2.1 xe_98.2.2.1 xe_98.2.2.2.1 xe_98.2.2.2.2.1 ∈ lw_tbl := List.mem_of_getElem? (i := xe_98.2.2.2.2.2.2.2.1) rfl
set_option maxRecDepth 1000000 in
theorem xk_99 : xi_99.all (xokE xe_99) = true := by decide +kernel
set_option maxRecDepth 1000000 in
theorem xm_99 : xokM xe_99 = true := by decide +kernel
set_option maxRecDepth 1000000 in
theorem xc_99 : Cond.code xe_99.2.1 xe_99.2.2.1 xe_99.2.2.2.1 xe_99.2.2.2.2.1 ∈ lw_tbl := List.mem_of_getElem? (i := xe_99.2.2.2.2.2.2.2.1) rfl
set_option maxRecDepth 1000000 in
theorem xk_100 : xi_100.all (xokE xe_100) = true := by decide +kernel
set_option maxRecDepth 1000000 in
theorem xm_100 : xokM xe_100 = true := by decide +kernel
set_option maxRecDepth 1000000 in
theorem xc_100 : Cond.code xe_100.2.1 xe_100.2.2.1 xe_100.2.2.2.1 xe_100.2.2.2.2.1 ∈ lw_tbl := List.mem_of_getElem? (i := xe_100.2.2.2.2.2.2.2.1) rfl
set_option maxRecDepth 1000000 in
theorem xk_101 : xi_101.all (xokE xe_101) = true := by decide +kernel
set_option maxRecDepth 1000000 in
theorem xm_101 : xokM xe_101 = true := by decide +kernel
set_option maxRecDepth 1000000 in
theorem xc_101 : Cond.code xe_101.2.1 xe_101.2.2.1 xe_101.2.2.2.1 xe_101.2.2.2.2.1 ∈ lw_tbl := List.mem_of_getElem? (i := xe_101.2.2.2.2.2.2.2.1) rfl
set_option maxRecDepth 1000000 in
theorem xk_102 : xi_102.all (xokE xe_102) = true := by decide +kernel
set_option maxRecDepth 1000000 in
theorem xm_102 : xokM xe_102 = true := by decide +kernel
set_option maxRecDepth 1000000 in
theorem xc_102 : Cond.code xe_102.2.1 xe_102.2.2.1 xe_102.2.2.2.1 xe_102.2.2.2.2.1 ∈ lw_tbl := List.mem_of_getElem? (i := xe_102.2.2.2.2.2.2.2.1) rfl
set_option maxRecDepth 1000000 in
theorem xk_103 : xi_103.all (xokE xe_103) = true := by decide +kernel
set_option maxRecDepth 1000000 in
theorem xm_103 : xokM xe_103 = true := by decide +kernel
set_option maxRecDepth 1000000 in
theorem xc_103 : Cond.code xe_103.2.1 xe_103.2.2.1 xe_103.2.2.2.1 xe_103.2.2.2.2.1 ∈ lw_tbl := List.mem_of_getElem? (i := xe_103.2.2.2.2.2.2.2.1) rfl
set_option maxRecDepth 1000000 in
theorem xk_104 : xi_104.all (xokE xe_104) = true := by decide +kernel
set_option maxRecDepth 1000000 in
theorem xm_104 : xokM xe_104 = true := by decide +kernel
set_option maxRecDepth 1000000 in
theorem xc_104 : Cond.code xe_104.2.1 xe_104.2.2.1 xe_104.2.2.2.1 xe_104.2.2.2.2.1 ∈ lw_tbl := List.mem_of_getElem? (i := xe_104.2.2.2.2.2.2.2.1) rfl
set_option maxRecDepth 1000000 in
theorem xk_105 : xi_105.all (xokE xe_105) = true := by decide +kernel
set_option maxRecDepth 1000000 in
theorem xm_105 : xokM xe_105 = true := by decide +kernel
set_option maxRecDepth 1000000 in
theorem xc_105 : Cond.code xe_105.2.1 xe_105.2.2.1 xe_105.2.2.2.1 xe_105.2.2.2.2.1 ∈ lw_tbl := List.mem_of_getElem? (i := xe_105.2.2.2.2.2.2.2.1) rfl
set_option maxRecDepth 1000000 in
theorem xk_106 : xi_106.all (xokE xe_106) = true := by decide +kernel
set_option maxRecDepth 1000000 in
theorem xm_106 : xokM xe_106 = true := by decide +kernel
set_option maxRecDepth 1000000 in
theorem xc_106 : Cond.code xe_106.2.1 xe_106.2.2.1 xe_106.2.2.2.1 xe_106.2.2.2.2.1 ∈ lw_tbl := List.mem_of_getElem? (i := xe_106.2.2.2.2.2.2.2.1) rfl
set_option maxRecDepth 1000000 in
theorem xk_107 : xi_107.all (xokE xe_107) = true := by decide +kernel
set_option maxRecDepth 1000000 in
theorem xm_107 : xokM xe_107 = true := by decide +kernel
set_option maxRecDepth 1000000 in
theorem xc_107 : Cond.code xe_107.2.1 xe_107.2.2.1 xe_107.2.2.2.1 xe_107.2.2.2.2.1 ∈ lw_tbl := List.mem_of_getElem? (i := xe_107.2.2.2.2.2.2.2.1) rfl
set_option maxRecDepth 1000000 in
theorem xk_108 : xi_108.all (xokE xe_108) = true := by decide +kernel
set_option maxRecDepth 1000000 in
theorem xm_108 : xokM xe_108 = true := by decide +kernel
set_option maxRecDepth 1000000 in
theorem xc_108 : Cond.code xe_108.2.1 xe_108.2.2.1 xe_108.2.2.2.1 xe_108.2.2.2.2.1 ∈ lw_tbl := List.mem_of_getElem? (i := xe_108.2.2.2.2.2.2.2.1) rfl
set_option maxRecDepth 1000000 in
theorem xk_109 : xi_109.all (xokE xe_109) = true := by decide +kernel
set_option maxRecDepth 1000000 in
theorem xm_109 : xokM xe_109 = true := by decide +kernel
set_option maxRecDepth 1000000 in
theorem xc_109 : Cond.code xe_109.2.1 xe_109.2.2.1 xe_109.2.2.2.1 xe_109.2.2.2.2.1 ∈ lw_tbl := List.mem_of_getElem? (i := xe_109.2.2.2.2.2.2.2.1) rfl
set_option maxRecDepth 1000000 in
theorem xk_110 : xi_110.all (xokE xe_110) = true := by decide +kernel
set_option maxRecDepth 1000000 in
theorem xm_110 : xokM xe_110 = true := by decide +kernel
set_option maxRecDepth 1000000 in
theorem xc_110 : Cond.code xe_110.2.1 xe_110.2.2.1 xe_110.2.2.2.1 xe_110.2.2.2.2.1 ∈ lw_tbl := List.mem_of_getElem? (i := xe_110.2.2.2.2.2.2.2.1) rfl
set_option maxRecDepth 1000000 in
theorem xk_111_0 : ((xi_111.drop 0).take 200).all (xokE xe_111) = true := by decide +kernel
set_option maxRecDepth 1000000 in
theorem xk_111_200 : ((xi_111.drop 200).take 200).all (xokE xe_111) = true := by decide +kernel
set_option maxRecDepth 1000000 in
theorem xk_111_400 : ((xi_111.drop 400).take 200).all (xokE xe_111) = true := by decide +kernel
set_option maxRecDepth 1000000 in
theorem xk_111_600 : ((xi_111.drop 600).take 200).all (xokE xe_111) = true := by decide +kernel
set_option maxRecDepth 1000000 in
theorem xk_111 : xi_111.all (xokE xe_111) = true := by
  have h : ∀ (l : List XIn) (a b : Nat) (f : XIn → Bool), ((l.drop a).take b).all f = true → (l.drop (a + b)).all f = true → (l.drop a).all f = true := by
    intro l a b f h1 h2
    have h3 : l.drop a = (l.drop a).take b ++ (l.drop a).drop b := (List.take_append_drop b _).symm
    rw [h3, List.all_append, h1, List.drop_drop, h2]
    rfl
  exact (h xi_111 0 200 _ xk_111_0 (h xi_111 200 200 _ xk_111_200 (h xi_111 400 200 _ xk_111_400 (h xi_111 600 200 _ xk_111_600 (by decide +kernel)))))
set_option maxRecDepth 1000000 in
theorem xm_111 : xokM xe_111 = true := by decide +kernel
set_option maxRecDepth 1000000 in
theorem xc_111 : Cond.code xe_111.2.1 xe_111.2.2.1 xe_111.2.2.2.1 xe_111.2.2.2.2.1 ∈ lw_tbl := List.mem_of_getElem? (i := xe_111.2.2.2.2.2.2.2.1) rfl
