theorem m_1 : xme 1 = some xe_1 := rfl
theorem f_1_6 : xi 1 6 = some (.putfield 7, 0, 247) := rfl
theorem f_1_11 : xi 1 11 = some (.putfield 13, 1, 250) := rfl
theorem f_1_16 : xi 1 16 = some (.putfield 16, 2, 253) := rfl
theorem f_1_21 : xi 1 21 = some (.putfield 19, 3, 256) := rfl
theorem f_1_24 : xi 1 24 = some (.return_, 0, 0) := rfl
theorem m_2 : xme 2 = some xe_2 := rfl
theorem f_2_2 : xi 2 2 = some (.putfield 7, 0, 247) := rfl
theorem f_2_7 : xi 2 7 = some (.putfield 13, 1, 250) := rfl
theorem f_2_12 : xi 2 12 = some (.putfield 16, 2, 253) := rfl
theorem f_2_18 : xi 2 18 = some (.putfield 19, 3, 256) := rfl
theorem f_2_21 : xi 2 21 = some (.return_, 0, 0) := rfl
theorem m_3 : xme 3 = some xe_3 := rfl
theorem f_3_2 : xi 3 2 = some (.getfield 13, 1, 250) := rfl
theorem f_3_5 : xi 3 5 = some (.iaload, 0, 0) := rfl
theorem f_3_6 : xi 3 6 = some (.i2l, 0, 0) := rfl
theorem f_3_9 : xi 3 9 = some (.getfield 7, 0, 247) := rfl
theorem f_3_12 : xi 3 12 = some (.iaload, 0, 0) := rfl
theorem f_3_13 : xi 3 13 = some (.i2l, 0, 0) := rfl
theorem f_3_17 : xi 3 17 = some (.getfield 16, 2, 253) := rfl
theorem f_3_20 : xi 3 20 = some (.i2l, 0, 0) := rfl
theorem f_3_22 : xi 3 22 = some (.lcmp, 0, 0) := rfl
theorem f_3_23 : xi 3 23 = some (.ifCond .gt 17, 0, 0) := rfl
theorem f_3_28 : xi 3 28 = some (.getfield 19, 3, 256) := rfl
theorem f_3_31 : xi 3 31 = some (.i2l, 0, 0) := rfl
theorem f_3_32 : xi 3 32 = some (.lcmp, 0, 0) := rfl
theorem f_3_33 : xi 3 33 = some (.ifCond .gt 7, 0, 0) := rfl
theorem f_3_41 : xi 3 41 = some (.ireturn, 0, 0) := rfl
theorem m_4 : xme 4 = some xe_4 := rfl
theorem f_4_10 : xi 4 10 = some (.putfield 9, 4, 183) := rfl
theorem f_4_15 : xi 4 15 = some (.putfield 15, 5, 184) := rfl
theorem f_4_26 : xi 4 26 = some (.putfield 22, 6, 186) := rfl
theorem f_4_31 : xi 4 31 = some (.putfield 26, 7, 188) := rfl
theorem f_4_36 : xi 4 36 = some (.putfield 29, 8, 190) := rfl
theorem f_4_41 : xi 4 41 = some (.putfield 32, 9, 191) := rfl
theorem f_4_46 : xi 4 46 = some (.putfield 35, 10, 192) := rfl
theorem f_4_51 : xi 4 51 = some (.putfield 38, 11, 193) := rfl
theorem f_4_54 : xi 4 54 = some (.return_, 0, 0) := rfl
theorem m_5 : xme 5 = some xe_5 := rfl
theorem f_5_1 : xi 5 1 = some (.getfield 15, 5, 184) := rfl
theorem f_5_5 : xi 5 5 = some (.getfield 9, 4, 183) := rfl
theorem f_5_8 : xi 5 8 = some (.arraylength, 0, 0) := rfl
theorem f_5_9 : xi 5 9 = some (.if_icmp .ge 23, 0, 0) := rfl
theorem f_5_13 : xi 5 13 = some (.getfield 9, 4, 183) := rfl
theorem f_5_17 : xi 5 17 = some (.getfield 15, 5, 184) := rfl
theorem f_5_21 : xi 5 21 = some (.iastore, 0, 0) := rfl
theorem f_5_24 : xi 5 24 = some (.getfield 15, 5, 184) := rfl
theorem f_5_29 : xi 5 29 = some (.putfield 15, 5, 184) := rfl
theorem f_5_32 : xi 5 32 = some (.return_, 0, 0) := rfl
theorem m_6 : xme 6 = some xe_6 := rfl
theorem f_6_1 : xi 6 1 = some (.getfield 22, 6, 186) := rfl
theorem f_6_4 : xi 6 4 = some (.invokevirtual 41, 42, 344) := rfl
theorem f_6_9 : xi 6 9 = some (.putfield 38, 11, 193) := rfl
theorem f_6_14 : xi 6 14 = some (.putfield 29, 8, 190) := rfl
theorem f_6_18 : xi 6 18 = some (.invokevirtual 44, 15, 348) := rfl
theorem f_6_23 : xi 6 23 = some (.invokevirtual 47, 7, 438) := rfl
theorem f_6_26 : xi 6 26 = some (.ifCond .eq 30, 0, 0) := rfl
theorem f_6_31 : xi 6 31 = some (.invokevirtual 47, 7, 438) := rfl
theorem f_6_34 : xi 6 34 = some (.ifCond .eq 22, 0, 0) := rfl
theorem f_6_39 : xi 6 39 = some (.invokevirtual 47, 7, 438) := rfl
theorem f_6_42 : xi 6 42 = some (.ifCond .eq 14, 0, 0) := rfl
theorem f_6_46 : xi 6 46 = some (.getfield 32, 9, 191) := rfl
theorem f_6_49 : xi 6 49 = some (.ifCond .ne 7, 0, 0) := rfl
theorem f_6_60 : xi 6 60 = some (.putfield 15, 5, 184) := rfl
theorem f_6_64 : xi 6 64 = some (.ireturn, 0, 0) := rfl
theorem m_7 : xme 7 = some xe_7 := rfl
theorem f_7_1 : xi 7 1 = some (.getfield 32, 9, 191) := rfl
theorem f_7_8 : xi 7 8 = some (.if_icmp .eq 5, 0, 0) := rfl
theorem f_7_12 : xi 7 12 = some (.ireturn, 0, 0) := rfl
theorem f_7_14 : xi 7 14 = some (.invokevirtual 44, 15, 348) := rfl
theorem f_7_18 : xi 7 18 = some (.invokevirtual 51, 8, 442) := rfl
theorem f_7_21 : xi 7 21 = some (.ifCond .eq 12, 0, 0) := rfl
theorem f_7_25 : xi 7 25 = some (.getfield 32, 9, 191) := rfl
theorem f_7_30 : xi 7 30 = some (.if_icmp .eq 5, 0, 0) := rfl
theorem f_7_34 : xi 7 34 = some (.ireturn, 0, 0) := rfl
theorem f_7_36 : xi 7 36 = some (.invokevirtual 44, 15, 348) := rfl
theorem f_7_40 : xi 7 40 = some (.getfield 22, 6, 186) := rfl
theorem f_7_44 : xi 7 44 = some (.invokevirtual 55, 44, 474) := rfl
theorem f_7_48 : xi 7 48 = some (.ireturn, 0, 0) := rfl
theorem m_8 : xme 8 = some xe_8 := rfl
theorem f_8_1 : xi 8 1 = some (.invokevirtual 59, 9, 446) := rfl
theorem f_8_4 : xi 8 4 = some (.ifCond .ne 5, 0, 0) := rfl
theorem f_8_8 : xi 8 8 = some (.ireturn, 0, 0) := rfl
theorem f_8_15 : xi 8 15 = some (.if_icmp .ge 38, 0, 0) := rfl
theorem f_8_19 : xi 8 19 = some (.getfield 32, 9, 191) := rfl
theorem f_8_23 : xi 8 23 = some (.if_icmp .ne 30, 0, 0) := rfl
theorem f_8_27 : xi 8 27 = some (.invokevirtual 44, 15, 348) := rfl
theorem f_8_31 : xi 8 31 = some (.invokevirtual 59, 9, 446) := rfl
theorem f_8_34 : xi 8 34 = some (.ifCond .ne 5, 0, 0) := rfl
theorem f_8_38 : xi 8 38 = some (.ireturn, 0, 0) := rfl
theorem f_8_40 : xi 8 40 = some (.getfield 22, 6, 186) := rfl
theorem f_8_44 : xi 8 44 = some (.invokevirtual 62, 43, 458) := rfl
theorem f_8_54 : xi 8 54 = some (.ireturn, 0, 0) := rfl
theorem m_9 : xme 9 = some xe_9 := rfl
theorem f_9_1 : xi 9 1 = some (.invokevirtual 65, 10, 450) := rfl
theorem f_9_4 : xi 9 4 = some (.ifCond .ne 5, 0, 0) := rfl
theorem f_9_8 : xi 9 8 = some (.ireturn, 0, 0) := rfl
theorem f_9_15 : xi 9 15 = some (.if_icmp .ge 39, 0, 0) := rfl
theorem f_9_19 : xi 9 19 = some (.getfield 32, 9, 191) := rfl
theorem f_9_23 : xi 9 23 = some (.if_icmp .ne 31, 0, 0) := rfl
theorem f_9_27 : xi 9 27 = some (.invokevirtual 44, 15, 348) := rfl
theorem f_9_31 : xi 9 31 = some (.invokevirtual 65, 10, 450) := rfl
theorem f_9_34 : xi 9 34 = some (.ifCond .ne 5, 0, 0) := rfl
theorem f_9_38 : xi 9 38 = some (.ireturn, 0, 0) := rfl
theorem f_9_40 : xi 9 40 = some (.getfield 22, 6, 186) := rfl
theorem f_9_45 : xi 9 45 = some (.invokevirtual 62, 43, 458) := rfl
theorem f_9_55 : xi 9 55 = some (.ireturn, 0, 0) := rfl
theorem m_10 : xme 10 = some xe_10 := rfl
theorem f_10_1 : xi 10 1 = some (.getfield 32, 9, 191) := rfl
theorem f_10_6 : xi 10 6 = some (.if_icmp .ne 46, 0, 0) := rfl
theorem f_10_10 : xi 10 10 = some (.invokevirtual 68, 14, 454) := rfl
theorem f_10_13 : xi 10 13 = some (.ifCond .ne 5, 0, 0) := rfl
theorem f_10_17 : xi 10 17 = some (.ireturn, 0, 0) := rfl
theorem f_10_19 : xi 10 19 = some (.invokevirtual 44, 15, 348) := rfl
theorem f_10_23 : xi 10 23 = some (.invokevirtual 65, 10, 450) := rfl
theorem f_10_26 : xi 10 26 = some (.ifCond .ne 5, 0, 0) := rfl
theorem f_10_30 : xi 10 30 = some (.ireturn, 0, 0) := rfl
theorem f_10_33 : xi 10 33 = some (.getfield 38, 11, 193) := rfl
theorem f_10_38 : xi 10 38 = some (.putfield 38, 11, 193) := rfl
theorem f_10_42 : xi 10 42 = some (.getfield 22, 6, 186) := rfl
theorem f_10_47 : xi 10 47 = some (.invokevirtual 62, 43, 458) := rfl
theorem f_10_51 : xi 10 51 = some (.ireturn, 0, 0) := rfl
theorem f_10_53 : xi 10 53 = some (.invokevirtual 71, 11, 462) := rfl
theorem f_10_56 : xi 10 56 = some (.ifCond .ne 5, 0, 0) := rfl
theorem f_10_60 : xi 10 60 = some (.ireturn, 0, 0) := rfl
theorem f_10_62 : xi 10 62 = some (.getfield 32, 9, 191) := rfl
theorem f_10_67 : xi 10 67 = some (.if_icmp .eq 14, 0, 0) := rfl
theorem f_10_71 : xi 10 71 = some (.getfield 32, 9, 191) := rfl
theorem f_10_76 : xi 10 76 = some (.if_icmp .eq 5, 0, 0) := rfl
set_option maxRecDepth 1000000 in
theorem f_10_80 : xi 10 80 = some (.ireturn, 0, 0) := rfl
set_option maxRecDepth 1000000 in
theorem f_10_82 : xi 10 82 = some (.getfield 32, 9, 191) := rfl
set_option maxRecDepth 1000000 in
theorem f_10_87 : xi 10 87 = some (.if_icmp .ne 8, 0, 0) := rfl
set_option maxRecDepth 1000000 in
theorem f_10_99 : xi 10 99 = some (.invokevirtual 44, 15, 348) := rfl
set_option maxRecDepth 1000000 in
theorem f_10_103 : xi 10 103 = some (.invokevirtual 71, 11, 462) := rfl
set_option maxRecDepth 1000000 in
theorem f_10_106 : xi 10 106 = some (.ifCond .ne 5, 0, 0) := rfl
set_option maxRecDepth 1000000 in
theorem f_10_110 : xi 10 110 = some (.ireturn, 0, 0) := rfl
set_option maxRecDepth 1000000 in
theorem f_10_112 : xi 10 112 = some (.getfield 22, 6, 186) := rfl
set_option maxRecDepth 1000000 in
theorem f_10_116 : xi 10 116 = some (.invokevirtual 62, 43, 458) := rfl
set_option maxRecDepth 1000000 in
theorem f_10_120 : xi 10 120 = some (.ireturn, 0, 0) := rfl
theorem m_11 : xme 11 = some xe_11 := rfl
theorem f_11_1 : xi 11 1 = some (.invokevirtual 74, 12, 466) := rfl
theorem f_11_4 : xi 11 4 = some (.ifCond .ne 5, 0, 0) := rfl
theorem f_11_8 : xi 11 8 = some (.ireturn, 0, 0) := rfl
theorem f_11_15 : xi 11 15 = some (.if_icmp .ge 65, 0, 0) := rfl
theorem f_11_19 : xi 11 19 = some (.getfield 32, 9, 191) := rfl
theorem f_11_24 : xi 11 24 = some (.if_icmp .eq 12, 0, 0) := rfl
theorem f_11_28 : xi 11 28 = some (.getfield 32, 9, 191) := rfl
theorem f_11_33 : xi 11 33 = some (.if_icmp .ne 47, 0, 0) := rfl
theorem f_11_37 : xi 11 37 = some (.getfield 32, 9, 191) := rfl
theorem f_11_42 : xi 11 42 = some (.if_icmp .ne 8, 0, 0) := rfl
theorem f_11_54 : xi 11 54 = some (.invokevirtual 44, 15, 348) := rfl
theorem f_11_58 : xi 11 58 = some (.invokevirtual 74, 12, 466) := rfl
theorem f_11_61 : xi 11 61 = some (.ifCond .ne 5, 0, 0) := rfl
theorem f_11_65 : xi 11 65 = some (.ireturn, 0, 0) := rfl
theorem f_11_67 : xi 11 67 = some (.getfield 22, 6, 186) := rfl
theorem f_11_71 : xi 11 71 = some (.invokevirtual 62, 43, 458) := rfl
theorem f_11_81 : xi 11 81 = some (.ireturn, 0, 0) := rfl
theorem m_12 : xme 12 = some xe_12 := rfl
theorem f_12_1 : xi 12 1 = some (.invokevirtual 77, 13, 470) := rfl
theorem f_12_4 : xi 12 4 = some (.ifCond .ne 5, 0, 0) := rfl
theorem f_12_8 : xi 12 8 = some (.ireturn, 0, 0) := rfl
theorem f_12_15 : xi 12 15 = some (.if_icmp .ge 40, 0, 0) := rfl
theorem f_12_19 : xi 12 19 = some (.getfield 32, 9, 191) := rfl
theorem f_12_24 : xi 12 24 = some (.if_icmp .ne 31, 0, 0) := rfl
theorem f_12_28 : xi 12 28 = some (.invokevirtual 44, 15, 348) := rfl
theorem f_12_32 : xi 12 32 = some (.invokevirtual 77, 13, 470) := rfl
theorem f_12_35 : xi 12 35 = some (.ifCond .ne 5, 0, 0) := rfl
theorem f_12_39 : xi 12 39 = some (.ireturn, 0, 0) := rfl
theorem f_12_41 : xi 12 41 = some (.getfield 22, 6, 186) := rfl
theorem f_12_46 : xi 12 46 = some (.invokevirtual 62, 43, 458) := rfl
theorem f_12_56 : xi 12 56 = some (.ireturn, 0, 0) := rfl
theorem m_13 : xme 13 = some xe_13 := rfl
theorem f_13_1 : xi 13 1 = some (.getfield 32, 9, 191) := rfl
theorem f_13_5 : xi 13 5 = some (.if_icmp .eq 11, 0, 0) := rfl
theorem f_13_9 : xi 13 9 = some (.getfield 32, 9, 191) := rfl
theorem f_13_13 : xi 13 13 = some (.if_icmp .ne 39, 0, 0) := rfl
theorem f_13_17 : xi 13 17 = some (.getfield 22, 6, 186) := rfl
theorem f_13_21 : xi 13 21 = some (.getfield 32, 9, 191) := rfl
theorem f_13_25 : xi 13 25 = some (.if_icmp .ne 10, 0, 0) := rfl
theorem f_13_29 : xi 13 29 = some (.getfield 35, 10, 192) := rfl
theorem f_13_39 : xi 13 39 = some (.getfield 35, 10, 192) := rfl
theorem f_13_43 : xi 13 43 = some (.invokevirtual 62, 43, 458) := rfl
theorem f_13_47 : xi 13 47 = some (.invokevirtual 44, 15, 348) := rfl
theorem f_13_51 : xi 13 51 = some (.ireturn, 0, 0) := rfl
theorem f_13_53 : xi 13 53 = some (.getfield 32, 9, 191) := rfl
theorem f_13_58 : xi 13 58 = some (.if_icmp .ne 46, 0, 0) := rfl
theorem f_13_62 : xi 13 62 = some (.invokevirtual 68, 14, 454) := rfl
theorem f_13_65 : xi 13 65 = some (.ifCond .ne 5, 0, 0) := rfl
theorem f_13_69 : xi 13 69 = some (.ireturn, 0, 0) := rfl
theorem f_13_71 : xi 13 71 = some (.invokevirtual 44, 15, 348) := rfl
theorem f_13_75 : xi 13 75 = some (.invokevirtual 77, 13, 470) := rfl
theorem f_13_78 : xi 13 78 = some (.ifCond .ne 5, 0, 0) := rfl
set_option maxRecDepth 1000000 in
theorem f_13_82 : xi 13 82 = some (.ireturn, 0, 0) := rfl
set_option maxRecDepth 1000000 in
theorem f_13_85 : xi 13 85 = some (.getfield 38, 11, 193) := rfl
set_option maxRecDepth 1000000 in
theorem f_13_90 : xi 13 90 = some (.putfield 38, 11, 193) := rfl
set_option maxRecDepth 1000000 in
theorem f_13_94 : xi 13 94 = some (.getfield 22, 6, 186) := rfl
set_option maxRecDepth 1000000 in
theorem f_13_99 : xi 13 99 = some (.invokevirtual 62, 43, 458) := rfl
set_option maxRecDepth 1000000 in
theorem f_13_103 : xi 13 103 = some (.ireturn, 0, 0) := rfl
set_option maxRecDepth 1000000 in
theorem f_13_105 : xi 13 105 = some (.getfield 32, 9, 191) := rfl
set_option maxRecDepth 1000000 in
theorem f_13_110 : xi 13 110 = some (.if_icmp .ne 10, 0, 0) := rfl
set_option maxRecDepth 1000000 in
theorem f_13_114 : xi 13 114 = some (.invokevirtual 68, 14, 454) := rfl
set_option maxRecDepth 1000000 in
theorem f_13_117 : xi 13 117 = some (.ifCond .ne 5, 0, 0) := rfl
set_option maxRecDepth 1000000 in
theorem f_13_121 : xi 13 121 = some (.ireturn, 0, 0) := rfl
set_option maxRecDepth 1000000 in
theorem f_13_123 : xi 13 123 = some (.invokevirtual 44, 15, 348) := rfl
set_option maxRecDepth 1000000 in
theorem f_13_127 : xi 13 127 = some (.invokevirtual 51, 8, 442) := rfl
set_option maxRecDepth 1000000 in
theorem f_13_130 : xi 13 130 = some (.ifCond .eq 12, 0, 0) := rfl
set_option maxRecDepth 1000000 in
theorem f_13_134 : xi 13 134 = some (.getfield 32, 9, 191) := rfl
set_option maxRecDepth 1000000 in
theorem f_13_139 : xi 13 139 = some (.if_icmp .eq 5, 0, 0) := rfl
set_option maxRecDepth 1000000 in
theorem f_13_143 : xi 13 143 = some (.ireturn, 0, 0) := rfl
set_option maxRecDepth 1000000 in
theorem f_13_146 : xi 13 146 = some (.getfield 38, 11, 193) := rfl
set_option maxRecDepth 1000000 in
theorem f_13_151 : xi 13 151 = some (.putfield 38, 11, 193) := rfl
set_option maxRecDepth 1000000 in
theorem f_13_155 : xi 13 155 = some (.invokevirtual 44, 15, 348) := rfl
set_option maxRecDepth 1000000 in
theorem f_13_159 : xi 13 159 = some (.ireturn, 0, 0) := rfl
theorem m_14 : xme 14 = some xe_14 := rfl
theorem f_14_1 : xi 14 1 = some (.getfield 38, 11, 193) := rfl
theorem f_14_5 : xi 14 5 = some (.if_icmp .lt 5, 0, 0) := rfl
theorem f_14_9 : xi 14 9 = some (.ireturn, 0, 0) := rfl
theorem f_14_12 : xi 14 12 = some (.getfield 38, 11, 193) := rfl
theorem f_14_17 : xi 14 17 = some (.putfield 38, 11, 193) := rfl
theorem f_14_21 : xi 14 21 = some (.ireturn, 0, 0) := rfl
theorem m_15 : xme 15 = some xe_15 := rfl
theorem f_15_2 : xi 15 2 = some (.getfield 29, 8, 190) := rfl
theorem f_15_5 : xi 15 5 = some (.putfield 26, 7, 188) := rfl
theorem f_15_9 : xi 15 9 = some (.getfield 26, 7, 188) := rfl
theorem f_15_13 : xi 15 13 = some (.getfield 15, 5, 184) := rfl
theorem f_15_16 : xi 15 16 = some (.if_icmp .ge 44, 0, 0) := rfl
theorem f_15_20 : xi 15 20 = some (.getfield 9, 4, 183) := rfl
theorem f_15_24 : xi 15 24 = some (.getfield 26, 7, 188) := rfl
theorem f_15_27 : xi 15 27 = some (.iaload, 0, 0) := rfl
theorem f_15_30 : xi 15 30 = some (.if_icmp .eq 17, 0, 0) := rfl
theorem f_15_34 : xi 15 34 = some (.getfield 9, 4, 183) := rfl
theorem f_15_38 : xi 15 38 = some (.getfield 26, 7, 188) := rfl
theorem f_15_41 : xi 15 41 = some (.iaload, 0, 0) := rfl
theorem f_15_44 : xi 15 44 = some (.if_icmp .ne 16, 0, 0) := rfl
theorem f_15_49 : xi 15 49 = some (.getfield 26, 7, 188) := rfl
theorem f_15_54 : xi 15 54 = some (.putfield 26, 7, 188) := rfl
theorem f_15_62 : xi 15 62 = some (.getfield 26, 7, 188) := rfl
theorem f_15_65 : xi 15 65 = some (.putfield 29, 8, 190) := rfl
theorem f_15_69 : xi 15 69 = some (.getfield 26, 7, 188) := rfl
theorem f_15_73 : xi 15 73 = some (.getfield 15, 5, 184) := rfl
theorem f_15_76 : xi 15 76 = some (.if_icmp .lt 11, 0, 0) := rfl
set_option maxRecDepth 1000000 in
theorem f_15_81 : xi 15 81 = some (.putfield 32, 9, 191) := rfl
set_option maxRecDepth 1000000 in
theorem f_15_88 : xi 15 88 = some (.getfield 9, 4, 183) := rfl
set_option maxRecDepth 1000000 in
theorem f_15_92 : xi 15 92 = some (.getfield 26, 7, 188) := rfl
set_option maxRecDepth 1000000 in
theorem f_15_95 : xi 15 95 = some (.iaload, 0, 0) := rfl
set_option maxRecDepth 1000000 in
theorem f_15_96 : xi 15 96 = some (.invokestatic 80, 19, 352) := rfl
set_option maxRecDepth 1000000 in
theorem f_15_99 : xi 15 99 = some (.ifCond .eq 10, 0, 0) := rfl
set_option maxRecDepth 1000000 in
theorem f_15_103 : xi 15 103 = some (.invokevirtual 83, 16, 355) := rfl
set_option maxRecDepth 1000000 in
theorem f_15_110 : xi 15 110 = some (.getfield 9, 4, 183) := rfl
set_option maxRecDepth 1000000 in
theorem f_15_114 : xi 15 114 = some (.getfield 26, 7, 188) := rfl
set_option maxRecDepth 1000000 in
theorem f_15_117 : xi 15 117 = some (.iaload, 0, 0) := rfl
set_option maxRecDepth 1000000 in
theorem f_15_118 : xi 15 118 = some (.invokestatic 86, 20, 371) := rfl
set_option maxRecDepth 1000000 in
theorem f_15_121 : xi 15 121 = some (.ifCond .eq 10, 0, 0) := rfl
set_option maxRecDepth 1000000 in
theorem f_15_125 : xi 15 125 = some (.invokevirtual 89, 17, 374) := rfl
set_option maxRecDepth 1000000 in
theorem f_15_133 : xi 15 133 = some (.getfield 26, 7, 188) := rfl
set_option maxRecDepth 1000000 in
theorem f_15_138 : xi 15 138 = some (.putfield 29, 8, 190) := rfl
set_option maxRecDepth 1000000 in
theorem f_15_145 : xi 15 145 = some (.getfield 9, 4, 183) := rfl
set_option maxRecDepth 1000000 in
theorem f_15_149 : xi 15 149 = some (.getfield 26, 7, 188) := rfl
set_option maxRecDepth 1000000 in
theorem f_15_152 : xi 15 152 = some (.iaload, 0, 0) := rfl
set_option maxRecDepth 1000000 in
theorem f_15_154 : xi 15 154 = some (.invokevirtual 94, 194, 379) := rfl
set_option maxRecDepth 1000000 in
theorem f_15_157 : xi 15 157 = some (.ifCond .lt 15, 0, 0) := rfl
set_option maxRecDepth 1000000 in
theorem f_15_161 : xi 15 161 = some (.getfield 9, 4, 183) := rfl
set_option maxRecDepth 1000000 in
theorem f_15_165 : xi 15 165 = some (.getfield 26, 7, 188) := rfl
set_option maxRecDepth 1000000 in
theorem f_15_168 : xi 15 168 = some (.iaload, 0, 0) := rfl
set_option maxRecDepth 1000000 in
theorem f_15_173 : xi 15 173 = some (.putfield 32, 9, 191) := rfl
set_option maxRecDepth 1000000 in
theorem f_15_176 : xi 15 176 = some (.return_, 0, 0) := rfl
theorem m_16 : xme 16 = some xe_16 := rfl
theorem f_16_1 : xi 16 1 = some (.getfield 29, 8, 190) := rfl
theorem f_16_5 : xi 16 5 = some (.getfield 15, 5, 184) := rfl
theorem f_16_8 : xi 16 8 = some (.if_icmp .ge 31, 0, 0) := rfl
theorem f_16_12 : xi 16 12 = some (.getfield 9, 4, 183) := rfl
theorem f_16_16 : xi 16 16 = some (.getfield 29, 8, 190) := rfl
theorem f_16_19 : xi 16 19 = some (.iaload, 0, 0) := rfl
theorem f_16_20 : xi 16 20 = some (.invokestatic 80, 19, 352) := rfl
theorem f_16_23 : xi 16 23 = some (.ifCond .eq 16, 0, 0) := rfl
theorem f_16_28 : xi 16 28 = some (.getfield 29, 8, 190) := rfl
theorem f_16_33 : xi 16 33 = some (.putfield 29, 8, 190) := rfl
theorem f_16_41 : xi 16 41 = some (.getfield 9, 4, 183) := rfl
theorem f_16_45 : xi 16 45 = some (.getfield 26, 7, 188) := rfl
theorem f_16_48 : xi 16 48 = some (.iaload, 0, 0) := rfl
theorem f_16_52 : xi 16 52 = some (.putfield 35, 10, 192) := rfl
theorem f_16_56 : xi 16 56 = some (.getfield 29, 8, 190) := rfl
theorem f_16_60 : xi 16 60 = some (.getfield 26, 7, 188) := rfl
theorem f_16_65 : xi 16 65 = some (.if_icmp .ne 20, 0, 0) := rfl
theorem f_16_69 : xi 16 69 = some (.getfield 35, 10, 192) := rfl
theorem f_16_74 : xi 16 74 = some (.if_icmp .ge 11, 0, 0) := rfl
set_option maxRecDepth 1000000 in
theorem f_16_79 : xi 16 79 = some (.putfield 32, 9, 191) := rfl
set_option maxRecDepth 1000000 in
theorem f_16_88 : xi 16 88 = some (.invokevirtual 102, 18, 360) := rfl
set_option maxRecDepth 1000000 in
theorem f_16_91 : xi 16 91 = some (.ifCond .eq 12, 0, 0) := rfl
set_option maxRecDepth 1000000 in
theorem f_16_97 : xi 16 97 = some (.putfield 32, 9, 191) := rfl
set_option maxRecDepth 1000000 in
theorem f_16_106 : xi 16 106 = some (.invokevirtual 102, 18, 360) := rfl
set_option maxRecDepth 1000000 in
theorem f_16_109 : xi 16 109 = some (.ifCond .eq 12, 0, 0) := rfl
set_option maxRecDepth 1000000 in
theorem f_16_115 : xi 16 115 = some (.putfield 32, 9, 191) := rfl
set_option maxRecDepth 1000000 in
theorem f_16_124 : xi 16 124 = some (.invokevirtual 102, 18, 360) := rfl
set_option maxRecDepth 1000000 in
theorem f_16_127 : xi 16 127 = some (.ifCond .eq 12, 0, 0) := rfl
set_option maxRecDepth 1000000 in
theorem f_16_133 : xi 16 133 = some (.putfield 32, 9, 191) := rfl
set_option maxRecDepth 1000000 in
theorem f_16_142 : xi 16 142 = some (.invokevirtual 102, 18, 360) := rfl
set_option maxRecDepth 1000000 in
theorem f_16_145 : xi 16 145 = some (.ifCond .eq 11, 0, 0) := rfl
set_option maxRecDepth 1000000 in
theorem f_16_150 : xi 16 150 = some (.putfield 32, 9, 191) := rfl
set_option maxRecDepth 1000000 in
theorem f_16_159 : xi 16 159 = some (.invokevirtual 102, 18, 360) := rfl
set_option maxRecDepth 1000000 in
theorem f_16_162 : xi 16 162 = some (.ifCond .eq 11, 0, 0) := rfl
set_option maxRecDepth 1000000 in
theorem f_16_167 : xi 16 167 = some (.putfield 32, 9, 191) := rfl
set_option maxRecDepth 1000000 in
theorem f_16_177 : xi 16 177 = some (.invokevirtual 102, 18, 360) := rfl
set_option maxRecDepth 1000000 in
theorem f_16_180 : xi 16 180 = some (.ifCond .eq 8, 0, 0) := rfl
set_option maxRecDepth 1000000 in
theorem f_16_189 : xi 16 189 = some (.putfield 32, 9, 191) := rfl
set_option maxRecDepth 1000000 in
theorem f_16_192 : xi 16 192 = some (.return_, 0, 0) := rfl
theorem m_17 : xme 17 = some xe_17 := rfl
theorem f_17_2 : xi 17 2 = some (.putfield 35, 10, 192) := rfl
theorem f_17_6 : xi 17 6 = some (.getfield 29, 8, 190) := rfl
theorem f_17_10 : xi 17 10 = some (.getfield 15, 5, 184) := rfl
theorem f_17_13 : xi 17 13 = some (.if_icmp .ge 55, 0, 0) := rfl
theorem f_17_17 : xi 17 17 = some (.getfield 9, 4, 183) := rfl
theorem f_17_21 : xi 17 21 = some (.getfield 29, 8, 190) := rfl
theorem f_17_24 : xi 17 24 = some (.iaload, 0, 0) := rfl
theorem f_17_25 : xi 17 25 = some (.invokestatic 86, 20, 371) := rfl
theorem f_17_28 : xi 17 28 = some (.ifCond .eq 40, 0, 0) := rfl
theorem f_17_35 : xi 17 35 = some (.getfield 35, 10, 192) := rfl
theorem f_17_40 : xi 17 40 = some (.getfield 9, 4, 183) := rfl
theorem f_17_44 : xi 17 44 = some (.getfield 29, 8, 190) := rfl
theorem f_17_47 : xi 17 47 = some (.iaload, 0, 0) := rfl
theorem f_17_52 : xi 17 52 = some (.putfield 35, 10, 192) := rfl
theorem f_17_57 : xi 17 57 = some (.getfield 29, 8, 190) := rfl
theorem f_17_62 : xi 17 62 = some (.putfield 29, 8, 190) := rfl
theorem f_17_70 : xi 17 70 = some (.getfield 29, 8, 190) := rfl
theorem f_17_74 : xi 17 74 = some (.getfield 26, 7, 188) := rfl
set_option maxRecDepth 1000000 in
theorem f_17_79 : xi 17 79 = some (.if_icmp .le 7, 0, 0) := rfl
set_option maxRecDepth 1000000 in
theorem f_17_87 : xi 17 87 = some (.putfield 32, 9, 191) := rfl
set_option maxRecDepth 1000000 in
theorem f_17_90 : xi 17 90 = some (.return_, 0, 0) := rfl
theorem m_18 : xme 18 = some xe_18 := rfl
theorem f_18_1 : xi 18 1 = some (.getfield 29, 8, 190) := rfl
theorem f_18_5 : xi 18 5 = some (.getfield 26, 7, 188) := rfl
theorem f_18_10 : xi 18 10 = some (.invokevirtual 116, 192, 364) := rfl
theorem f_18_13 : xi 18 13 = some (.if_icmp .eq 5, 0, 0) := rfl
theorem f_18_17 : xi 18 17 = some (.ireturn, 0, 0) := rfl
theorem f_18_22 : xi 18 22 = some (.invokevirtual 116, 192, 364) := rfl
theorem f_18_25 : xi 18 25 = some (.if_icmp .ge 30, 0, 0) := rfl
theorem f_18_29 : xi 18 29 = some (.getfield 9, 4, 183) := rfl
theorem f_18_33 : xi 18 33 = some (.getfield 26, 7, 188) := rfl
theorem f_18_38 : xi 18 38 = some (.iaload, 0, 0) := rfl
theorem f_18_41 : xi 18 41 = some (.invokevirtual 120, 193, 365) := rfl
theorem f_18_44 : xi 18 44 = some (.if_icmp .eq 5, 0, 0) := rfl
theorem f_18_48 : xi 18 48 = some (.ireturn, 0, 0) := rfl
theorem f_18_56 : xi 18 56 = some (.ireturn, 0, 0) := rfl
theorem m_19 : xme 19 = some xe_19 := rfl
theorem f_19_3 : xi 19 3 = some (.if_icmp .lt 13, 0, 0) := rfl
theorem f_19_9 : xi 19 9 = some (.if_icmp .gt 7, 0, 0) := rfl
theorem f_19_17 : xi 19 17 = some (.ireturn, 0, 0) := rfl
theorem m_20 : xme 20 = some xe_20 := rfl
theorem f_20_3 : xi 20 3 = some (.if_icmp .lt 13, 0, 0) := rfl
theorem f_20_9 : xi 20 9 = some (.if_icmp .gt 7, 0, 0) := rfl
theorem f_20_17 : xi 20 17 = some (.ireturn, 0, 0) := rfl
theorem m_21 : xme 21 = some xe_21 := rfl
theorem f_21_6 : xi 21 6 = some (.putfield 9, 12, 101) := rfl
theorem f_21_11 : xi 21 11 = some (.putfield 15, 13, 104) := rfl
theorem f_21_16 : xi 21 16 = some (.putfield 18, 14, 107) := rfl
theorem f_21_21 : xi 21 21 = some (.putfield 21, 15, 111) := rfl
theorem f_21_26 : xi 21 26 = some (.putfield 24, 16, 114) := rfl
theorem f_21_29 : xi 21 29 = some (.return_, 0, 0) := rfl
theorem m_22 : xme 22 = some xe_22 := rfl
theorem f_22_4 : xi 22 4 = some (.idiv, 0, 0) := rfl
theorem f_22_5 : xi 22 5 = some (.putfield 9, 12, 101) := rfl
theorem f_22_12 : xi 22 12 = some (.irem, 0, 0) := rfl
theorem f_22_13 : xi 22 13 = some (.putfield 15, 13, 104) := rfl
theorem f_22_18 : xi 22 18 = some (.putfield 18, 14, 107) := rfl
theorem f_22_23 : xi 22 23 = some (.putfield 21, 15, 111) := rfl
theorem f_22_29 : xi 22 29 = some (.putfield 24, 16, 114) := rfl
theorem f_22_32 : xi 22 32 = some (.return_, 0, 0) := rfl
theorem m_23 : xme 23 = some xe_23 := rfl
theorem f_23_1 : xi 23 1 = some (.getfield 9, 12, 101) := rfl
theorem f_23_4 : xi 23 4 = some (.tableswitch 111 1 4 #[32, 46, 63, 79], 0, 0) := rfl
theorem f_23_38 : xi 23 38 = some (.getfield 21, 15, 111) := rfl
theorem f_23_42 : xi 23 42 = some (.getfield 15, 13, 104) := rfl
theorem f_23_46 : xi 23 46 = some (.invokestatic 27, 9997, 587) := rfl
theorem f_23_49 : xi 23 49 = some (.ireturn, 0, 0) := rfl
theorem f_23_51 : xi 23 51 = some (.getfield 21, 15, 111) := rfl
theorem f_23_55 : xi 23 55 = some (.getfield 15, 13, 104) := rfl
theorem f_23_60 : xi 23 60 = some (.invokevirtual 33, 25, 588) := rfl
theorem f_23_63 : xi 23 63 = some (.invokestatic 37, 9998, 592) := rfl
theorem f_23_66 : xi 23 66 = some (.ireturn, 0, 0) := rfl
theorem f_23_69 : xi 23 69 = some (.getfield 21, 15, 111) := rfl
theorem f_23_73 : xi 23 73 = some (.getfield 15, 13, 104) := rfl
theorem f_23_79 : xi 23 79 = some (.invokestatic 27, 9997, 587) := rfl
theorem f_23_82 : xi 23 82 = some (.ireturn, 0, 0) := rfl
theorem f_23_85 : xi 23 85 = some (.getfield 15, 13, 104) := rfl
theorem f_23_88 : xi 23 88 = some (.if_icmp .lt 10, 0, 0) := rfl
theorem f_23_92 : xi 23 92 = some (.invokevirtual 33, 25, 588) := rfl
theorem f_23_99 : xi 23 99 = some (.getfield 21, 15, 111) := rfl
theorem f_23_103 : xi 23 103 = some (.getfield 15, 13, 104) := rfl
set_option maxRecDepth 1000000 in
theorem f_23_108 : xi 23 108 = some (.invokevirtual 33, 25, 588) := rfl
set_option maxRecDepth 1000000 in
theorem f_23_111 : xi 23 111 = some (.invokestatic 37, 9998, 592) := rfl
set_option maxRecDepth 1000000 in
theorem f_23_114 : xi 23 114 = some (.ireturn, 0, 0) := rfl
set_option maxRecDepth 1000000 in
theorem f_23_116 : xi 23 116 = some (.getfield 21, 15, 111) := rfl
set_option maxRecDepth 1000000 in
theorem f_23_119 : xi 23 119 = some (.ireturn, 0, 0) := rfl
theorem m_24 : xme 24 = some xe_24 := rfl
theorem f_24_1 : xi 24 1 = some (.getfield 9, 12, 101) := rfl
theorem f_24_4 : xi 24 4 = some (.tableswitch 123 1 5 #[36, 52, 69, 87, 119], 0, 0) := rfl
theorem f_24_44 : xi 24 44 = some (.getfield 24, 16, 114) := rfl
theorem f_24_48 : xi 24 48 = some (.getfield 15, 13, 104) := rfl
theorem f_24_52 : xi 24 52 = some (.invokestatic 37, 9998, 592) := rfl
theorem f_24_55 : xi 24 55 = some (.ireturn, 0, 0) := rfl
theorem f_24_57 : xi 24 57 = some (.getfield 24, 16, 114) := rfl
theorem f_24_61 : xi 24 61 = some (.getfield 15, 13, 104) := rfl
theorem f_24_66 : xi 24 66 = some (.invokevirtual 33, 25, 588) := rfl
theorem f_24_69 : xi 24 69 = some (.invokestatic 27, 9997, 587) := rfl
theorem f_24_72 : xi 24 72 = some (.ireturn, 0, 0) := rfl
theorem f_24_77 : xi 24 77 = some (.getfield 24, 16, 114) := rfl
theorem f_24_81 : xi 24 81 = some (.getfield 15, 13, 104) := rfl
theorem f_24_87 : xi 24 87 = some (.invokestatic 37, 9998, 592) := rfl
theorem f_24_90 : xi 24 90 = some (.ireturn, 0, 0) := rfl
theorem f_24_93 : xi 24 93 = some (.getfield 15, 13, 104) := rfl
theorem f_24_96 : xi 24 96 = some (.if_icmp .lt 10, 0, 0) := rfl
theorem f_24_100 : xi 24 100 = some (.invokevirtual 33, 25, 588) := rfl
theorem f_24_107 : xi 24 107 = some (.getfield 24, 16, 114) := rfl
theorem f_24_111 : xi 24 111 = some (.getfield 15, 13, 104) := rfl
set_option maxRecDepth 1000000 in
theorem f_24_116 : xi 24 116 = some (.invokevirtual 33, 25, 588) := rfl
set_option maxRecDepth 1000000 in
theorem f_24_119 : xi 24 119 = some (.invokestatic 27, 9997, 587) := rfl
set_option maxRecDepth 1000000 in
theorem f_24_122 : xi 24 122 = some (.ireturn, 0, 0) := rfl
set_option maxRecDepth 1000000 in
theorem f_24_126 : xi 24 126 = some (.ireturn, 0, 0) := rfl
set_option maxRecDepth 1000000 in
theorem f_24_128 : xi 24 128 = some (.getfield 24, 16, 114) := rfl
set_option maxRecDepth 1000000 in
theorem f_24_131 : xi 24 131 = some (.ireturn, 0, 0) := rfl
theorem m_25 : xme 25 = some xe_25 := rfl
theorem f_25_1 : xi 25 1 = some (.getfield 21, 15, 111) := rfl
theorem f_25_5 : xi 25 5 = some (.getfield 24, 16, 114) := rfl
theorem f_25_10 : xi 25 10 = some (.idiv, 0, 0) := rfl
theorem f_25_11 : xi 25 11 = some (.ireturn, 0, 0) := rfl
theorem m_26 : xme 26 = some xe_26 := rfl
theorem f_26_1 : xi 26 1 = some (.getfield 9, 12, 101) := rfl
theorem f_26_10 : xi 26 10 = some (.if_icmp .ge 27, 0, 0) := rfl
theorem f_26_15 : xi 26 15 = some (.if_icmp .eq 22, 0, 0) := rfl
theorem f_26_20 : xi 26 20 = some (.if_icmp .ne 5, 0, 0) := rfl
theorem f_26_24 : xi 26 24 = some (.ireturn, 0, 0) := rfl
theorem f_26_29 : xi 26 29 = some (.iaload, 0, 0) := rfl
theorem f_26_38 : xi 26 38 = some (.ireturn, 0, 0) := rfl
theorem m_27 : xme 27 = some xe_27 := rfl
theorem f_27_1 : xi 27 1 = some (.getfield 18, 14, 107) := rfl
theorem f_27_5 : xi 27 5 = some (.getfield 18, 14, 107) := rfl
theorem f_27_8 : xi 27 8 = some (.if_icmp .ne 33, 0, 0) := rfl
theorem f_27_13 : xi 27 13 = some (.invokevirtual 44, 24, 669) := rfl
theorem f_27_18 : xi 27 18 = some (.invokevirtual 48, 23, 670) := rfl
theorem f_27_21 : xi 27 21 = some (.if_icmp .lt 16, 0, 0) := rfl
theorem f_27_26 : xi 27 26 = some (.invokevirtual 44, 24, 669) := rfl
theorem f_27_31 : xi 27 31 = some (.invokevirtual 48, 23, 670) := rfl
theorem f_27_34 : xi 27 34 = some (.if_icmp .ge 7, 0, 0) := rfl
theorem f_27_42 : xi 27 42 = some (.ireturn, 0, 0) := rfl
theorem m_28 : xme 28 = some xe_28 := rfl
theorem f_28_2 : xi 28 2 = some (.getfield 18, 14, 107) := rfl
theorem f_28_5 : xi 28 5 = some (.iaload, 0, 0) := rfl
theorem f_28_8 : xi 28 8 = some (.invokevirtual 48, 23, 670) := rfl
theorem f_28_13 : xi 28 13 = some (.invokevirtual 44, 24, 669) := rfl
theorem f_28_16 : xi 28 16 = some (.invokestatic 51, 10090, 778) := rfl
theorem f_28_19 : xi 28 19 = some (.ireturn, 0, 0) := rfl
theorem m_29 : xme 29 = some xe_29 := rfl
theorem f_29_9 : xi 29 9 = some (.putfield 9, 17, 274) := rfl
theorem f_29_14 : xi 29 14 = some (.putfield 15, 18, 276) := rfl
theorem f_29_19 : xi 29 19 = some (.putfield 19, 19, 278) := rfl
theorem f_29_22 : xi 29 22 = some (.return_, 0, 0) := rfl
theorem m_30 : xme 30 = some xe_30 := rfl
theorem f_30_2 : xi 30 2 = some (.putfield 15, 18, 276) := rfl
theorem f_30_7 : xi 30 7 = some (.putfield 19, 19, 278) := rfl
theorem f_30_11 : xi 30 11 = some (.getfield 9, 17, 274) := rfl
theorem f_30_15 : xi 30 15 = some (.invokestatic 22, 204, 807) := rfl
theorem f_30_18 : xi 30 18 = some (.return_, 0, 0) := rfl
theorem m_31 : xme 31 = some xe_31 := rfl
theorem f_31_1 : xi 31 1 = some (.getfield 9, 17, 274) := rfl
theorem f_31_6 : xi 31 6 = some (.getfield 15, 18, 276) := rfl
theorem f_31_9 : xi 31 9 = some (.ifCond .ne 8, 0, 0) := rfl
theorem f_31_18 : xi 31 18 = some (.getfield 15, 18, 276) := rfl
theorem f_31_22 : xi 31 22 = some (.if_icmp .ne 8, 0, 0) := rfl
theorem f_31_31 : xi 31 31 = some (.iastore, 0, 0) := rfl
theorem f_31_32 : xi 31 32 = some (.return_, 0, 0) := rfl
theorem m_32 : xme 32 = some xe_32 := rfl
theorem f_32_1 : xi 32 1 = some (.ifCond .lt 29, 0, 0) := rfl
theorem f_32_6 : xi 32 6 = some (.getfield 19, 19, 278) := rfl
theorem f_32_9 : xi 32 9 = some (.if_icmp .gt 21, 0, 0) := rfl
theorem f_32_13 : xi 32 13 = some (.ifCond .lt 17, 0, 0) := rfl
theorem f_32_18 : xi 32 18 = some (.getfield 19, 19, 278) := rfl
theorem f_32_23 : xi 32 23 = some (.if_icmp .gt 7, 0, 0) := rfl
theorem f_32_31 : xi 32 31 = some (.ireturn, 0, 0) := rfl
theorem m_33 : xme 33 = some xe_33 := rfl
theorem f_33_9 : xi 33 9 = some (.putfield 9, 20, 219) := rfl
theorem f_33_17 : xi 33 17 = some (.putfield 15, 21, 221) := rfl
theorem f_33_25 : xi 33 25 = some (.putfield 18, 22, 223) := rfl
theorem f_33_33 : xi 33 33 = some (.putfield 21, 23, 225) := rfl
theorem f_33_41 : xi 33 41 = some (.putfield 24, 24, 227) := rfl
theorem f_33_46 : xi 33 46 = some (.putfield 27, 25, 228) := rfl
theorem f_33_49 : xi 33 49 = some (.return_, 0, 0) := rfl
theorem m_34 : xme 34 = some xe_34 := rfl
theorem f_34_1 : xi 34 1 = some (.getfield 9, 20, 219) := rfl
theorem f_34_5 : xi 34 5 = some (.invokestatic 31, 204, 638) := rfl
theorem f_34_9 : xi 34 9 = some (.getfield 15, 21, 221) := rfl
theorem f_34_15 : xi 34 15 = some (.invokestatic 31, 204, 638) := rfl
theorem f_34_22 : xi 34 22 = some (.getfield 37, 31, 132) := rfl
theorem f_34_25 : xi 34 25 = some (.if_icmp .ge 89, 0, 0) := rfl
theorem f_34_33 : xi 34 33 = some (.ifCond .ne 75, 0, 0) := rfl
theorem f_34_37 : xi 34 37 = some (.getfield 43, 30, 129) := rfl
theorem f_34_41 : xi 34 41 = some (.aaload, 0, 0) := rfl
theorem f_34_45 : xi 34 45 = some (.getfield 9, 20, 219) := rfl
theorem f_34_50 : xi 34 50 = some (.getfield 47, 14, 108) := rfl
theorem f_34_54 : xi 34 54 = some (.getfield 9, 20, 219) := rfl
theorem f_34_59 : xi 34 59 = some (.getfield 47, 14, 108) := rfl
theorem f_34_62 : xi 34 62 = some (.iaload, 0, 0) := rfl
theorem f_34_66 : xi 34 66 = some (.getfield 52, 33, 138) := rfl
theorem f_34_69 : xi 34 69 = some (.invokevirtual 55, 23, 641) := rfl
theorem f_34_72 : xi 34 72 = some (.invokestatic 59, 9997, 642) := rfl
theorem f_34_75 : xi 34 75 = some (.iastore, 0, 0) := rfl
set_option maxRecDepth 1000000 in
theorem f_34_77 : xi 34 77 = some (.getfield 15, 21, 221) := rfl
set_option maxRecDepth 1000000 in
theorem f_34_82 : xi 34 82 = some (.getfield 47, 14, 108) := rfl
set_option maxRecDepth 1000000 in
theorem f_34_86 : xi 34 86 = some (.getfield 15, 21, 221) := rfl
set_option maxRecDepth 1000000 in
theorem f_34_91 : xi 34 91 = some (.getfield 47, 14, 108) := rfl
set_option maxRecDepth 1000000 in
theorem f_34_94 : xi 34 94 = some (.iaload, 0, 0) := rfl
set_option maxRecDepth 1000000 in
theorem f_34_98 : xi 34 98 = some (.getfield 52, 33, 138) := rfl
set_option maxRecDepth 1000000 in
theorem f_34_101 : xi 34 101 = some (.invokevirtual 65, 24, 643) := rfl
set_option maxRecDepth 1000000 in
theorem f_34_104 : xi 34 104 = some (.invokestatic 68, 9998, 625) := rfl
set_option maxRecDepth 1000000 in
theorem f_34_107 : xi 34 107 = some (.iastore, 0, 0) := rfl
set_option maxRecDepth 1000000 in
theorem f_34_114 : xi 34 114 = some (.return_, 0, 0) := rfl
theorem m_35 : xme 35 = some xe_35 := rfl
theorem f_35_6 : xi 35 6 = some (.getfield 24, 24, 227) := rfl
theorem f_35_9 : xi 35 9 = some (.arraylength, 0, 0) := rfl
theorem f_35_10 : xi 35 10 = some (.if_icmp .ge 36, 0, 0) := rfl
theorem f_35_14 : xi 35 14 = some (.getfield 24, 24, 227) := rfl
theorem f_35_23 : xi 35 23 = some (.idiv, 0, 0) := rfl
theorem f_35_28 : xi 35 28 = some (.irem, 0, 0) := rfl
theorem f_35_29 : xi 35 29 = some (.if_icmp .ne 7, 0, 0) := rfl
theorem f_35_39 : xi 35 39 = some (.iastore, 0, 0) := rfl
theorem f_35_52 : xi 35 52 = some (.if_icmp .ge 68, 0, 0) := rfl
theorem f_35_58 : xi 35 58 = some (.if_icmp .eq 56, 0, 0) := rfl
theorem f_35_64 : xi 35 64 = some (.aaload, 0, 0) := rfl
theorem f_35_70 : xi 35 70 = some (.getfield 71, 0, 248) := rfl
set_option maxRecDepth 1000000 in
theorem f_35_78 : xi 35 78 = some (.getfield 76, 1, 251) := rfl
set_option maxRecDepth 1000000 in
theorem f_35_84 : xi 35 84 = some (.getfield 79, 3, 257) := rfl
set_option maxRecDepth 1000000 in
theorem f_35_87 : xi 35 87 = some (.invokevirtual 82, 37, 621) := rfl
set_option maxRecDepth 1000000 in
theorem f_35_93 : xi 35 93 = some (.getfield 76, 1, 251) := rfl
set_option maxRecDepth 1000000 in
theorem f_35_101 : xi 35 101 = some (.getfield 71, 0, 248) := rfl
set_option maxRecDepth 1000000 in
theorem f_35_107 : xi 35 107 = some (.getfield 86, 2, 254) := rfl
set_option maxRecDepth 1000000 in
theorem f_35_111 : xi 35 111 = some (.invokevirtual 82, 37, 621) := rfl
set_option maxRecDepth 1000000 in
theorem f_35_127 : xi 35 127 = some (.if_icmp .ge 15, 0, 0) := rfl
set_option maxRecDepth 1000000 in
theorem f_35_133 : xi 35 133 = some (.invokevirtual 89, 36, 626) := rfl
set_option maxRecDepth 1000000 in
theorem f_35_144 : xi 35 144 = some (.putfield 27, 25, 228) := rfl
set_option maxRecDepth 1000000 in
theorem f_35_154 : xi 35 154 = some (.if_icmp .ge 41, 0, 0) := rfl
set_option maxRecDepth 1000000 in
theorem f_35_159 : xi 35 159 = some (.getfield 27, 25, 228) := rfl
set_option maxRecDepth 1000000 in
theorem f_35_162 : xi 35 162 = some (.ifCond .eq 23, 0, 0) := rfl
set_option maxRecDepth 1000000 in
theorem f_35_166 : xi 35 166 = some (.getfield 24, 24, 227) := rfl
set_option maxRecDepth 1000000 in
theorem f_35_177 : xi 35 177 = some (.iaload, 0, 0) := rfl
set_option maxRecDepth 1000000 in
theorem f_35_178 : xi 35 178 = some (.ifCond .lt 7, 0, 0) := rfl
set_option maxRecDepth 1000000 in
theorem f_35_186 : xi 35 186 = some (.putfield 27, 25, 228) := rfl
set_option maxRecDepth 1000000 in
theorem f_35_195 : xi 35 195 = some (.return_, 0, 0) := rfl
theorem m_36 : xme 36 = some xe_36 := rfl
theorem f_36_5 : xi 36 5 = some (.if_icmp .ge 56, 0, 0) := rfl
theorem f_36_13 : xi 36 13 = some (.if_icmp .ge 42, 0, 0) := rfl
theorem f_36_24 : xi 36 24 = some (.getfield 24, 24, 227) := rfl
theorem f_36_33 : xi 36 33 = some (.iaload, 0, 0) := rfl
theorem f_36_35 : xi 36 35 = some (.getfield 24, 24, 227) := rfl
theorem f_36_44 : xi 36 44 = some (.iaload, 0, 0) := rfl
theorem f_36_46 : xi 36 46 = some (.invokevirtual 82, 37, 621) := rfl
theorem f_36_61 : xi 36 61 = some (.return_, 0, 0) := rfl
theorem m_37 : xme 37 = some xe_37 := rfl
theorem f_37_1 : xi 37 1 = some (.getfield 24, 24, 227) := rfl
theorem f_37_6 : xi 37 6 = some (.getfield 24, 24, 227) := rfl
theorem f_37_10 : xi 37 10 = some (.iaload, 0, 0) := rfl
theorem f_37_12 : xi 37 12 = some (.invokestatic 68, 9998, 625) := rfl
theorem f_37_15 : xi 37 15 = some (.iastore, 0, 0) := rfl
theorem f_37_16 : xi 37 16 = some (.return_, 0, 0) := rfl
theorem m_38 : xme 38 = some xe_38 := rfl
theorem f_38_1 : xi 38 1 = some (.getfield 27, 25, 228) := rfl
theorem f_38_10 : xi 38 10 = some (.if_icmp .ge 138, 0, 0) := rfl
theorem f_38_14 : xi 38 14 = some (.getfield 18, 22, 223) := rfl
theorem f_38_19 : xi 38 19 = some (.getfield 9, 20, 219) := rfl
theorem f_38_23 : xi 38 23 = some (.iaload, 0, 0) := rfl
theorem f_38_24 : xi 38 24 = some (.iastore, 0, 0) := rfl
theorem f_38_26 : xi 38 26 = some (.getfield 21, 23, 225) := rfl
theorem f_38_31 : xi 38 31 = some (.getfield 15, 21, 221) := rfl
theorem f_38_35 : xi 38 35 = some (.iaload, 0, 0) := rfl
theorem f_38_36 : xi 38 36 = some (.iastore, 0, 0) := rfl
theorem f_38_42 : xi 38 42 = some (.if_icmp .ge 75, 0, 0) := rfl
theorem f_38_46 : xi 38 46 = some (.getfield 18, 22, 223) := rfl
theorem f_38_51 : xi 38 51 = some (.getfield 18, 22, 223) := rfl
theorem f_38_55 : xi 38 55 = some (.iaload, 0, 0) := rfl
theorem f_38_57 : xi 38 57 = some (.getfield 9, 20, 219) := rfl
theorem f_38_61 : xi 38 61 = some (.iaload, 0, 0) := rfl
set_option maxRecDepth 1000000 in
theorem f_38_63 : xi 38 63 = some (.getfield 24, 24, 227) := rfl
set_option maxRecDepth 1000000 in
theorem f_38_72 : xi 38 72 = some (.iaload, 0, 0) := rfl
set_option maxRecDepth 1000000 in
theorem f_38_74 : xi 38 74 = some (.invokestatic 59, 9997, 642) := rfl
set_option maxRecDepth 1000000 in
theorem f_38_77 : xi 38 77 = some (.iastore, 0, 0) := rfl
set_option maxRecDepth 1000000 in
theorem f_38_79 : xi 38 79 = some (.getfield 21, 23, 225) := rfl
set_option maxRecDepth 1000000 in
theorem f_38_84 : xi 38 84 = some (.getfield 21, 23, 225) := rfl
set_option maxRecDepth 1000000 in
theorem f_38_88 : xi 38 88 = some (.iaload, 0, 0) := rfl
set_option maxRecDepth 1000000 in
theorem f_38_90 : xi 38 90 = some (.getfield 15, 21, 221) := rfl
set_option maxRecDepth 1000000 in
theorem f_38_94 : xi 38 94 = some (.iaload, 0, 0) := rfl
set_option maxRecDepth 1000000 in
theorem f_38_96 : xi 38 96 = some (.getfield 24, 24, 227) := rfl
set_option maxRecDepth 1000000 in
theorem f_38_105 : xi 38 105 = some (.iaload, 0, 0) := rfl
set_option maxRecDepth 1000000 in
theorem f_38_107 : xi 38 107 = some (.invokestatic 68, 9998, 625) := rfl
set_option maxRecDepth 1000000 in
theorem f_38_110 : xi 38 110 = some (.iastore, 0, 0) := rfl
set_option maxRecDepth 1000000 in
theorem f_38_118 : xi 38 118 = some (.ifCond .eq 22, 0, 0) := rfl
set_option maxRecDepth 1000000 in
theorem f_38_122 : xi 38 122 = some (.getfield 9, 20, 219) := rfl
set_option maxRecDepth 1000000 in
theorem f_38_126 : xi 38 126 = some (.iaload, 0, 0) := rfl
set_option maxRecDepth 1000000 in
theorem f_38_128 : xi 38 128 = some (.getfield 21, 23, 225) := rfl
set_option maxRecDepth 1000000 in
theorem f_38_132 : xi 38 132 = some (.iaload, 0, 0) := rfl
set_option maxRecDepth 1000000 in
theorem f_38_133 : xi 38 133 = some (.if_icmp .gt 7, 0, 0) := rfl
set_option maxRecDepth 1000000 in
theorem f_38_149 : xi 38 149 = some (.ireturn, 0, 0) := rfl
theorem m_39 : xme 39 = some xe_39 := rfl
theorem f_39_1 : xi 39 1 = some (.getfield 24, 24, 227) := rfl
theorem f_39_10 : xi 39 10 = some (.iaload, 0, 0) := rfl
theorem f_39_12 : xi 39 12 = some (.getfield 21, 23, 225) := rfl
theorem f_39_16 : xi 39 16 = some (.iaload, 0, 0) := rfl
theorem f_39_18 : xi 39 18 = some (.getfield 18, 22, 223) := rfl
theorem f_39_22 : xi 39 22 = some (.iaload, 0, 0) := rfl
theorem f_39_24 : xi 39 24 = some (.invokestatic 68, 9998, 625) := rfl
theorem f_39_27 : xi 39 27 = some (.ireturn, 0, 0) := rfl
theorem m_40 : xme 40 = some xe_40 := rfl
theorem f_40_1 : xi 40 1 = some (.getfield 21, 23, 225) := rfl
theorem f_40_5 : xi 40 5 = some (.iaload, 0, 0) := rfl
theorem f_40_7 : xi 40 7 = some (.getfield 18, 22, 223) := rfl
theorem f_40_11 : xi 40 11 = some (.iaload, 0, 0) := rfl
theorem f_40_15 : xi 40 15 = some (.ireturn, 0, 0) := rfl
theorem m_41 : xme 41 = some xe_41 := rfl
theorem f_41_10 : xi 41 10 = some (.putfield 9, 26, 168) := rfl
theorem f_41_15 : xi 41 15 = some (.putfield 15, 27, 169) := rfl
theorem f_41_22 : xi 41 22 = some (.putfield 19, 28, 170) := rfl
theorem f_41_27 : xi 41 27 = some (.putfield 22, 29, 171) := rfl
theorem f_41_30 : xi 41 30 = some (.return_, 0, 0) := rfl
theorem m_42 : xme 42 = some xe_42 := rfl
theorem f_42_2 : xi 42 2 = some (.putfield 15, 27, 169) := rfl
theorem f_42_7 : xi 42 7 = some (.putfield 22, 29, 171) := rfl
theorem f_42_10 : xi 42 10 = some (.return_, 0, 0) := rfl
theorem m_43 : xme 43 = some xe_43 := rfl
theorem f_43_1 : xi 43 1 = some (.getfield 15, 27, 169) := rfl
theorem f_43_5 : xi 43 5 = some (.getfield 9, 26, 168) := rfl
theorem f_43_8 : xi 43 8 = some (.arraylength, 0, 0) := rfl
theorem f_43_9 : xi 43 9 = some (.if_icmp .ge 23, 0, 0) := rfl
theorem f_43_13 : xi 43 13 = some (.getfield 9, 26, 168) := rfl
theorem f_43_17 : xi 43 17 = some (.getfield 15, 27, 169) := rfl
theorem f_43_21 : xi 43 21 = some (.iastore, 0, 0) := rfl
theorem f_43_24 : xi 43 24 = some (.getfield 15, 27, 169) := rfl
theorem f_43_29 : xi 43 29 = some (.putfield 15, 27, 169) := rfl
theorem f_43_32 : xi 43 32 = some (.return_, 0, 0) := rfl
theorem m_44 : xme 44 = some xe_44 := rfl
theorem f_44_1 : xi 44 1 = some (.getfield 19, 28, 170) := rfl
theorem f_44_6 : xi 44 6 = some (.getfield 15, 27, 169) := rfl
theorem f_44_9 : xi 44 9 = some (.iastore, 0, 0) := rfl
theorem f_44_11 : xi 44 11 = some (.ifCond .ne 61, 0, 0) := rfl
theorem f_44_16 : xi 44 16 = some (.putfield 22, 29, 171) := rfl
theorem f_44_23 : xi 44 23 = some (.getfield 15, 27, 169) := rfl
theorem f_44_26 : xi 44 26 = some (.if_icmp .ge 46, 0, 0) := rfl
theorem f_44_31 : xi 44 31 = some (.getfield 22, 29, 171) := rfl
theorem f_44_35 : xi 44 35 = some (.getfield 9, 26, 168) := rfl
theorem f_44_39 : xi 44 39 = some (.iaload, 0, 0) := rfl
theorem f_44_43 : xi 44 43 = some (.if_icmp .lt 18, 0, 0) := rfl
theorem f_44_48 : xi 44 48 = some (.getfield 9, 26, 168) := rfl
theorem f_44_52 : xi 44 52 = some (.iaload, 0, 0) := rfl
theorem f_44_63 : xi 44 63 = some (.putfield 22, 29, 171) := rfl
theorem f_44_72 : xi 44 72 = some (.return_, 0, 0) := rfl
theorem m_45 : xme 45 = some xe_45 := rfl
theorem f_45_2 : xi 45 2 = some (.getfield 15, 27, 169) := rfl
theorem f_45_5 : xi 45 5 = some (.putfield 15, 27, 169) := rfl
theorem f_45_10 : xi 45 10 = some (.getfield 22, 29, 171) := rfl
theorem f_45_13 : xi 45 13 = some (.putfield 22, 29, 171) := rfl
theorem f_45_17 : xi 45 17 = some (.getfield 9, 26, 168) := rfl
theorem f_45_22 : xi 45 22 = some (.getfield 9, 26, 168) := rfl
theorem f_45_27 : xi 45 27 = some (.getfield 9, 26, 168) := rfl
theorem f_45_30 : xi 45 30 = some (.arraylength, 0, 0) := rfl
theorem f_45_31 : xi 45 31 = some (.invokestatic 25, 9999, 482) := rfl
theorem f_45_35 : xi 45 35 = some (.getfield 19, 28, 170) := rfl
theorem f_45_40 : xi 45 40 = some (.getfield 19, 28, 170) := rfl
theorem f_45_45 : xi 45 45 = some (.getfield 19, 28, 170) := rfl
theorem f_45_48 : xi 45 48 = some (.arraylength, 0, 0) := rfl
theorem f_45_49 : xi 45 49 = some (.invokestatic 25, 9999, 482) := rfl
theorem f_45_52 : xi 45 52 = some (.return_, 0, 0) := rfl
theorem m_46 : xme 46 = some xe_46 := rfl
theorem f_46_4 : xi 46 4 = some (.ifCond .ne 7, 0, 0) := rfl
theorem f_46_12 : xi 46 12 = some (.getfield 19, 28, 170) := rfl
theorem f_46_18 : xi 46 18 = some (.iaload, 0, 0) := rfl
theorem f_46_24 : xi 46 24 = some (.getfield 19, 28, 170) := rfl
theorem f_46_28 : xi 46 28 = some (.iaload, 0, 0) := rfl
theorem f_46_29 : xi 46 29 = some (.if_icmp .ge 160, 0, 0) := rfl
theorem f_46_33 : xi 46 33 = some (.getfield 9, 26, 168) := rfl
theorem f_46_38 : xi 46 38 = some (.iaload, 0, 0) := rfl
theorem f_46_43 : xi 46 43 = some (.ifCond .lt 43, 0, 0) := rfl
theorem f_46_49 : xi 46 49 = some (.arraylength, 0, 0) := rfl
theorem f_46_50 : xi 46 50 = some (.if_icmp .lt 5, 0, 0) := rfl
theorem f_46_54 : xi 46 54 = some (.ireturn, 0, 0) := rfl
theorem f_46_63 : xi 46 63 = some (.if_icmp .ge 8, 0, 0) := rfl
set_option maxRecDepth 1000000 in
theorem f_46_78 : xi 46 78 = some (.iaload, 0, 0) := rfl
set_option maxRecDepth 1000000 in
theorem f_46_79 : xi 46 79 = some (.iastore, 0, 0) := rfl
set_option maxRecDepth 1000000 in
theorem f_46_90 : xi 46 90 = some (.if_icmp .eq 10, 0, 0) := rfl
set_option maxRecDepth 1000000 in
theorem f_46_97 : xi 46 97 = some (.if_icmp .ne 54, 0, 0) := rfl
set_option maxRecDepth 1000000 in
theorem f_46_103 : xi 46 103 = some (.if_icmp .ge 5, 0, 0) := rfl
set_option maxRecDepth 1000000 in
theorem f_46_107 : xi 46 107 = some (.ireturn, 0, 0) := rfl
set_option maxRecDepth 1000000 in
theorem f_46_117 : xi 46 117 = some (.if_icmp .ne 13, 0, 0) := rfl
set_option maxRecDepth 1000000 in
theorem f_46_125 : xi 46 125 = some (.iaload, 0, 0) := rfl
set_option maxRecDepth 1000000 in
theorem f_46_135 : xi 46 135 = some (.iaload, 0, 0) := rfl
set_option maxRecDepth 1000000 in
theorem f_46_136 : xi 46 136 = some (.ifCond .ne 7, 0, 0) := rfl
set_option maxRecDepth 1000000 in
theorem f_46_144 : xi 46 144 = some (.invokestatic 31, 48, 702) := rfl
set_option maxRecDepth 1000000 in
theorem f_46_147 : xi 46 147 = some (.iastore, 0, 0) := rfl
set_option maxRecDepth 1000000 in
theorem f_46_154 : xi 46 154 = some (.if_icmp .ge 5, 0, 0) := rfl
set_option maxRecDepth 1000000 in
theorem f_46_158 : xi 46 158 = some (.ireturn, 0, 0) := rfl
set_option maxRecDepth 1000000 in
theorem f_46_174 : xi 46 174 = some (.iaload, 0, 0) := rfl
set_option maxRecDepth 1000000 in
theorem f_46_178 : xi 46 178 = some (.iaload, 0, 0) := rfl
set_option maxRecDepth 1000000 in
theorem f_46_179 : xi 46 179 = some (.invokestatic 35, 47, 705) := rfl
set_option maxRecDepth 1000000 in
theorem f_46_182 : xi 46 182 = some (.iastore, 0, 0) := rfl
set_option maxRecDepth 1000000 in
theorem f_46_192 : xi 46 192 = some (.if_icmp .ne 9, 0, 0) := rfl
set_option maxRecDepth 1000000 in
theorem f_46_197 : xi 46 197 = some (.iaload, 0, 0) := rfl
set_option maxRecDepth 1000000 in
theorem f_46_202 : xi 46 202 = some (.ireturn, 0, 0) := rfl
theorem m_47 : xme 47 = some xe_47 := rfl
theorem f_47_1 : xi 47 1 = some (.tableswitch 113 (-7) (-1) #[109, 105, 91, 77, 113, 60, 43], 0, 0) := rfl
theorem f_47_45 : xi 47 45 = some (.ifCond .ne 7, 0, 0) := rfl
theorem f_47_49 : xi 47 49 = some (.ifCond .eq 7, 0, 0) := rfl
theorem f_47_57 : xi 47 57 = some (.invokestatic 31, 48, 702) := rfl
theorem f_47_60 : xi 47 60 = some (.ireturn, 0, 0) := rfl
theorem f_47_62 : xi 47 62 = some (.ifCond .eq 11, 0, 0) := rfl
theorem f_47_66 : xi 47 66 = some (.ifCond .eq 7, 0, 0) := rfl
theorem f_47_74 : xi 47 74 = some (.invokestatic 31, 48, 702) := rfl
theorem f_47_77 : xi 47 77 = some (.ireturn, 0, 0) := rfl
theorem f_47_80 : xi 47 80 = some (.if_icmp .ge 7, 0, 0) := rfl
theorem f_47_88 : xi 47 88 = some (.invokestatic 31, 48, 702) := rfl
theorem f_47_91 : xi 47 91 = some (.ireturn, 0, 0) := rfl
theorem f_47_94 : xi 47 94 = some (.if_icmp .ne 7, 0, 0) := rfl
theorem f_47_102 : xi 47 102 = some (.invokestatic 31, 48, 702) := rfl
theorem f_47_105 : xi 47 105 = some (.ireturn, 0, 0) := rfl
theorem f_47_109 : xi 47 109 = some (.ireturn, 0, 0) := rfl
set_option maxRecDepth 1000000 in
theorem f_47_113 : xi 47 113 = some (.ireturn, 0, 0) := rfl
set_option maxRecDepth 1000000 in
theorem f_47_117 : xi 47 117 = some (.ireturn, 0, 0) := rfl
theorem m_48 : xme 48 = some xe_48 := rfl
theorem f_48_1 : xi 48 1 = some (.ifCond .eq 7, 0, 0) := rfl
theorem f_48_9 : xi 48 9 = some (.ireturn, 0, 0) := rfl
theorem m_49 : xme 49 = some xe_49 := rfl
theorem f_49_10 : xi 49 10 = some (.putfield 11, 30, 128) := rfl
theorem f_49_15 : xi 49 15 = some (.putfield 17, 31, 131) := rfl
theorem f_49_20 : xi 49 20 = some (.putfield 21, 32, 134) := rfl
theorem f_49_25 : xi 49 25 = some (.putfield 24, 33, 136) := rfl
theorem f_49_30 : xi 49 30 = some (.putfield 27, 34, 139) := rfl
theorem f_49_38 : xi 49 38 = some (.if_icmp .ge 22, 0, 0) := rfl
theorem f_49_42 : xi 49 42 = some (.getfield 11, 30, 128) := rfl
theorem f_49_60 : xi 49 60 = some (.return_, 0, 0) := rfl
theorem m_50 : xme 50 = some xe_50 := rfl
theorem f_50_2 : xi 50 2 = some (.getfield 17, 31, 131) := rfl
theorem f_50_5 : xi 50 5 = some (.putfield 17, 31, 131) := rfl
theorem f_50_10 : xi 50 10 = some (.getfield 21, 32, 134) := rfl
theorem f_50_13 : xi 50 13 = some (.putfield 21, 32, 134) := rfl
theorem f_50_18 : xi 50 18 = some (.getfield 24, 33, 136) := rfl
theorem f_50_21 : xi 50 21 = some (.putfield 24, 33, 136) := rfl
theorem f_50_26 : xi 50 26 = some (.getfield 27, 34, 139) := rfl
theorem f_50_29 : xi 50 29 = some (.putfield 27, 34, 139) := rfl
theorem f_50_36 : xi 50 36 = some (.getfield 17, 31, 131) := rfl
theorem f_50_39 : xi 50 39 = some (.if_icmp .ge 49, 0, 0) := rfl
theorem f_50_43 : xi 50 43 = some (.getfield 11, 30, 128) := rfl
theorem f_50_47 : xi 50 47 = some (.aaload, 0, 0) := rfl
theorem f_50_50 : xi 50 50 = some (.getfield 11, 30, 128) := rfl
theorem f_50_54 : xi 50 54 = some (.aaload, 0, 0) := rfl
theorem f_50_58 : xi 50 58 = some (.getfield 31, 12, 102) := rfl
theorem f_50_63 : xi 50 63 = some (.getfield 34, 13, 105) := rfl
theorem f_50_68 : xi 50 68 = some (.getfield 37, 14, 109) := rfl
set_option maxRecDepth 1000000 in
theorem f_50_72 : xi 50 72 = some (.getfield 40, 15, 112) := rfl
set_option maxRecDepth 1000000 in
theorem f_50_76 : xi 50 76 = some (.getfield 43, 16, 115) := rfl
set_option maxRecDepth 1000000 in
theorem f_50_79 : xi 50 79 = some (.invokevirtual 46, 22, 839) := rfl
set_option maxRecDepth 1000000 in
theorem f_50_88 : xi 50 88 = some (.return_, 0, 0) := rfl
theorem m_51 : xme 51 = some xe_51 := rfl
theorem f_51_12 : xi 51 12 = some (.putfield 10, 35, 485) := rfl
theorem f_51_23 : xi 51 23 = some (.putfield 16, 36, 486) := rfl
theorem f_51_28 : xi 51 28 = some (.putfield 19, 37, 487) := rfl
theorem f_51_37 : xi 51 37 = some (.putfield 25, 38, 488) := rfl
theorem f_51_46 : xi 51 46 = some (.putfield 31, 39, 489) := rfl
theorem f_51_51 : xi 51 51 = some (.putfield 35, 40, 490) := rfl
theorem f_51_62 : xi 51 62 = some (.putfield 42, 41, 491) := rfl
theorem f_51_70 : xi 51 70 = some (.putfield 48, 42, 492) := rfl
theorem f_51_81 : xi 51 81 = some (.putfield 55, 43, 493) := rfl
set_option maxRecDepth 1000000 in
theorem f_51_89 : xi 51 89 = some (.putfield 59, 44, 494) := rfl
set_option maxRecDepth 1000000 in
theorem f_51_98 : xi 51 98 = some (.putfield 63, 45, 495) := rfl
set_option maxRecDepth 1000000 in
theorem f_51_103 : xi 51 103 = some (.putfield 66, 46, 496) := rfl
set_option maxRecDepth 1000000 in
theorem f_51_108 : xi 51 108 = some (.putfield 69, 47, 497) := rfl
set_option maxRecDepth 1000000 in
theorem f_51_116 : xi 51 116 = some (.if_icmp .ge 22, 0, 0) := rfl
set_option maxRecDepth 1000000 in
theorem f_51_120 : xi 51 120 = some (.getfield 25, 38, 488) := rfl
set_option maxRecDepth 1000000 in
theorem f_51_143 : xi 51 143 = some (.if_icmp .ge 22, 0, 0) := rfl
set_option maxRecDepth 1000000 in
theorem f_51_147 : xi 51 147 = some (.getfield 31, 39, 489) := rfl
set_option maxRecDepth 1000000 in
theorem f_51_169 : xi 51 169 = some (.if_icmp .ge 22, 0, 0) := rfl
set_option maxRecDepth 1000000 in
theorem f_51_173 : xi 51 173 = some (.getfield 48, 42, 492) := rfl
set_option maxRecDepth 1000000 in
theorem f_51_196 : xi 51 196 = some (.invokevirtual 77, 192, 288) := rfl
set_option maxRecDepth 1000000 in
theorem f_51_199 : xi 51 199 = some (.if_icmp .ge 22, 0, 0) := rfl
set_option maxRecDepth 1000000 in
theorem f_51_203 : xi 51 203 = some (.getfield 42, 41, 491) := rfl
set_option maxRecDepth 1000000 in
theorem f_51_209 : xi 51 209 = some (.invokevirtual 83, 193, 298) := rfl
set_option maxRecDepth 1000000 in
theorem f_51_212 : xi 51 212 = some (.invokevirtual 87, 5, 336) := rfl
set_option maxRecDepth 1000000 in
theorem f_51_222 : xi 51 222 = some (.getfield 42, 41, 491) := rfl
set_option maxRecDepth 1000000 in
theorem f_51_225 : xi 51 225 = some (.invokevirtual 91, 6, 340) := rfl
set_option maxRecDepth 1000000 in
theorem f_51_230 : xi 51 230 = some (.getfield 31, 39, 489) := rfl
set_option maxRecDepth 1000000 in
theorem f_51_234 : xi 51 234 = some (.aaload, 0, 0) := rfl
set_option maxRecDepth 1000000 in
theorem f_51_236 : xi 51 236 = some (.getfield 42, 41, 491) := rfl
set_option maxRecDepth 1000000 in
theorem f_51_239 : xi 51 239 = some (.getfield 95, 6, 187) := rfl
set_option maxRecDepth 1000000 in
theorem f_51_242 : xi 51 242 = some (.invokevirtual 99, 45, 478) := rfl
set_option maxRecDepth 1000000 in
theorem f_51_247 : xi 51 247 = some (.putfield 35, 40, 490) := rfl
set_option maxRecDepth 1000000 in
theorem f_51_250 : xi 51 250 = some (.return_, 0, 0) := rfl
theorem m_52 : xme 52 = some xe_52 := rfl
theorem f_52_1 : xi 52 1 = some (.tableswitch 84 0 5 #[39, 47, 55, 63, 68, 76], 0, 0) := rfl
theorem f_52_41 : xi 52 41 = some (.getfield 10, 35, 485) := rfl
theorem f_52_44 : xi 52 44 = some (.getfield 103, 31, 133) := rfl
theorem f_52_47 : xi 52 47 = some (.ireturn, 0, 0) := rfl
theorem f_52_49 : xi 52 49 = some (.getfield 10, 35, 485) := rfl
theorem f_52_52 : xi 52 52 = some (.getfield 106, 32, 135) := rfl
theorem f_52_55 : xi 52 55 = some (.ireturn, 0, 0) := rfl
theorem f_52_57 : xi 52 57 = some (.getfield 10, 35, 485) := rfl
theorem f_52_60 : xi 52 60 = some (.getfield 109, 33, 137) := rfl
theorem f_52_63 : xi 52 63 = some (.ireturn, 0, 0) := rfl
theorem f_52_65 : xi 52 65 = some (.getfield 35, 40, 490) := rfl
theorem f_52_68 : xi 52 68 = some (.ireturn, 0, 0) := rfl
theorem f_52_70 : xi 52 70 = some (.getfield 10, 35, 485) := rfl
theorem f_52_73 : xi 52 73 = some (.getfield 112, 34, 140) := rfl
theorem f_52_76 : xi 52 76 = some (.ireturn, 0, 0) := rfl
theorem f_52_78 : xi 52 78 = some (.getfield 42, 41, 491) := rfl
theorem f_52_81 : xi 52 81 = some (.getfield 115, 5, 185) := rfl
theorem f_52_84 : xi 52 84 = some (.ireturn, 0, 0) := rfl
theorem f_52_87 : xi 52 87 = some (.ireturn, 0, 0) := rfl
theorem m_53 : xme 53 = some xe_53 := rfl
theorem f_53_4 : xi 53 4 = some (.invokestatic 118, 90, 534) := rfl
theorem f_53_7 : xi 53 7 = some (.ifCond .ne 6, 0, 0) := rfl
theorem f_53_12 : xi 53 12 = some (.ireturn, 0, 0) := rfl
theorem f_53_14 : xi 53 14 = some (.getfield 10, 35, 485) := rfl
theorem f_53_17 : xi 53 17 = some (.getfield 109, 33, 137) := rfl
theorem f_53_22 : xi 53 22 = some (.getfield 10, 35, 485) := rfl
theorem f_53_26 : xi 53 26 = some (.putfield 109, 33, 137) := rfl
theorem f_53_30 : xi 53 30 = some (.ireturn, 0, 0) := rfl
theorem m_54 : xme 54 = some xe_54 := rfl
theorem f_54_3 : xi 54 3 = some (.invokestatic 118, 90, 534) := rfl
theorem f_54_6 : xi 54 6 = some (.ifCond .eq 41, 0, 0) := rfl
theorem f_54_10 : xi 54 10 = some (.invokestatic 122, 91, 541) := rfl
theorem f_54_13 : xi 54 13 = some (.ifCond .eq 34, 0, 0) := rfl
theorem f_54_17 : xi 54 17 = some (.invokestatic 122, 91, 541) := rfl
theorem f_54_20 : xi 54 20 = some (.ifCond .eq 27, 0, 0) := rfl
theorem f_54_25 : xi 54 25 = some (.invokestatic 122, 91, 541) := rfl
theorem f_54_28 : xi 54 28 = some (.ifCond .eq 19, 0, 0) := rfl
theorem f_54_33 : xi 54 33 = some (.invokestatic 122, 91, 541) := rfl
theorem f_54_36 : xi 54 36 = some (.ifCond .eq 11, 0, 0) := rfl
theorem f_54_41 : xi 54 41 = some (.invokestatic 122, 91, 541) := rfl
theorem f_54_44 : xi 54 44 = some (.ifCond .ne 6, 0, 0) := rfl
theorem f_54_49 : xi 54 49 = some (.ireturn, 0, 0) := rfl
theorem f_54_51 : xi 54 51 = some (.getfield 42, 41, 491) := rfl
theorem f_54_54 : xi 54 54 = some (.getfield 115, 5, 185) := rfl
theorem f_54_62 : xi 54 62 = some (.if_icmp .le 6, 0, 0) := rfl
theorem f_54_67 : xi 54 67 = some (.ireturn, 0, 0) := rfl
theorem f_54_74 : xi 54 74 = some (.if_icmp .ge 59, 0, 0) := rfl
theorem f_54_78 : xi 54 78 = some (.getfield 42, 41, 491) := rfl
theorem f_54_83 : xi 54 83 = some (.ifCond .ne 7, 0, 0) := rfl
set_option maxRecDepth 1000000 in
theorem f_54_93 : xi 54 93 = some (.if_icmp .ne 7, 0, 0) := rfl
set_option maxRecDepth 1000000 in
theorem f_54_103 : xi 54 103 = some (.if_icmp .ne 8, 0, 0) := rfl
set_option maxRecDepth 1000000 in
theorem f_54_114 : xi 54 114 = some (.if_icmp .ne 8, 0, 0) := rfl
set_option maxRecDepth 1000000 in
theorem f_54_124 : xi 54 124 = some (.invokevirtual 87, 5, 336) := rfl
set_option maxRecDepth 1000000 in
theorem f_54_134 : xi 54 134 = some (.getfield 42, 41, 491) := rfl
set_option maxRecDepth 1000000 in
theorem f_54_137 : xi 54 137 = some (.getfield 115, 5, 185) := rfl
set_option maxRecDepth 1000000 in
theorem f_54_140 : xi 54 140 = some (.ireturn, 0, 0) := rfl
theorem m_55 : xme 55 = some xe_55 := rfl
theorem f_55_1 : xi 55 1 = some (.getfield 35, 40, 490) := rfl
theorem f_55_6 : xi 55 6 = some (.if_icmp .lt 6, 0, 0) := rfl
theorem f_55_11 : xi 55 11 = some (.ireturn, 0, 0) := rfl
theorem f_55_13 : xi 55 13 = some (.getfield 42, 41, 491) := rfl
theorem f_55_16 : xi 55 16 = some (.invokevirtual 91, 6, 340) := rfl
theorem f_55_19 : xi 55 19 = some (.ifCond .ne 14, 0, 0) := rfl
theorem f_55_25 : xi 55 25 = some (.getfield 42, 41, 491) := rfl
theorem f_55_28 : xi 55 28 = some (.getfield 126, 7, 189) := rfl
theorem f_55_32 : xi 55 32 = some (.ireturn, 0, 0) := rfl
theorem f_55_34 : xi 55 34 = some (.getfield 31, 39, 489) := rfl
theorem f_55_38 : xi 55 38 = some (.getfield 35, 40, 490) := rfl
theorem f_55_41 : xi 55 41 = some (.aaload, 0, 0) := rfl
theorem f_55_43 : xi 55 43 = some (.getfield 42, 41, 491) := rfl
theorem f_55_46 : xi 55 46 = some (.getfield 95, 6, 187) := rfl
theorem f_55_49 : xi 55 49 = some (.invokevirtual 99, 45, 478) := rfl
theorem f_55_54 : xi 55 54 = some (.getfield 35, 40, 490) := rfl
theorem f_55_59 : xi 55 59 = some (.putfield 35, 40, 490) := rfl
theorem f_55_63 : xi 55 63 = some (.getfield 35, 40, 490) := rfl
theorem f_55_68 : xi 55 68 = some (.ireturn, 0, 0) := rfl
theorem m_56 : xme 56 = some xe_56 := rfl
theorem f_56_2 : xi 56 2 = some (.invokevirtual 129, 94, 552) := rfl
theorem f_56_5 : xi 56 5 = some (.ifCond .ne 6, 0, 0) := rfl
theorem f_56_10 : xi 56 10 = some (.ireturn, 0, 0) := rfl
theorem f_56_12 : xi 56 12 = some (.getfield 10, 35, 485) := rfl
theorem f_56_15 : xi 56 15 = some (.getfield 112, 34, 140) := rfl
theorem f_56_20 : xi 56 20 = some (.getfield 10, 35, 485) := rfl
theorem f_56_24 : xi 56 24 = some (.putfield 112, 34, 140) := rfl
theorem f_56_28 : xi 56 28 = some (.ireturn, 0, 0) := rfl
theorem m_57 : xme 57 = some xe_57 := rfl
theorem f_57_6 : xi 57 6 = some (.invokevirtual 132, 96, 560) := rfl
theorem f_57_9 : xi 57 9 = some (.ireturn, 0, 0) := rfl
theorem m_58 : xme 58 = some xe_58 := rfl
theorem f_58_1 : xi 58 1 = some (.getfield 10, 35, 485) := rfl
theorem f_58_4 : xi 58 4 = some (.getfield 103, 31, 133) := rfl
theorem f_58_7 : xi 58 7 = some (.ifCond .ne 6, 0, 0) := rfl
theorem f_58_12 : xi 58 12 = some (.ireturn, 0, 0) := rfl
theorem f_58_14 : xi 58 14 = some (.getfield 10, 35, 485) := rfl
theorem f_58_18 : xi 58 18 = some (.getfield 103, 31, 133) := rfl
theorem f_58_23 : xi 58 23 = some (.putfield 103, 31, 133) := rfl
theorem f_58_27 : xi 58 27 = some (.getfield 10, 35, 485) := rfl
theorem f_58_30 : xi 58 30 = some (.getfield 103, 31, 133) := rfl
theorem f_58_33 : xi 58 33 = some (.ireturn, 0, 0) := rfl
theorem m_59 : xme 59 = some xe_59 := rfl
theorem f_59_2 : xi 59 2 = some (.invokevirtual 136, 95, 579) := rfl
theorem f_59_5 : xi 59 5 = some (.ifCond .ne 6, 0, 0) := rfl
theorem f_59_10 : xi 59 10 = some (.ireturn, 0, 0) := rfl
theorem f_59_12 : xi 59 12 = some (.getfield 10, 35, 485) := rfl
theorem f_59_15 : xi 59 15 = some (.getfield 139, 30, 130) := rfl
theorem f_59_19 : xi 59 19 = some (.aaload, 0, 0) := rfl
theorem f_59_22 : xi 59 22 = some (.tableswitch 91 0 6 #[42, 47, 52, 57, 62, 67, 79], 0, 0) := rfl
theorem f_59_65 : xi 59 65 = some (.getfield 143, 12, 103) := rfl
theorem f_59_68 : xi 59 68 = some (.ireturn, 0, 0) := rfl
theorem f_59_70 : xi 59 70 = some (.getfield 148, 14, 110) := rfl
theorem f_59_73 : xi 59 73 = some (.ireturn, 0, 0) := rfl
theorem f_59_75 : xi 59 75 = some (.getfield 151, 15, 113) := rfl
theorem f_59_78 : xi 59 78 = some (.ireturn, 0, 0) := rfl
theorem f_59_80 : xi 59 80 = some (.getfield 154, 16, 116) := rfl
theorem f_59_83 : xi 59 83 = some (.ireturn, 0, 0) := rfl
theorem f_59_85 : xi 59 85 = some (.getfield 157, 13, 106) := rfl
theorem f_59_88 : xi 59 88 = some (.ireturn, 0, 0) := rfl
theorem f_59_91 : xi 59 91 = some (.getfield 10, 35, 485) := rfl
theorem f_59_94 : xi 59 94 = some (.getfield 109, 33, 137) := rfl
theorem f_59_97 : xi 59 97 = some (.invokevirtual 160, 23, 583) := rfl
theorem f_59_100 : xi 59 100 = some (.ireturn, 0, 0) := rfl
theorem f_59_103 : xi 59 103 = some (.getfield 10, 35, 485) := rfl
theorem f_59_106 : xi 59 106 = some (.getfield 109, 33, 137) := rfl
theorem f_59_109 : xi 59 109 = some (.invokevirtual 164, 24, 593) := rfl
theorem f_59_112 : xi 59 112 = some (.ireturn, 0, 0) := rfl
set_option maxRecDepth 1000000 in
theorem f_59_115 : xi 59 115 = some (.ireturn, 0, 0) := rfl
theorem m_60 : xme 60 = some xe_60 := rfl
theorem f_60_1 : xi 60 1 = some (.invokestatic 167, 92, 564) := rfl
theorem f_60_4 : xi 60 4 = some (.ifCond .eq 48, 0, 0) := rfl
theorem f_60_8 : xi 60 8 = some (.invokestatic 167, 92, 564) := rfl
theorem f_60_11 : xi 60 11 = some (.ifCond .eq 41, 0, 0) := rfl
theorem f_60_16 : xi 60 16 = some (.if_icmp .eq 36, 0, 0) := rfl
theorem f_60_26 : xi 60 26 = some (.invokestatic 118, 90, 534) := rfl
theorem f_60_29 : xi 60 29 = some (.ifCond .eq 23, 0, 0) := rfl
theorem f_60_40 : xi 60 40 = some (.invokestatic 118, 90, 534) := rfl
theorem f_60_43 : xi 60 43 = some (.ifCond .eq 9, 0, 0) := rfl
theorem f_60_49 : xi 60 49 = some (.if_icmp .le 6, 0, 0) := rfl
theorem f_60_54 : xi 60 54 = some (.ireturn, 0, 0) := rfl
theorem f_60_56 : xi 60 56 = some (.getfield 10, 35, 485) := rfl
theorem f_60_59 : xi 60 59 = some (.getfield 106, 32, 135) := rfl
theorem f_60_64 : xi 60 64 = some (.if_icmp .lt 6, 0, 0) := rfl
theorem f_60_69 : xi 60 69 = some (.ireturn, 0, 0) := rfl
theorem f_60_71 : xi 60 71 = some (.getfield 25, 38, 488) := rfl
theorem f_60_75 : xi 60 75 = some (.getfield 10, 35, 485) := rfl
theorem f_60_78 : xi 60 78 = some (.getfield 106, 32, 135) := rfl
theorem f_60_81 : xi 60 81 = some (.aaload, 0, 0) := rfl
set_option maxRecDepth 1000000 in
theorem f_60_87 : xi 60 87 = some (.invokevirtual 170, 2, 601) := rfl
set_option maxRecDepth 1000000 in
theorem f_60_91 : xi 60 91 = some (.getfield 10, 35, 485) := rfl
set_option maxRecDepth 1000000 in
theorem f_60_95 : xi 60 95 = some (.getfield 106, 32, 135) := rfl
set_option maxRecDepth 1000000 in
theorem f_60_100 : xi 60 100 = some (.putfield 106, 32, 135) := rfl
set_option maxRecDepth 1000000 in
theorem f_60_104 : xi 60 104 = some (.getfield 10, 35, 485) := rfl
set_option maxRecDepth 1000000 in
theorem f_60_107 : xi 60 107 = some (.getfield 106, 32, 135) := rfl
set_option maxRecDepth 1000000 in
theorem f_60_112 : xi 60 112 = some (.ireturn, 0, 0) := rfl
theorem m_61 : xme 61 = some xe_61 := rfl
theorem f_61_3 : xi 61 3 = some (.getfield 10, 35, 485) := rfl
theorem f_61_6 : xi 61 6 = some (.getfield 106, 32, 135) := rfl
theorem f_61_11 : xi 61 11 = some (.invokestatic 118, 90, 534) := rfl
theorem f_61_14 : xi 61 14 = some (.ifCond .ne 6, 0, 0) := rfl
theorem f_61_19 : xi 61 19 = some (.ireturn, 0, 0) := rfl
theorem f_61_21 : xi 61 21 = some (.getfield 25, 38, 488) := rfl
theorem f_61_25 : xi 61 25 = some (.aaload, 0, 0) := rfl
theorem f_61_28 : xi 61 28 = some (.tableswitch 52 0 3 #[32, 37, 42, 47], 0, 0) := rfl
theorem f_61_61 : xi 61 61 = some (.getfield 173, 0, 249) := rfl
theorem f_61_64 : xi 61 64 = some (.ireturn, 0, 0) := rfl
theorem f_61_66 : xi 61 66 = some (.getfield 176, 1, 252) := rfl
theorem f_61_69 : xi 61 69 = some (.ireturn, 0, 0) := rfl
theorem f_61_71 : xi 61 71 = some (.getfield 179, 2, 255) := rfl
theorem f_61_74 : xi 61 74 = some (.ireturn, 0, 0) := rfl
theorem f_61_76 : xi 61 76 = some (.getfield 180, 3, 258) := rfl
theorem f_61_79 : xi 61 79 = some (.ireturn, 0, 0) := rfl
theorem f_61_82 : xi 61 82 = some (.ireturn, 0, 0) := rfl
theorem m_62 : xme 62 = some xe_62 := rfl
theorem f_62_1 : xi 62 1 = some (.invokevirtual 181, 97, 613) := rfl
theorem f_62_4 : xi 62 4 = some (.ifCond .eq 7, 0, 0) := rfl
theorem f_62_12 : xi 62 12 = some (.ireturn, 0, 0) := rfl
theorem m_63 : xme 63 = some xe_63 := rfl
theorem f_63_1 : xi 63 1 = some (.invokestatic 167, 92, 564) := rfl
theorem f_63_4 : xi 63 4 = some (.ifCond .ne 6, 0, 0) := rfl
theorem f_63_9 : xi 63 9 = some (.ireturn, 0, 0) := rfl
theorem f_63_13 : xi 63 13 = some (.invokestatic 118, 90, 534) := rfl
theorem f_63_16 : xi 63 16 = some (.ifCond .ne 6, 0, 0) := rfl
theorem f_63_21 : xi 63 21 = some (.ireturn, 0, 0) := rfl
theorem f_63_23 : xi 63 23 = some (.invokevirtual 181, 97, 613) := rfl
theorem f_63_29 : xi 63 29 = some (.if_icmp .ne 13, 0, 0) := rfl
theorem f_63_33 : xi 63 33 = some (.getfield 55, 43, 493) := rfl
theorem f_63_36 : xi 63 36 = some (.getfield 184, 20, 220) := rfl
theorem f_63_40 : xi 63 40 = some (.iaload, 0, 0) := rfl
theorem f_63_41 : xi 63 41 = some (.ireturn, 0, 0) := rfl
theorem f_63_44 : xi 63 44 = some (.if_icmp .ne 13, 0, 0) := rfl
theorem f_63_48 : xi 63 48 = some (.getfield 55, 43, 493) := rfl
theorem f_63_51 : xi 63 51 = some (.getfield 187, 21, 222) := rfl
theorem f_63_55 : xi 63 55 = some (.iaload, 0, 0) := rfl
theorem f_63_56 : xi 63 56 = some (.ireturn, 0, 0) := rfl
theorem f_63_58 : xi 63 58 = some (.ifCond .ne 5, 0, 0) := rfl
theorem f_63_62 : xi 63 62 = some (.ireturn, 0, 0) := rfl
theorem f_63_64 : xi 63 64 = some (.ifCond .ne 15, 0, 0) := rfl
theorem f_63_68 : xi 63 68 = some (.getfield 55, 43, 493) := rfl
set_option maxRecDepth 1000000 in
theorem f_63_71 : xi 63 71 = some (.getfield 190, 22, 224) := rfl
set_option maxRecDepth 1000000 in
theorem f_63_75 : xi 63 75 = some (.iaload, 0, 0) := rfl
set_option maxRecDepth 1000000 in
theorem f_63_81 : xi 63 81 = some (.if_icmp .ne 15, 0, 0) := rfl
set_option maxRecDepth 1000000 in
theorem f_63_85 : xi 63 85 = some (.getfield 55, 43, 493) := rfl
set_option maxRecDepth 1000000 in
theorem f_63_88 : xi 63 88 = some (.getfield 193, 23, 226) := rfl
set_option maxRecDepth 1000000 in
theorem f_63_92 : xi 63 92 = some (.iaload, 0, 0) := rfl
set_option maxRecDepth 1000000 in
theorem f_63_97 : xi 63 97 = some (.getfield 55, 43, 493) := rfl
set_option maxRecDepth 1000000 in
theorem f_63_100 : xi 63 100 = some (.getfield 193, 23, 226) := rfl
set_option maxRecDepth 1000000 in
theorem f_63_104 : xi 63 104 = some (.iaload, 0, 0) := rfl
set_option maxRecDepth 1000000 in
theorem f_63_106 : xi 63 106 = some (.getfield 55, 43, 493) := rfl
set_option maxRecDepth 1000000 in
theorem f_63_109 : xi 63 109 = some (.getfield 190, 22, 224) := rfl
set_option maxRecDepth 1000000 in
theorem f_63_113 : xi 63 113 = some (.iaload, 0, 0) := rfl
set_option maxRecDepth 1000000 in
theorem f_63_115 : xi 63 115 = some (.ireturn, 0, 0) := rfl
theorem m_64 : xme 64 = some xe_64 := rfl
theorem f_64_1 : xi 64 1 = some (.invokestatic 167, 92, 564) := rfl
theorem f_64_4 : xi 64 4 = some (.ifCond .eq 26, 0, 0) := rfl
theorem f_64_8 : xi 64 8 = some (.invokestatic 167, 92, 564) := rfl
theorem f_64_11 : xi 64 11 = some (.ifCond .eq 19, 0, 0) := rfl
theorem f_64_17 : xi 64 17 = some (.invokestatic 118, 90, 534) := rfl
theorem f_64_20 : xi 64 20 = some (.ifCond .eq 10, 0, 0) := rfl
theorem f_64_24 : xi 64 24 = some (.invokevirtual 181, 97, 613) := rfl
theorem f_64_27 : xi 64 27 = some (.ifCond .ne 6, 0, 0) := rfl
theorem f_64_32 : xi 64 32 = some (.ireturn, 0, 0) := rfl
theorem f_64_34 : xi 64 34 = some (.ifCond .ne 16, 0, 0) := rfl
theorem f_64_38 : xi 64 38 = some (.getfield 55, 43, 493) := rfl
theorem f_64_43 : xi 64 43 = some (.invokevirtual 197, 39, 657) := rfl
theorem f_64_51 : xi 64 51 = some (.getfield 55, 43, 493) := rfl
theorem f_64_56 : xi 64 56 = some (.invokevirtual 197, 39, 657) := rfl
theorem f_64_59 : xi 64 59 = some (.ireturn, 0, 0) := rfl
theorem m_65 : xme 65 = some xe_65 := rfl
theorem f_65_3 : xi 65 3 = some (.invokestatic 118, 90, 534) := rfl
theorem f_65_6 : xi 65 6 = some (.ifCond .ne 6, 0, 0) := rfl
theorem f_65_11 : xi 65 11 = some (.ireturn, 0, 0) := rfl
theorem f_65_22 : xi 65 22 = some (.getfield 10, 35, 485) := rfl
theorem f_65_25 : xi 65 25 = some (.getfield 103, 31, 133) := rfl
theorem f_65_28 : xi 65 28 = some (.if_icmp .ge 86, 0, 0) := rfl
theorem f_65_40 : xi 65 40 = some (.getfield 10, 35, 485) := rfl
theorem f_65_43 : xi 65 43 = some (.getfield 103, 31, 133) := rfl
theorem f_65_46 : xi 65 46 = some (.if_icmp .ge 62, 0, 0) := rfl
theorem f_65_50 : xi 65 50 = some (.getfield 10, 35, 485) := rfl
theorem f_65_53 : xi 65 53 = some (.getfield 139, 30, 130) := rfl
theorem f_65_58 : xi 65 58 = some (.aaload, 0, 0) := rfl
theorem f_65_60 : xi 65 60 = some (.getfield 10, 35, 485) := rfl
theorem f_65_63 : xi 65 63 = some (.getfield 139, 30, 130) := rfl
theorem f_65_68 : xi 65 68 = some (.aaload, 0, 0) := rfl
theorem f_65_70 : xi 65 70 = some (.getfield 10, 35, 485) := rfl
theorem f_65_73 : xi 65 73 = some (.getfield 109, 33, 137) := rfl
theorem f_65_76 : xi 65 76 = some (.invokevirtual 201, 27, 665) := rfl
set_option maxRecDepth 1000000 in
theorem f_65_79 : xi 65 79 = some (.ifCond .eq 23, 0, 0) := rfl
set_option maxRecDepth 1000000 in
theorem f_65_83 : xi 65 83 = some (.ifCond .ne 14, 0, 0) := rfl
set_option maxRecDepth 1000000 in
theorem f_65_115 : xi 65 115 = some (.ifCond .ne 7, 0, 0) := rfl
set_option maxRecDepth 1000000 in
theorem f_65_123 : xi 65 123 = some (.ireturn, 0, 0) := rfl
theorem m_66 : xme 66 = some xe_66 := rfl
theorem f_66_3 : xi 66 3 = some (.invokestatic 118, 90, 534) := rfl
theorem f_66_6 : xi 66 6 = some (.ifCond .ne 6, 0, 0) := rfl
theorem f_66_11 : xi 66 11 = some (.ireturn, 0, 0) := rfl
theorem f_66_18 : xi 66 18 = some (.getfield 55, 43, 493) := rfl
theorem f_66_22 : xi 66 22 = some (.getfield 25, 38, 488) := rfl
theorem f_66_26 : xi 66 26 = some (.getfield 10, 35, 485) := rfl
theorem f_66_29 : xi 66 29 = some (.getfield 106, 32, 135) := rfl
theorem f_66_33 : xi 66 33 = some (.invokevirtual 205, 35, 617) := rfl
theorem f_66_43 : xi 66 43 = some (.getfield 10, 35, 485) := rfl
theorem f_66_46 : xi 66 46 = some (.getfield 103, 31, 133) := rfl
theorem f_66_50 : xi 66 50 = some (.if_icmp .ge 37, 0, 0) := rfl
theorem f_66_55 : xi 66 55 = some (.invokestatic 209, 205, 675) := rfl
theorem f_66_63 : xi 66 63 = some (.if_icmp .ge 18, 0, 0) := rfl
theorem f_66_69 : xi 66 69 = some (.invokevirtual 214, 98, 630) := rfl
theorem f_66_72 : xi 66 72 = some (.ifCond .eq 9, 0, 0) := rfl
set_option maxRecDepth 1000000 in
theorem f_66_89 : xi 66 89 = some (.if_icmp .ne 7, 0, 0) := rfl
set_option maxRecDepth 1000000 in
theorem f_66_97 : xi 66 97 = some (.ifCond .ne 7, 0, 0) := rfl
set_option maxRecDepth 1000000 in
theorem f_66_105 : xi 66 105 = some (.ireturn, 0, 0) := rfl
theorem m_67 : xme 67 = some xe_67 := rfl
theorem f_67_1 : xi 67 1 = some (.invokevirtual 181, 97, 613) := rfl
theorem f_67_4 : xi 67 4 = some (.ifCond .eq 5, 0, 0) := rfl
theorem f_67_8 : xi 67 8 = some (.ireturn, 0, 0) := rfl
theorem f_67_15 : xi 67 15 = some (.getfield 10, 35, 485) := rfl
theorem f_67_18 : xi 67 18 = some (.getfield 106, 32, 135) := rfl
theorem f_67_21 : xi 67 21 = some (.if_icmp .ge 44, 0, 0) := rfl
theorem f_67_25 : xi 67 25 = some (.getfield 55, 43, 493) := rfl
theorem f_67_29 : xi 67 29 = some (.getfield 25, 38, 488) := rfl
theorem f_67_33 : xi 67 33 = some (.getfield 10, 35, 485) := rfl
theorem f_67_36 : xi 67 36 = some (.getfield 106, 32, 135) := rfl
theorem f_67_40 : xi 67 40 = some (.invokevirtual 205, 35, 617) := rfl
theorem f_67_44 : xi 67 44 = some (.getfield 55, 43, 493) := rfl
theorem f_67_47 : xi 67 47 = some (.invokevirtual 217, 38, 644) := rfl
theorem f_67_50 : xi 67 50 = some (.ifCond .eq 9, 0, 0) := rfl
theorem f_67_66 : xi 67 66 = some (.ireturn, 0, 0) := rfl
theorem m_68 : xme 68 = some xe_68 := rfl
theorem f_68_2 : xi 68 2 = some (.invokevirtual 129, 94, 552) := rfl
theorem f_68_5 : xi 68 5 = some (.ifCond .eq 19, 0, 0) := rfl
theorem f_68_11 : xi 68 11 = some (.invokestatic 118, 90, 534) := rfl
theorem f_68_14 : xi 68 14 = some (.ifCond .eq 10, 0, 0) := rfl
theorem f_68_18 : xi 68 18 = some (.invokevirtual 181, 97, 613) := rfl
theorem f_68_21 : xi 68 21 = some (.ifCond .ne 7, 0, 0) := rfl
theorem f_68_27 : xi 68 27 = some (.lreturn, 0, 0) := rfl
theorem f_68_30 : xi 68 30 = some (.getfield 31, 39, 489) := rfl
theorem f_68_34 : xi 68 34 = some (.aaload, 0, 0) := rfl
theorem f_68_35 : xi 68 35 = some (.invokevirtual 222, 99, 690) := rfl
theorem f_68_40 : xi 68 40 = some (.ifCond .ne 11, 0, 0) := rfl
theorem f_68_44 : xi 68 44 = some (.getfield 66, 46, 496) := rfl
theorem f_68_47 : xi 68 47 = some (.i2l, 0, 0) := rfl
theorem f_68_53 : xi 68 53 = some (.if_icmp .ne 11, 0, 0) := rfl
theorem f_68_57 : xi 68 57 = some (.getfield 69, 47, 497) := rfl
theorem f_68_60 : xi 68 60 = some (.i2l, 0, 0) := rfl
theorem f_68_65 : xi 68 65 = some (.lreturn, 0, 0) := rfl
theorem m_69 : xme 69 = some xe_69 := rfl
theorem f_69_1 : xi 69 1 = some (.invokevirtual 181, 97, 613) := rfl
theorem f_69_4 : xi 69 4 = some (.ifCond .eq 10, 0, 0) := rfl
theorem f_69_8 : xi 69 8 = some (.invokevirtual 226, 101, 714) := rfl
theorem f_69_15 : xi 69 15 = some (.ireturn, 0, 0) := rfl
theorem m_70 : xme 70 = some xe_70 := rfl
theorem f_70_2 : xi 70 2 = some (.invokevirtual 129, 94, 552) := rfl
theorem f_70_5 : xi 70 5 = some (.ifCond .eq 30, 0, 0) := rfl
theorem f_70_13 : xi 70 13 = some (.invokestatic 118, 90, 534) := rfl
theorem f_70_16 : xi 70 16 = some (.ifCond .eq 19, 0, 0) := rfl
theorem f_70_22 : xi 70 22 = some (.invokestatic 118, 90, 534) := rfl
theorem f_70_25 : xi 70 25 = some (.ifCond .eq 10, 0, 0) := rfl
theorem f_70_29 : xi 70 29 = some (.invokevirtual 181, 97, 613) := rfl
theorem f_70_32 : xi 70 32 = some (.ifCond .ne 7, 0, 0) := rfl
theorem f_70_38 : xi 70 38 = some (.lreturn, 0, 0) := rfl
theorem f_70_41 : xi 70 41 = some (.invokevirtual 229, 102, 722) := rfl
theorem f_70_50 : xi 70 50 = some (.invokestatic 232, 106, 726) := rfl
theorem f_70_70 : xi 70 70 = some (.if_icmp .ge 75, 0, 0) := rfl
theorem f_70_77 : xi 70 77 = some (.invokestatic 235, 103, 729) := rfl
theorem f_70_80 : xi 70 80 = some (.ifCond .eq 59, 0, 0) := rfl
set_option maxRecDepth 1000000 in
theorem f_70_88 : xi 70 88 = some (.invokevirtual 239, 104, 732) := rfl
set_option maxRecDepth 1000000 in
theorem f_70_91 : xi 70 91 = some (.ifCond .ne 6, 0, 0) := rfl
set_option maxRecDepth 1000000 in
theorem f_70_99 : xi 70 99 = some (.getfield 31, 39, 489) := rfl
set_option maxRecDepth 1000000 in
theorem f_70_103 : xi 70 103 = some (.aaload, 0, 0) := rfl
set_option maxRecDepth 1000000 in
theorem f_70_104 : xi 70 104 = some (.invokevirtual 222, 99, 690) := rfl
set_option maxRecDepth 1000000 in
theorem f_70_114 : xi 70 114 = some (.lcmp, 0, 0) := rfl
set_option maxRecDepth 1000000 in
theorem f_70_115 : xi 70 115 = some (.ifCond .eq 11, 0, 0) := rfl
set_option maxRecDepth 1000000 in
theorem f_70_122 : xi 70 122 = some (.lcmp, 0, 0) := rfl
set_option maxRecDepth 1000000 in
theorem f_70_123 : xi 70 123 = some (.ifCond .ge 16, 0, 0) := rfl
set_option maxRecDepth 1000000 in
theorem f_70_134 : xi 70 134 = some (.invokestatic 242, 105, 737) := rfl
set_option maxRecDepth 1000000 in
theorem f_70_150 : xi 70 150 = some (.lcmp, 0, 0) := rfl
set_option maxRecDepth 1000000 in
theorem f_70_151 : xi 70 151 = some (.ifCond .eq 8, 0, 0) := rfl
set_option maxRecDepth 1000000 in
theorem f_70_156 : xi 70 156 = some (.if_icmp .ne 8, 0, 0) := rfl
set_option maxRecDepth 1000000 in
theorem f_70_166 : xi 70 166 = some (.i2l, 0, 0) := rfl
set_option maxRecDepth 1000000 in
theorem f_70_167 : xi 70 167 = some (.lreturn, 0, 0) := rfl
theorem m_71 : xme 71 = some xe_71 := rfl
theorem f_71_2 : xi 71 2 = some (.invokevirtual 129, 94, 552) := rfl
theorem f_71_5 : xi 71 5 = some (.ifCond .eq 18, 0, 0) := rfl
theorem f_71_10 : xi 71 10 = some (.invokevirtual 136, 95, 579) := rfl
theorem f_71_13 : xi 71 13 = some (.ifCond .eq 10, 0, 0) := rfl
theorem f_71_17 : xi 71 17 = some (.invokevirtual 181, 97, 613) := rfl
theorem f_71_20 : xi 71 20 = some (.ifCond .ne 7, 0, 0) := rfl
theorem f_71_26 : xi 71 26 = some (.lreturn, 0, 0) := rfl
theorem f_71_29 : xi 71 29 = some (.getfield 31, 39, 489) := rfl
theorem f_71_33 : xi 71 33 = some (.aaload, 0, 0) := rfl
theorem f_71_34 : xi 71 34 = some (.invokevirtual 222, 99, 690) := rfl
theorem f_71_42 : xi 71 42 = some (.invokevirtual 214, 98, 630) := rfl
theorem f_71_45 : xi 71 45 = some (.ifCond .eq 18, 0, 0) := rfl
theorem f_71_50 : xi 71 50 = some (.getfield 31, 39, 489) := rfl
theorem f_71_54 : xi 71 54 = some (.aaload, 0, 0) := rfl
theorem f_71_55 : xi 71 55 = some (.invokevirtual 222, 99, 690) := rfl
theorem f_71_66 : xi 71 66 = some (.lreturn, 0, 0) := rfl
theorem m_72 : xme 72 = some xe_72 := rfl
theorem f_72_2 : xi 72 2 = some (.invokevirtual 129, 94, 552) := rfl
theorem f_72_5 : xi 72 5 = some (.ifCond .eq 21, 0, 0) := rfl
theorem f_72_9 : xi 72 9 = some (.invokestatic 167, 92, 564) := rfl
theorem f_72_12 : xi 72 12 = some (.ifCond .eq 14, 0, 0) := rfl
theorem f_72_20 : xi 72 20 = some (.invokestatic 118, 90, 534) := rfl
theorem f_72_23 : xi 72 23 = some (.ifCond .ne 7, 0, 0) := rfl
theorem f_72_29 : xi 72 29 = some (.lreturn, 0, 0) := rfl
theorem f_72_31 : xi 72 31 = some (.getfield 55, 43, 493) := rfl
theorem f_72_35 : xi 72 35 = some (.getfield 25, 38, 488) := rfl
theorem f_72_39 : xi 72 39 = some (.getfield 10, 35, 485) := rfl
theorem f_72_42 : xi 72 42 = some (.getfield 106, 32, 135) := rfl
theorem f_72_46 : xi 72 46 = some (.invokevirtual 205, 35, 617) := rfl
theorem f_72_50 : xi 72 50 = some (.getfield 55, 43, 493) := rfl
theorem f_72_54 : xi 72 54 = some (.getfield 10, 35, 485) := rfl
theorem f_72_58 : xi 72 58 = some (.invokevirtual 245, 34, 634) := rfl
theorem f_72_62 : xi 72 62 = some (.getfield 55, 43, 493) := rfl
theorem f_72_65 : xi 72 65 = some (.getfield 184, 20, 220) := rfl
theorem f_72_70 : xi 72 70 = some (.iastore, 0, 0) := rfl
theorem f_72_72 : xi 72 72 = some (.getfield 55, 43, 493) := rfl
theorem f_72_75 : xi 72 75 = some (.getfield 187, 21, 222) := rfl
theorem f_72_80 : xi 72 80 = some (.iastore, 0, 0) := rfl
set_option maxRecDepth 1000000 in
theorem f_72_82 : xi 72 82 = some (.getfield 55, 43, 493) := rfl
set_option maxRecDepth 1000000 in
theorem f_72_85 : xi 72 85 = some (.invokevirtual 217, 38, 644) := rfl
set_option maxRecDepth 1000000 in
theorem f_72_88 : xi 72 88 = some (.ifCond .eq 16, 0, 0) := rfl
set_option maxRecDepth 1000000 in
theorem f_72_93 : xi 72 93 = some (.getfield 31, 39, 489) := rfl
set_option maxRecDepth 1000000 in
theorem f_72_97 : xi 72 97 = some (.aaload, 0, 0) := rfl
set_option maxRecDepth 1000000 in
theorem f_72_98 : xi 72 98 = some (.invokevirtual 222, 99, 690) := rfl
set_option maxRecDepth 1000000 in
theorem f_72_107 : xi 72 107 = some (.lreturn, 0, 0) := rfl
theorem m_73 : xme 73 = some xe_73 := rfl
theorem f_73_1 : xi 73 1 = some (.invokestatic 167, 92, 564) := rfl
theorem f_73_4 : xi 73 4 = some (.ifCond .eq 30, 0, 0) := rfl
theorem f_73_12 : xi 73 12 = some (.invokestatic 118, 90, 534) := rfl
theorem f_73_15 : xi 73 15 = some (.ifCond .eq 19, 0, 0) := rfl
theorem f_73_21 : xi 73 21 = some (.invokestatic 118, 90, 534) := rfl
theorem f_73_24 : xi 73 24 = some (.ifCond .eq 10, 0, 0) := rfl
theorem f_73_28 : xi 73 28 = some (.invokevirtual 181, 97, 613) := rfl
theorem f_73_31 : xi 73 31 = some (.ifCond .ne 7, 0, 0) := rfl
theorem f_73_37 : xi 73 37 = some (.lreturn, 0, 0) := rfl
theorem f_73_39 : xi 73 39 = some (.getfield 55, 43, 493) := rfl
theorem f_73_42 : xi 73 42 = some (.getfield 190, 22, 224) := rfl
theorem f_73_46 : xi 73 46 = some (.iaload, 0, 0) := rfl
theorem f_73_50 : xi 73 50 = some (.getfield 55, 43, 493) := rfl
theorem f_73_53 : xi 73 53 = some (.getfield 193, 23, 226) := rfl
theorem f_73_57 : xi 73 57 = some (.iaload, 0, 0) := rfl
theorem f_73_64 : xi 73 64 = some (.invokestatic 249, 9998, 708) := rfl
theorem f_73_72 : xi 73 72 = some (.invokestatic 254, 9997, 709) := rfl
set_option maxRecDepth 1000000 in
theorem f_73_79 : xi 73 79 = some (.i2l, 0, 0) := rfl
set_option maxRecDepth 1000000 in
theorem f_73_87 : xi 73 87 = some (.i2l, 0, 0) := rfl
set_option maxRecDepth 1000000 in
theorem f_73_89 : xi 73 89 = some (.invokestatic 257, 107, 752) := rfl
set_option maxRecDepth 1000000 in
theorem f_73_92 : xi 73 92 = some (.lreturn, 0, 0) := rfl
theorem m_74 : xme 74 = some xe_74 := rfl
theorem f_74_1 : xi 74 1 = some (.invokestatic 167, 92, 564) := rfl
theorem f_74_4 : xi 74 4 = some (.ifCond .eq 31, 0, 0) := rfl
theorem f_74_8 : xi 74 8 = some (.invokestatic 167, 92, 564) := rfl
theorem f_74_11 : xi 74 11 = some (.ifCond .eq 24, 0, 0) := rfl
theorem f_74_16 : xi 74 16 = some (.if_icmp .eq 19, 0, 0) := rfl
theorem f_74_22 : xi 74 22 = some (.invokestatic 118, 90, 534) := rfl
theorem f_74_25 : xi 74 25 = some (.ifCond .eq 10, 0, 0) := rfl
theorem f_74_29 : xi 74 29 = some (.invokevirtual 181, 97, 613) := rfl
theorem f_74_32 : xi 74 32 = some (.ifCond .ne 7, 0, 0) := rfl
theorem f_74_38 : xi 74 38 = some (.lreturn, 0, 0) := rfl
theorem f_74_43 : xi 74 43 = some (.getfield 55, 43, 493) := rfl
theorem f_74_46 : xi 74 46 = some (.getfield 190, 22, 224) := rfl
theorem f_74_50 : xi 74 50 = some (.iaload, 0, 0) := rfl
theorem f_74_56 : xi 74 56 = some (.getfield 55, 43, 493) := rfl
theorem f_74_59 : xi 74 59 = some (.getfield 193, 23, 226) := rfl
theorem f_74_63 : xi 74 63 = some (.iaload, 0, 0) := rfl
theorem f_74_64 : xi 74 64 = some (.if_icmp .gt 47, 0, 0) := rfl
theorem f_74_71 : xi 74 71 = some (.getfield 55, 43, 493) := rfl
theorem f_74_74 : xi 74 74 = some (.getfield 193, 23, 226) := rfl
theorem f_74_78 : xi 74 78 = some (.iaload, 0, 0) := rfl
set_option maxRecDepth 1000000 in
theorem f_74_84 : xi 74 84 = some (.getfield 55, 43, 493) := rfl
set_option maxRecDepth 1000000 in
theorem f_74_87 : xi 74 87 = some (.getfield 190, 22, 224) := rfl
set_option maxRecDepth 1000000 in
theorem f_74_91 : xi 74 91 = some (.iaload, 0, 0) := rfl
set_option maxRecDepth 1000000 in
theorem f_74_92 : xi 74 92 = some (.invokestatic 254, 9997, 709) := rfl
set_option maxRecDepth 1000000 in
theorem f_74_98 : xi 74 98 = some (.invokestatic 254, 9997, 709) := rfl
set_option maxRecDepth 1000000 in
theorem f_74_101 : xi 74 101 = some (.i2l, 0, 0) := rfl
set_option maxRecDepth 1000000 in
theorem f_74_114 : xi 74 114 = some (.getfield 55, 43, 493) := rfl
set_option maxRecDepth 1000000 in
theorem f_74_118 : xi 74 118 = some (.invokevirtual 261, 40, 759) := rfl
set_option maxRecDepth 1000000 in
theorem f_74_121 : xi 74 121 = some (.i2l, 0, 0) := rfl
set_option maxRecDepth 1000000 in
theorem f_74_123 : xi 74 123 = some (.getfield 55, 43, 493) := rfl
set_option maxRecDepth 1000000 in
theorem f_74_127 : xi 74 127 = some (.invokevirtual 261, 40, 759) := rfl
set_option maxRecDepth 1000000 in
theorem f_74_130 : xi 74 130 = some (.i2l, 0, 0) := rfl
set_option maxRecDepth 1000000 in
theorem f_74_133 : xi 74 133 = some (.invokestatic 257, 107, 752) := rfl
set_option maxRecDepth 1000000 in
theorem f_74_136 : xi 74 136 = some (.lreturn, 0, 0) := rfl
theorem m_75 : xme 75 = some xe_75 := rfl
theorem f_75_2 : xi 75 2 = some (.invokevirtual 263, 108, 767) := rfl
theorem f_75_7 : xi 75 7 = some (.ifCond .eq 5, 0, 0) := rfl
theorem f_75_11 : xi 75 11 = some (.ireturn, 0, 0) := rfl
theorem f_75_20 : xi 75 20 = some (.getfield 10, 35, 485) := rfl
theorem f_75_23 : xi 75 23 = some (.getfield 103, 31, 133) := rfl
theorem f_75_26 : xi 75 26 = some (.if_icmp .ge 48, 0, 0) := rfl
theorem f_75_30 : xi 75 30 = some (.getfield 10, 35, 485) := rfl
theorem f_75_33 : xi 75 33 = some (.getfield 139, 30, 130) := rfl
theorem f_75_38 : xi 75 38 = some (.aaload, 0, 0) := rfl
theorem f_75_40 : xi 75 40 = some (.getfield 48, 42, 492) := rfl
theorem f_75_44 : xi 75 44 = some (.aaload, 0, 0) := rfl
theorem f_75_45 : xi 75 45 = some (.getfield 266, 17, 275) := rfl
theorem f_75_49 : xi 75 49 = some (.getfield 10, 35, 485) := rfl
theorem f_75_52 : xi 75 52 = some (.getfield 109, 33, 137) := rfl
theorem f_75_55 : xi 75 55 = some (.invokevirtual 269, 28, 774) := rfl
theorem f_75_58 : xi 75 58 = some (.ifCond .ne 10, 0, 0) := rfl
set_option maxRecDepth 1000000 in
theorem f_75_75 : xi 75 75 = some (.ireturn, 0, 0) := rfl
theorem m_76 : xme 76 = some xe_76 := rfl
theorem f_76_2 : xi 76 2 = some (.invokevirtual 263, 108, 767) := rfl
theorem f_76_7 : xi 76 7 = some (.ifCond .eq 5, 0, 0) := rfl
theorem f_76_11 : xi 76 11 = some (.ireturn, 0, 0) := rfl
theorem f_76_20 : xi 76 20 = some (.getfield 10, 35, 485) := rfl
theorem f_76_23 : xi 76 23 = some (.getfield 106, 32, 135) := rfl
theorem f_76_26 : xi 76 26 = some (.if_icmp .ge 38, 0, 0) := rfl
theorem f_76_30 : xi 76 30 = some (.getfield 25, 38, 488) := rfl
theorem f_76_35 : xi 76 35 = some (.aaload, 0, 0) := rfl
theorem f_76_37 : xi 76 37 = some (.getfield 48, 42, 492) := rfl
theorem f_76_41 : xi 76 41 = some (.aaload, 0, 0) := rfl
theorem f_76_42 : xi 76 42 = some (.getfield 266, 17, 275) := rfl
theorem f_76_45 : xi 76 45 = some (.invokevirtual 273, 3, 783) := rfl
theorem f_76_48 : xi 76 48 = some (.ifCond .ne 10, 0, 0) := rfl
theorem f_76_65 : xi 76 65 = some (.ireturn, 0, 0) := rfl
theorem m_77 : xme 77 = some xe_77 := rfl
theorem f_77_2 : xi 77 2 = some (.invokevirtual 263, 108, 767) := rfl
theorem f_77_7 : xi 77 7 = some (.ifCond .eq 5, 0, 0) := rfl
theorem f_77_11 : xi 77 11 = some (.ireturn, 0, 0) := rfl
theorem f_77_13 : xi 77 13 = some (.invokevirtual 181, 97, 613) := rfl
theorem f_77_16 : xi 77 16 = some (.ifCond .ne 6, 0, 0) := rfl
theorem f_77_21 : xi 77 21 = some (.ireturn, 0, 0) := rfl
theorem f_77_27 : xi 77 27 = some (.if_icmp .ge 46, 0, 0) := rfl
theorem f_77_31 : xi 77 31 = some (.getfield 48, 42, 492) := rfl
theorem f_77_35 : xi 77 35 = some (.aaload, 0, 0) := rfl
theorem f_77_36 : xi 77 36 = some (.getfield 266, 17, 275) := rfl
theorem f_77_40 : xi 77 40 = some (.iaload, 0, 0) := rfl
theorem f_77_42 : xi 77 42 = some (.getfield 55, 43, 493) := rfl
theorem f_77_45 : xi 77 45 = some (.getfield 190, 22, 224) := rfl
theorem f_77_49 : xi 77 49 = some (.iaload, 0, 0) := rfl
theorem f_77_51 : xi 77 51 = some (.getfield 55, 43, 493) := rfl
theorem f_77_54 : xi 77 54 = some (.getfield 193, 23, 226) := rfl
theorem f_77_58 : xi 77 58 = some (.iaload, 0, 0) := rfl
theorem f_77_59 : xi 77 59 = some (.invokestatic 118, 90, 534) := rfl
theorem f_77_62 : xi 77 62 = some (.ifCond .ne 5, 0, 0) := rfl
theorem f_77_66 : xi 77 66 = some (.ireturn, 0, 0) := rfl
set_option maxRecDepth 1000000 in
theorem f_77_74 : xi 77 74 = some (.ireturn, 0, 0) := rfl
theorem m_78 : xme 78 = some xe_78 := rfl
theorem f_78_2 : xi 78 2 = some (.invokevirtual 263, 108, 767) := rfl
theorem f_78_5 : xi 78 5 = some (.ifCond .ne 11, 0, 0) := rfl
theorem f_78_10 : xi 78 10 = some (.invokevirtual 129, 94, 552) := rfl
theorem f_78_13 : xi 78 13 = some (.ifCond .ne 7, 0, 0) := rfl
theorem f_78_19 : xi 78 19 = some (.lreturn, 0, 0) := rfl
theorem f_78_21 : xi 78 21 = some (.getfield 31, 39, 489) := rfl
theorem f_78_25 : xi 78 25 = some (.aaload, 0, 0) := rfl
theorem f_78_28 : xi 78 28 = some (.getfield 48, 42, 492) := rfl
theorem f_78_32 : xi 78 32 = some (.aaload, 0, 0) := rfl
theorem f_78_33 : xi 78 33 = some (.getfield 266, 17, 275) := rfl
theorem f_78_37 : xi 78 37 = some (.getfield 63, 45, 495) := rfl
theorem f_78_40 : xi 78 40 = some (.invokevirtual 276, 46, 698) := rfl
theorem f_78_43 : xi 78 43 = some (.i2l, 0, 0) := rfl
theorem f_78_44 : xi 78 44 = some (.lreturn, 0, 0) := rfl
theorem m_79 : xme 79 = some xe_79 := rfl
theorem f_79_2 : xi 79 2 = some (.invokevirtual 263, 108, 767) := rfl
theorem f_79_7 : xi 79 7 = some (.ifCond .eq 5, 0, 0) := rfl
theorem f_79_11 : xi 79 11 = some (.ireturn, 0, 0) := rfl
theorem f_79_20 : xi 79 20 = some (.getfield 35, 40, 490) := rfl
theorem f_79_23 : xi 79 23 = some (.if_icmp .ge 43, 0, 0) := rfl
theorem f_79_27 : xi 79 27 = some (.getfield 31, 39, 489) := rfl
theorem f_79_32 : xi 79 32 = some (.aaload, 0, 0) := rfl
theorem f_79_35 : xi 79 35 = some (.getfield 48, 42, 492) := rfl
theorem f_79_39 : xi 79 39 = some (.aaload, 0, 0) := rfl
theorem f_79_40 : xi 79 40 = some (.getfield 266, 17, 275) := rfl
theorem f_79_44 : xi 79 44 = some (.getfield 63, 45, 495) := rfl
theorem f_79_47 : xi 79 47 = some (.invokevirtual 276, 46, 698) := rfl
theorem f_79_50 : xi 79 50 = some (.ifCond .eq 10, 0, 0) := rfl
theorem f_79_67 : xi 79 67 = some (.ireturn, 0, 0) := rfl
theorem m_80 : xme 80 = some xe_80 := rfl
theorem f_80_1 : xi 80 1 = some (.invokestatic 280, 93, 771) := rfl
theorem f_80_4 : xi 80 4 = some (.ifCond .ne 6, 0, 0) := rfl
theorem f_80_9 : xi 80 9 = some (.ireturn, 0, 0) := rfl
theorem f_80_13 : xi 80 13 = some (.invokestatic 118, 90, 534) := rfl
theorem f_80_16 : xi 80 16 = some (.ifCond .ne 6, 0, 0) := rfl
theorem f_80_21 : xi 80 21 = some (.ireturn, 0, 0) := rfl
theorem f_80_23 : xi 80 23 = some (.invokevirtual 181, 97, 613) := rfl
theorem f_80_26 : xi 80 26 = some (.ifCond .ne 6, 0, 0) := rfl
theorem f_80_31 : xi 80 31 = some (.ireturn, 0, 0) := rfl
theorem f_80_33 : xi 80 33 = some (.getfield 48, 42, 492) := rfl
theorem f_80_37 : xi 80 37 = some (.aaload, 0, 0) := rfl
theorem f_80_41 : xi 80 41 = some (.invokevirtual 283, 30, 803) := rfl
theorem f_80_49 : xi 80 49 = some (.if_icmp .ge 44, 0, 0) := rfl
theorem f_80_53 : xi 80 53 = some (.getfield 48, 42, 492) := rfl
theorem f_80_57 : xi 80 57 = some (.aaload, 0, 0) := rfl
theorem f_80_60 : xi 80 60 = some (.ifCond .ne 15, 0, 0) := rfl
theorem f_80_64 : xi 80 64 = some (.getfield 55, 43, 493) := rfl
theorem f_80_67 : xi 80 67 = some (.getfield 190, 22, 224) := rfl
theorem f_80_71 : xi 80 71 = some (.iaload, 0, 0) := rfl
set_option maxRecDepth 1000000 in
theorem f_80_76 : xi 80 76 = some (.getfield 55, 43, 493) := rfl
set_option maxRecDepth 1000000 in
theorem f_80_79 : xi 80 79 = some (.getfield 193, 23, 226) := rfl
set_option maxRecDepth 1000000 in
theorem f_80_83 : xi 80 83 = some (.iaload, 0, 0) := rfl
set_option maxRecDepth 1000000 in
theorem f_80_84 : xi 80 84 = some (.invokevirtual 286, 31, 808) := rfl
set_option maxRecDepth 1000000 in
theorem f_80_95 : xi 80 95 = some (.ireturn, 0, 0) := rfl
theorem m_81 : xme 81 = some xe_81 := rfl
theorem f_81_5 : xi 81 5 = some (.invokestatic 118, 90, 534) := rfl
theorem f_81_8 : xi 81 8 = some (.ifCond .eq 13, 0, 0) := rfl
theorem f_81_15 : xi 81 15 = some (.invokestatic 118, 90, 534) := rfl
theorem f_81_18 : xi 81 18 = some (.ifCond .ne 6, 0, 0) := rfl
theorem f_81_23 : xi 81 23 = some (.ireturn, 0, 0) := rfl
theorem f_81_25 : xi 81 25 = some (.invokevirtual 181, 97, 613) := rfl
theorem f_81_28 : xi 81 28 = some (.ifCond .ne 5, 0, 0) := rfl
theorem f_81_32 : xi 81 32 = some (.ireturn, 0, 0) := rfl
theorem f_81_35 : xi 81 35 = some (.invokevirtual 290, 109, 817) := rfl
theorem f_81_41 : xi 81 41 = some (.if_icmp .ge 12, 0, 0) := rfl
theorem f_81_45 : xi 81 45 = some (.getfield 59, 44, 494) := rfl
theorem f_81_49 : xi 81 49 = some (.iaload, 0, 0) := rfl
theorem f_81_54 : xi 81 54 = some (.invokevirtual 293, 110, 823) := rfl
theorem f_81_57 : xi 81 57 = some (.ifCond .eq 7, 0, 0) := rfl
theorem f_81_65 : xi 81 65 = some (.ireturn, 0, 0) := rfl
theorem m_82 : xme 82 = some xe_82 := rfl
theorem f_82_5 : xi 82 5 = some (.invokestatic 118, 90, 534) := rfl
theorem f_82_8 : xi 82 8 = some (.ifCond .eq 29, 0, 0) := rfl
theorem f_82_15 : xi 82 15 = some (.invokestatic 118, 90, 534) := rfl
theorem f_82_18 : xi 82 18 = some (.ifCond .eq 19, 0, 0) := rfl
theorem f_82_24 : xi 82 24 = some (.invokestatic 118, 90, 534) := rfl
theorem f_82_27 : xi 82 27 = some (.ifCond .eq 10, 0, 0) := rfl
theorem f_82_31 : xi 82 31 = some (.invokevirtual 181, 97, 613) := rfl
theorem f_82_34 : xi 82 34 = some (.ifCond .ne 7, 0, 0) := rfl
theorem f_82_40 : xi 82 40 = some (.lreturn, 0, 0) := rfl
theorem f_82_50 : xi 82 50 = some (.if_icmp .ge 34, 0, 0) := rfl
theorem f_82_58 : xi 82 58 = some (.invokevirtual 290, 109, 817) := rfl
theorem f_82_64 : xi 82 64 = some (.invokevirtual 293, 110, 823) := rfl
theorem f_82_67 : xi 82 67 = some (.ifCond .eq 7, 0, 0) := rfl
set_option maxRecDepth 1000000 in
theorem f_82_86 : xi 82 86 = some (.i2l, 0, 0) := rfl
set_option maxRecDepth 1000000 in
theorem f_82_88 : xi 82 88 = some (.i2l, 0, 0) := rfl
set_option maxRecDepth 1000000 in
theorem f_82_90 : xi 82 90 = some (.invokestatic 257, 107, 752) := rfl
set_option maxRecDepth 1000000 in
theorem f_82_93 : xi 82 93 = some (.lreturn, 0, 0) := rfl
theorem m_83 : xme 83 = some xe_83 := rfl
theorem f_83_1 : xi 83 1 = some (.getfield 16, 36, 486) := rfl
theorem f_83_5 : xi 83 5 = some (.getfield 10, 35, 485) := rfl
theorem f_83_8 : xi 83 8 = some (.invokevirtual 296, 50, 835) := rfl
theorem f_83_13 : xi 83 13 = some (.putfield 19, 37, 487) := rfl
theorem f_83_17 : xi 83 17 = some (.getfield 10, 35, 485) := rfl
theorem f_83_20 : xi 83 20 = some (.getfield 103, 31, 133) := rfl
theorem f_83_23 : xi 83 23 = some (.ireturn, 0, 0) := rfl
theorem m_84 : xme 84 = some xe_84 := rfl
theorem f_84_1 : xi 84 1 = some (.getfield 19, 37, 487) := rfl
theorem f_84_4 : xi 84 4 = some (.ifCond .ne 6, 0, 0) := rfl
theorem f_84_9 : xi 84 9 = some (.ireturn, 0, 0) := rfl
theorem f_84_11 : xi 84 11 = some (.getfield 10, 35, 485) := rfl
theorem f_84_15 : xi 84 15 = some (.getfield 16, 36, 486) := rfl
theorem f_84_18 : xi 84 18 = some (.invokevirtual 296, 50, 835) := rfl
theorem f_84_22 : xi 84 22 = some (.getfield 10, 35, 485) := rfl
theorem f_84_25 : xi 84 25 = some (.getfield 103, 31, 133) := rfl
theorem f_84_28 : xi 84 28 = some (.ireturn, 0, 0) := rfl
theorem m_85 : xme 85 = some xe_85 := rfl
theorem f_85_1 : xi 85 1 = some (.invokestatic 280, 93, 771) := rfl
theorem f_85_4 : xi 85 4 = some (.ifCond .eq 12, 0, 0) := rfl
theorem f_85_10 : xi 85 10 = some (.invokestatic 118, 90, 534) := rfl
theorem f_85_13 : xi 85 13 = some (.ifCond .ne 6, 0, 0) := rfl
theorem f_85_18 : xi 85 18 = some (.ireturn, 0, 0) := rfl
theorem f_85_21 : xi 85 21 = some (.if_icmp .eq 12, 0, 0) := rfl
theorem f_85_27 : xi 85 27 = some (.if_icmp .le 6, 0, 0) := rfl
theorem f_85_32 : xi 85 32 = some (.ireturn, 0, 0) := rfl
theorem f_85_35 : xi 85 35 = some (.if_icmp .eq 10, 0, 0) := rfl
theorem f_85_39 : xi 85 39 = some (.ifCond .ge 6, 0, 0) := rfl
theorem f_85_44 : xi 85 44 = some (.ireturn, 0, 0) := rfl
theorem f_85_46 : xi 85 46 = some (.getfield 48, 42, 492) := rfl
theorem f_85_50 : xi 85 50 = some (.aaload, 0, 0) := rfl
theorem f_85_54 : xi 85 54 = some (.if_icmp .ne 7, 0, 0) := rfl
theorem f_85_62 : xi 85 62 = some (.invokevirtual 283, 30, 803) := rfl
theorem f_85_66 : xi 85 66 = some (.ireturn, 0, 0) := rfl
theorem m_86 : xme 86 = some xe_86 := rfl
theorem f_86_1 : xi 86 1 = some (.invokestatic 280, 93, 771) := rfl
theorem f_86_4 : xi 86 4 = some (.ifCond .ne 6, 0, 0) := rfl
theorem f_86_9 : xi 86 9 = some (.ireturn, 0, 0) := rfl
theorem f_86_11 : xi 86 11 = some (.getfield 48, 42, 492) := rfl
theorem f_86_15 : xi 86 15 = some (.aaload, 0, 0) := rfl
theorem f_86_16 : xi 86 16 = some (.getfield 299, 18, 277) := rfl
theorem f_86_20 : xi 86 20 = some (.if_icmp .ne 6, 0, 0) := rfl
theorem f_86_25 : xi 86 25 = some (.ireturn, 0, 0) := rfl
theorem f_86_29 : xi 86 29 = some (.getfield 48, 42, 492) := rfl
theorem f_86_33 : xi 86 33 = some (.aaload, 0, 0) := rfl
theorem f_86_34 : xi 86 34 = some (.getfield 302, 19, 279) := rfl
theorem f_86_39 : xi 86 39 = some (.invokestatic 118, 90, 534) := rfl
theorem f_86_42 : xi 86 42 = some (.ifCond .ne 6, 0, 0) := rfl
theorem f_86_47 : xi 86 47 = some (.ireturn, 0, 0) := rfl
theorem f_86_49 : xi 86 49 = some (.getfield 48, 42, 492) := rfl
theorem f_86_53 : xi 86 53 = some (.aaload, 0, 0) := rfl
theorem f_86_56 : xi 86 56 = some (.invokevirtual 286, 31, 808) := rfl
theorem f_86_60 : xi 86 60 = some (.ireturn, 0, 0) := rfl
theorem m_87 : xme 87 = some xe_87 := rfl
theorem f_87_1 : xi 87 1 = some (.invokestatic 280, 93, 771) := rfl
theorem f_87_4 : xi 87 4 = some (.ifCond .eq 10, 0, 0) := rfl
theorem f_87_8 : xi 87 8 = some (.invokestatic 280, 93, 771) := rfl
theorem f_87_11 : xi 87 11 = some (.ifCond .ne 6, 0, 0) := rfl
theorem f_87_16 : xi 87 16 = some (.ireturn, 0, 0) := rfl
theorem f_87_18 : xi 87 18 = some (.getfield 48, 42, 492) := rfl
theorem f_87_22 : xi 87 22 = some (.aaload, 0, 0) := rfl
theorem f_87_26 : xi 87 26 = some (.getfield 48, 42, 492) := rfl
theorem f_87_30 : xi 87 30 = some (.aaload, 0, 0) := rfl
theorem f_87_35 : xi 87 35 = some (.getfield 299, 18, 277) := rfl
theorem f_87_39 : xi 87 39 = some (.if_icmp .eq 12, 0, 0) := rfl
theorem f_87_44 : xi 87 44 = some (.getfield 299, 18, 277) := rfl
theorem f_87_48 : xi 87 48 = some (.if_icmp .ne 6, 0, 0) := rfl
theorem f_87_53 : xi 87 53 = some (.ireturn, 0, 0) := rfl
theorem f_87_56 : xi 87 56 = some (.getfield 299, 18, 277) := rfl
theorem f_87_61 : xi 87 61 = some (.getfield 299, 18, 277) := rfl
theorem f_87_64 : xi 87 64 = some (.if_icmp .eq 6, 0, 0) := rfl
theorem f_87_69 : xi 87 69 = some (.ireturn, 0, 0) := rfl
theorem f_87_75 : xi 87 75 = some (.invokevirtual 303, 32, 856) := rfl
theorem f_87_78 : xi 87 78 = some (.ifCond .eq 15, 0, 0) := rfl
set_option maxRecDepth 1000000 in
theorem f_87_87 : xi 87 87 = some (.invokevirtual 303, 32, 856) := rfl
set_option maxRecDepth 1000000 in
theorem f_87_90 : xi 87 90 = some (.ifCond .ne 6, 0, 0) := rfl
set_option maxRecDepth 1000000 in
theorem f_87_95 : xi 87 95 = some (.ireturn, 0, 0) := rfl
set_option maxRecDepth 1000000 in
theorem f_87_98 : xi 87 98 = some (.getfield 266, 17, 275) := rfl
set_option maxRecDepth 1000000 in
theorem f_87_104 : xi 87 104 = some (.getfield 266, 17, 275) := rfl
set_option maxRecDepth 1000000 in
theorem f_87_111 : xi 87 111 = some (.invokestatic 306, 9999, 860) := rfl
set_option maxRecDepth 1000000 in
theorem f_87_116 : xi 87 116 = some (.ireturn, 0, 0) := rfl
theorem m_88 : xme 88 = some xe_88 := rfl
theorem f_88_1 : xi 88 1 = some (.invokestatic 280, 93, 771) := rfl
theorem f_88_4 : xi 88 4 = some (.ifCond .eq 23, 0, 0) := rfl
theorem f_88_10 : xi 88 10 = some (.invokestatic 118, 90, 534) := rfl
theorem f_88_13 : xi 88 13 = some (.ifCond .eq 14, 0, 0) := rfl
theorem f_88_21 : xi 88 21 = some (.invokestatic 118, 90, 534) := rfl
theorem f_88_24 : xi 88 24 = some (.ifCond .ne 6, 0, 0) := rfl
theorem f_88_29 : xi 88 29 = some (.ireturn, 0, 0) := rfl
theorem f_88_31 : xi 88 31 = some (.getfield 48, 42, 492) := rfl
theorem f_88_35 : xi 88 35 = some (.aaload, 0, 0) := rfl
theorem f_88_40 : xi 88 40 = some (.getfield 299, 18, 277) := rfl
theorem f_88_44 : xi 88 44 = some (.if_icmp .ne 6, 0, 0) := rfl
theorem f_88_49 : xi 88 49 = some (.ireturn, 0, 0) := rfl
theorem f_88_52 : xi 88 52 = some (.getfield 299, 18, 277) := rfl
theorem f_88_56 : xi 88 56 = some (.if_icmp .eq 6, 0, 0) := rfl
theorem f_88_61 : xi 88 61 = some (.ireturn, 0, 0) := rfl
theorem f_88_72 : xi 88 72 = some (.if_icmp .ge 96, 0, 0) := rfl
set_option maxRecDepth 1000000 in
theorem f_88_79 : xi 88 79 = some (.getfield 302, 19, 279) := rfl
set_option maxRecDepth 1000000 in
theorem f_88_82 : xi 88 82 = some (.invokestatic 118, 90, 534) := rfl
set_option maxRecDepth 1000000 in
theorem f_88_85 : xi 88 85 = some (.ifCond .eq 18, 0, 0) := rfl
set_option maxRecDepth 1000000 in
theorem f_88_97 : xi 88 97 = some (.invokevirtual 303, 32, 856) := rfl
set_option maxRecDepth 1000000 in
theorem f_88_100 : xi 88 100 = some (.ifCond .ne 6, 0, 0) := rfl
set_option maxRecDepth 1000000 in
theorem f_88_105 : xi 88 105 = some (.ireturn, 0, 0) := rfl
set_option maxRecDepth 1000000 in
theorem f_88_117 : xi 88 117 = some (.getfield 266, 17, 275) := rfl
set_option maxRecDepth 1000000 in
theorem f_88_122 : xi 88 122 = some (.iaload, 0, 0) := rfl
set_option maxRecDepth 1000000 in
theorem f_88_125 : xi 88 125 = some (.getfield 266, 17, 275) := rfl
set_option maxRecDepth 1000000 in
theorem f_88_132 : xi 88 132 = some (.iaload, 0, 0) := rfl
set_option maxRecDepth 1000000 in
theorem f_88_135 : xi 88 135 = some (.getfield 266, 17, 275) := rfl
set_option maxRecDepth 1000000 in
theorem f_88_142 : xi 88 142 = some (.iaload, 0, 0) := rfl
set_option maxRecDepth 1000000 in
theorem f_88_145 : xi 88 145 = some (.getfield 266, 17, 275) := rfl
set_option maxRecDepth 1000000 in
theorem f_88_152 : xi 88 152 = some (.iaload, 0, 0) := rfl
set_option maxRecDepth 1000000 in
theorem f_88_153 : xi 88 153 = some (.invokevirtual 132, 96, 560) := rfl
set_option maxRecDepth 1000000 in
theorem f_88_156 : xi 88 156 = some (.ifCond .lt 6, 0, 0) := rfl
set_option maxRecDepth 1000000 in
theorem f_88_170 : xi 88 170 = some (.ireturn, 0, 0) := rfl
theorem m_89 : xme 89 = some xe_89 := rfl
theorem f_89_4 : xi 89 4 = some (.invokestatic 118, 90, 534) := rfl
theorem f_89_7 : xi 89 7 = some (.ifCond .ne 6, 0, 0) := rfl
theorem f_89_12 : xi 89 12 = some (.ireturn, 0, 0) := rfl
theorem f_89_17 : xi 89 17 = some (.invokestatic 118, 90, 534) := rfl
theorem f_89_20 : xi 89 20 = some (.ifCond .ne 6, 0, 0) := rfl
theorem f_89_25 : xi 89 25 = some (.ireturn, 0, 0) := rfl
theorem f_89_29 : xi 89 29 = some (.if_icmp .ge 43, 0, 0) := rfl
theorem f_89_34 : xi 89 34 = some (.invokevirtual 136, 95, 579) := rfl
theorem f_89_37 : xi 89 37 = some (.ifCond .ne 6, 0, 0) := rfl
theorem f_89_42 : xi 89 42 = some (.ireturn, 0, 0) := rfl
theorem f_89_46 : xi 89 46 = some (.if_icmp .eq 23, 0, 0) := rfl
theorem f_89_50 : xi 89 50 = some (.getfield 10, 35, 485) := rfl
theorem f_89_53 : xi 89 53 = some (.getfield 139, 30, 130) := rfl
theorem f_89_57 : xi 89 57 = some (.aaload, 0, 0) := rfl
theorem f_89_59 : xi 89 59 = some (.invokevirtual 312, 26, 869) := rfl
theorem f_89_62 : xi 89 62 = some (.ifCond .eq 7, 0, 0) := rfl
theorem f_89_71 : xi 89 71 = some (.ireturn, 0, 0) := rfl
set_option maxRecDepth 1000000 in
theorem f_89_79 : xi 89 79 = some (.getfield 10, 35, 485) := rfl
set_option maxRecDepth 1000000 in
theorem f_89_82 : xi 89 82 = some (.getfield 106, 32, 135) := rfl
set_option maxRecDepth 1000000 in
theorem f_89_85 : xi 89 85 = some (.if_icmp .lt 6, 0, 0) := rfl
set_option maxRecDepth 1000000 in
theorem f_89_90 : xi 89 90 = some (.ireturn, 0, 0) := rfl
set_option maxRecDepth 1000000 in
theorem f_89_94 : xi 89 94 = some (.if_icmp .ne 25, 0, 0) := rfl
set_option maxRecDepth 1000000 in
theorem f_89_98 : xi 89 98 = some (.getfield 25, 38, 488) := rfl
set_option maxRecDepth 1000000 in
theorem f_89_102 : xi 89 102 = some (.aaload, 0, 0) := rfl
set_option maxRecDepth 1000000 in
theorem f_89_103 : xi 89 103 = some (.getfield 180, 3, 258) := rfl
set_option maxRecDepth 1000000 in
theorem f_89_107 : xi 89 107 = some (.getfield 25, 38, 488) := rfl
set_option maxRecDepth 1000000 in
theorem f_89_111 : xi 89 111 = some (.aaload, 0, 0) := rfl
set_option maxRecDepth 1000000 in
theorem f_89_112 : xi 89 112 = some (.getfield 179, 2, 255) := rfl
set_option maxRecDepth 1000000 in
theorem f_89_121 : xi 89 121 = some (.ireturn, 0, 0) := rfl
theorem m_90 : xme 90 = some xe_90 := rfl
theorem f_90_2 : xi 90 2 = some (.if_icmp .gt 12, 0, 0) := rfl
theorem f_90_7 : xi 90 7 = some (.if_icmp .gt 7, 0, 0) := rfl
theorem f_90_15 : xi 90 15 = some (.ireturn, 0, 0) := rfl
theorem m_91 : xme 91 = some xe_91 := rfl
theorem f_91_5 : xi 91 5 = some (.invokestatic 118, 90, 534) := rfl
theorem f_91_8 : xi 91 8 = some (.ireturn, 0, 0) := rfl
theorem m_92 : xme 92 = some xe_92 := rfl
theorem f_92_3 : xi 92 3 = some (.invokestatic 118, 90, 534) := rfl
theorem f_92_6 : xi 92 6 = some (.ireturn, 0, 0) := rfl
theorem m_93 : xme 93 = some xe_93 := rfl
theorem f_93_3 : xi 93 3 = some (.invokestatic 118, 90, 534) := rfl
theorem f_93_6 : xi 93 6 = some (.ireturn, 0, 0) := rfl
theorem m_94 : xme 94 = some xe_94 := rfl
theorem f_94_3 : xi 94 3 = some (.getfield 35, 40, 490) := rfl
theorem f_94_8 : xi 94 8 = some (.invokestatic 118, 90, 534) := rfl
theorem f_94_11 : xi 94 11 = some (.ireturn, 0, 0) := rfl
theorem m_95 : xme 95 = some xe_95 := rfl
theorem f_95_3 : xi 95 3 = some (.getfield 10, 35, 485) := rfl
theorem f_95_6 : xi 95 6 = some (.getfield 103, 31, 133) := rfl
theorem f_95_11 : xi 95 11 = some (.invokestatic 118, 90, 534) := rfl
theorem f_95_14 : xi 95 14 = some (.ireturn, 0, 0) := rfl
theorem m_96 : xme 96 = some xe_96 := rfl
theorem f_96_4 : xi 96 4 = some (.invokestatic 118, 90, 534) := rfl
theorem f_96_7 : xi 96 7 = some (.ifCond .eq 39, 0, 0) := rfl
theorem f_96_11 : xi 96 11 = some (.invokestatic 167, 92, 564) := rfl
theorem f_96_14 : xi 96 14 = some (.ifCond .eq 32, 0, 0) := rfl
theorem f_96_22 : xi 96 22 = some (.invokestatic 118, 90, 534) := rfl
theorem f_96_25 : xi 96 25 = some (.ifCond .eq 21, 0, 0) := rfl
theorem f_96_34 : xi 96 34 = some (.invokestatic 118, 90, 534) := rfl
theorem f_96_37 : xi 96 37 = some (.ifCond .eq 9, 0, 0) := rfl
theorem f_96_43 : xi 96 43 = some (.if_icmp .le 6, 0, 0) := rfl
theorem f_96_48 : xi 96 48 = some (.ireturn, 0, 0) := rfl
theorem f_96_50 : xi 96 50 = some (.getfield 10, 35, 485) := rfl
theorem f_96_53 : xi 96 53 = some (.getfield 103, 31, 133) := rfl
theorem f_96_58 : xi 96 58 = some (.if_icmp .lt 6, 0, 0) := rfl
theorem f_96_63 : xi 96 63 = some (.ireturn, 0, 0) := rfl
theorem f_96_65 : xi 96 65 = some (.getfield 10, 35, 485) := rfl
theorem f_96_68 : xi 96 68 = some (.getfield 139, 30, 130) := rfl
theorem f_96_72 : xi 96 72 = some (.getfield 10, 35, 485) := rfl
theorem f_96_75 : xi 96 75 = some (.getfield 103, 31, 133) := rfl
theorem f_96_78 : xi 96 78 = some (.aaload, 0, 0) := rfl
set_option maxRecDepth 1000000 in
theorem f_96_84 : xi 96 84 = some (.invokevirtual 315, 22, 567) := rfl
set_option maxRecDepth 1000000 in
theorem f_96_88 : xi 96 88 = some (.getfield 10, 35, 485) := rfl
set_option maxRecDepth 1000000 in
theorem f_96_92 : xi 96 92 = some (.getfield 103, 31, 133) := rfl
set_option maxRecDepth 1000000 in
theorem f_96_97 : xi 96 97 = some (.putfield 103, 31, 133) := rfl
set_option maxRecDepth 1000000 in
theorem f_96_101 : xi 96 101 = some (.getfield 10, 35, 485) := rfl
set_option maxRecDepth 1000000 in
theorem f_96_104 : xi 96 104 = some (.getfield 103, 31, 133) := rfl
set_option maxRecDepth 1000000 in
theorem f_96_109 : xi 96 109 = some (.ireturn, 0, 0) := rfl
theorem m_97 : xme 97 = some xe_97 := rfl
theorem f_97_1 : xi 97 1 = some (.getfield 55, 43, 493) := rfl
theorem f_97_5 : xi 97 5 = some (.getfield 25, 38, 488) := rfl
theorem f_97_9 : xi 97 9 = some (.getfield 10, 35, 485) := rfl
theorem f_97_12 : xi 97 12 = some (.getfield 106, 32, 135) := rfl
theorem f_97_16 : xi 97 16 = some (.invokevirtual 205, 35, 617) := rfl
theorem f_97_21 : xi 97 21 = some (.invokevirtual 214, 98, 630) := rfl
theorem f_97_24 : xi 97 24 = some (.ireturn, 0, 0) := rfl
theorem m_98 : xme 98 = some xe_98 := rfl
theorem f_98_1 : xi 98 1 = some (.getfield 55, 43, 493) := rfl
theorem f_98_5 : xi 98 5 = some (.getfield 10, 35, 485) := rfl
theorem f_98_9 : xi 98 9 = some (.invokevirtual 245, 34, 634) := rfl
theorem f_98_13 : xi 98 13 = some (.getfield 55, 43, 493) := rfl
theorem f_98_16 : xi 98 16 = some (.invokevirtual 217, 38, 644) := rfl
theorem f_98_19 : xi 98 19 = some (.ireturn, 0, 0) := rfl
theorem m_99 : xme 99 = some xe_99 := rfl
theorem f_99_2 : xi 99 2 = some (.invokevirtual 316, 100, 694) := rfl
theorem f_99_9 : xi 99 9 = some (.getfield 59, 44, 494) := rfl
theorem f_99_13 : xi 99 13 = some (.getfield 63, 45, 495) := rfl
theorem f_99_16 : xi 99 16 = some (.invokevirtual 276, 46, 698) := rfl
theorem f_99_19 : xi 99 19 = some (.putfield 66, 46, 496) := rfl
theorem f_99_24 : xi 99 24 = some (.getfield 66, 46, 496) := rfl
theorem f_99_27 : xi 99 27 = some (.putfield 69, 47, 497) := rfl
theorem f_99_35 : xi 99 35 = some (.if_icmp .ge 63, 0, 0) := rfl
theorem f_99_40 : xi 99 40 = some (.getfield 319, 29, 172) := rfl
theorem f_99_46 : xi 99 46 = some (.ifCond .ne 46, 0, 0) := rfl
theorem f_99_51 : xi 99 51 = some (.invokevirtual 316, 100, 694) := rfl
theorem f_99_57 : xi 99 57 = some (.getfield 59, 44, 494) := rfl
theorem f_99_61 : xi 99 61 = some (.getfield 63, 45, 495) := rfl
theorem f_99_64 : xi 99 64 = some (.invokevirtual 276, 46, 698) := rfl
set_option maxRecDepth 1000000 in
theorem f_99_70 : xi 99 70 = some (.getfield 66, 46, 496) := rfl
set_option maxRecDepth 1000000 in
theorem f_99_74 : xi 99 74 = some (.invokestatic 249, 9998, 708) := rfl
set_option maxRecDepth 1000000 in
theorem f_99_77 : xi 99 77 = some (.putfield 66, 46, 496) := rfl
set_option maxRecDepth 1000000 in
theorem f_99_82 : xi 99 82 = some (.getfield 69, 47, 497) := rfl
set_option maxRecDepth 1000000 in
theorem f_99_86 : xi 99 86 = some (.invokestatic 254, 9997, 709) := rfl
set_option maxRecDepth 1000000 in
theorem f_99_89 : xi 99 89 = some (.putfield 69, 47, 497) := rfl
set_option maxRecDepth 1000000 in
theorem f_99_99 : xi 99 99 = some (.getfield 69, 47, 497) := rfl
set_option maxRecDepth 1000000 in
theorem f_99_102 : xi 99 102 = some (.i2l, 0, 0) := rfl
set_option maxRecDepth 1000000 in
theorem f_99_104 : xi 99 104 = some (.getfield 66, 46, 496) := rfl
set_option maxRecDepth 1000000 in
theorem f_99_107 : xi 99 107 = some (.i2l, 0, 0) := rfl
set_option maxRecDepth 1000000 in
theorem f_99_109 : xi 99 109 = some (.lreturn, 0, 0) := rfl
theorem m_100 : xme 100 = some xe_100 := rfl
theorem f_100_5 : xi 100 5 = some (.if_icmp .ge 44, 0, 0) := rfl
theorem f_100_9 : xi 100 9 = some (.getfield 59, 44, 494) := rfl
theorem f_100_18 : xi 100 18 = some (.ifCond .ne 15, 0, 0) := rfl
theorem f_100_22 : xi 100 22 = some (.getfield 55, 43, 493) := rfl
theorem f_100_25 : xi 100 25 = some (.getfield 190, 22, 224) := rfl
theorem f_100_29 : xi 100 29 = some (.iaload, 0, 0) := rfl
theorem f_100_34 : xi 100 34 = some (.getfield 55, 43, 493) := rfl
theorem f_100_37 : xi 100 37 = some (.getfield 193, 23, 226) := rfl
theorem f_100_41 : xi 100 41 = some (.iaload, 0, 0) := rfl
theorem f_100_42 : xi 100 42 = some (.iastore, 0, 0) := rfl
theorem f_100_49 : xi 100 49 = some (.return_, 0, 0) := rfl
theorem m_101 : xme 101 = some xe_101 := rfl
theorem f_101_2 : xi 101 2 = some (.invokevirtual 316, 100, 694) := rfl
theorem f_101_6 : xi 101 6 = some (.getfield 31, 39, 489) := rfl
theorem f_101_10 : xi 101 10 = some (.getfield 10, 35, 485) := rfl
theorem f_101_13 : xi 101 13 = some (.getfield 112, 34, 140) := rfl
theorem f_101_16 : xi 101 16 = some (.aaload, 0, 0) := rfl
theorem f_101_19 : xi 101 19 = some (.getfield 59, 44, 494) := rfl
theorem f_101_23 : xi 101 23 = some (.getfield 63, 45, 495) := rfl
theorem f_101_26 : xi 101 26 = some (.invokevirtual 276, 46, 698) := rfl
theorem f_101_34 : xi 101 34 = some (.invokestatic 249, 9998, 708) := rfl
theorem f_101_37 : xi 101 37 = some (.invokestatic 254, 9997, 709) := rfl
theorem f_101_40 : xi 101 40 = some (.ireturn, 0, 0) := rfl
theorem m_102 : xme 102 = some xe_102 := rfl
theorem f_102_1 : xi 102 1 = some (.invokevirtual 226, 101, 714) := rfl
theorem f_102_6 : xi 102 6 = some (.ifCond .ne 7, 0, 0) := rfl
theorem f_102_16 : xi 102 16 = some (.idiv, 0, 0) := rfl
theorem f_102_17 : xi 102 17 = some (.invokestatic 249, 9998, 708) := rfl
theorem f_102_20 : xi 102 20 = some (.ireturn, 0, 0) := rfl
theorem m_103 : xme 103 = some xe_103 := rfl
theorem f_103_10 : xi 103 10 = some (.if_icmp .ge 29, 0, 0) := rfl
theorem f_103_16 : xi 103 16 = some (.irem, 0, 0) := rfl
theorem f_103_18 : xi 103 18 = some (.if_icmp .le 5, 0, 0) := rfl
theorem f_103_22 : xi 103 22 = some (.ireturn, 0, 0) := rfl
theorem f_103_26 : xi 103 26 = some (.irem, 0, 0) := rfl
theorem f_103_31 : xi 103 31 = some (.idiv, 0, 0) := rfl
theorem f_103_40 : xi 103 40 = some (.ireturn, 0, 0) := rfl
theorem m_104 : xme 104 = some xe_104 := rfl
theorem f_104_1 : xi 104 1 = some (.getfield 59, 44, 494) := rfl
theorem f_104_5 : xi 104 5 = some (.invokestatic 322, 204, 736) := rfl
theorem f_104_16 : xi 104 16 = some (.if_icmp .ge 27, 0, 0) := rfl
theorem f_104_20 : xi 104 20 = some (.getfield 59, 44, 494) := rfl
theorem f_104_26 : xi 104 26 = some (.irem, 0, 0) := rfl
theorem f_104_28 : xi 104 28 = some (.iaload, 0, 0) := rfl
theorem f_104_31 : xi 104 31 = some (.iastore, 0, 0) := rfl
theorem f_104_35 : xi 104 35 = some (.idiv, 0, 0) := rfl
theorem f_104_44 : xi 104 44 = some (.getfield 55, 43, 493) := rfl
theorem f_104_48 : xi 104 48 = some (.getfield 10, 35, 485) := rfl
theorem f_104_52 : xi 104 52 = some (.invokevirtual 245, 34, 634) := rfl
theorem f_104_62 : xi 104 62 = some (.if_icmp .ge 55, 0, 0) := rfl
theorem f_104_66 : xi 104 66 = some (.getfield 55, 43, 493) := rfl
theorem f_104_69 : xi 104 69 = some (.getfield 184, 20, 220) := rfl
set_option maxRecDepth 1000000 in
theorem f_104_75 : xi 104 75 = some (.iaload, 0, 0) := rfl
set_option maxRecDepth 1000000 in
theorem f_104_77 : xi 104 77 = some (.getfield 59, 44, 494) := rfl
set_option maxRecDepth 1000000 in
theorem f_104_82 : xi 104 82 = some (.iaload, 0, 0) := rfl
set_option maxRecDepth 1000000 in
theorem f_104_84 : xi 104 84 = some (.idiv, 0, 0) := rfl
set_option maxRecDepth 1000000 in
theorem f_104_86 : xi 104 86 = some (.iastore, 0, 0) := rfl
set_option maxRecDepth 1000000 in
theorem f_104_88 : xi 104 88 = some (.getfield 55, 43, 493) := rfl
set_option maxRecDepth 1000000 in
theorem f_104_91 : xi 104 91 = some (.getfield 187, 21, 222) := rfl
set_option maxRecDepth 1000000 in
theorem f_104_97 : xi 104 97 = some (.iaload, 0, 0) := rfl
set_option maxRecDepth 1000000 in
theorem f_104_99 : xi 104 99 = some (.getfield 59, 44, 494) := rfl
set_option maxRecDepth 1000000 in
theorem f_104_104 : xi 104 104 = some (.iaload, 0, 0) := rfl
set_option maxRecDepth 1000000 in
theorem f_104_108 : xi 104 108 = some (.idiv, 0, 0) := rfl
set_option maxRecDepth 1000000 in
theorem f_104_110 : xi 104 110 = some (.iastore, 0, 0) := rfl
set_option maxRecDepth 1000000 in
theorem f_104_118 : xi 104 118 = some (.getfield 55, 43, 493) := rfl
set_option maxRecDepth 1000000 in
theorem f_104_121 : xi 104 121 = some (.invokevirtual 217, 38, 644) := rfl
set_option maxRecDepth 1000000 in
theorem f_104_124 : xi 104 124 = some (.ireturn, 0, 0) := rfl
theorem m_105 : xme 105 = some xe_105 := rfl
theorem f_105_13 : xi 105 13 = some (.if_icmp .ge 33, 0, 0) := rfl
theorem f_105_22 : xi 105 22 = some (.irem, 0, 0) := rfl
theorem f_105_31 : xi 105 31 = some (.idiv, 0, 0) := rfl
theorem f_105_47 : xi 105 47 = some (.ireturn, 0, 0) := rfl
theorem m_106 : xme 106 = some xe_106 := rfl
theorem f_106_6 : xi 106 6 = some (.if_icmp .ge 13, 0, 0) := rfl
theorem f_106_20 : xi 106 20 = some (.ireturn, 0, 0) := rfl
theorem m_107 : xme 107 = some xe_107 := rfl
theorem f_107_13 : xi 107 13 = some (.if_icmp .ge 31, 0, 0) := rfl
theorem f_107_19 : xi 107 19 = some (.lcmp, 0, 0) := rfl
theorem f_107_20 : xi 107 20 = some (.ifCond .eq 24, 0, 0) := rfl
theorem f_107_27 : xi 107 27 = some (.lrem, 0, 0) := rfl
theorem f_107_46 : xi 107 46 = some (.ifCond .ne 7, 0, 0) := rfl
theorem f_107_59 : xi 107 59 = some (.lcmp, 0, 0) := rfl
theorem f_107_60 : xi 107 60 = some (.ifCond .le 11, 0, 0) := rfl
theorem f_107_67 : xi 107 67 = some (.ldiv, 0, 0) := rfl
theorem f_107_73 : xi 107 73 = some (.lreturn, 0, 0) := rfl
theorem m_108 : xme 108 = some xe_108 := rfl
theorem f_108_1 : xi 108 1 = some (.invokestatic 280, 93, 771) := rfl
theorem f_108_4 : xi 108 4 = some (.ifCond .ne 6, 0, 0) := rfl
theorem f_108_9 : xi 108 9 = some (.ireturn, 0, 0) := rfl
theorem f_108_11 : xi 108 11 = some (.getfield 48, 42, 492) := rfl
theorem f_108_15 : xi 108 15 = some (.aaload, 0, 0) := rfl
theorem f_108_16 : xi 108 16 = some (.getfield 299, 18, 277) := rfl
theorem f_108_20 : xi 108 20 = some (.if_icmp .ne 6, 0, 0) := rfl
theorem f_108_25 : xi 108 25 = some (.ireturn, 0, 0) := rfl
theorem f_108_27 : xi 108 27 = some (.getfield 48, 42, 492) := rfl
theorem f_108_31 : xi 108 31 = some (.aaload, 0, 0) := rfl
theorem f_108_32 : xi 108 32 = some (.getfield 302, 19, 279) := rfl
theorem f_108_37 : xi 108 37 = some (.if_icmp .ne 7, 0, 0) := rfl
theorem f_108_46 : xi 108 46 = some (.ireturn, 0, 0) := rfl
theorem m_109 : xme 109 = some xe_109 := rfl
theorem f_109_3 : xi 109 3 = some (.i2l, 0, 0) := rfl
theorem f_109_12 : xi 109 12 = some (.if_icmp .ge 54, 0, 0) := rfl
theorem f_109_23 : xi 109 23 = some (.lrem, 0, 0) := rfl
theorem f_109_26 : xi 109 26 = some (.getfield 59, 44, 494) := rfl
theorem f_109_32 : xi 109 32 = some (.getfield 55, 43, 493) := rfl
theorem f_109_35 : xi 109 35 = some (.getfield 190, 22, 224) := rfl
theorem f_109_40 : xi 109 40 = some (.iaload, 0, 0) := rfl
theorem f_109_44 : xi 109 44 = some (.getfield 55, 43, 493) := rfl
theorem f_109_49 : xi 109 49 = some (.invokevirtual 261, 40, 759) := rfl
theorem f_109_52 : xi 109 52 = some (.invokestatic 254, 9997, 709) := rfl
theorem f_109_55 : xi 109 55 = some (.i2l, 0, 0) := rfl
theorem f_109_56 : xi 109 56 = some (.lrem, 0, 0) := rfl
theorem f_109_59 : xi 109 59 = some (.iastore, 0, 0) := rfl
theorem f_109_66 : xi 109 66 = some (.return_, 0, 0) := rfl
theorem m_110 : xme 110 = some xe_110 := rfl
theorem f_110_1 : xi 110 1 = some (.getfield 31, 39, 489) := rfl
theorem f_110_5 : xi 110 5 = some (.getfield 10, 35, 485) := rfl
theorem f_110_8 : xi 110 8 = some (.getfield 112, 34, 140) := rfl
theorem f_110_11 : xi 110 11 = some (.aaload, 0, 0) := rfl
theorem f_110_14 : xi 110 14 = some (.getfield 59, 44, 494) := rfl
theorem f_110_18 : xi 110 18 = some (.getfield 63, 45, 495) := rfl
theorem f_110_21 : xi 110 21 = some (.invokevirtual 276, 46, 698) := rfl
theorem f_110_24 : xi 110 24 = some (.ifCond .eq 7, 0, 0) := rfl
theorem f_110_32 : xi 110 32 = some (.ireturn, 0, 0) := rfl
theorem m_111 : xme 111 = some xe_111 := rfl
theorem f_111_9 : xi 111 9 = some (.putfield 7, 49, 929) := rfl
theorem f_111_17 : xi 111 17 = some (.putfield 13, 51, 931) := rfl
theorem f_111_26 : xi 111 26 = some (.putfield 16, 53, 933) := rfl
theorem f_111_35 : xi 111 35 = some (.putfield 19, 55, 935) := rfl
theorem f_111_43 : xi 111 43 = some (.putfield 22, 56, 936) := rfl
theorem f_111_51 : xi 111 51 = some (.putfield 25, 64, 944) := rfl
theorem f_111_61 : xi 111 61 = some (.iastore, 0, 0) := rfl
theorem f_111_65 : xi 111 65 = some (.iastore, 0, 0) := rfl
theorem f_111_69 : xi 111 69 = some (.iastore, 0, 0) := rfl
set_option maxRecDepth 1000000 in
theorem f_111_73 : xi 111 73 = some (.iastore, 0, 0) := rfl
set_option maxRecDepth 1000000 in
theorem f_111_74 : xi 111 74 = some (.putfield 28, 65, 945) := rfl
set_option maxRecDepth 1000000 in
theorem f_111_81 : xi 111 81 = some (.putfield 31, 66, 946) := rfl
set_option maxRecDepth 1000000 in
theorem f_111_90 : xi 111 90 = some (.putfield 34, 67, 947) := rfl
set_option maxRecDepth 1000000 in
theorem f_111_102 : xi 111 102 = some (.iastore, 0, 0) := rfl
set_option maxRecDepth 1000000 in
theorem f_111_107 : xi 111 107 = some (.iastore, 0, 0) := rfl
set_option maxRecDepth 1000000 in
theorem f_111_112 : xi 111 112 = some (.iastore, 0, 0) := rfl
set_option maxRecDepth 1000000 in
theorem f_111_117 : xi 111 117 = some (.iastore, 0, 0) := rfl
set_option maxRecDepth 1000000 in
theorem f_111_122 : xi 111 122 = some (.iastore, 0, 0) := rfl
set_option maxRecDepth 1000000 in
theorem f_111_127 : xi 111 127 = some (.iastore, 0, 0) := rfl
set_option maxRecDepth 1000000 in
theorem f_111_133 : xi 111 133 = some (.iastore, 0, 0) := rfl
set_option maxRecDepth 1000000 in
theorem f_111_139 : xi 111 139 = some (.iastore, 0, 0) := rfl
set_option maxRecDepth 1000000 in
theorem f_111_145 : xi 111 145 = some (.iastore, 0, 0) := rfl
set_option maxRecDepth 1000000 in
theorem f_111_151 : xi 111 151 = some (.iastore, 0, 0) := rfl
set_option maxRecDepth 1000000 in
theorem f_111_157 : xi 111 157 = some (.iastore, 0, 0) := rfl
set_option maxRecDepth 1000000 in
theorem f_111_163 : xi 111 163 = some (.iastore, 0, 0) := rfl
set_option maxRecDepth 1000000 in
theorem f_111_169 : xi 111 169 = some (.iastore, 0, 0) := rfl
set_option maxRecDepth 1000000 in
theorem f_111_175 : xi 111 175 = some (.iastore, 0, 0) := rfl
set_option maxRecDepth 1000000 in
theorem f_111_181 : xi 111 181 = some (.iastore, 0, 0) := rfl
set_option maxRecDepth 1000000 in
theorem f_111_187 : xi 111 187 = some (.iastore, 0, 0) := rfl
set_option maxRecDepth 1000000 in
theorem f_111_193 : xi 111 193 = some (.iastore, 0, 0) := rfl
set_option maxRecDepth 1000000 in
theorem f_111_199 : xi 111 199 = some (.iastore, 0, 0) := rfl
set_option maxRecDepth 1000000 in
theorem f_111_205 : xi 111 205 = some (.iastore, 0, 0) := rfl
set_option maxRecDepth 1000000 in
theorem f_111_211 : xi 111 211 = some (.iastore, 0, 0) := rfl
set_option maxRecDepth 1000000 in
theorem f_111_217 : xi 111 217 = some (.iastore, 0, 0) := rfl
set_option maxRecDepth 1000000 in
theorem f_111_223 : xi 111 223 = some (.iastore, 0, 0) := rfl
set_option maxRecDepth 1000000 in
theorem f_111_229 : xi 111 229 = some (.iastore, 0, 0) := rfl
set_option maxRecDepth 1000000 in
theorem f_111_235 : xi 111 235 = some (.iastore, 0, 0) := rfl
set_option maxRecDepth 1000000 in
theorem f_111_241 : xi 111 241 = some (.iastore, 0, 0) := rfl
set_option maxRecDepth 1000000 in
theorem f_111_247 : xi 111 247 = some (.iastore, 0, 0) := rfl
set_option maxRecDepth 1000000 in
theorem f_111_253 : xi 111 253 = some (.iastore, 0, 0) := rfl
set_option maxRecDepth 1000000 in
theorem f_111_259 : xi 111 259 = some (.iastore, 0, 0) := rfl
set_option maxRecDepth 1000000 in
theorem f_111_265 : xi 111 265 = some (.iastore, 0, 0) := rfl
set_option maxRecDepth 1000000 in
theorem f_111_271 : xi 111 271 = some (.iastore, 0, 0) := rfl
set_option maxRecDepth 1000000 in
theorem f_111_277 : xi 111 277 = some (.iastore, 0, 0) := rfl
set_option maxRecDepth 1000000 in
theorem f_111_283 : xi 111 283 = some (.iastore, 0, 0) := rfl
set_option maxRecDepth 1000000 in
theorem f_111_289 : xi 111 289 = some (.iastore, 0, 0) := rfl
set_option maxRecDepth 1000000 in
theorem f_111_295 : xi 111 295 = some (.iastore, 0, 0) := rfl
set_option maxRecDepth 1000000 in
theorem f_111_301 : xi 111 301 = some (.iastore, 0, 0) := rfl
set_option maxRecDepth 1000000 in
theorem f_111_302 : xi 111 302 = some (.putfield 37, 68, 948) := rfl
set_option maxRecDepth 1000000 in
theorem f_111_314 : xi 111 314 = some (.iastore, 0, 0) := rfl
set_option maxRecDepth 1000000 in
theorem f_111_319 : xi 111 319 = some (.iastore, 0, 0) := rfl
set_option maxRecDepth 1000000 in
theorem f_111_324 : xi 111 324 = some (.iastore, 0, 0) := rfl
set_option maxRecDepth 1000000 in
theorem f_111_329 : xi 111 329 = some (.iastore, 0, 0) := rfl
set_option maxRecDepth 1000000 in
theorem f_111_334 : xi 111 334 = some (.iastore, 0, 0) := rfl
set_option maxRecDepth 1000000 in
theorem f_111_339 : xi 111 339 = some (.iastore, 0, 0) := rfl
set_option maxRecDepth 1000000 in
theorem f_111_345 : xi 111 345 = some (.iastore, 0, 0) := rfl
set_option maxRecDepth 1000000 in
theorem f_111_351 : xi 111 351 = some (.iastore, 0, 0) := rfl
set_option maxRecDepth 1000000 in
theorem f_111_357 : xi 111 357 = some (.iastore, 0, 0) := rfl
set_option maxRecDepth 1000000 in
theorem f_111_363 : xi 111 363 = some (.iastore, 0, 0) := rfl
set_option maxRecDepth 1000000 in
theorem f_111_369 : xi 111 369 = some (.iastore, 0, 0) := rfl
set_option maxRecDepth 1000000 in
theorem f_111_375 : xi 111 375 = some (.iastore, 0, 0) := rfl
set_option maxRecDepth 1000000 in
theorem f_111_381 : xi 111 381 = some (.iastore, 0, 0) := rfl
set_option maxRecDepth 1000000 in
theorem f_111_387 : xi 111 387 = some (.iastore, 0, 0) := rfl
set_option maxRecDepth 1000000 in
theorem f_111_393 : xi 111 393 = some (.iastore, 0, 0) := rfl
set_option maxRecDepth 1000000 in
theorem f_111_399 : xi 111 399 = some (.iastore, 0, 0) := rfl
set_option maxRecDepth 1000000 in
theorem f_111_405 : xi 111 405 = some (.iastore, 0, 0) := rfl
set_option maxRecDepth 1000000 in
theorem f_111_411 : xi 111 411 = some (.iastore, 0, 0) := rfl
set_option maxRecDepth 1000000 in
theorem f_111_417 : xi 111 417 = some (.iastore, 0, 0) := rfl
set_option maxRecDepth 1000000 in
theorem f_111_423 : xi 111 423 = some (.iastore, 0, 0) := rfl
set_option maxRecDepth 1000000 in
theorem f_111_429 : xi 111 429 = some (.iastore, 0, 0) := rfl
set_option maxRecDepth 1000000 in
theorem f_111_435 : xi 111 435 = some (.iastore, 0, 0) := rfl
set_option maxRecDepth 1000000 in
theorem f_111_441 : xi 111 441 = some (.iastore, 0, 0) := rfl
set_option maxRecDepth 1000000 in
theorem f_111_447 : xi 111 447 = some (.iastore, 0, 0) := rfl
set_option maxRecDepth 1000000 in
theorem f_111_453 : xi 111 453 = some (.iastore, 0, 0) := rfl
set_option maxRecDepth 1000000 in
theorem f_111_459 : xi 111 459 = some (.iastore, 0, 0) := rfl
set_option maxRecDepth 1000000 in
theorem f_111_465 : xi 111 465 = some (.iastore, 0, 0) := rfl
set_option maxRecDepth 1000000 in
theorem f_111_471 : xi 111 471 = some (.iastore, 0, 0) := rfl
set_option maxRecDepth 1000000 in
theorem f_111_477 : xi 111 477 = some (.iastore, 0, 0) := rfl
set_option maxRecDepth 1000000 in
theorem f_111_483 : xi 111 483 = some (.iastore, 0, 0) := rfl
set_option maxRecDepth 1000000 in
theorem f_111_489 : xi 111 489 = some (.iastore, 0, 0) := rfl
set_option maxRecDepth 1000000 in
theorem f_111_495 : xi 111 495 = some (.iastore, 0, 0) := rfl
set_option maxRecDepth 1000000 in
theorem f_111_501 : xi 111 501 = some (.iastore, 0, 0) := rfl
set_option maxRecDepth 1000000 in
theorem f_111_507 : xi 111 507 = some (.iastore, 0, 0) := rfl
set_option maxRecDepth 1000000 in
theorem f_111_513 : xi 111 513 = some (.iastore, 0, 0) := rfl
set_option maxRecDepth 1000000 in
theorem f_111_519 : xi 111 519 = some (.iastore, 0, 0) := rfl
set_option maxRecDepth 1000000 in
theorem f_111_525 : xi 111 525 = some (.iastore, 0, 0) := rfl
set_option maxRecDepth 1000000 in
theorem f_111_531 : xi 111 531 = some (.iastore, 0, 0) := rfl
set_option maxRecDepth 1000000 in
theorem f_111_537 : xi 111 537 = some (.iastore, 0, 0) := rfl
set_option maxRecDepth 1000000 in
theorem f_111_543 : xi 111 543 = some (.iastore, 0, 0) := rfl
set_option maxRecDepth 1000000 in
theorem f_111_549 : xi 111 549 = some (.iastore, 0, 0) := rfl
set_option maxRecDepth 1000000 in
theorem f_111_555 : xi 111 555 = some (.iastore, 0, 0) := rfl
set_option maxRecDepth 1000000 in
theorem f_111_561 : xi 111 561 = some (.iastore, 0, 0) := rfl
set_option maxRecDepth 1000000 in
theorem f_111_567 : xi 111 567 = some (.iastore, 0, 0) := rfl
set_option maxRecDepth 1000000 in
theorem f_111_573 : xi 111 573 = some (.iastore, 0, 0) := rfl
set_option maxRecDepth 1000000 in
theorem f_111_579 : xi 111 579 = some (.iastore, 0, 0) := rfl
set_option maxRecDepth 1000000 in
theorem f_111_585 : xi 111 585 = some (.iastore, 0, 0) := rfl
set_option maxRecDepth 1000000 in
theorem f_111_591 : xi 111 591 = some (.iastore, 0, 0) := rfl
set_option maxRecDepth 1000000 in
theorem f_111_597 : xi 111 597 = some (.iastore, 0, 0) := rfl
set_option maxRecDepth 1000000 in
theorem f_111_603 : xi 111 603 = some (.iastore, 0, 0) := rfl
set_option maxRecDepth 1000000 in
theorem f_111_609 : xi 111 609 = some (.iastore, 0, 0) := rfl
set_option maxRecDepth 1000000 in
theorem f_111_615 : xi 111 615 = some (.iastore, 0, 0) := rfl
set_option maxRecDepth 1000000 in
theorem f_111_621 : xi 111 621 = some (.iastore, 0, 0) := rfl
set_option maxRecDepth 1000000 in
theorem f_111_627 : xi 111 627 = some (.iastore, 0, 0) := rfl
set_option maxRecDepth 1000000 in
theorem f_111_633 : xi 111 633 = some (.iastore, 0, 0) := rfl
set_option maxRecDepth 1000000 in
theorem f_111_639 : xi 111 639 = some (.iastore, 0, 0) := rfl
set_option maxRecDepth 1000000 in
theorem f_111_645 : xi 111 645 = some (.iastore, 0, 0) := rfl
set_option maxRecDepth 1000000 in
theorem f_111_651 : xi 111 651 = some (.iastore, 0, 0) := rfl
set_option maxRecDepth 1000000 in
theorem f_111_657 : xi 111 657 = some (.iastore, 0, 0) := rfl
set_option maxRecDepth 1000000 in
theorem f_111_663 : xi 111 663 = some (.iastore, 0, 0) := rfl
set_option maxRecDepth 1000000 in
theorem f_111_669 : xi 111 669 = some (.iastore, 0, 0) := rfl
set_option maxRecDepth 1000000 in
theorem f_111_675 : xi 111 675 = some (.iastore, 0, 0) := rfl
set_option maxRecDepth 1000000 in
theorem f_111_681 : xi 111 681 = some (.iastore, 0, 0) := rfl
set_option maxRecDepth 1000000 in
theorem f_111_687 : xi 111 687 = some (.iastore, 0, 0) := rfl
set_option maxRecDepth 1000000 in
theorem f_111_693 : xi 111 693 = some (.iastore, 0, 0) := rfl
set_option maxRecDepth 1000000 in
theorem f_111_699 : xi 111 699 = some (.iastore, 0, 0) := rfl
set_option maxRecDepth 1000000 in
theorem f_111_705 : xi 111 705 = some (.iastore, 0, 0) := rfl
set_option maxRecDepth 1000000 in
theorem f_111_711 : xi 111 711 = some (.iastore, 0, 0) := rfl
set_option maxRecDepth 1000000 in
theorem f_111_717 : xi 111 717 = some (.iastore, 0, 0) := rfl
set_option maxRecDepth 1000000 in
theorem f_111_723 : xi 111 723 = some (.iastore, 0, 0) := rfl
set_option maxRecDepth 1000000 in
theorem f_111_729 : xi 111 729 = some (.iastore, 0, 0) := rfl
set_option maxRecDepth 1000000 in
theorem f_111_735 : xi 111 735 = some (.iastore, 0, 0) := rfl
set_option maxRecDepth 1000000 in
theorem f_111_741 : xi 111 741 = some (.iastore, 0, 0) := rfl
set_option maxRecDepth 1000000 in
theorem f_111_747 : xi 111 747 = some (.iastore, 0, 0) := rfl
set_option maxRecDepth 1000000 in
theorem f_111_753 : xi 111 753 = some (.iastore, 0, 0) := rfl
set_option maxRecDepth 1000000 in
theorem f_111_759 : xi 111 759 = some (.iastore, 0, 0) := rfl
set_option maxRecDepth 1000000 in
theorem f_111_765 : xi 111 765 = some (.iastore, 0, 0) := rfl
set_option maxRecDepth 1000000 in
theorem f_111_771 : xi 111 771 = some (.iastore, 0, 0) := rfl
set_option maxRecDepth 1000000 in
theorem f_111_777 : xi 111 777 = some (.iastore, 0, 0) := rfl
set_option maxRecDepth 1000000 in
theorem f_111_783 : xi 111 783 = some (.iastore, 0, 0) := rfl
set_option maxRecDepth 1000000 in
theorem f_111_789 : xi 111 789 = some (.iastore, 0, 0) := rfl
set_option maxRecDepth 1000000 in
theorem f_111_795 : xi 111 795 = some (.iastore, 0, 0) := rfl
set_option maxRecDepth 1000000 in
theorem f_111_801 : xi 111 801 = some (.iastore, 0, 0) := rfl
set_option maxRecDepth 1000000 in
theorem f_111_807 : xi 111 807 = some (.iastore, 0, 0) := rfl
set_option maxRecDepth 1000000 in
theorem f_111_813 : xi 111 813 = some (.iastore, 0, 0) := rfl
set_option maxRecDepth 1000000 in
theorem f_111_819 : xi 111 819 = some (.iastore, 0, 0) := rfl
set_option maxRecDepth 1000000 in
theorem f_111_825 : xi 111 825 = some (.iastore, 0, 0) := rfl
set_option maxRecDepth 1000000 in
theorem f_111_831 : xi 111 831 = some (.iastore, 0, 0) := rfl
set_option maxRecDepth 1000000 in
theorem f_111_837 : xi 111 837 = some (.iastore, 0, 0) := rfl
set_option maxRecDepth 1000000 in
theorem f_111_843 : xi 111 843 = some (.iastore, 0, 0) := rfl
set_option maxRecDepth 1000000 in
theorem f_111_849 : xi 111 849 = some (.iastore, 0, 0) := rfl
set_option maxRecDepth 1000000 in
theorem f_111_855 : xi 111 855 = some (.iastore, 0, 0) := rfl
set_option maxRecDepth 1000000 in
theorem f_111_861 : xi 111 861 = some (.iastore, 0, 0) := rfl
set_option maxRecDepth 1000000 in
theorem f_111_867 : xi 111 867 = some (.iastore, 0, 0) := rfl
set_option maxRecDepth 1000000 in
theorem f_111_873 : xi 111 873 = some (.iastore, 0, 0) := rfl
set_option maxRecDepth 1000000 in
theorem f_111_879 : xi 111 879 = some (.iastore, 0, 0) := rfl
set_option maxRecDepth 1000000 in
theorem f_111_880 : xi 111 880 = some (.putfield 40, 73, 953) := rfl
set_option maxRecDepth 1000000 in
theorem f_111_889 : xi 111 889 = some (.putfield 43, 74, 954) := rfl
set_option maxRecDepth 1000000 in
theorem f_111_898 : xi 111 898 = some (.putfield 46, 78, 958) := rfl
set_option maxRecDepth 1000000 in
theorem f_111_906 : xi 111 906 = some (.putfield 49, 79, 959) := rfl
set_option maxRecDepth 1000000 in
theorem f_111_914 : xi 111 914 = some (.putfield 52, 80, 960) := rfl
set_option maxRecDepth 1000000 in
theorem f_111_922 : xi 111 922 = some (.putfield 55, 81, 961) := rfl
set_option maxRecDepth 1000000 in
theorem f_111_930 : xi 111 930 = some (.putfield 58, 82, 962) := rfl
set_option maxRecDepth 1000000 in
theorem f_111_937 : xi 111 937 = some (.putfield 61, 85, 965) := rfl
set_option maxRecDepth 1000000 in
theorem f_111_945 : xi 111 945 = some (.if_icmp .ge 21, 0, 0) := rfl
set_option maxRecDepth 1000000 in
theorem f_111_949 : xi 111 949 = some (.getfield 16, 53, 933) := rfl
set_option maxRecDepth 1000000 in
theorem f_111_954 : xi 111 954 = some (.getfield 37, 68, 948) := rfl
set_option maxRecDepth 1000000 in
theorem f_111_958 : xi 111 958 = some (.iaload, 0, 0) := rfl
set_option maxRecDepth 1000000 in
theorem f_111_959 : xi 111 959 = some (.iastore, 0, 0) := rfl
set_option maxRecDepth 1000000 in
theorem f_111_969 : xi 111 969 = some (.putfield 64, 54, 934) := rfl
set_option maxRecDepth 1000000 in
theorem f_111_973 : xi 111 973 = some (.invokevirtual 68, 132, 881) := rfl
set_option maxRecDepth 1000000 in
theorem f_111_977 : xi 111 977 = some (.return_, 0, 0) := rfl
theorem m_112 : xme 112 = some xe_112 := rfl
theorem f_112_2 : xi 112 2 = some (.if_icmp .lt 12, 0, 0) := rfl
theorem f_112_7 : xi 112 7 = some (.if_icmp .gt 7, 0, 0) := rfl
theorem f_112_15 : xi 112 15 = some (.ireturn, 0, 0) := rfl
theorem m_113 : xme 113 = some xe_113 := rfl
theorem f_113_2 : xi 113 2 = some (.if_icmp .ge 7, 0, 0) := rfl
theorem f_113_11 : xi 113 11 = some (.if_icmp .le 7, 0, 0) := rfl
theorem f_113_19 : xi 113 19 = some (.ireturn, 0, 0) := rfl
theorem m_114 : xme 114 = some xe_114 := rfl
theorem f_114_3 : xi 114 3 = some (.getfield 72, 48, 928) := rfl
theorem f_114_8 : xi 114 8 = some (.invokestatic 75, 112, 889) := rfl
theorem f_114_11 : xi 114 11 = some (.ireturn, 0, 0) := rfl
theorem m_115 : xme 115 = some xe_115 := rfl
theorem f_115_3 : xi 115 3 = some (.invokestatic 75, 112, 889) := rfl
theorem f_115_6 : xi 115 6 = some (.ireturn, 0, 0) := rfl
theorem m_116 : xme 116 = some xe_116 := rfl
theorem f_116_3 : xi 116 3 = some (.getfield 79, 57, 937) := rfl
theorem f_116_8 : xi 116 8 = some (.invokestatic 75, 112, 889) := rfl
theorem f_116_11 : xi 116 11 = some (.ireturn, 0, 0) := rfl
theorem m_117 : xme 117 = some xe_117 := rfl
theorem f_117_7 : xi 117 7 = some (.if_icmp .ge 17, 0, 0) := rfl
theorem f_117_25 : xi 117 25 = some (.ireturn, 0, 0) := rfl
theorem m_118 : xme 118 = some xe_118 := rfl
theorem f_118_1 : xi 118 1 = some (.tableswitch 69 0 5 #[39, 44, 49, 54, 59, 64], 0, 0) := rfl
theorem f_118_41 : xi 118 41 = some (.getfield 72, 48, 928) := rfl
theorem f_118_44 : xi 118 44 = some (.ireturn, 0, 0) := rfl
theorem f_118_46 : xi 118 46 = some (.getfield 82, 50, 930) := rfl
theorem f_118_49 : xi 118 49 = some (.ireturn, 0, 0) := rfl
theorem f_118_51 : xi 118 51 = some (.getfield 85, 52, 932) := rfl
theorem f_118_54 : xi 118 54 = some (.ireturn, 0, 0) := rfl
theorem f_118_56 : xi 118 56 = some (.getfield 79, 57, 937) := rfl
theorem f_118_59 : xi 118 59 = some (.ireturn, 0, 0) := rfl
theorem f_118_61 : xi 118 61 = some (.getfield 88, 58, 938) := rfl
theorem f_118_64 : xi 118 64 = some (.ireturn, 0, 0) := rfl
theorem f_118_66 : xi 118 66 = some (.getfield 64, 54, 934) := rfl
theorem f_118_69 : xi 118 69 = some (.ireturn, 0, 0) := rfl
theorem f_118_72 : xi 118 72 = some (.ireturn, 0, 0) := rfl
theorem m_119 : xme 119 = some xe_119 := rfl
theorem f_119_4 : xi 119 4 = some (.invokestatic 75, 112, 889) := rfl
theorem f_119_7 : xi 119 7 = some (.ifCond .ne 6, 0, 0) := rfl
theorem f_119_12 : xi 119 12 = some (.ireturn, 0, 0) := rfl
theorem f_119_14 : xi 119 14 = some (.getfield 85, 52, 932) := rfl
theorem f_119_20 : xi 119 20 = some (.putfield 85, 52, 932) := rfl
theorem f_119_24 : xi 119 24 = some (.ireturn, 0, 0) := rfl
theorem m_120 : xme 120 = some xe_120 := rfl
theorem f_120_5 : xi 120 5 = some (.invokestatic 75, 112, 889) := rfl
theorem f_120_8 : xi 120 8 = some (.ireturn, 0, 0) := rfl
theorem m_121 : xme 121 = some xe_121 := rfl
theorem f_121_3 : xi 121 3 = some (.invokestatic 75, 112, 889) := rfl
theorem f_121_6 : xi 121 6 = some (.ifCond .eq 41, 0, 0) := rfl
theorem f_121_10 : xi 121 10 = some (.invokestatic 91, 120, 1055) := rfl
theorem f_121_13 : xi 121 13 = some (.ifCond .eq 34, 0, 0) := rfl
theorem f_121_17 : xi 121 17 = some (.invokestatic 91, 120, 1055) := rfl
theorem f_121_20 : xi 121 20 = some (.ifCond .eq 27, 0, 0) := rfl
theorem f_121_25 : xi 121 25 = some (.invokestatic 91, 120, 1055) := rfl
theorem f_121_28 : xi 121 28 = some (.ifCond .eq 19, 0, 0) := rfl
theorem f_121_33 : xi 121 33 = some (.invokestatic 91, 120, 1055) := rfl
theorem f_121_36 : xi 121 36 = some (.ifCond .eq 11, 0, 0) := rfl
theorem f_121_41 : xi 121 41 = some (.invokestatic 91, 120, 1055) := rfl
theorem f_121_44 : xi 121 44 = some (.ifCond .ne 6, 0, 0) := rfl
theorem f_121_49 : xi 121 49 = some (.ireturn, 0, 0) := rfl
theorem f_121_51 : xi 121 51 = some (.getfield 64, 54, 934) := rfl
theorem f_121_59 : xi 121 59 = some (.if_icmp .le 6, 0, 0) := rfl
theorem f_121_64 : xi 121 64 = some (.ireturn, 0, 0) := rfl
theorem f_121_71 : xi 121 71 = some (.if_icmp .ge 71, 0, 0) := rfl
theorem f_121_75 : xi 121 75 = some (.getfield 16, 53, 933) := rfl
theorem f_121_79 : xi 121 79 = some (.getfield 64, 54, 934) := rfl
theorem f_121_84 : xi 121 84 = some (.ifCond .ne 7, 0, 0) := rfl
set_option maxRecDepth 1000000 in
theorem f_121_94 : xi 121 94 = some (.if_icmp .ne 7, 0, 0) := rfl
set_option maxRecDepth 1000000 in
theorem f_121_104 : xi 121 104 = some (.if_icmp .ne 8, 0, 0) := rfl
set_option maxRecDepth 1000000 in
theorem f_121_115 : xi 121 115 = some (.if_icmp .ne 8, 0, 0) := rfl
set_option maxRecDepth 1000000 in
theorem f_121_125 : xi 121 125 = some (.iastore, 0, 0) := rfl
set_option maxRecDepth 1000000 in
theorem f_121_128 : xi 121 128 = some (.getfield 64, 54, 934) := rfl
set_option maxRecDepth 1000000 in
theorem f_121_133 : xi 121 133 = some (.putfield 64, 54, 934) := rfl
set_option maxRecDepth 1000000 in
theorem f_121_143 : xi 121 143 = some (.getfield 64, 54, 934) := rfl
set_option maxRecDepth 1000000 in
theorem f_121_146 : xi 121 146 = some (.ireturn, 0, 0) := rfl
theorem m_122 : xme 122 = some xe_122 := rfl
theorem f_122_5 : xi 122 5 = some (.if_icmp .ge 96, 0, 0) := rfl
theorem f_122_13 : xi 122 13 = some (.if_icmp .gt 7, 0, 0) := rfl
theorem f_122_30 : xi 122 30 = some (.if_icmp .ge 58, 0, 0) := rfl
theorem f_122_35 : xi 122 35 = some (.ifCond .eq 53, 0, 0) := rfl
theorem f_122_39 : xi 122 39 = some (.getfield 40, 73, 953) := rfl
theorem f_122_49 : xi 122 49 = some (.iaload, 0, 0) := rfl
theorem f_122_55 : xi 122 55 = some (.if_icmp .ge 15, 0, 0) := rfl
theorem f_122_59 : xi 122 59 = some (.getfield 16, 53, 933) := rfl
theorem f_122_66 : xi 122 66 = some (.iaload, 0, 0) := rfl
set_option maxRecDepth 1000000 in
theorem f_122_72 : xi 122 72 = some (.if_icmp .ne 7, 0, 0) := rfl
set_option maxRecDepth 1000000 in
theorem f_122_90 : xi 122 90 = some (.ifCond .eq 5, 0, 0) := rfl
set_option maxRecDepth 1000000 in
theorem f_122_94 : xi 122 94 = some (.ireturn, 0, 0) := rfl
set_option maxRecDepth 1000000 in
theorem f_122_103 : xi 122 103 = some (.ireturn, 0, 0) := rfl
theorem m_123 : xme 123 = some xe_123 := rfl
theorem f_123_1 : xi 123 1 = some (.getfield 95, 69, 949) := rfl
theorem f_123_5 : xi 123 5 = some (.getfield 64, 54, 934) := rfl
theorem f_123_8 : xi 123 8 = some (.if_icmp .ge 44, 0, 0) := rfl
theorem f_123_12 : xi 123 12 = some (.getfield 16, 53, 933) := rfl
theorem f_123_16 : xi 123 16 = some (.getfield 95, 69, 949) := rfl
theorem f_123_19 : xi 123 19 = some (.iaload, 0, 0) := rfl
theorem f_123_22 : xi 123 22 = some (.if_icmp .eq 17, 0, 0) := rfl
theorem f_123_26 : xi 123 26 = some (.getfield 16, 53, 933) := rfl
theorem f_123_30 : xi 123 30 = some (.getfield 95, 69, 949) := rfl
theorem f_123_33 : xi 123 33 = some (.iaload, 0, 0) := rfl
theorem f_123_36 : xi 123 36 = some (.if_icmp .ne 16, 0, 0) := rfl
theorem f_123_41 : xi 123 41 = some (.getfield 95, 69, 949) := rfl
theorem f_123_46 : xi 123 46 = some (.putfield 95, 69, 949) := rfl
theorem f_123_54 : xi 123 54 = some (.getfield 95, 69, 949) := rfl
theorem f_123_57 : xi 123 57 = some (.putfield 98, 70, 950) := rfl
theorem f_123_62 : xi 123 62 = some (.putfield 101, 71, 951) := rfl
theorem f_123_67 : xi 123 67 = some (.putfield 104, 72, 952) := rfl
theorem f_123_71 : xi 123 71 = some (.getfield 95, 69, 949) := rfl
theorem f_123_75 : xi 123 75 = some (.getfield 64, 54, 934) := rfl
theorem f_123_78 : xi 123 78 = some (.if_icmp .ne 4, 0, 0) := rfl
set_option maxRecDepth 1000000 in
theorem f_123_81 : xi 123 81 = some (.return_, 0, 0) := rfl
set_option maxRecDepth 1000000 in
theorem f_123_83 : xi 123 83 = some (.getfield 16, 53, 933) := rfl
set_option maxRecDepth 1000000 in
theorem f_123_87 : xi 123 87 = some (.getfield 95, 69, 949) := rfl
set_option maxRecDepth 1000000 in
theorem f_123_90 : xi 123 90 = some (.iaload, 0, 0) := rfl
set_option maxRecDepth 1000000 in
theorem f_123_97 : xi 123 97 = some (.invokestatic 75, 112, 889) := rfl
set_option maxRecDepth 1000000 in
theorem f_123_100 : xi 123 100 = some (.ifCond .eq 117, 0, 0) := rfl
set_option maxRecDepth 1000000 in
theorem f_123_104 : xi 123 104 = some (.getfield 95, 69, 949) := rfl
set_option maxRecDepth 1000000 in
theorem f_123_108 : xi 123 108 = some (.getfield 64, 54, 934) := rfl
set_option maxRecDepth 1000000 in
theorem f_123_111 : xi 123 111 = some (.if_icmp .ge 35, 0, 0) := rfl
set_option maxRecDepth 1000000 in
theorem f_123_115 : xi 123 115 = some (.getfield 16, 53, 933) := rfl
set_option maxRecDepth 1000000 in
theorem f_123_119 : xi 123 119 = some (.getfield 95, 69, 949) := rfl
set_option maxRecDepth 1000000 in
theorem f_123_122 : xi 123 122 = some (.iaload, 0, 0) := rfl
set_option maxRecDepth 1000000 in
theorem f_123_127 : xi 123 127 = some (.invokestatic 75, 112, 889) := rfl
set_option maxRecDepth 1000000 in
theorem f_123_130 : xi 123 130 = some (.ifCond .eq 16, 0, 0) := rfl
set_option maxRecDepth 1000000 in
theorem f_123_135 : xi 123 135 = some (.getfield 95, 69, 949) := rfl
set_option maxRecDepth 1000000 in
theorem f_123_140 : xi 123 140 = some (.putfield 95, 69, 949) := rfl
set_option maxRecDepth 1000000 in
theorem f_123_148 : xi 123 148 = some (.getfield 98, 70, 950) := rfl
set_option maxRecDepth 1000000 in
theorem f_123_152 : xi 123 152 = some (.getfield 95, 69, 949) := rfl
set_option maxRecDepth 1000000 in
theorem f_123_155 : xi 123 155 = some (.invokevirtual 107, 122, 892) := rfl
set_option maxRecDepth 1000000 in
theorem f_123_162 : xi 123 162 = some (.if_icmp .ge 7, 0, 0) := rfl
set_option maxRecDepth 1000000 in
theorem f_123_172 : xi 123 172 = some (.if_icmp .ge 7, 0, 0) := rfl
set_option maxRecDepth 1000000 in
theorem f_123_182 : xi 123 182 = some (.if_icmp .ne 7, 0, 0) := rfl
set_option maxRecDepth 1000000 in
theorem f_123_195 : xi 123 195 = some (.putfield 101, 71, 951) := rfl
set_option maxRecDepth 1000000 in
theorem f_123_201 : xi 123 201 = some (.if_icmp .ge 7, 0, 0) := rfl
set_option maxRecDepth 1000000 in
theorem f_123_211 : xi 123 211 = some (.putfield 104, 72, 952) := rfl
set_option maxRecDepth 1000000 in
theorem f_123_222 : xi 123 222 = some (.invokestatic 75, 112, 889) := rfl
set_option maxRecDepth 1000000 in
theorem f_123_225 : xi 123 225 = some (.ifCond .eq 101, 0, 0) := rfl
set_option maxRecDepth 1000000 in
theorem f_123_231 : xi 123 231 = some (.getfield 95, 69, 949) := rfl
set_option maxRecDepth 1000000 in
theorem f_123_235 : xi 123 235 = some (.getfield 64, 54, 934) := rfl
set_option maxRecDepth 1000000 in
theorem f_123_238 : xi 123 238 = some (.if_icmp .ge 71, 0, 0) := rfl
set_option maxRecDepth 1000000 in
theorem f_123_242 : xi 123 242 = some (.getfield 16, 53, 933) := rfl
set_option maxRecDepth 1000000 in
theorem f_123_246 : xi 123 246 = some (.getfield 95, 69, 949) := rfl
set_option maxRecDepth 1000000 in
theorem f_123_249 : xi 123 249 = some (.iaload, 0, 0) := rfl
set_option maxRecDepth 1000000 in
theorem f_123_254 : xi 123 254 = some (.invokestatic 75, 112, 889) := rfl
set_option maxRecDepth 1000000 in
theorem f_123_257 : xi 123 257 = some (.ifCond .eq 52, 0, 0) := rfl
set_option maxRecDepth 1000000 in
theorem f_123_263 : xi 123 263 = some (.if_icmp .ge 26, 0, 0) := rfl
set_option maxRecDepth 1000000 in
theorem f_123_269 : xi 123 269 = some (.getfield 104, 72, 952) := rfl
set_option maxRecDepth 1000000 in
theorem f_123_274 : xi 123 274 = some (.getfield 16, 53, 933) := rfl
set_option maxRecDepth 1000000 in
theorem f_123_278 : xi 123 278 = some (.getfield 95, 69, 949) := rfl
set_option maxRecDepth 1000000 in
theorem f_123_281 : xi 123 281 = some (.iaload, 0, 0) := rfl
set_option maxRecDepth 1000000 in
theorem f_123_290 : xi 123 290 = some (.putfield 104, 72, 952) := rfl
set_option maxRecDepth 1000000 in
theorem f_123_298 : xi 123 298 = some (.getfield 95, 69, 949) := rfl
set_option maxRecDepth 1000000 in
theorem f_123_303 : xi 123 303 = some (.putfield 95, 69, 949) := rfl
set_option maxRecDepth 1000000 in
theorem f_123_312 : xi 123 312 = some (.if_icmp .le 7, 0, 0) := rfl
set_option maxRecDepth 1000000 in
theorem f_123_320 : xi 123 320 = some (.putfield 101, 71, 951) := rfl
set_option maxRecDepth 1000000 in
theorem f_123_329 : xi 123 329 = some (.if_icmp .eq 45, 0, 0) := rfl
set_option maxRecDepth 1000000 in
theorem f_123_335 : xi 123 335 = some (.if_icmp .eq 39, 0, 0) := rfl
set_option maxRecDepth 1000000 in
theorem f_123_341 : xi 123 341 = some (.if_icmp .eq 33, 0, 0) := rfl
set_option maxRecDepth 1000000 in
theorem f_123_347 : xi 123 347 = some (.if_icmp .eq 27, 0, 0) := rfl
set_option maxRecDepth 1000000 in
theorem f_123_353 : xi 123 353 = some (.if_icmp .eq 21, 0, 0) := rfl
set_option maxRecDepth 1000000 in
theorem f_123_359 : xi 123 359 = some (.if_icmp .eq 15, 0, 0) := rfl
set_option maxRecDepth 1000000 in
theorem f_123_365 : xi 123 365 = some (.if_icmp .eq 9, 0, 0) := rfl
set_option maxRecDepth 1000000 in
theorem f_123_371 : xi 123 371 = some (.if_icmp .ne 7, 0, 0) := rfl
set_option maxRecDepth 1000000 in
theorem f_123_382 : xi 123 382 = some (.ifCond .eq 7, 0, 0) := rfl
set_option maxRecDepth 1000000 in
theorem f_123_390 : xi 123 390 = some (.putfield 101, 71, 951) := rfl
set_option maxRecDepth 1000000 in
theorem f_123_395 : xi 123 395 = some (.getfield 95, 69, 949) := rfl
set_option maxRecDepth 1000000 in
theorem f_123_400 : xi 123 400 = some (.putfield 95, 69, 949) := rfl
set_option maxRecDepth 1000000 in
theorem f_123_403 : xi 123 403 = some (.return_, 0, 0) := rfl
theorem m_124 : xme 124 = some xe_124 := rfl
theorem f_124_1 : xi 124 1 = some (.ifCond .ne 7, 0, 0) := rfl
theorem f_124_11 : xi 124 11 = some (.if_icmp .ne 7, 0, 0) := rfl
theorem f_124_21 : xi 124 21 = some (.if_icmp .ne 7, 0, 0) := rfl
theorem f_124_31 : xi 124 31 = some (.if_icmp .ne 7, 0, 0) := rfl
theorem f_124_41 : xi 124 41 = some (.if_icmp .gt 7, 0, 0) := rfl
theorem f_124_51 : xi 124 51 = some (.if_icmp .gt 7, 0, 0) := rfl
theorem f_124_61 : xi 124 61 = some (.if_icmp .ne 8, 0, 0) := rfl
theorem f_124_71 : xi 124 71 = some (.ireturn, 0, 0) := rfl
theorem m_125 : xme 125 = some xe_125 := rfl
theorem f_125_1 : xi 125 1 = some (.getfield 19, 55, 935) := rfl
theorem f_125_8 : xi 125 8 = some (.getfield 79, 57, 937) := rfl
theorem f_125_13 : xi 125 13 = some (.getfield 111, 77, 957) := rfl
theorem f_125_18 : xi 125 18 = some (.iastore, 0, 0) := rfl
theorem f_125_21 : xi 125 21 = some (.getfield 111, 77, 957) := rfl
theorem f_125_26 : xi 125 26 = some (.putfield 111, 77, 957) := rfl
theorem f_125_29 : xi 125 29 = some (.return_, 0, 0) := rfl
theorem m_126 : xme 126 = some xe_126 := rfl
theorem f_126_1 : xi 126 1 = some (.getfield 114, 75, 955) := rfl
theorem f_126_4 : xi 126 4 = some (.ifCond .le 75, 0, 0) := rfl
theorem f_126_8 : xi 126 8 = some (.getfield 43, 74, 954) := rfl
theorem f_126_12 : xi 126 12 = some (.getfield 114, 75, 955) := rfl
theorem f_126_17 : xi 126 17 = some (.iaload, 0, 0) := rfl
theorem f_126_18 : xi 126 18 = some (.invokestatic 117, 124, 909) := rfl
theorem f_126_22 : xi 126 22 = some (.if_icmp .lt 57, 0, 0) := rfl
theorem f_126_27 : xi 126 27 = some (.getfield 114, 75, 955) := rfl
theorem f_126_32 : xi 126 32 = some (.putfield 114, 75, 955) := rfl
theorem f_126_36 : xi 126 36 = some (.getfield 43, 74, 954) := rfl
theorem f_126_40 : xi 126 40 = some (.getfield 114, 75, 955) := rfl
theorem f_126_43 : xi 126 43 = some (.iaload, 0, 0) := rfl
theorem f_126_47 : xi 126 47 = some (.getfield 121, 76, 956) := rfl
theorem f_126_53 : xi 126 53 = some (.if_icmp .eq 9, 0, 0) := rfl
theorem f_126_59 : xi 126 59 = some (.if_icmp .ne 7, 0, 0) := rfl
theorem f_126_68 : xi 126 68 = some (.putfield 121, 76, 956) := rfl
set_option maxRecDepth 1000000 in
theorem f_126_73 : xi 126 73 = some (.invokevirtual 124, 125, 901) := rfl
set_option maxRecDepth 1000000 in
theorem f_126_79 : xi 126 79 = some (.return_, 0, 0) := rfl
theorem m_127 : xme 127 = some xe_127 := rfl
theorem f_127_1 : xi 127 1 = some (.getfield 43, 74, 954) := rfl
theorem f_127_5 : xi 127 5 = some (.getfield 114, 75, 955) := rfl
theorem f_127_9 : xi 127 9 = some (.iastore, 0, 0) := rfl
theorem f_127_12 : xi 127 12 = some (.getfield 114, 75, 955) := rfl
theorem f_127_17 : xi 127 17 = some (.putfield 114, 75, 955) := rfl
theorem f_127_20 : xi 127 20 = some (.return_, 0, 0) := rfl
theorem m_128 : xme 128 = some xe_128 := rfl
theorem f_128_1 : xi 128 1 = some (.getfield 121, 76, 956) := rfl
theorem f_128_5 : xi 128 5 = some (.if_icmp .ne 5, 0, 0) := rfl
theorem f_128_9 : xi 128 9 = some (.ireturn, 0, 0) := rfl
theorem f_128_12 : xi 128 12 = some (.getfield 121, 76, 956) := rfl
theorem f_128_17 : xi 128 17 = some (.putfield 121, 76, 956) := rfl
theorem f_128_22 : xi 128 22 = some (.invokevirtual 128, 127, 916) := rfl
theorem f_128_26 : xi 128 26 = some (.ireturn, 0, 0) := rfl
theorem m_129 : xme 129 = some xe_129 := rfl
theorem f_129_2 : xi 129 2 = some (.invokestatic 117, 124, 909) := rfl
theorem f_129_6 : xi 129 6 = some (.if_icmp .ne 7, 0, 0) := rfl
theorem f_129_14 : xi 129 14 = some (.invokestatic 117, 124, 909) := rfl
theorem f_129_17 : xi 129 17 = some (.invokevirtual 131, 126, 905) := rfl
theorem f_129_21 : xi 129 21 = some (.invokestatic 117, 124, 909) := rfl
theorem f_129_25 : xi 129 25 = some (.if_icmp .ne 30, 0, 0) := rfl
theorem f_129_29 : xi 129 29 = some (.getfield 114, 75, 955) := rfl
theorem f_129_32 : xi 129 32 = some (.ifCond .le 23, 0, 0) := rfl
theorem f_129_36 : xi 129 36 = some (.getfield 43, 74, 954) := rfl
theorem f_129_40 : xi 129 40 = some (.getfield 114, 75, 955) := rfl
theorem f_129_45 : xi 129 45 = some (.iaload, 0, 0) := rfl
theorem f_129_46 : xi 129 46 = some (.invokestatic 117, 124, 909) := rfl
theorem f_129_50 : xi 129 50 = some (.if_icmp .ne 5, 0, 0) := rfl
theorem f_129_54 : xi 129 54 = some (.ireturn, 0, 0) := rfl
theorem f_129_57 : xi 129 57 = some (.invokevirtual 128, 127, 916) := rfl
theorem f_129_61 : xi 129 61 = some (.ireturn, 0, 0) := rfl
theorem m_130 : xme 130 = some xe_130 := rfl
theorem f_130_1 : xi 130 1 = some (.getfield 101, 71, 951) := rfl
theorem f_130_5 : xi 130 5 = some (.if_icmp .ne 8, 0, 0) := rfl
theorem f_130_14 : xi 130 14 = some (.getfield 101, 71, 951) := rfl
theorem f_130_18 : xi 130 18 = some (.if_icmp .ne 8, 0, 0) := rfl
theorem f_130_27 : xi 130 27 = some (.getfield 101, 71, 951) := rfl
theorem f_130_32 : xi 130 32 = some (.if_icmp .ne 8, 0, 0) := rfl
theorem f_130_41 : xi 130 41 = some (.getfield 101, 71, 951) := rfl
theorem f_130_46 : xi 130 46 = some (.if_icmp .ne 8, 0, 0) := rfl
theorem f_130_55 : xi 130 55 = some (.getfield 101, 71, 951) := rfl
theorem f_130_60 : xi 130 60 = some (.if_icmp .ne 8, 0, 0) := rfl
theorem f_130_69 : xi 130 69 = some (.getfield 101, 71, 951) := rfl
theorem f_130_74 : xi 130 74 = some (.if_icmp .ne 8, 0, 0) := rfl
theorem f_130_83 : xi 130 83 = some (.getfield 101, 71, 951) := rfl
theorem f_130_88 : xi 130 88 = some (.if_icmp .ne 8, 0, 0) := rfl
set_option maxRecDepth 1000000 in
theorem f_130_97 : xi 130 97 = some (.ireturn, 0, 0) := rfl
theorem m_131 : xme 131 = some xe_131 := rfl
theorem f_131_2 : xi 131 2 = some (.putfield 114, 75, 955) := rfl
theorem f_131_7 : xi 131 7 = some (.putfield 121, 76, 956) := rfl
theorem f_131_15 : xi 131 15 = some (.invokevirtual 134, 123, 885) := rfl
theorem f_131_19 : xi 131 19 = some (.ifCond .eq 131, 0, 0) := rfl
theorem f_131_23 : xi 131 23 = some (.getfield 101, 71, 951) := rfl
theorem f_131_27 : xi 131 27 = some (.if_icmp .eq 11, 0, 0) := rfl
theorem f_131_31 : xi 131 31 = some (.getfield 101, 71, 951) := rfl
theorem f_131_35 : xi 131 35 = some (.if_icmp .ne 40, 0, 0) := rfl
theorem f_131_40 : xi 131 40 = some (.getfield 101, 71, 951) := rfl
theorem f_131_44 : xi 131 44 = some (.if_icmp .ne 13, 0, 0) := rfl
theorem f_131_50 : xi 131 50 = some (.getfield 104, 72, 952) := rfl
theorem f_131_58 : xi 131 58 = some (.getfield 104, 72, 952) := rfl
theorem f_131_61 : xi 131 61 = some (.invokevirtual 124, 125, 901) := rfl
theorem f_131_67 : xi 131 67 = some (.invokevirtual 131, 126, 905) := rfl
set_option maxRecDepth 1000000 in
theorem f_131_76 : xi 131 76 = some (.getfield 101, 71, 951) := rfl
set_option maxRecDepth 1000000 in
theorem f_131_81 : xi 131 81 = some (.if_icmp .ne 18, 0, 0) := rfl
set_option maxRecDepth 1000000 in
theorem f_131_85 : xi 131 85 = some (.ifCond .eq 14, 0, 0) := rfl
set_option maxRecDepth 1000000 in
theorem f_131_91 : xi 131 91 = some (.invokevirtual 138, 128, 912) := rfl
set_option maxRecDepth 1000000 in
theorem f_131_94 : xi 131 94 = some (.ifCond .ne (-80), 0, 0) := rfl
set_option maxRecDepth 1000000 in
theorem f_131_98 : xi 131 98 = some (.ireturn, 0, 0) := rfl
set_option maxRecDepth 1000000 in
theorem f_131_100 : xi 131 100 = some (.getfield 101, 71, 951) := rfl
set_option maxRecDepth 1000000 in
theorem f_131_105 : xi 131 105 = some (.if_icmp .ne 19, 0, 0) := rfl
set_option maxRecDepth 1000000 in
theorem f_131_111 : xi 131 111 = some (.invokevirtual 138, 128, 912) := rfl
set_option maxRecDepth 1000000 in
theorem f_131_114 : xi 131 114 = some (.ifCond .ne 5, 0, 0) := rfl
set_option maxRecDepth 1000000 in
theorem f_131_118 : xi 131 118 = some (.ireturn, 0, 0) := rfl
set_option maxRecDepth 1000000 in
theorem f_131_125 : xi 131 125 = some (.getfield 101, 71, 951) := rfl
set_option maxRecDepth 1000000 in
theorem f_131_130 : xi 131 130 = some (.if_icmp .ne 18, 0, 0) := rfl
set_option maxRecDepth 1000000 in
theorem f_131_135 : xi 131 135 = some (.invokevirtual 138, 128, 912) := rfl
set_option maxRecDepth 1000000 in
theorem f_131_138 : xi 131 138 = some (.ifCond .ne 5, 0, 0) := rfl
set_option maxRecDepth 1000000 in
theorem f_131_142 : xi 131 142 = some (.ireturn, 0, 0) := rfl
set_option maxRecDepth 1000000 in
theorem f_131_149 : xi 131 149 = some (.ireturn, 0, 0) := rfl
set_option maxRecDepth 1000000 in
theorem f_131_151 : xi 131 151 = some (.getfield 101, 71, 951) := rfl
set_option maxRecDepth 1000000 in
theorem f_131_156 : xi 131 156 = some (.if_icmp .ne 21, 0, 0) := rfl
set_option maxRecDepth 1000000 in
theorem f_131_161 : xi 131 161 = some (.invokevirtual 131, 126, 905) := rfl
set_option maxRecDepth 1000000 in
theorem f_131_165 : xi 131 165 = some (.getfield 114, 75, 955) := rfl
set_option maxRecDepth 1000000 in
theorem f_131_168 : xi 131 168 = some (.ifCond .ne 7, 0, 0) := rfl
set_option maxRecDepth 1000000 in
theorem f_131_176 : xi 131 176 = some (.ireturn, 0, 0) := rfl
set_option maxRecDepth 1000000 in
theorem f_131_178 : xi 131 178 = some (.getfield 101, 71, 951) := rfl
set_option maxRecDepth 1000000 in
theorem f_131_183 : xi 131 183 = some (.if_icmp .ne 46, 0, 0) := rfl
set_option maxRecDepth 1000000 in
theorem f_131_188 : xi 131 188 = some (.invokevirtual 131, 126, 905) := rfl
set_option maxRecDepth 1000000 in
theorem f_131_192 : xi 131 192 = some (.getfield 114, 75, 955) := rfl
set_option maxRecDepth 1000000 in
theorem f_131_195 : xi 131 195 = some (.ifCond .ne 5, 0, 0) := rfl
set_option maxRecDepth 1000000 in
theorem f_131_199 : xi 131 199 = some (.ireturn, 0, 0) := rfl
set_option maxRecDepth 1000000 in
theorem f_131_202 : xi 131 202 = some (.getfield 114, 75, 955) := rfl
set_option maxRecDepth 1000000 in
theorem f_131_207 : xi 131 207 = some (.putfield 114, 75, 955) := rfl
set_option maxRecDepth 1000000 in
theorem f_131_212 : xi 131 212 = some (.getfield 121, 76, 956) := rfl
set_option maxRecDepth 1000000 in
theorem f_131_217 : xi 131 217 = some (.putfield 121, 76, 956) := rfl
set_option maxRecDepth 1000000 in
theorem f_131_223 : xi 131 223 = some (.invokevirtual 131, 126, 905) := rfl
set_option maxRecDepth 1000000 in
theorem f_131_230 : xi 131 230 = some (.invokevirtual 141, 130, 920) := rfl
set_option maxRecDepth 1000000 in
theorem f_131_236 : xi 131 236 = some (.if_icmp .eq 11, 0, 0) := rfl
set_option maxRecDepth 1000000 in
theorem f_131_241 : xi 131 241 = some (.invokevirtual 144, 129, 924) := rfl
set_option maxRecDepth 1000000 in
theorem f_131_244 : xi 131 244 = some (.ifCond .ne 5, 0, 0) := rfl
set_option maxRecDepth 1000000 in
theorem f_131_248 : xi 131 248 = some (.ireturn, 0, 0) := rfl
set_option maxRecDepth 1000000 in
theorem f_131_254 : xi 131 254 = some (.if_icmp .gt 7, 0, 0) := rfl
theorem m_132 : xme 132 = some xe_132 := rfl
theorem f_132_1 : xi 132 1 = some (.getfield 79, 57, 937) := rfl
theorem f_132_6 : xi 132 6 = some (.if_icmp .ne 6, 0, 0) := rfl
theorem f_132_11 : xi 132 11 = some (.ireturn, 0, 0) := rfl
theorem f_132_14 : xi 132 14 = some (.putfield 95, 69, 949) := rfl
theorem f_132_19 : xi 132 19 = some (.putfield 111, 77, 957) := rfl
theorem f_132_28 : xi 132 28 = some (.if_icmp .ge 73, 0, 0) := rfl
theorem f_132_32 : xi 132 32 = some (.ifCond .eq 69, 0, 0) := rfl
theorem f_132_36 : xi 132 36 = some (.invokevirtual 134, 123, 885) := rfl
theorem f_132_40 : xi 132 40 = some (.getfield 101, 71, 951) := rfl
theorem f_132_44 : xi 132 44 = some (.if_icmp .ne 15, 0, 0) := rfl
theorem f_132_48 : xi 132 48 = some (.getfield 104, 72, 952) := rfl
theorem f_132_52 : xi 132 52 = some (.if_icmp .ne 7, 0, 0) := rfl
theorem f_132_62 : xi 132 62 = some (.getfield 22, 56, 936) := rfl
theorem f_132_67 : xi 132 67 = some (.getfield 79, 57, 937) := rfl
set_option maxRecDepth 1000000 in
theorem f_132_74 : xi 132 74 = some (.getfield 111, 77, 957) := rfl
set_option maxRecDepth 1000000 in
theorem f_132_77 : xi 132 77 = some (.iastore, 0, 0) := rfl
set_option maxRecDepth 1000000 in
theorem f_132_79 : xi 132 79 = some (.ifCond .eq 14, 0, 0) := rfl
set_option maxRecDepth 1000000 in
theorem f_132_83 : xi 132 83 = some (.invokevirtual 147, 131, 896) := rfl
set_option maxRecDepth 1000000 in
theorem f_132_86 : xi 132 86 = some (.ifCond .eq 7, 0, 0) := rfl
set_option maxRecDepth 1000000 in
theorem f_132_102 : xi 132 102 = some (.ifCond .eq 20, 0, 0) := rfl
set_option maxRecDepth 1000000 in
theorem f_132_106 : xi 132 106 = some (.invokevirtual 134, 123, 885) := rfl
set_option maxRecDepth 1000000 in
theorem f_132_110 : xi 132 110 = some (.getfield 101, 71, 951) := rfl
set_option maxRecDepth 1000000 in
theorem f_132_113 : xi 132 113 = some (.ifCond .ne 7, 0, 0) := rfl
set_option maxRecDepth 1000000 in
theorem f_132_123 : xi 132 123 = some (.getfield 22, 56, 936) := rfl
set_option maxRecDepth 1000000 in
theorem f_132_128 : xi 132 128 = some (.getfield 79, 57, 937) := rfl
set_option maxRecDepth 1000000 in
theorem f_132_135 : xi 132 135 = some (.getfield 111, 77, 957) := rfl
set_option maxRecDepth 1000000 in
theorem f_132_138 : xi 132 138 = some (.iastore, 0, 0) := rfl
set_option maxRecDepth 1000000 in
theorem f_132_141 : xi 132 141 = some (.putfield 64, 54, 934) := rfl
set_option maxRecDepth 1000000 in
theorem f_132_145 : xi 132 145 = some (.ifCond .ne 11, 0, 0) := rfl
set_option maxRecDepth 1000000 in
theorem f_132_151 : xi 132 151 = some (.getfield 98, 70, 950) := rfl
set_option maxRecDepth 1000000 in
theorem f_132_155 : xi 132 155 = some (.ireturn, 0, 0) := rfl
set_option maxRecDepth 1000000 in
theorem f_132_158 : xi 132 158 = some (.getfield 79, 57, 937) := rfl
set_option maxRecDepth 1000000 in
theorem f_132_163 : xi 132 163 = some (.putfield 79, 57, 937) := rfl
set_option maxRecDepth 1000000 in
theorem f_132_167 : xi 132 167 = some (.getfield 79, 57, 937) := rfl
set_option maxRecDepth 1000000 in
theorem f_132_172 : xi 132 172 = some (.ireturn, 0, 0) := rfl
theorem m_133 : xme 133 = some xe_133 := rfl
theorem f_133_1 : xi 133 1 = some (.tableswitch 101 11 17 #[43, 57, 101, 71, 82, 93, 97], 0, 0) := rfl
theorem f_133_45 : xi 133 45 = some (.ifCond .ne 7, 0, 0) := rfl
theorem f_133_49 : xi 133 49 = some (.ifCond .eq 7, 0, 0) := rfl
theorem f_133_57 : xi 133 57 = some (.ireturn, 0, 0) := rfl
theorem f_133_59 : xi 133 59 = some (.ifCond .eq 11, 0, 0) := rfl
theorem f_133_63 : xi 133 63 = some (.ifCond .eq 7, 0, 0) := rfl
theorem f_133_71 : xi 133 71 = some (.ireturn, 0, 0) := rfl
theorem f_133_74 : xi 133 74 = some (.if_icmp .ge 7, 0, 0) := rfl
theorem f_133_82 : xi 133 82 = some (.ireturn, 0, 0) := rfl
theorem f_133_85 : xi 133 85 = some (.if_icmp .ne 7, 0, 0) := rfl
theorem f_133_93 : xi 133 93 = some (.ireturn, 0, 0) := rfl
theorem f_133_97 : xi 133 97 = some (.ireturn, 0, 0) := rfl
theorem f_133_101 : xi 133 101 = some (.ireturn, 0, 0) := rfl
set_option maxRecDepth 1000000 in
theorem f_133_105 : xi 133 105 = some (.ireturn, 0, 0) := rfl
theorem m_134 : xme 134 = some xe_134 := rfl
theorem f_134_3 : xi 134 3 = some (.getfield 22, 56, 936) := rfl
theorem f_134_8 : xi 134 8 = some (.getfield 88, 58, 938) := rfl
theorem f_134_14 : xi 134 14 = some (.iaload, 0, 0) := rfl
theorem f_134_18 : xi 134 18 = some (.getfield 22, 56, 936) := rfl
theorem f_134_23 : xi 134 23 = some (.getfield 88, 58, 938) := rfl
theorem f_134_31 : xi 134 31 = some (.iaload, 0, 0) := rfl
theorem f_134_32 : xi 134 32 = some (.if_icmp .ge 165, 0, 0) := rfl
theorem f_134_36 : xi 134 36 = some (.getfield 19, 55, 935) := rfl
theorem f_134_43 : xi 134 43 = some (.getfield 88, 58, 938) := rfl
theorem f_134_49 : xi 134 49 = some (.iaload, 0, 0) := rfl
theorem f_134_56 : xi 134 56 = some (.if_icmp .ge 10, 0, 0) := rfl
theorem f_134_63 : xi 134 63 = some (.if_icmp .ge 37, 0, 0) := rfl
set_option maxRecDepth 1000000 in
theorem f_134_67 : xi 134 67 = some (.getfield 46, 78, 958) := rfl
set_option maxRecDepth 1000000 in
theorem f_134_75 : xi 134 75 = some (.if_icmp .ge 13, 0, 0) := rfl
set_option maxRecDepth 1000000 in
theorem f_134_79 : xi 134 79 = some (.getfield 49, 79, 959) := rfl
set_option maxRecDepth 1000000 in
theorem f_134_84 : xi 134 84 = some (.iaload, 0, 0) := rfl
set_option maxRecDepth 1000000 in
theorem f_134_93 : xi 134 93 = some (.iastore, 0, 0) := rfl
set_option maxRecDepth 1000000 in
theorem f_134_104 : xi 134 104 = some (.if_icmp .ne 30, 0, 0) := rfl
set_option maxRecDepth 1000000 in
theorem f_134_108 : xi 134 108 = some (.getfield 46, 78, 958) := rfl
set_option maxRecDepth 1000000 in
theorem f_134_115 : xi 134 115 = some (.getfield 46, 78, 958) := rfl
set_option maxRecDepth 1000000 in
theorem f_134_121 : xi 134 121 = some (.iaload, 0, 0) := rfl
set_option maxRecDepth 1000000 in
theorem f_134_122 : xi 134 122 = some (.ifCond .ne 7, 0, 0) := rfl
set_option maxRecDepth 1000000 in
theorem f_134_130 : xi 134 130 = some (.iastore, 0, 0) := rfl
set_option maxRecDepth 1000000 in
theorem f_134_138 : xi 134 138 = some (.if_icmp .ne 23, 0, 0) := rfl
set_option maxRecDepth 1000000 in
theorem f_134_142 : xi 134 142 = some (.getfield 46, 78, 958) := rfl
set_option maxRecDepth 1000000 in
theorem f_134_149 : xi 134 149 = some (.getfield 46, 78, 958) := rfl
set_option maxRecDepth 1000000 in
theorem f_134_155 : xi 134 155 = some (.iaload, 0, 0) := rfl
set_option maxRecDepth 1000000 in
theorem f_134_157 : xi 134 157 = some (.iastore, 0, 0) := rfl
set_option maxRecDepth 1000000 in
theorem f_134_165 : xi 134 165 = some (.getfield 46, 78, 958) := rfl
set_option maxRecDepth 1000000 in
theorem f_134_174 : xi 134 174 = some (.getfield 46, 78, 958) := rfl
set_option maxRecDepth 1000000 in
theorem f_134_180 : xi 134 180 = some (.iaload, 0, 0) := rfl
set_option maxRecDepth 1000000 in
theorem f_134_182 : xi 134 182 = some (.getfield 46, 78, 958) := rfl
set_option maxRecDepth 1000000 in
theorem f_134_186 : xi 134 186 = some (.iaload, 0, 0) := rfl
set_option maxRecDepth 1000000 in
theorem f_134_187 : xi 134 187 = some (.invokestatic 151, 133, 1186) := rfl
set_option maxRecDepth 1000000 in
theorem f_134_190 : xi 134 190 = some (.iastore, 0, 0) := rfl
set_option maxRecDepth 1000000 in
theorem f_134_198 : xi 134 198 = some (.getfield 46, 78, 958) := rfl
set_option maxRecDepth 1000000 in
theorem f_134_202 : xi 134 202 = some (.iaload, 0, 0) := rfl
set_option maxRecDepth 1000000 in
theorem f_134_203 : xi 134 203 = some (.ireturn, 0, 0) := rfl
theorem m_135 : xme 135 = some xe_135 := rfl
theorem f_135_3 : xi 135 3 = some (.getfield 79, 57, 937) := rfl
theorem f_135_8 : xi 135 8 = some (.invokestatic 75, 112, 889) := rfl
theorem f_135_11 : xi 135 11 = some (.ifCond .ne 6, 0, 0) := rfl
theorem f_135_16 : xi 135 16 = some (.ireturn, 0, 0) := rfl
theorem f_135_18 : xi 135 18 = some (.getfield 88, 58, 938) := rfl
theorem f_135_24 : xi 135 24 = some (.putfield 88, 58, 938) := rfl
theorem f_135_28 : xi 135 28 = some (.ireturn, 0, 0) := rfl
theorem m_136 : xme 136 = some xe_136 := rfl
theorem f_136_4 : xi 136 4 = some (.invokestatic 75, 112, 889) := rfl
theorem f_136_7 : xi 136 7 = some (.ifCond .eq 37, 0, 0) := rfl
theorem f_136_11 : xi 136 11 = some (.invokestatic 155, 115, 1067) := rfl
theorem f_136_14 : xi 136 14 = some (.ifCond .eq 30, 0, 0) := rfl
theorem f_136_22 : xi 136 22 = some (.invokestatic 75, 112, 889) := rfl
theorem f_136_25 : xi 136 25 = some (.ifCond .eq 19, 0, 0) := rfl
theorem f_136_34 : xi 136 34 = some (.invokestatic 75, 112, 889) := rfl
theorem f_136_37 : xi 136 37 = some (.ifCond .eq 7, 0, 0) := rfl
theorem f_136_49 : xi 136 49 = some (.ifCond .ne 6, 0, 0) := rfl
theorem f_136_54 : xi 136 54 = some (.ireturn, 0, 0) := rfl
theorem f_136_56 : xi 136 56 = some (.getfield 72, 48, 928) := rfl
theorem f_136_61 : xi 136 61 = some (.if_icmp .ne 6, 0, 0) := rfl
theorem f_136_66 : xi 136 66 = some (.ireturn, 0, 0) := rfl
theorem f_136_68 : xi 136 68 = some (.getfield 7, 49, 929) := rfl
theorem f_136_73 : xi 136 73 = some (.getfield 72, 48, 928) := rfl
theorem f_136_80 : xi 136 80 = some (.idiv, 0, 0) := rfl
set_option maxRecDepth 1000000 in
theorem f_136_81 : xi 136 81 = some (.iastore, 0, 0) := rfl
set_option maxRecDepth 1000000 in
theorem f_136_83 : xi 136 83 = some (.getfield 7, 49, 929) := rfl
set_option maxRecDepth 1000000 in
theorem f_136_88 : xi 136 88 = some (.getfield 72, 48, 928) := rfl
set_option maxRecDepth 1000000 in
theorem f_136_95 : xi 136 95 = some (.iastore, 0, 0) := rfl
set_option maxRecDepth 1000000 in
theorem f_136_97 : xi 136 97 = some (.getfield 7, 49, 929) := rfl
set_option maxRecDepth 1000000 in
theorem f_136_102 : xi 136 102 = some (.getfield 72, 48, 928) := rfl
set_option maxRecDepth 1000000 in
theorem f_136_109 : xi 136 109 = some (.iastore, 0, 0) := rfl
set_option maxRecDepth 1000000 in
theorem f_136_111 : xi 136 111 = some (.getfield 7, 49, 929) := rfl
set_option maxRecDepth 1000000 in
theorem f_136_116 : xi 136 116 = some (.getfield 72, 48, 928) := rfl
set_option maxRecDepth 1000000 in
theorem f_136_124 : xi 136 124 = some (.iastore, 0, 0) := rfl
set_option maxRecDepth 1000000 in
theorem f_136_126 : xi 136 126 = some (.getfield 7, 49, 929) := rfl
set_option maxRecDepth 1000000 in
theorem f_136_131 : xi 136 131 = some (.getfield 72, 48, 928) := rfl
set_option maxRecDepth 1000000 in
theorem f_136_140 : xi 136 140 = some (.irem, 0, 0) := rfl
set_option maxRecDepth 1000000 in
theorem f_136_141 : xi 136 141 = some (.iastore, 0, 0) := rfl
set_option maxRecDepth 1000000 in
theorem f_136_144 : xi 136 144 = some (.getfield 72, 48, 928) := rfl
set_option maxRecDepth 1000000 in
theorem f_136_149 : xi 136 149 = some (.putfield 72, 48, 928) := rfl
set_option maxRecDepth 1000000 in
theorem f_136_153 : xi 136 153 = some (.getfield 72, 48, 928) := rfl
set_option maxRecDepth 1000000 in
theorem f_136_158 : xi 136 158 = some (.ireturn, 0, 0) := rfl
theorem m_137 : xme 137 = some xe_137 := rfl
theorem f_137_1 : xi 137 1 = some (.getfield 72, 48, 928) := rfl
theorem f_137_4 : xi 137 4 = some (.ifCond .ne 6, 0, 0) := rfl
theorem f_137_9 : xi 137 9 = some (.ireturn, 0, 0) := rfl
theorem f_137_12 : xi 137 12 = some (.getfield 72, 48, 928) := rfl
theorem f_137_17 : xi 137 17 = some (.putfield 72, 48, 928) := rfl
theorem f_137_21 : xi 137 21 = some (.getfield 72, 48, 928) := rfl
theorem f_137_24 : xi 137 24 = some (.ireturn, 0, 0) := rfl
theorem m_138 : xme 138 = some xe_138 := rfl
theorem f_138_1 : xi 138 1 = some (.getfield 7, 49, 929) := rfl
theorem f_138_9 : xi 138 9 = some (.iaload, 0, 0) := rfl
theorem f_138_11 : xi 138 11 = some (.getfield 7, 49, 929) := rfl
theorem f_138_19 : xi 138 19 = some (.iaload, 0, 0) := rfl
theorem f_138_22 : xi 138 22 = some (.idiv, 0, 0) := rfl
theorem f_138_23 : xi 138 23 = some (.ireturn, 0, 0) := rfl
theorem m_139 : xme 139 = some xe_139 := rfl
theorem f_139_1 : xi 139 1 = some (.getfield 7, 49, 929) := rfl
theorem f_139_7 : xi 139 7 = some (.iaload, 0, 0) := rfl
theorem f_139_9 : xi 139 9 = some (.if_icmp .ne 24, 0, 0) := rfl
theorem f_139_13 : xi 139 13 = some (.getfield 85, 52, 932) := rfl
theorem f_139_17 : xi 139 17 = some (.getfield 7, 49, 929) := rfl
theorem f_139_25 : xi 139 25 = some (.iaload, 0, 0) := rfl
theorem f_139_26 : xi 139 26 = some (.if_icmp .lt 7, 0, 0) := rfl
theorem f_139_34 : xi 139 34 = some (.ireturn, 0, 0) := rfl
theorem m_140 : xme 140 = some xe_140 := rfl
theorem f_140_1 : xi 140 1 = some (.getfield 7, 49, 929) := rfl
theorem f_140_7 : xi 140 7 = some (.iaload, 0, 0) := rfl
theorem f_140_10 : xi 140 10 = some (.getfield 7, 49, 929) := rfl
theorem f_140_18 : xi 140 18 = some (.iaload, 0, 0) := rfl
theorem f_140_21 : xi 140 21 = some (.getfield 7, 49, 929) := rfl
theorem f_140_29 : xi 140 29 = some (.iaload, 0, 0) := rfl
theorem f_140_37 : xi 140 37 = some (.if_icmp .eq 8, 0, 0) := rfl
theorem f_140_42 : xi 140 42 = some (.if_icmp .ne 23, 0, 0) := rfl
theorem f_140_51 : xi 140 51 = some (.if_icmp .ne 10, 0, 0) := rfl
theorem f_140_55 : xi 140 55 = some (.getfield 85, 52, 932) := rfl
set_option maxRecDepth 1000000 in
theorem f_140_67 : xi 140 67 = some (.if_icmp .eq 8, 0, 0) := rfl
set_option maxRecDepth 1000000 in
theorem f_140_72 : xi 140 72 = some (.if_icmp .ne 37, 0, 0) := rfl
set_option maxRecDepth 1000000 in
theorem f_140_77 : xi 140 77 = some (.invokevirtual 158, 139, 1086) := rfl
set_option maxRecDepth 1000000 in
theorem f_140_80 : xi 140 80 = some (.ifCond .ne 15, 0, 0) := rfl
set_option maxRecDepth 1000000 in
theorem f_140_89 : xi 140 89 = some (.invokevirtual 161, 138, 1090) := rfl
set_option maxRecDepth 1000000 in
theorem f_140_92 : xi 140 92 = some (.if_icmp .le 11, 0, 0) := rfl
set_option maxRecDepth 1000000 in
theorem f_140_97 : xi 140 97 = some (.invokevirtual 161, 138, 1090) := rfl
set_option maxRecDepth 1000000 in
theorem f_140_115 : xi 140 115 = some (.invokestatic 164, 113, 1094) := rfl
set_option maxRecDepth 1000000 in
theorem f_140_118 : xi 140 118 = some (.ireturn, 0, 0) := rfl
theorem m_141 : xme 141 = some xe_141 := rfl
theorem f_141_1 : xi 141 1 = some (.getfield 7, 49, 929) := rfl
theorem f_141_7 : xi 141 7 = some (.iaload, 0, 0) := rfl
theorem f_141_10 : xi 141 10 = some (.getfield 7, 49, 929) := rfl
theorem f_141_18 : xi 141 18 = some (.iaload, 0, 0) := rfl
theorem f_141_21 : xi 141 21 = some (.getfield 7, 49, 929) := rfl
theorem f_141_29 : xi 141 29 = some (.iaload, 0, 0) := rfl
theorem f_141_34 : xi 141 34 = some (.if_icmp .ne 9, 0, 0) := rfl
theorem f_141_48 : xi 141 48 = some (.if_icmp .eq 8, 0, 0) := rfl
theorem f_141_53 : xi 141 53 = some (.if_icmp .ne 23, 0, 0) := rfl
set_option maxRecDepth 1000000 in
theorem f_141_62 : xi 141 62 = some (.if_icmp .ne 10, 0, 0) := rfl
set_option maxRecDepth 1000000 in
theorem f_141_66 : xi 141 66 = some (.getfield 85, 52, 932) := rfl
set_option maxRecDepth 1000000 in
theorem f_141_78 : xi 141 78 = some (.if_icmp .eq 8, 0, 0) := rfl
set_option maxRecDepth 1000000 in
theorem f_141_83 : xi 141 83 = some (.if_icmp .ne 37, 0, 0) := rfl
set_option maxRecDepth 1000000 in
theorem f_141_88 : xi 141 88 = some (.invokevirtual 158, 139, 1086) := rfl
set_option maxRecDepth 1000000 in
theorem f_141_91 : xi 141 91 = some (.ifCond .ne 15, 0, 0) := rfl
set_option maxRecDepth 1000000 in
theorem f_141_100 : xi 141 100 = some (.invokevirtual 161, 138, 1090) := rfl
set_option maxRecDepth 1000000 in
theorem f_141_103 : xi 141 103 = some (.if_icmp .ge 11, 0, 0) := rfl
set_option maxRecDepth 1000000 in
theorem f_141_108 : xi 141 108 = some (.invokevirtual 161, 138, 1090) := rfl
set_option maxRecDepth 1000000 in
theorem f_141_126 : xi 141 126 = some (.invokestatic 164, 113, 1094) := rfl
set_option maxRecDepth 1000000 in
theorem f_141_129 : xi 141 129 = some (.ireturn, 0, 0) := rfl
theorem m_142 : xme 142 = some xe_142 := rfl
theorem f_142_2 : xi 142 2 = some (.invokevirtual 167, 114, 1078) := rfl
theorem f_142_5 : xi 142 5 = some (.ifCond .ne 6, 0, 0) := rfl
theorem f_142_10 : xi 142 10 = some (.ireturn, 0, 0) := rfl
theorem f_142_12 : xi 142 12 = some (.tableswitch 67 0 6 #[44, 44, 44, 44, 44, 55, 61], 0, 0) := rfl
theorem f_142_57 : xi 142 57 = some (.getfield 7, 49, 929) := rfl
theorem f_142_65 : xi 142 65 = some (.iaload, 0, 0) := rfl
theorem f_142_66 : xi 142 66 = some (.ireturn, 0, 0) := rfl
theorem f_142_69 : xi 142 69 = some (.invokevirtual 170, 140, 1082) := rfl
theorem f_142_72 : xi 142 72 = some (.ireturn, 0, 0) := rfl
theorem f_142_75 : xi 142 75 = some (.invokevirtual 173, 141, 1097) := rfl
theorem f_142_78 : xi 142 78 = some (.ireturn, 0, 0) := rfl
theorem f_142_81 : xi 142 81 = some (.ireturn, 0, 0) := rfl
theorem m_143 : xme 143 = some xe_143 := rfl
theorem f_143_1 : xi 143 1 = some (.invokestatic 155, 115, 1067) := rfl
theorem f_143_4 : xi 143 4 = some (.ifCond .eq 44, 0, 0) := rfl
theorem f_143_8 : xi 143 8 = some (.invokestatic 155, 115, 1067) := rfl
theorem f_143_11 : xi 143 11 = some (.ifCond .eq 37, 0, 0) := rfl
theorem f_143_16 : xi 143 16 = some (.if_icmp .eq 32, 0, 0) := rfl
theorem f_143_26 : xi 143 26 = some (.invokestatic 75, 112, 889) := rfl
theorem f_143_29 : xi 143 29 = some (.ifCond .eq 19, 0, 0) := rfl
theorem f_143_38 : xi 143 38 = some (.invokestatic 75, 112, 889) := rfl
theorem f_143_41 : xi 143 41 = some (.ifCond .eq 7, 0, 0) := rfl
theorem f_143_53 : xi 143 53 = some (.ifCond .ne 6, 0, 0) := rfl
theorem f_143_58 : xi 143 58 = some (.ireturn, 0, 0) := rfl
theorem f_143_60 : xi 143 60 = some (.getfield 82, 50, 930) := rfl
theorem f_143_65 : xi 143 65 = some (.if_icmp .ne 6, 0, 0) := rfl
theorem f_143_70 : xi 143 70 = some (.ireturn, 0, 0) := rfl
theorem f_143_72 : xi 143 72 = some (.getfield 13, 51, 931) := rfl
theorem f_143_77 : xi 143 77 = some (.getfield 82, 50, 930) := rfl
theorem f_143_82 : xi 143 82 = some (.iastore, 0, 0) := rfl
set_option maxRecDepth 1000000 in
theorem f_143_84 : xi 143 84 = some (.getfield 13, 51, 931) := rfl
set_option maxRecDepth 1000000 in
theorem f_143_89 : xi 143 89 = some (.getfield 82, 50, 930) := rfl
set_option maxRecDepth 1000000 in
theorem f_143_96 : xi 143 96 = some (.iastore, 0, 0) := rfl
set_option maxRecDepth 1000000 in
theorem f_143_98 : xi 143 98 = some (.getfield 13, 51, 931) := rfl
set_option maxRecDepth 1000000 in
theorem f_143_103 : xi 143 103 = some (.getfield 82, 50, 930) := rfl
set_option maxRecDepth 1000000 in
theorem f_143_110 : xi 143 110 = some (.iastore, 0, 0) := rfl
set_option maxRecDepth 1000000 in
theorem f_143_112 : xi 143 112 = some (.getfield 13, 51, 931) := rfl
set_option maxRecDepth 1000000 in
theorem f_143_117 : xi 143 117 = some (.getfield 82, 50, 930) := rfl
set_option maxRecDepth 1000000 in
theorem f_143_125 : xi 143 125 = some (.iastore, 0, 0) := rfl
set_option maxRecDepth 1000000 in
theorem f_143_128 : xi 143 128 = some (.getfield 82, 50, 930) := rfl
set_option maxRecDepth 1000000 in
theorem f_143_133 : xi 143 133 = some (.putfield 82, 50, 930) := rfl
set_option maxRecDepth 1000000 in
theorem f_143_137 : xi 143 137 = some (.getfield 82, 50, 930) := rfl
set_option maxRecDepth 1000000 in
theorem f_143_142 : xi 143 142 = some (.ireturn, 0, 0) := rfl
theorem m_144 : xme 144 = some xe_144 := rfl
theorem f_144_3 : xi 144 3 = some (.getfield 82, 50, 930) := rfl
theorem f_144_8 : xi 144 8 = some (.invokestatic 75, 112, 889) := rfl
theorem f_144_11 : xi 144 11 = some (.ifCond .ne 6, 0, 0) := rfl
theorem f_144_16 : xi 144 16 = some (.ireturn, 0, 0) := rfl
theorem f_144_20 : xi 144 20 = some (.invokestatic 75, 112, 889) := rfl
theorem f_144_23 : xi 144 23 = some (.ifCond .eq 16, 0, 0) := rfl
theorem f_144_27 : xi 144 27 = some (.getfield 13, 51, 931) := rfl
theorem f_144_35 : xi 144 35 = some (.iaload, 0, 0) := rfl
theorem f_144_41 : xi 144 41 = some (.ireturn, 0, 0) := rfl
theorem m_145 : xme 145 = some xe_145 := rfl
theorem f_145_5 : xi 145 5 = some (.if_icmp .ge 25, 0, 0) := rfl
theorem f_145_9 : xi 145 9 = some (.getfield 52, 80, 960) := rfl
theorem f_145_14 : xi 145 14 = some (.iastore, 0, 0) := rfl
theorem f_145_16 : xi 145 16 = some (.getfield 55, 81, 961) := rfl
theorem f_145_23 : xi 145 23 = some (.iastore, 0, 0) := rfl
theorem f_145_34 : xi 145 34 = some (.getfield 72, 48, 928) := rfl
theorem f_145_37 : xi 145 37 = some (.if_icmp .ge 113, 0, 0) := rfl
theorem f_145_41 : xi 145 41 = some (.getfield 7, 49, 929) := rfl
theorem f_145_49 : xi 145 49 = some (.iaload, 0, 0) := rfl
theorem f_145_56 : xi 145 56 = some (.ifCond .ne 7, 0, 0) := rfl
set_option maxRecDepth 1000000 in
theorem f_145_67 : xi 145 67 = some (.getfield 52, 80, 960) := rfl
set_option maxRecDepth 1000000 in
theorem f_145_73 : xi 145 73 = some (.ifCond .eq 25, 0, 0) := rfl
set_option maxRecDepth 1000000 in
theorem f_145_78 : xi 145 78 = some (.invokevirtual 170, 140, 1082) := rfl
set_option maxRecDepth 1000000 in
theorem f_145_82 : xi 145 82 = some (.getfield 52, 80, 960) := rfl
set_option maxRecDepth 1000000 in
theorem f_145_86 : xi 145 86 = some (.iaload, 0, 0) := rfl
set_option maxRecDepth 1000000 in
theorem f_145_87 : xi 145 87 = some (.if_icmp .le 11, 0, 0) := rfl
set_option maxRecDepth 1000000 in
theorem f_145_92 : xi 145 92 = some (.invokevirtual 170, 140, 1082) := rfl
set_option maxRecDepth 1000000 in
theorem f_145_99 : xi 145 99 = some (.getfield 52, 80, 960) := rfl
set_option maxRecDepth 1000000 in
theorem f_145_103 : xi 145 103 = some (.iaload, 0, 0) := rfl
set_option maxRecDepth 1000000 in
theorem f_145_104 : xi 145 104 = some (.iastore, 0, 0) := rfl
set_option maxRecDepth 1000000 in
theorem f_145_106 : xi 145 106 = some (.getfield 55, 81, 961) := rfl
set_option maxRecDepth 1000000 in
theorem f_145_112 : xi 145 112 = some (.ifCond .eq 25, 0, 0) := rfl
set_option maxRecDepth 1000000 in
theorem f_145_117 : xi 145 117 = some (.invokevirtual 173, 141, 1097) := rfl
set_option maxRecDepth 1000000 in
theorem f_145_121 : xi 145 121 = some (.getfield 55, 81, 961) := rfl
set_option maxRecDepth 1000000 in
theorem f_145_125 : xi 145 125 = some (.iaload, 0, 0) := rfl
set_option maxRecDepth 1000000 in
theorem f_145_126 : xi 145 126 = some (.if_icmp .ge 11, 0, 0) := rfl
set_option maxRecDepth 1000000 in
theorem f_145_131 : xi 145 131 = some (.invokevirtual 173, 141, 1097) := rfl
set_option maxRecDepth 1000000 in
theorem f_145_138 : xi 145 138 = some (.getfield 55, 81, 961) := rfl
set_option maxRecDepth 1000000 in
theorem f_145_142 : xi 145 142 = some (.iaload, 0, 0) := rfl
set_option maxRecDepth 1000000 in
theorem f_145_143 : xi 145 143 = some (.iastore, 0, 0) := rfl
set_option maxRecDepth 1000000 in
theorem f_145_150 : xi 145 150 = some (.return_, 0, 0) := rfl
theorem m_146 : xme 146 = some xe_146 := rfl
theorem f_146_1 : xi 146 1 = some (.getfield 58, 82, 962) := rfl
theorem f_146_12 : xi 146 12 = some (.getfield 58, 82, 962) := rfl
theorem f_146_21 : xi 146 21 = some (.iaload, 0, 0) := rfl
theorem f_146_22 : xi 146 22 = some (.if_icmp .ge 7, 0, 0) := rfl
theorem f_146_30 : xi 146 30 = some (.getfield 58, 82, 962) := rfl
theorem f_146_39 : xi 146 39 = some (.iaload, 0, 0) := rfl
theorem f_146_40 : xi 146 40 = some (.iastore, 0, 0) := rfl
theorem f_146_41 : xi 146 41 = some (.return_, 0, 0) := rfl
theorem m_147 : xme 147 = some xe_147 := rfl
theorem f_147_5 : xi 147 5 = some (.if_icmp .ge 33, 0, 0) := rfl
theorem f_147_9 : xi 147 9 = some (.getfield 58, 82, 962) := rfl
theorem f_147_16 : xi 147 16 = some (.idiv, 0, 0) := rfl
theorem f_147_20 : xi 147 20 = some (.irem, 0, 0) := rfl
theorem f_147_21 : xi 147 21 = some (.if_icmp .ne 7, 0, 0) := rfl
theorem f_147_31 : xi 147 31 = some (.iastore, 0, 0) := rfl
theorem f_147_43 : xi 147 43 = some (.if_icmp .ge 36, 0, 0) := rfl
theorem f_147_51 : xi 147 51 = some (.getfield 55, 81, 961) := rfl
theorem f_147_55 : xi 147 55 = some (.iaload, 0, 0) := rfl
theorem f_147_56 : xi 147 56 = some (.invokevirtual 176, 146, 1125) := rfl
theorem f_147_64 : xi 147 64 = some (.getfield 52, 80, 960) := rfl
theorem f_147_68 : xi 147 68 = some (.iaload, 0, 0) := rfl
set_option maxRecDepth 1000000 in
theorem f_147_70 : xi 147 70 = some (.invokevirtual 176, 146, 1125) := rfl
set_option maxRecDepth 1000000 in
theorem f_147_83 : xi 147 83 = some (.getfield 82, 50, 930) := rfl
set_option maxRecDepth 1000000 in
theorem f_147_86 : xi 147 86 = some (.if_icmp .ge 82, 0, 0) := rfl
set_option maxRecDepth 1000000 in
theorem f_147_94 : xi 147 94 = some (.ifCond .ne 68, 0, 0) := rfl
set_option maxRecDepth 1000000 in
theorem f_147_99 : xi 147 99 = some (.getfield 13, 51, 931) := rfl
set_option maxRecDepth 1000000 in
theorem f_147_105 : xi 147 105 = some (.iaload, 0, 0) := rfl
set_option maxRecDepth 1000000 in
theorem f_147_107 : xi 147 107 = some (.getfield 13, 51, 931) := rfl
set_option maxRecDepth 1000000 in
theorem f_147_115 : xi 147 115 = some (.iaload, 0, 0) := rfl
set_option maxRecDepth 1000000 in
theorem f_147_117 : xi 147 117 = some (.getfield 13, 51, 931) := rfl
set_option maxRecDepth 1000000 in
theorem f_147_125 : xi 147 125 = some (.iaload, 0, 0) := rfl
set_option maxRecDepth 1000000 in
theorem f_147_126 : xi 147 126 = some (.invokevirtual 176, 146, 1125) := rfl
set_option maxRecDepth 1000000 in
theorem f_147_131 : xi 147 131 = some (.getfield 13, 51, 931) := rfl
set_option maxRecDepth 1000000 in
theorem f_147_139 : xi 147 139 = some (.iaload, 0, 0) := rfl
set_option maxRecDepth 1000000 in
theorem f_147_141 : xi 147 141 = some (.getfield 13, 51, 931) := rfl
set_option maxRecDepth 1000000 in
theorem f_147_147 : xi 147 147 = some (.iaload, 0, 0) := rfl
set_option maxRecDepth 1000000 in
theorem f_147_149 : xi 147 149 = some (.getfield 13, 51, 931) := rfl
set_option maxRecDepth 1000000 in
theorem f_147_157 : xi 147 157 = some (.iaload, 0, 0) := rfl
set_option maxRecDepth 1000000 in
theorem f_147_159 : xi 147 159 = some (.invokevirtual 176, 146, 1125) := rfl
set_option maxRecDepth 1000000 in
theorem f_147_173 : xi 147 173 = some (.if_icmp .ge 64, 0, 0) := rfl
set_option maxRecDepth 1000000 in
theorem f_147_181 : xi 147 181 = some (.if_icmp .ge 50, 0, 0) := rfl
set_option maxRecDepth 1000000 in
theorem f_147_188 : xi 147 188 = some (.idiv, 0, 0) := rfl
set_option maxRecDepth 1000000 in
theorem f_147_192 : xi 147 192 = some (.irem, 0, 0) := rfl
set_option maxRecDepth 1000000 in
theorem f_147_194 : xi 147 194 = some (.getfield 58, 82, 962) := rfl
set_option maxRecDepth 1000000 in
theorem f_147_202 : xi 147 202 = some (.idiv, 0, 0) := rfl
set_option maxRecDepth 1000000 in
theorem f_147_206 : xi 147 206 = some (.iaload, 0, 0) := rfl
set_option maxRecDepth 1000000 in
theorem f_147_208 : xi 147 208 = some (.getfield 58, 82, 962) := rfl
set_option maxRecDepth 1000000 in
theorem f_147_218 : xi 147 218 = some (.irem, 0, 0) := rfl
set_option maxRecDepth 1000000 in
theorem f_147_220 : xi 147 220 = some (.iaload, 0, 0) := rfl
set_option maxRecDepth 1000000 in
theorem f_147_222 : xi 147 222 = some (.invokevirtual 176, 146, 1125) := rfl
set_option maxRecDepth 1000000 in
theorem f_147_244 : xi 147 244 = some (.if_icmp .ge 33, 0, 0) := rfl
set_option maxRecDepth 1000000 in
theorem f_147_248 : xi 147 248 = some (.ifCond .eq 21, 0, 0) := rfl
set_option maxRecDepth 1000000 in
theorem f_147_252 : xi 147 252 = some (.getfield 58, 82, 962) := rfl
set_option maxRecDepth 1000000 in
theorem f_147_261 : xi 147 261 = some (.iaload, 0, 0) := rfl
set_option maxRecDepth 1000000 in
theorem f_147_262 : xi 147 262 = some (.ifCond .lt 7, 0, 0) := rfl
set_option maxRecDepth 1000000 in
theorem f_147_278 : xi 147 278 = some (.ireturn, 0, 0) := rfl
theorem m_148 : xme 148 = some xe_148 := rfl
theorem f_148_2 : xi 148 2 = some (.invokevirtual 180, 145, 1117) := rfl
theorem f_148_7 : xi 148 7 = some (.invokevirtual 183, 147, 1121) := rfl
theorem f_148_10 : xi 148 10 = some (.ireturn, 0, 0) := rfl
theorem m_149 : xme 149 = some xe_149 := rfl
theorem f_149_1 : xi 149 1 = some (.getfield 58, 82, 962) := rfl
theorem f_149_11 : xi 149 11 = some (.iaload, 0, 0) := rfl
theorem f_149_13 : xi 149 13 = some (.ireturn, 0, 0) := rfl
theorem m_150 : xme 150 = some xe_150 := rfl
theorem f_150_1 : xi 150 1 = some (.getfield 58, 82, 962) := rfl
theorem f_150_8 : xi 150 8 = some (.iaload, 0, 0) := rfl
theorem f_150_9 : xi 150 9 = some (.ireturn, 0, 0) := rfl
theorem m_151 : xme 151 = some xe_151 := rfl
theorem f_151_1 : xi 151 1 = some (.invokevirtual 186, 148, 1113) := rfl
theorem f_151_4 : xi 151 4 = some (.ifCond .eq 7, 0, 0) := rfl
theorem f_151_12 : xi 151 12 = some (.ireturn, 0, 0) := rfl
theorem m_152 : xme 152 = some xe_152 := rfl
theorem f_152_1 : xi 152 1 = some (.invokestatic 155, 115, 1067) := rfl
theorem f_152_4 : xi 152 4 = some (.ifCond .ne 6, 0, 0) := rfl
theorem f_152_9 : xi 152 9 = some (.ireturn, 0, 0) := rfl
theorem f_152_13 : xi 152 13 = some (.invokestatic 75, 112, 889) := rfl
theorem f_152_16 : xi 152 16 = some (.ifCond .ne 6, 0, 0) := rfl
theorem f_152_21 : xi 152 21 = some (.ireturn, 0, 0) := rfl
theorem f_152_23 : xi 152 23 = some (.invokevirtual 186, 148, 1113) := rfl
theorem f_152_29 : xi 152 29 = some (.if_icmp .le 24, 0, 0) := rfl
theorem f_152_34 : xi 152 34 = some (.if_icmp .ne 12, 0, 0) := rfl
theorem f_152_38 : xi 152 38 = some (.getfield 52, 80, 960) := rfl
theorem f_152_42 : xi 152 42 = some (.iaload, 0, 0) := rfl
theorem f_152_47 : xi 152 47 = some (.getfield 55, 81, 961) := rfl
theorem f_152_51 : xi 152 51 = some (.iaload, 0, 0) := rfl
theorem f_152_52 : xi 152 52 = some (.ireturn, 0, 0) := rfl
theorem f_152_54 : xi 152 54 = some (.ifCond .ne 7, 0, 0) := rfl
theorem f_152_62 : xi 152 62 = some (.ifCond .ne 11, 0, 0) := rfl
theorem f_152_67 : xi 152 67 = some (.invokevirtual 189, 149, 1133) := rfl
set_option maxRecDepth 1000000 in
theorem f_152_75 : xi 152 75 = some (.if_icmp .ne 11, 0, 0) := rfl
set_option maxRecDepth 1000000 in
theorem f_152_80 : xi 152 80 = some (.invokevirtual 192, 150, 1137) := rfl
set_option maxRecDepth 1000000 in
theorem f_152_88 : xi 152 88 = some (.invokevirtual 192, 150, 1137) := rfl
set_option maxRecDepth 1000000 in
theorem f_152_93 : xi 152 93 = some (.invokevirtual 189, 149, 1133) := rfl
set_option maxRecDepth 1000000 in
theorem f_152_97 : xi 152 97 = some (.ireturn, 0, 0) := rfl
theorem m_153 : xme 153 = some xe_153 := rfl
theorem f_153_1 : xi 153 1 = some (.invokestatic 155, 115, 1067) := rfl
theorem f_153_4 : xi 153 4 = some (.ifCond .eq 26, 0, 0) := rfl
theorem f_153_8 : xi 153 8 = some (.invokestatic 155, 115, 1067) := rfl
theorem f_153_11 : xi 153 11 = some (.ifCond .eq 19, 0, 0) := rfl
theorem f_153_17 : xi 153 17 = some (.invokestatic 75, 112, 889) := rfl
theorem f_153_20 : xi 153 20 = some (.ifCond .eq 10, 0, 0) := rfl
theorem f_153_24 : xi 153 24 = some (.invokevirtual 186, 148, 1113) := rfl
theorem f_153_27 : xi 153 27 = some (.ifCond .ne 6, 0, 0) := rfl
theorem f_153_32 : xi 153 32 = some (.ireturn, 0, 0) := rfl
theorem f_153_34 : xi 153 34 = some (.ifCond .ne 18, 0, 0) := rfl
theorem f_153_38 : xi 153 38 = some (.getfield 58, 82, 962) := rfl
theorem f_153_47 : xi 153 47 = some (.iaload, 0, 0) := rfl
theorem f_153_53 : xi 153 53 = some (.getfield 58, 82, 962) := rfl
theorem f_153_62 : xi 153 62 = some (.iaload, 0, 0) := rfl
theorem f_153_63 : xi 153 63 = some (.ireturn, 0, 0) := rfl
theorem m_154 : xme 154 = some xe_154 := rfl
theorem f_154_1 : xi 154 1 = some (.getfield 7, 49, 929) := rfl
theorem f_154_9 : xi 154 9 = some (.iaload, 0, 0) := rfl
theorem f_154_11 : xi 154 11 = some (.getfield 7, 49, 929) := rfl
theorem f_154_19 : xi 154 19 = some (.iaload, 0, 0) := rfl
theorem f_154_20 : xi 154 20 = some (.if_icmp .ne 33, 0, 0) := rfl
theorem f_154_25 : xi 154 25 = some (.invokevirtual 170, 140, 1082) := rfl
theorem f_154_30 : xi 154 30 = some (.invokevirtual 173, 141, 1097) := rfl
theorem f_154_33 : xi 154 33 = some (.if_icmp .gt 16, 0, 0) := rfl
theorem f_154_38 : xi 154 38 = some (.invokevirtual 170, 140, 1082) := rfl
theorem f_154_43 : xi 154 43 = some (.invokevirtual 173, 141, 1097) := rfl
theorem f_154_46 : xi 154 46 = some (.if_icmp .le 7, 0, 0) := rfl
theorem f_154_54 : xi 154 54 = some (.ireturn, 0, 0) := rfl
theorem m_155 : xme 155 = some xe_155 := rfl
theorem f_155_3 : xi 155 3 = some (.invokestatic 75, 112, 889) := rfl
theorem f_155_6 : xi 155 6 = some (.ifCond .ne 6, 0, 0) := rfl
theorem f_155_11 : xi 155 11 = some (.ireturn, 0, 0) := rfl
theorem f_155_22 : xi 155 22 = some (.getfield 72, 48, 928) := rfl
theorem f_155_25 : xi 155 25 = some (.if_icmp .ge 61, 0, 0) := rfl
theorem f_155_37 : xi 155 37 = some (.getfield 72, 48, 928) := rfl
theorem f_155_40 : xi 155 40 = some (.if_icmp .ge 40, 0, 0) := rfl
theorem f_155_48 : xi 155 48 = some (.invokevirtual 196, 154, 1150) := rfl
theorem f_155_51 : xi 155 51 = some (.ifCond .eq 23, 0, 0) := rfl
theorem f_155_55 : xi 155 55 = some (.ifCond .ne 14, 0, 0) := rfl
set_option maxRecDepth 1000000 in
theorem f_155_87 : xi 155 87 = some (.ifCond .ne 7, 0, 0) := rfl
set_option maxRecDepth 1000000 in
theorem f_155_95 : xi 155 95 = some (.ireturn, 0, 0) := rfl
theorem m_156 : xme 156 = some xe_156 := rfl
theorem f_156_3 : xi 156 3 = some (.invokestatic 75, 112, 889) := rfl
theorem f_156_6 : xi 156 6 = some (.ifCond .ne 6, 0, 0) := rfl
theorem f_156_11 : xi 156 11 = some (.ireturn, 0, 0) := rfl
theorem f_156_19 : xi 156 19 = some (.getfield 72, 48, 928) := rfl
theorem f_156_23 : xi 156 23 = some (.if_icmp .ge 44, 0, 0) := rfl
theorem f_156_28 : xi 156 28 = some (.if_icmp .eq 14, 0, 0) := rfl
theorem f_156_32 : xi 156 32 = some (.invokestatic 200, 117, 1158) := rfl
theorem f_156_36 : xi 156 36 = some (.invokestatic 200, 117, 1158) := rfl
theorem f_156_39 : xi 156 39 = some (.if_icmp .ge 22, 0, 0) := rfl
theorem f_156_44 : xi 156 44 = some (.invokevirtual 180, 145, 1117) := rfl
theorem f_156_49 : xi 156 49 = some (.invokevirtual 183, 147, 1121) := rfl
theorem f_156_52 : xi 156 52 = some (.ifCond .eq 7, 0, 0) := rfl
theorem f_156_69 : xi 156 69 = some (.if_icmp .eq 8, 0, 0) := rfl
set_option maxRecDepth 1000000 in
theorem f_156_74 : xi 156 74 = some (.if_icmp .ne 7, 0, 0) := rfl
set_option maxRecDepth 1000000 in
theorem f_156_82 : xi 156 82 = some (.invokestatic 200, 117, 1158) := rfl
set_option maxRecDepth 1000000 in
theorem f_156_85 : xi 156 85 = some (.ireturn, 0, 0) := rfl
theorem m_157 : xme 157 = some xe_157 := rfl
theorem f_157_3 : xi 157 3 = some (.invokevirtual 186, 148, 1113) := rfl
theorem f_157_11 : xi 157 11 = some (.getfield 82, 50, 930) := rfl
theorem f_157_14 : xi 157 14 = some (.if_icmp .ge 33, 0, 0) := rfl
theorem f_157_18 : xi 157 18 = some (.ifCond .ne 29, 0, 0) := rfl
theorem f_157_26 : xi 157 26 = some (.invokevirtual 183, 147, 1121) := rfl
theorem f_157_29 : xi 157 29 = some (.ifCond .eq 9, 0, 0) := rfl
theorem f_157_48 : xi 157 48 = some (.ireturn, 0, 0) := rfl
theorem m_158 : xme 158 = some xe_158 := rfl
theorem f_158_1 : xi 158 1 = some (.getfield 88, 58, 938) := rfl
theorem f_158_7 : xi 158 7 = some (.putfield 88, 58, 938) := rfl
theorem f_158_12 : xi 158 12 = some (.invokevirtual 203, 134, 1182) := rfl
theorem f_158_19 : xi 158 19 = some (.putfield 88, 58, 938) := rfl
theorem f_158_24 : xi 158 24 = some (.ireturn, 0, 0) := rfl
theorem m_159 : xme 159 = some xe_159 := rfl
theorem f_159_5 : xi 159 5 = some (.if_icmp .ge 108, 0, 0) := rfl
theorem f_159_13 : xi 159 13 = some (.if_icmp .ge 36, 0, 0) := rfl
theorem f_159_17 : xi 159 17 = some (.getfield 49, 79, 959) := rfl
theorem f_159_26 : xi 159 26 = some (.ifCond .ne 11, 0, 0) := rfl
theorem f_159_31 : xi 159 31 = some (.invokevirtual 189, 149, 1133) := rfl
theorem f_159_39 : xi 159 39 = some (.invokevirtual 192, 150, 1137) := rfl
theorem f_159_42 : xi 159 42 = some (.iastore, 0, 0) := rfl
theorem f_159_52 : xi 159 52 = some (.invokevirtual 206, 158, 1178) := rfl
theorem f_159_55 : xi 159 55 = some (.i2l, 0, 0) := rfl
theorem f_159_59 : xi 159 59 = some (.ifCond .eq 12, 0, 0) := rfl
theorem f_159_64 : xi 159 64 = some (.getfield 209, 83, 963) := rfl
set_option maxRecDepth 1000000 in
theorem f_159_67 : xi 159 67 = some (.lcmp, 0, 0) := rfl
set_option maxRecDepth 1000000 in
theorem f_159_68 : xi 159 68 = some (.ifCond .ge 7, 0, 0) := rfl
set_option maxRecDepth 1000000 in
theorem f_159_76 : xi 159 76 = some (.getfield 209, 83, 963) := rfl
set_option maxRecDepth 1000000 in
theorem f_159_79 : xi 159 79 = some (.putfield 209, 83, 963) := rfl
set_option maxRecDepth 1000000 in
theorem f_159_84 : xi 159 84 = some (.ifCond .eq 12, 0, 0) := rfl
set_option maxRecDepth 1000000 in
theorem f_159_89 : xi 159 89 = some (.getfield 213, 84, 964) := rfl
set_option maxRecDepth 1000000 in
theorem f_159_92 : xi 159 92 = some (.lcmp, 0, 0) := rfl
set_option maxRecDepth 1000000 in
theorem f_159_93 : xi 159 93 = some (.ifCond .le 7, 0, 0) := rfl
set_option maxRecDepth 1000000 in
theorem f_159_101 : xi 159 101 = some (.getfield 213, 84, 964) := rfl
set_option maxRecDepth 1000000 in
theorem f_159_104 : xi 159 104 = some (.putfield 213, 84, 964) := rfl
set_option maxRecDepth 1000000 in
theorem f_159_113 : xi 159 113 = some (.return_, 0, 0) := rfl
theorem m_160 : xme 160 = some xe_160 := rfl
theorem f_160_2 : xi 160 2 = some (.invokevirtual 216, 159, 1174) := rfl
theorem f_160_6 : xi 160 6 = some (.getfield 213, 84, 964) := rfl
theorem f_160_10 : xi 160 10 = some (.getfield 209, 83, 963) := rfl
theorem f_160_14 : xi 160 14 = some (.lreturn, 0, 0) := rfl
theorem m_161 : xme 161 = some xe_161 := rfl
theorem f_161_2 : xi 161 2 = some (.invokevirtual 219, 116, 1169) := rfl
theorem f_161_5 : xi 161 5 = some (.ifCond .eq 19, 0, 0) := rfl
theorem f_161_11 : xi 161 11 = some (.invokestatic 75, 112, 889) := rfl
theorem f_161_14 : xi 161 14 = some (.ifCond .eq 10, 0, 0) := rfl
theorem f_161_18 : xi 161 18 = some (.invokevirtual 186, 148, 1113) := rfl
theorem f_161_21 : xi 161 21 = some (.ifCond .ne 7, 0, 0) := rfl
theorem f_161_27 : xi 161 27 = some (.lreturn, 0, 0) := rfl
theorem f_161_30 : xi 161 30 = some (.invokevirtual 216, 159, 1174) := rfl
theorem f_161_34 : xi 161 34 = some (.ifCond .ne 10, 0, 0) := rfl
theorem f_161_38 : xi 161 38 = some (.getfield 209, 83, 963) := rfl
theorem f_161_46 : xi 161 46 = some (.if_icmp .ne 10, 0, 0) := rfl
theorem f_161_50 : xi 161 50 = some (.getfield 213, 84, 964) := rfl
theorem f_161_57 : xi 161 57 = some (.getfield 213, 84, 964) := rfl
theorem f_161_61 : xi 161 61 = some (.getfield 209, 83, 963) := rfl
theorem f_161_65 : xi 161 65 = some (.lreturn, 0, 0) := rfl
theorem m_162 : xme 162 = some xe_162 := rfl
theorem f_162_5 : xi 162 5 = some (.if_icmp .ge 20, 0, 0) := rfl
theorem f_162_9 : xi 162 9 = some (.getfield 49, 79, 959) := rfl
theorem f_162_15 : xi 162 15 = some (.invokevirtual 189, 149, 1133) := rfl
theorem f_162_18 : xi 162 18 = some (.iastore, 0, 0) := rfl
theorem f_162_27 : xi 162 27 = some (.invokevirtual 203, 134, 1182) := rfl
theorem f_162_33 : xi 162 33 = some (.invokestatic 164, 113, 1094) := rfl
theorem f_162_36 : xi 162 36 = some (.ireturn, 0, 0) := rfl
theorem m_163 : xme 163 = some xe_163 := rfl
theorem f_163_1 : xi 163 1 = some (.invokevirtual 186, 148, 1113) := rfl
theorem f_163_4 : xi 163 4 = some (.ifCond .eq 10, 0, 0) := rfl
theorem f_163_8 : xi 163 8 = some (.invokevirtual 224, 162, 1193) := rfl
theorem f_163_15 : xi 163 15 = some (.ireturn, 0, 0) := rfl
theorem m_164 : xme 164 = some xe_164 := rfl
theorem f_164_5 : xi 164 5 = some (.ifCond .lt 53, 0, 0) := rfl
theorem f_164_9 : xi 164 9 = some (.getfield 61, 85, 965) := rfl
theorem f_164_13 : xi 164 13 = some (.iaload, 0, 0) := rfl
theorem f_164_15 : xi 164 15 = some (.if_icmp .ge 37, 0, 0) := rfl
theorem f_164_19 : xi 164 19 = some (.getfield 61, 85, 965) := rfl
theorem f_164_23 : xi 164 23 = some (.iaload, 0, 0) := rfl
theorem f_164_33 : xi 164 33 = some (.if_icmp .ge 17, 0, 0) := rfl
theorem f_164_37 : xi 164 37 = some (.getfield 61, 85, 965) := rfl
theorem f_164_43 : xi 164 43 = some (.iastore, 0, 0) := rfl
theorem f_164_51 : xi 164 51 = some (.ireturn, 0, 0) := rfl
theorem f_164_59 : xi 164 59 = some (.ireturn, 0, 0) := rfl
theorem m_165 : xme 165 = some xe_165 := rfl
theorem f_165_2 : xi 165 2 = some (.invokevirtual 180, 145, 1117) := rfl
theorem f_165_10 : xi 165 10 = some (.if_icmp .ge 71, 0, 0) := rfl
theorem f_165_21 : xi 165 21 = some (.if_icmp .ge 28, 0, 0) := rfl
theorem f_165_26 : xi 165 26 = some (.getfield 61, 85, 965) := rfl
theorem f_165_31 : xi 165 31 = some (.iaload, 0, 0) := rfl
theorem f_165_33 : xi 165 33 = some (.if_icmp .ne 7, 0, 0) := rfl
theorem f_165_50 : xi 165 50 = some (.getfield 52, 80, 960) := rfl
theorem f_165_55 : xi 165 55 = some (.iaload, 0, 0) := rfl
theorem f_165_58 : xi 165 58 = some (.idiv, 0, 0) := rfl
theorem f_165_60 : xi 165 60 = some (.iastore, 0, 0) := rfl
theorem f_165_62 : xi 165 62 = some (.getfield 55, 81, 961) := rfl
set_option maxRecDepth 1000000 in
theorem f_165_67 : xi 165 67 = some (.iaload, 0, 0) := rfl
set_option maxRecDepth 1000000 in
theorem f_165_72 : xi 165 72 = some (.idiv, 0, 0) := rfl
set_option maxRecDepth 1000000 in
theorem f_165_74 : xi 165 74 = some (.iastore, 0, 0) := rfl
set_option maxRecDepth 1000000 in
theorem f_165_83 : xi 165 83 = some (.invokevirtual 183, 147, 1121) := rfl
set_option maxRecDepth 1000000 in
theorem f_165_86 : xi 165 86 = some (.ireturn, 0, 0) := rfl
theorem m_166 : xme 166 = some xe_166 := rfl
theorem f_166_6 : xi 166 6 = some (.if_icmp .ge 23, 0, 0) := rfl
theorem f_166_14 : xi 166 14 = some (.getfield 61, 85, 965) := rfl
theorem f_166_18 : xi 166 18 = some (.iaload, 0, 0) := rfl
theorem f_166_30 : xi 166 30 = some (.ireturn, 0, 0) := rfl
theorem m_167 : xme 167 = some xe_167 := rfl
theorem f_167_2 : xi 167 2 = some (.invokevirtual 219, 116, 1169) := rfl
theorem f_167_5 : xi 167 5 = some (.ifCond .eq 30, 0, 0) := rfl
theorem f_167_13 : xi 167 13 = some (.invokestatic 75, 112, 889) := rfl
theorem f_167_16 : xi 167 16 = some (.ifCond .eq 19, 0, 0) := rfl
theorem f_167_22 : xi 167 22 = some (.invokestatic 75, 112, 889) := rfl
theorem f_167_25 : xi 167 25 = some (.ifCond .eq 10, 0, 0) := rfl
theorem f_167_29 : xi 167 29 = some (.invokevirtual 186, 148, 1113) := rfl
theorem f_167_32 : xi 167 32 = some (.ifCond .ne 7, 0, 0) := rfl
theorem f_167_38 : xi 167 38 = some (.lreturn, 0, 0) := rfl
theorem f_167_40 : xi 167 40 = some (.invokevirtual 224, 162, 1193) := rfl
theorem f_167_47 : xi 167 47 = some (.ifCond .ne 7, 0, 0) := rfl
theorem f_167_57 : xi 167 57 = some (.idiv, 0, 0) := rfl
theorem f_167_60 : xi 167 60 = some (.invokestatic 164, 113, 1094) := rfl
theorem f_167_71 : xi 167 71 = some (.if_icmp .ge 17, 0, 0) := rfl
theorem f_167_75 : xi 167 75 = some (.getfield 61, 85, 965) := rfl
set_option maxRecDepth 1000000 in
theorem f_167_81 : xi 167 81 = some (.iastore, 0, 0) := rfl
set_option maxRecDepth 1000000 in
theorem f_167_101 : xi 167 101 = some (.ifCond .eq 86, 0, 0) := rfl
set_option maxRecDepth 1000000 in
theorem f_167_107 : xi 167 107 = some (.invokevirtual 227, 165, 1201) := rfl
set_option maxRecDepth 1000000 in
theorem f_167_110 : xi 167 110 = some (.ifCond .eq 66, 0, 0) := rfl
set_option maxRecDepth 1000000 in
theorem f_167_115 : xi 167 115 = some (.invokevirtual 230, 160, 1205) := rfl
set_option maxRecDepth 1000000 in
theorem f_167_125 : xi 167 125 = some (.lcmp, 0, 0) := rfl
set_option maxRecDepth 1000000 in
theorem f_167_126 : xi 167 126 = some (.ifCond .eq 11, 0, 0) := rfl
set_option maxRecDepth 1000000 in
theorem f_167_133 : xi 167 133 = some (.lcmp, 0, 0) := rfl
set_option maxRecDepth 1000000 in
theorem f_167_134 : xi 167 134 = some (.ifCond .ge 12, 0, 0) := rfl
set_option maxRecDepth 1000000 in
theorem f_167_140 : xi 167 140 = some (.invokevirtual 234, 166, 1209) := rfl
set_option maxRecDepth 1000000 in
theorem f_167_155 : xi 167 155 = some (.lcmp, 0, 0) := rfl
set_option maxRecDepth 1000000 in
theorem f_167_156 : xi 167 156 = some (.ifCond .eq 11, 0, 0) := rfl
set_option maxRecDepth 1000000 in
theorem f_167_163 : xi 167 163 = some (.lcmp, 0, 0) := rfl
set_option maxRecDepth 1000000 in
theorem f_167_164 : xi 167 164 = some (.ifCond .ge 8, 0, 0) := rfl
set_option maxRecDepth 1000000 in
theorem f_167_179 : xi 167 179 = some (.invokevirtual 237, 164, 1213) := rfl
set_option maxRecDepth 1000000 in
theorem f_167_192 : xi 167 192 = some (.lcmp, 0, 0) := rfl
set_option maxRecDepth 1000000 in
theorem f_167_193 : xi 167 193 = some (.ifCond .ne 9, 0, 0) := rfl
set_option maxRecDepth 1000000 in
theorem f_167_203 : xi 167 203 = some (.ifCond .ne 9, 0, 0) := rfl
set_option maxRecDepth 1000000 in
theorem f_167_208 : xi 167 208 = some (.i2l, 0, 0) := rfl
set_option maxRecDepth 1000000 in
theorem f_167_214 : xi 167 214 = some (.lreturn, 0, 0) := rfl
theorem m_168 : xme 168 = some xe_168 := rfl
theorem f_168_2 : xi 168 2 = some (.invokevirtual 219, 116, 1169) := rfl
theorem f_168_5 : xi 168 5 = some (.ifCond .eq 18, 0, 0) := rfl
theorem f_168_10 : xi 168 10 = some (.invokevirtual 167, 114, 1078) := rfl
theorem f_168_13 : xi 168 13 = some (.ifCond .eq 10, 0, 0) := rfl
theorem f_168_17 : xi 168 17 = some (.invokevirtual 186, 148, 1113) := rfl
theorem f_168_20 : xi 168 20 = some (.ifCond .ne 7, 0, 0) := rfl
theorem f_168_26 : xi 168 26 = some (.lreturn, 0, 0) := rfl
theorem f_168_29 : xi 168 29 = some (.invokevirtual 230, 160, 1205) := rfl
theorem f_168_37 : xi 168 37 = some (.invokevirtual 180, 145, 1117) := rfl
theorem f_168_42 : xi 168 42 = some (.invokevirtual 183, 147, 1121) := rfl
theorem f_168_48 : xi 168 48 = some (.invokevirtual 230, 160, 1205) := rfl
theorem f_168_53 : xi 168 53 = some (.lreturn, 0, 0) := rfl
theorem m_169 : xme 169 = some xe_169 := rfl
theorem f_169_2 : xi 169 2 = some (.invokevirtual 219, 116, 1169) := rfl
theorem f_169_5 : xi 169 5 = some (.ifCond .eq 21, 0, 0) := rfl
theorem f_169_9 : xi 169 9 = some (.invokestatic 155, 115, 1067) := rfl
theorem f_169_12 : xi 169 12 = some (.ifCond .eq 14, 0, 0) := rfl
theorem f_169_20 : xi 169 20 = some (.invokestatic 75, 112, 889) := rfl
theorem f_169_23 : xi 169 23 = some (.ifCond .ne 7, 0, 0) := rfl
theorem f_169_29 : xi 169 29 = some (.lreturn, 0, 0) := rfl
theorem f_169_32 : xi 169 32 = some (.invokevirtual 180, 145, 1117) := rfl
theorem f_169_36 : xi 169 36 = some (.getfield 52, 80, 960) := rfl
theorem f_169_41 : xi 169 41 = some (.iastore, 0, 0) := rfl
theorem f_169_43 : xi 169 43 = some (.getfield 55, 81, 961) := rfl
theorem f_169_48 : xi 169 48 = some (.iastore, 0, 0) := rfl
theorem f_169_51 : xi 169 51 = some (.invokevirtual 183, 147, 1121) := rfl
theorem f_169_54 : xi 169 54 = some (.ifCond .eq 11, 0, 0) := rfl
theorem f_169_59 : xi 169 59 = some (.invokevirtual 230, 160, 1205) := rfl
theorem f_169_68 : xi 169 68 = some (.lreturn, 0, 0) := rfl
theorem m_170 : xme 170 = some xe_170 := rfl
theorem f_170_2 : xi 170 2 = some (.lcmp, 0, 0) := rfl
theorem f_170_3 : xi 170 3 = some (.ifCond .ne 7, 0, 0) := rfl
theorem f_170_8 : xi 170 8 = some (.i2l, 0, 0) := rfl
theorem f_170_9 : xi 170 9 = some (.lreturn, 0, 0) := rfl
theorem f_170_19 : xi 170 19 = some (.lcmp, 0, 0) := rfl
theorem f_170_20 : xi 170 20 = some (.ifCond .eq 21, 0, 0) := rfl
theorem f_170_27 : xi 170 27 = some (.lrem, 0, 0) := rfl
theorem f_170_43 : xi 170 43 = some (.ifCond .ne 7, 0, 0) := rfl
theorem f_170_53 : xi 170 53 = some (.ldiv, 0, 0) := rfl
theorem f_170_54 : xi 170 54 = some (.lreturn, 0, 0) := rfl
theorem m_171 : xme 171 = some xe_171 := rfl
theorem f_171_1 : xi 171 1 = some (.invokestatic 155, 115, 1067) := rfl
theorem f_171_4 : xi 171 4 = some (.ifCond .eq 30, 0, 0) := rfl
theorem f_171_12 : xi 171 12 = some (.invokestatic 75, 112, 889) := rfl
theorem f_171_15 : xi 171 15 = some (.ifCond .eq 19, 0, 0) := rfl
theorem f_171_21 : xi 171 21 = some (.invokestatic 75, 112, 889) := rfl
theorem f_171_24 : xi 171 24 = some (.ifCond .eq 10, 0, 0) := rfl
theorem f_171_28 : xi 171 28 = some (.invokevirtual 186, 148, 1113) := rfl
theorem f_171_31 : xi 171 31 = some (.ifCond .ne 7, 0, 0) := rfl
theorem f_171_37 : xi 171 37 = some (.lreturn, 0, 0) := rfl
theorem f_171_40 : xi 171 40 = some (.invokevirtual 192, 150, 1137) := rfl
theorem f_171_45 : xi 171 45 = some (.invokevirtual 189, 149, 1133) := rfl
theorem f_171_56 : xi 171 56 = some (.invokevirtual 189, 149, 1133) := rfl
theorem f_171_65 : xi 171 65 = some (.invokestatic 164, 113, 1094) := rfl
theorem f_171_68 : xi 171 68 = some (.i2l, 0, 0) := rfl
theorem f_171_71 : xi 171 71 = some (.i2l, 0, 0) := rfl
set_option maxRecDepth 1000000 in
theorem f_171_73 : xi 171 73 = some (.invokestatic 240, 170, 1229) := rfl
set_option maxRecDepth 1000000 in
theorem f_171_76 : xi 171 76 = some (.lreturn, 0, 0) := rfl
theorem m_172 : xme 172 = some xe_172 := rfl
theorem f_172_1 : xi 172 1 = some (.invokestatic 155, 115, 1067) := rfl
theorem f_172_4 : xi 172 4 = some (.ifCond .eq 31, 0, 0) := rfl
theorem f_172_8 : xi 172 8 = some (.invokestatic 155, 115, 1067) := rfl
theorem f_172_11 : xi 172 11 = some (.ifCond .eq 24, 0, 0) := rfl
theorem f_172_16 : xi 172 16 = some (.if_icmp .eq 19, 0, 0) := rfl
theorem f_172_22 : xi 172 22 = some (.invokestatic 75, 112, 889) := rfl
theorem f_172_25 : xi 172 25 = some (.ifCond .eq 10, 0, 0) := rfl
theorem f_172_29 : xi 172 29 = some (.invokevirtual 186, 148, 1113) := rfl
theorem f_172_32 : xi 172 32 = some (.ifCond .ne 7, 0, 0) := rfl
theorem f_172_38 : xi 172 38 = some (.lreturn, 0, 0) := rfl
theorem f_172_41 : xi 172 41 = some (.invokevirtual 192, 150, 1137) := rfl
theorem f_172_46 : xi 172 46 = some (.invokevirtual 189, 149, 1133) := rfl
theorem f_172_59 : xi 172 59 = some (.invokevirtual 189, 149, 1133) := rfl
theorem f_172_68 : xi 172 68 = some (.invokevirtual 192, 150, 1137) := rfl
theorem f_172_71 : xi 172 71 = some (.if_icmp .gt 29, 0, 0) := rfl
set_option maxRecDepth 1000000 in
theorem f_172_78 : xi 172 78 = some (.invokevirtual 192, 150, 1137) := rfl
set_option maxRecDepth 1000000 in
theorem f_172_87 : xi 172 87 = some (.invokestatic 164, 113, 1094) := rfl
set_option maxRecDepth 1000000 in
theorem f_172_90 : xi 172 90 = some (.i2l, 0, 0) := rfl
set_option maxRecDepth 1000000 in
theorem f_172_104 : xi 172 104 = some (.invokevirtual 192, 150, 1137) := rfl
set_option maxRecDepth 1000000 in
theorem f_172_109 : xi 172 109 = some (.invokevirtual 189, 149, 1133) := rfl
set_option maxRecDepth 1000000 in
theorem f_172_113 : xi 172 113 = some (.i2l, 0, 0) := rfl
set_option maxRecDepth 1000000 in
theorem f_172_118 : xi 172 118 = some (.i2l, 0, 0) := rfl
set_option maxRecDepth 1000000 in
theorem f_172_121 : xi 172 121 = some (.invokestatic 240, 170, 1229) := rfl
set_option maxRecDepth 1000000 in
theorem f_172_124 : xi 172 124 = some (.lreturn, 0, 0) := rfl
theorem m_173 : xme 173 = some xe_173 := rfl
theorem f_173_3 : xi 173 3 = some (.invokestatic 75, 112, 889) := rfl
theorem f_173_6 : xi 173 6 = some (.ifCond .ne 6, 0, 0) := rfl
theorem f_173_11 : xi 173 11 = some (.ireturn, 0, 0) := rfl
theorem f_173_13 : xi 173 13 = some (.getfield 28, 65, 945) := rfl
theorem f_173_17 : xi 173 17 = some (.iaload, 0, 0) := rfl
theorem f_173_19 : xi 173 19 = some (.if_icmp .ne 6, 0, 0) := rfl
theorem f_173_24 : xi 173 24 = some (.ireturn, 0, 0) := rfl
theorem f_173_26 : xi 173 26 = some (.getfield 31, 66, 946) := rfl
theorem f_173_30 : xi 173 30 = some (.iaload, 0, 0) := rfl
theorem f_173_33 : xi 173 33 = some (.if_icmp .ne 7, 0, 0) := rfl
theorem f_173_42 : xi 173 42 = some (.ireturn, 0, 0) := rfl
theorem m_174 : xme 174 = some xe_174 := rfl
theorem f_174_2 : xi 174 2 = some (.invokevirtual 244, 173, 1240) := rfl
theorem f_174_7 : xi 174 7 = some (.ifCond .eq 5, 0, 0) := rfl
theorem f_174_11 : xi 174 11 = some (.ireturn, 0, 0) := rfl
theorem f_174_20 : xi 174 20 = some (.getfield 72, 48, 928) := rfl
theorem f_174_23 : xi 174 23 = some (.if_icmp .ge 59, 0, 0) := rfl
theorem f_174_28 : xi 174 28 = some (.getfield 34, 67, 947) := rfl
theorem f_174_36 : xi 174 36 = some (.getfield 7, 49, 929) := rfl
theorem f_174_45 : xi 174 45 = some (.iaload, 0, 0) := rfl
theorem f_174_47 : xi 174 47 = some (.iaload, 0, 0) := rfl
theorem f_174_51 : xi 174 51 = some (.invokevirtual 170, 140, 1082) := rfl
theorem f_174_57 : xi 174 57 = some (.invokevirtual 173, 141, 1097) := rfl
theorem f_174_60 : xi 174 60 = some (.invokestatic 75, 112, 889) := rfl
theorem f_174_63 : xi 174 63 = some (.ifCond .eq 7, 0, 0) := rfl
set_option maxRecDepth 1000000 in
theorem f_174_83 : xi 174 83 = some (.ireturn, 0, 0) := rfl
theorem m_175 : xme 175 = some xe_175 := rfl
theorem f_175_2 : xi 175 2 = some (.invokevirtual 244, 173, 1240) := rfl
theorem f_175_7 : xi 175 7 = some (.ifCond .eq 5, 0, 0) := rfl
theorem f_175_11 : xi 175 11 = some (.ireturn, 0, 0) := rfl
theorem f_175_20 : xi 175 20 = some (.getfield 82, 50, 930) := rfl
theorem f_175_23 : xi 175 23 = some (.if_icmp .ge 101, 0, 0) := rfl
theorem f_175_27 : xi 175 27 = some (.getfield 34, 67, 947) := rfl
theorem f_175_35 : xi 175 35 = some (.getfield 13, 51, 931) := rfl
theorem f_175_44 : xi 175 44 = some (.iaload, 0, 0) := rfl
theorem f_175_46 : xi 175 46 = some (.iaload, 0, 0) := rfl
theorem f_175_47 : xi 175 47 = some (.i2l, 0, 0) := rfl
theorem f_175_49 : xi 175 49 = some (.getfield 34, 67, 947) := rfl
theorem f_175_57 : xi 175 57 = some (.getfield 13, 51, 931) := rfl
set_option maxRecDepth 1000000 in
theorem f_175_64 : xi 175 64 = some (.iaload, 0, 0) := rfl
set_option maxRecDepth 1000000 in
theorem f_175_66 : xi 175 66 = some (.iaload, 0, 0) := rfl
set_option maxRecDepth 1000000 in
theorem f_175_67 : xi 175 67 = some (.i2l, 0, 0) := rfl
set_option maxRecDepth 1000000 in
theorem f_175_75 : xi 175 75 = some (.getfield 13, 51, 931) := rfl
set_option maxRecDepth 1000000 in
theorem f_175_84 : xi 175 84 = some (.iaload, 0, 0) := rfl
set_option maxRecDepth 1000000 in
theorem f_175_85 : xi 175 85 = some (.i2l, 0, 0) := rfl
set_option maxRecDepth 1000000 in
theorem f_175_86 : xi 175 86 = some (.lcmp, 0, 0) := rfl
set_option maxRecDepth 1000000 in
theorem f_175_87 : xi 175 87 = some (.ifCond .lt 25, 0, 0) := rfl
set_option maxRecDepth 1000000 in
theorem f_175_93 : xi 175 93 = some (.getfield 13, 51, 931) := rfl
set_option maxRecDepth 1000000 in
theorem f_175_102 : xi 175 102 = some (.iaload, 0, 0) := rfl
set_option maxRecDepth 1000000 in
theorem f_175_103 : xi 175 103 = some (.i2l, 0, 0) := rfl
set_option maxRecDepth 1000000 in
theorem f_175_104 : xi 175 104 = some (.lcmp, 0, 0) := rfl
set_option maxRecDepth 1000000 in
theorem f_175_105 : xi 175 105 = some (.ifCond .gt 7, 0, 0) := rfl
set_option maxRecDepth 1000000 in
theorem f_175_125 : xi 175 125 = some (.ireturn, 0, 0) := rfl
theorem m_176 : xme 176 = some xe_176 := rfl
theorem f_176_2 : xi 176 2 = some (.invokevirtual 244, 173, 1240) := rfl
theorem f_176_7 : xi 176 7 = some (.ifCond .ne 10, 0, 0) := rfl
theorem f_176_11 : xi 176 11 = some (.invokevirtual 186, 148, 1113) := rfl
theorem f_176_14 : xi 176 14 = some (.ifCond .ne 14, 0, 0) := rfl
theorem f_176_18 : xi 176 18 = some (.ifCond .eq 7, 0, 0) := rfl
theorem f_176_27 : xi 176 27 = some (.ireturn, 0, 0) := rfl
theorem f_176_33 : xi 176 33 = some (.if_icmp .ge 38, 0, 0) := rfl
theorem f_176_37 : xi 176 37 = some (.getfield 34, 67, 947) := rfl
theorem f_176_46 : xi 176 46 = some (.iaload, 0, 0) := rfl
theorem f_176_49 : xi 176 49 = some (.invokevirtual 189, 149, 1133) := rfl
theorem f_176_54 : xi 176 54 = some (.invokevirtual 192, 150, 1137) := rfl
theorem f_176_57 : xi 176 57 = some (.invokestatic 75, 112, 889) := rfl
theorem f_176_60 : xi 176 60 = some (.ifCond .ne 5, 0, 0) := rfl
theorem f_176_64 : xi 176 64 = some (.ireturn, 0, 0) := rfl
set_option maxRecDepth 1000000 in
theorem f_176_72 : xi 176 72 = some (.ireturn, 0, 0) := rfl
theorem m_177 : xme 177 = some xe_177 := rfl
theorem f_177_5 : xi 177 5 = some (.if_icmp .ge 26, 0, 0) := rfl
theorem f_177_9 : xi 177 9 = some (.getfield 49, 79, 959) := rfl
theorem f_177_14 : xi 177 14 = some (.getfield 34, 67, 947) := rfl
theorem f_177_23 : xi 177 23 = some (.iaload, 0, 0) := rfl
theorem f_177_24 : xi 177 24 = some (.iastore, 0, 0) := rfl
theorem f_177_31 : xi 177 31 = some (.return_, 0, 0) := rfl
theorem m_178 : xme 178 = some xe_178 := rfl
theorem f_178_2 : xi 178 2 = some (.invokevirtual 244, 173, 1240) := rfl
theorem f_178_5 : xi 178 5 = some (.ifCond .ne 11, 0, 0) := rfl
theorem f_178_10 : xi 178 10 = some (.invokevirtual 219, 116, 1169) := rfl
theorem f_178_13 : xi 178 13 = some (.ifCond .ne 7, 0, 0) := rfl
theorem f_178_19 : xi 178 19 = some (.lreturn, 0, 0) := rfl
theorem f_178_22 : xi 178 22 = some (.invokevirtual 247, 177, 1256) := rfl
theorem f_178_28 : xi 178 28 = some (.invokevirtual 206, 158, 1178) := rfl
theorem f_178_31 : xi 178 31 = some (.i2l, 0, 0) := rfl
theorem f_178_32 : xi 178 32 = some (.lreturn, 0, 0) := rfl
theorem m_179 : xme 179 = some xe_179 := rfl
theorem f_179_2 : xi 179 2 = some (.invokevirtual 244, 173, 1240) := rfl
theorem f_179_7 : xi 179 7 = some (.ifCond .eq 5, 0, 0) := rfl
theorem f_179_11 : xi 179 11 = some (.ireturn, 0, 0) := rfl
theorem f_179_14 : xi 179 14 = some (.invokevirtual 247, 177, 1256) := rfl
theorem f_179_25 : xi 179 25 = some (.getfield 79, 57, 937) := rfl
theorem f_179_28 : xi 179 28 = some (.if_icmp .ge 30, 0, 0) := rfl
theorem f_179_36 : xi 179 36 = some (.invokevirtual 206, 158, 1178) := rfl
theorem f_179_39 : xi 179 39 = some (.ifCond .ne 7, 0, 0) := rfl
theorem f_179_59 : xi 179 59 = some (.ireturn, 0, 0) := rfl
theorem m_180 : xme 180 = some xe_180 := rfl
theorem f_180_3 : xi 180 3 = some (.invokestatic 75, 112, 889) := rfl
theorem f_180_6 : xi 180 6 = some (.ifCond .ne 6, 0, 0) := rfl
theorem f_180_11 : xi 180 11 = some (.ireturn, 0, 0) := rfl
theorem f_180_15 : xi 180 15 = some (.invokestatic 75, 112, 889) := rfl
theorem f_180_18 : xi 180 18 = some (.ifCond .ne 6, 0, 0) := rfl
theorem f_180_23 : xi 180 23 = some (.ireturn, 0, 0) := rfl
theorem f_180_25 : xi 180 25 = some (.invokevirtual 186, 148, 1113) := rfl
theorem f_180_28 : xi 180 28 = some (.ifCond .ne 6, 0, 0) := rfl
theorem f_180_33 : xi 180 33 = some (.ireturn, 0, 0) := rfl
theorem f_180_35 : xi 180 35 = some (.getfield 28, 65, 945) := rfl
theorem f_180_40 : xi 180 40 = some (.iastore, 0, 0) := rfl
theorem f_180_42 : xi 180 42 = some (.getfield 31, 66, 946) := rfl
theorem f_180_48 : xi 180 48 = some (.iastore, 0, 0) := rfl
theorem f_180_54 : xi 180 54 = some (.if_icmp .ge 47, 0, 0) := rfl
theorem f_180_58 : xi 180 58 = some (.getfield 34, 67, 947) := rfl
set_option maxRecDepth 1000000 in
theorem f_180_70 : xi 180 70 = some (.if_icmp .lt 7, 0, 0) := rfl
set_option maxRecDepth 1000000 in
theorem f_180_78 : xi 180 78 = some (.ifCond .ne 11, 0, 0) := rfl
set_option maxRecDepth 1000000 in
theorem f_180_83 : xi 180 83 = some (.invokevirtual 189, 149, 1133) := rfl
set_option maxRecDepth 1000000 in
theorem f_180_91 : xi 180 91 = some (.invokevirtual 192, 150, 1137) := rfl
set_option maxRecDepth 1000000 in
theorem f_180_94 : xi 180 94 = some (.iastore, 0, 0) := rfl
set_option maxRecDepth 1000000 in
theorem f_180_103 : xi 180 103 = some (.ireturn, 0, 0) := rfl
theorem m_181 : xme 181 = some xe_181 := rfl
theorem f_181_1 : xi 181 1 = some (.i2l, 0, 0) := rfl
theorem f_181_12 : xi 181 12 = some (.if_icmp .ge 52, 0, 0) := rfl
theorem f_181_23 : xi 181 23 = some (.lrem, 0, 0) := rfl
theorem f_181_26 : xi 181 26 = some (.getfield 49, 79, 959) := rfl
theorem f_181_34 : xi 181 34 = some (.invokevirtual 189, 149, 1133) := rfl
theorem f_181_41 : xi 181 41 = some (.invokevirtual 192, 150, 1137) := rfl
theorem f_181_47 : xi 181 47 = some (.invokevirtual 189, 149, 1133) := rfl
theorem f_181_53 : xi 181 53 = some (.i2l, 0, 0) := rfl
theorem f_181_54 : xi 181 54 = some (.lrem, 0, 0) := rfl
theorem f_181_57 : xi 181 57 = some (.iastore, 0, 0) := rfl
theorem f_181_64 : xi 181 64 = some (.return_, 0, 0) := rfl
theorem m_182 : xme 182 = some xe_182 := rfl
theorem f_182_4 : xi 182 4 = some (.invokestatic 75, 112, 889) := rfl
theorem f_182_7 : xi 182 7 = some (.ifCond .eq 13, 0, 0) := rfl
theorem f_182_14 : xi 182 14 = some (.invokestatic 75, 112, 889) := rfl
theorem f_182_17 : xi 182 17 = some (.ifCond .ne 6, 0, 0) := rfl
theorem f_182_22 : xi 182 22 = some (.ireturn, 0, 0) := rfl
theorem f_182_24 : xi 182 24 = some (.invokevirtual 186, 148, 1113) := rfl
theorem f_182_27 : xi 182 27 = some (.ifCond .ne 5, 0, 0) := rfl
theorem f_182_31 : xi 182 31 = some (.ireturn, 0, 0) := rfl
theorem f_182_34 : xi 182 34 = some (.invokevirtual 255, 181, 1273) := rfl
theorem f_182_40 : xi 182 40 = some (.if_icmp .ge 12, 0, 0) := rfl
theorem f_182_44 : xi 182 44 = some (.getfield 49, 79, 959) := rfl
theorem f_182_48 : xi 182 48 = some (.iaload, 0, 0) := rfl
theorem f_182_54 : xi 182 54 = some (.invokevirtual 203, 134, 1182) := rfl
theorem f_182_57 : xi 182 57 = some (.ifCond .ne 7, 0, 0) := rfl
theorem f_182_65 : xi 182 65 = some (.ireturn, 0, 0) := rfl
theorem m_183 : xme 183 = some xe_183 := rfl
theorem f_183_4 : xi 183 4 = some (.invokestatic 75, 112, 889) := rfl
theorem f_183_7 : xi 183 7 = some (.ifCond .eq 29, 0, 0) := rfl
theorem f_183_14 : xi 183 14 = some (.invokestatic 75, 112, 889) := rfl
theorem f_183_17 : xi 183 17 = some (.ifCond .eq 19, 0, 0) := rfl
theorem f_183_23 : xi 183 23 = some (.invokestatic 75, 112, 889) := rfl
theorem f_183_26 : xi 183 26 = some (.ifCond .eq 10, 0, 0) := rfl
theorem f_183_30 : xi 183 30 = some (.invokevirtual 186, 148, 1113) := rfl
theorem f_183_33 : xi 183 33 = some (.ifCond .ne 7, 0, 0) := rfl
theorem f_183_39 : xi 183 39 = some (.lreturn, 0, 0) := rfl
theorem f_183_49 : xi 183 49 = some (.if_icmp .ge 35, 0, 0) := rfl
theorem f_183_57 : xi 183 57 = some (.invokevirtual 255, 181, 1273) := rfl
theorem f_183_64 : xi 183 64 = some (.invokevirtual 203, 134, 1182) := rfl
theorem f_183_67 : xi 183 67 = some (.ifCond .ne 7, 0, 0) := rfl
set_option maxRecDepth 1000000 in
theorem f_183_87 : xi 183 87 = some (.i2l, 0, 0) := rfl
set_option maxRecDepth 1000000 in
theorem f_183_89 : xi 183 89 = some (.invokestatic 240, 170, 1229) := rfl
set_option maxRecDepth 1000000 in
theorem f_183_92 : xi 183 92 = some (.lreturn, 0, 0) := rfl
theorem m_184 : xme 184 = some xe_184 := rfl
theorem f_184_2 : xi 184 2 = some (.putfield 258, 59, 939) := rfl
theorem f_184_7 : xi 184 7 = some (.getfield 72, 48, 928) := rfl
theorem f_184_10 : xi 184 10 = some (.putfield 262, 60, 940) := rfl
theorem f_184_15 : xi 184 15 = some (.getfield 82, 50, 930) := rfl
theorem f_184_18 : xi 184 18 = some (.putfield 265, 61, 941) := rfl
theorem f_184_23 : xi 184 23 = some (.getfield 85, 52, 932) := rfl
theorem f_184_26 : xi 184 26 = some (.putfield 268, 62, 942) := rfl
theorem f_184_31 : xi 184 31 = some (.getfield 88, 58, 938) := rfl
theorem f_184_34 : xi 184 34 = some (.putfield 271, 63, 943) := rfl
theorem f_184_42 : xi 184 42 = some (.if_icmp .ge 21, 0, 0) := rfl
theorem f_184_46 : xi 184 46 = some (.getfield 25, 64, 944) := rfl
theorem f_184_51 : xi 184 51 = some (.getfield 7, 49, 929) := rfl
theorem f_184_55 : xi 184 55 = some (.iaload, 0, 0) := rfl
theorem f_184_56 : xi 184 56 = some (.iastore, 0, 0) := rfl
theorem f_184_64 : xi 184 64 = some (.getfield 72, 48, 928) := rfl
theorem f_184_67 : xi 184 67 = some (.ireturn, 0, 0) := rfl
theorem m_185 : xme 185 = some xe_185 := rfl
theorem f_185_1 : xi 185 1 = some (.getfield 258, 59, 939) := rfl
theorem f_185_4 : xi 185 4 = some (.ifCond .ne 6, 0, 0) := rfl
theorem f_185_9 : xi 185 9 = some (.ireturn, 0, 0) := rfl
theorem f_185_12 : xi 185 12 = some (.getfield 262, 60, 940) := rfl
theorem f_185_15 : xi 185 15 = some (.putfield 72, 48, 928) := rfl
theorem f_185_20 : xi 185 20 = some (.getfield 265, 61, 941) := rfl
theorem f_185_23 : xi 185 23 = some (.putfield 82, 50, 930) := rfl
theorem f_185_28 : xi 185 28 = some (.getfield 268, 62, 942) := rfl
theorem f_185_31 : xi 185 31 = some (.putfield 85, 52, 932) := rfl
theorem f_185_36 : xi 185 36 = some (.getfield 271, 63, 943) := rfl
theorem f_185_39 : xi 185 39 = some (.putfield 88, 58, 938) := rfl
theorem f_185_47 : xi 185 47 = some (.if_icmp .ge 21, 0, 0) := rfl
theorem f_185_51 : xi 185 51 = some (.getfield 7, 49, 929) := rfl
theorem f_185_56 : xi 185 56 = some (.getfield 25, 64, 944) := rfl
theorem f_185_60 : xi 185 60 = some (.iaload, 0, 0) := rfl
theorem f_185_61 : xi 185 61 = some (.iastore, 0, 0) := rfl
theorem f_185_69 : xi 185 69 = some (.getfield 72, 48, 928) := rfl
theorem f_185_72 : xi 185 72 = some (.ireturn, 0, 0) := rfl
theorem m_186 : xme 186 = some xe_186 := rfl
theorem f_186_3 : xi 186 3 = some (.invokestatic 75, 112, 889) := rfl
theorem f_186_6 : xi 186 6 = some (.ifCond .eq 23, 0, 0) := rfl
theorem f_186_12 : xi 186 12 = some (.invokestatic 75, 112, 889) := rfl
theorem f_186_15 : xi 186 15 = some (.ifCond .eq 14, 0, 0) := rfl
theorem f_186_20 : xi 186 20 = some (.if_icmp .eq 12, 0, 0) := rfl
theorem f_186_26 : xi 186 26 = some (.if_icmp .le 6, 0, 0) := rfl
theorem f_186_31 : xi 186 31 = some (.ireturn, 0, 0) := rfl
theorem f_186_34 : xi 186 34 = some (.if_icmp .eq 10, 0, 0) := rfl
theorem f_186_38 : xi 186 38 = some (.ifCond .ge 6, 0, 0) := rfl
theorem f_186_43 : xi 186 43 = some (.ireturn, 0, 0) := rfl
theorem f_186_45 : xi 186 45 = some (.getfield 28, 65, 945) := rfl
theorem f_186_50 : xi 186 50 = some (.iastore, 0, 0) := rfl
theorem f_186_52 : xi 186 52 = some (.getfield 31, 66, 946) := rfl
theorem f_186_58 : xi 186 58 = some (.if_icmp .ne 7, 0, 0) := rfl
theorem f_186_66 : xi 186 66 = some (.iastore, 0, 0) := rfl
set_option maxRecDepth 1000000 in
theorem f_186_74 : xi 186 74 = some (.if_icmp .ge 22, 0, 0) := rfl
set_option maxRecDepth 1000000 in
theorem f_186_78 : xi 186 78 = some (.getfield 34, 67, 947) := rfl
set_option maxRecDepth 1000000 in
theorem f_186_89 : xi 186 89 = some (.iastore, 0, 0) := rfl
set_option maxRecDepth 1000000 in
theorem f_186_97 : xi 186 97 = some (.ireturn, 0, 0) := rfl
theorem m_187 : xme 187 = some xe_187 := rfl
theorem f_187_3 : xi 187 3 = some (.invokestatic 75, 112, 889) := rfl
theorem f_187_6 : xi 187 6 = some (.ifCond .ne 6, 0, 0) := rfl
theorem f_187_11 : xi 187 11 = some (.ireturn, 0, 0) := rfl
theorem f_187_13 : xi 187 13 = some (.getfield 28, 65, 945) := rfl
theorem f_187_17 : xi 187 17 = some (.iaload, 0, 0) := rfl
theorem f_187_19 : xi 187 19 = some (.if_icmp .ne 6, 0, 0) := rfl
theorem f_187_24 : xi 187 24 = some (.ireturn, 0, 0) := rfl
theorem f_187_28 : xi 187 28 = some (.getfield 31, 66, 946) := rfl
theorem f_187_32 : xi 187 32 = some (.iaload, 0, 0) := rfl
theorem f_187_35 : xi 187 35 = some (.invokestatic 75, 112, 889) := rfl
theorem f_187_38 : xi 187 38 = some (.ifCond .ne 6, 0, 0) := rfl
theorem f_187_43 : xi 187 43 = some (.ireturn, 0, 0) := rfl
theorem f_187_45 : xi 187 45 = some (.getfield 34, 67, 947) := rfl
theorem f_187_55 : xi 187 55 = some (.getfield 28, 65, 945) := rfl
theorem f_187_59 : xi 187 59 = some (.iaload, 0, 0) := rfl
theorem f_187_60 : xi 187 60 = some (.ifCond .ne 8, 0, 0) := rfl
set_option maxRecDepth 1000000 in
theorem f_187_69 : xi 187 69 = some (.getfield 28, 65, 945) := rfl
set_option maxRecDepth 1000000 in
theorem f_187_73 : xi 187 73 = some (.iaload, 0, 0) := rfl
set_option maxRecDepth 1000000 in
theorem f_187_75 : xi 187 75 = some (.if_icmp .ne 8, 0, 0) := rfl
set_option maxRecDepth 1000000 in
theorem f_187_84 : xi 187 84 = some (.iastore, 0, 0) := rfl
set_option maxRecDepth 1000000 in
theorem f_187_86 : xi 187 86 = some (.ireturn, 0, 0) := rfl
theorem m_188 : xme 188 = some xe_188 := rfl
theorem f_188_3 : xi 188 3 = some (.invokestatic 75, 112, 889) := rfl
theorem f_188_6 : xi 188 6 = some (.ifCond .eq 12, 0, 0) := rfl
theorem f_188_12 : xi 188 12 = some (.invokestatic 75, 112, 889) := rfl
theorem f_188_15 : xi 188 15 = some (.ifCond .ne 6, 0, 0) := rfl
theorem f_188_20 : xi 188 20 = some (.ireturn, 0, 0) := rfl
theorem f_188_22 : xi 188 22 = some (.getfield 28, 65, 945) := rfl
theorem f_188_26 : xi 188 26 = some (.iaload, 0, 0) := rfl
theorem f_188_28 : xi 188 28 = some (.if_icmp .eq 13, 0, 0) := rfl
theorem f_188_32 : xi 188 32 = some (.getfield 28, 65, 945) := rfl
theorem f_188_36 : xi 188 36 = some (.iaload, 0, 0) := rfl
theorem f_188_38 : xi 188 38 = some (.if_icmp .ne 6, 0, 0) := rfl
theorem f_188_43 : xi 188 43 = some (.ireturn, 0, 0) := rfl
theorem f_188_45 : xi 188 45 = some (.getfield 28, 65, 945) := rfl
theorem f_188_49 : xi 188 49 = some (.iaload, 0, 0) := rfl
theorem f_188_51 : xi 188 51 = some (.getfield 28, 65, 945) := rfl
theorem f_188_55 : xi 188 55 = some (.iaload, 0, 0) := rfl
theorem f_188_56 : xi 188 56 = some (.if_icmp .eq 6, 0, 0) := rfl
theorem f_188_61 : xi 188 61 = some (.ireturn, 0, 0) := rfl
theorem f_188_64 : xi 188 64 = some (.ifCond .lt 60, 0, 0) := rfl
theorem f_188_68 : xi 188 68 = some (.ifCond .lt 56, 0, 0) := rfl
set_option maxRecDepth 1000000 in
theorem f_188_73 : xi 188 73 = some (.ifCond .lt 51, 0, 0) := rfl
set_option maxRecDepth 1000000 in
theorem f_188_78 : xi 188 78 = some (.getfield 31, 66, 946) := rfl
set_option maxRecDepth 1000000 in
theorem f_188_82 : xi 188 82 = some (.iaload, 0, 0) := rfl
set_option maxRecDepth 1000000 in
theorem f_188_83 : xi 188 83 = some (.if_icmp .gt 41, 0, 0) := rfl
set_option maxRecDepth 1000000 in
theorem f_188_89 : xi 188 89 = some (.getfield 31, 66, 946) := rfl
set_option maxRecDepth 1000000 in
theorem f_188_93 : xi 188 93 = some (.iaload, 0, 0) := rfl
set_option maxRecDepth 1000000 in
theorem f_188_94 : xi 188 94 = some (.if_icmp .gt 30, 0, 0) := rfl
set_option maxRecDepth 1000000 in
theorem f_188_100 : xi 188 100 = some (.getfield 31, 66, 946) := rfl
set_option maxRecDepth 1000000 in
theorem f_188_104 : xi 188 104 = some (.iaload, 0, 0) := rfl
set_option maxRecDepth 1000000 in
theorem f_188_107 : xi 188 107 = some (.if_icmp .gt 17, 0, 0) := rfl
set_option maxRecDepth 1000000 in
theorem f_188_113 : xi 188 113 = some (.getfield 31, 66, 946) := rfl
set_option maxRecDepth 1000000 in
theorem f_188_117 : xi 188 117 = some (.iaload, 0, 0) := rfl
set_option maxRecDepth 1000000 in
theorem f_188_121 : xi 188 121 = some (.if_icmp .le 6, 0, 0) := rfl
set_option maxRecDepth 1000000 in
theorem f_188_126 : xi 188 126 = some (.ireturn, 0, 0) := rfl
set_option maxRecDepth 1000000 in
theorem f_188_151 : xi 188 151 = some (.if_icmp .ge 50, 0, 0) := rfl
set_option maxRecDepth 1000000 in
theorem f_188_158 : xi 188 158 = some (.if_icmp .ge 13, 0, 0) := rfl
set_option maxRecDepth 1000000 in
theorem f_188_176 : xi 188 176 = some (.getfield 34, 67, 947) := rfl
set_option maxRecDepth 1000000 in
theorem f_188_185 : xi 188 185 = some (.getfield 34, 67, 947) := rfl
set_option maxRecDepth 1000000 in
theorem f_188_193 : xi 188 193 = some (.iaload, 0, 0) := rfl
set_option maxRecDepth 1000000 in
theorem f_188_194 : xi 188 194 = some (.iastore, 0, 0) := rfl
set_option maxRecDepth 1000000 in
theorem f_188_203 : xi 188 203 = some (.ireturn, 0, 0) := rfl
theorem m_189 : xme 189 = some xe_189 := rfl
theorem f_189_3 : xi 189 3 = some (.invokestatic 75, 112, 889) := rfl
theorem f_189_6 : xi 189 6 = some (.ifCond .eq 23, 0, 0) := rfl
theorem f_189_12 : xi 189 12 = some (.invokestatic 75, 112, 889) := rfl
theorem f_189_15 : xi 189 15 = some (.ifCond .eq 14, 0, 0) := rfl
theorem f_189_23 : xi 189 23 = some (.invokestatic 75, 112, 889) := rfl
theorem f_189_26 : xi 189 26 = some (.ifCond .ne 6, 0, 0) := rfl
theorem f_189_31 : xi 189 31 = some (.ireturn, 0, 0) := rfl
theorem f_189_33 : xi 189 33 = some (.getfield 28, 65, 945) := rfl
theorem f_189_37 : xi 189 37 = some (.iaload, 0, 0) := rfl
theorem f_189_39 : xi 189 39 = some (.if_icmp .ne 6, 0, 0) := rfl
theorem f_189_44 : xi 189 44 = some (.ireturn, 0, 0) := rfl
theorem f_189_46 : xi 189 46 = some (.getfield 28, 65, 945) := rfl
theorem f_189_50 : xi 189 50 = some (.iaload, 0, 0) := rfl
theorem f_189_52 : xi 189 52 = some (.if_icmp .eq 6, 0, 0) := rfl
theorem f_189_57 : xi 189 57 = some (.ireturn, 0, 0) := rfl
theorem f_189_68 : xi 189 68 = some (.if_icmp .ge 103, 0, 0) := rfl
set_option maxRecDepth 1000000 in
theorem f_189_80 : xi 189 80 = some (.ifCond .lt 22, 0, 0) := rfl
set_option maxRecDepth 1000000 in
theorem f_189_86 : xi 189 86 = some (.if_icmp .lt 16, 0, 0) := rfl
set_option maxRecDepth 1000000 in
theorem f_189_92 : xi 189 92 = some (.getfield 31, 66, 946) := rfl
set_option maxRecDepth 1000000 in
theorem f_189_96 : xi 189 96 = some (.iaload, 0, 0) := rfl
set_option maxRecDepth 1000000 in
theorem f_189_99 : xi 189 99 = some (.if_icmp .le 6, 0, 0) := rfl
set_option maxRecDepth 1000000 in
theorem f_189_104 : xi 189 104 = some (.ireturn, 0, 0) := rfl
set_option maxRecDepth 1000000 in
theorem f_189_118 : xi 189 118 = some (.getfield 34, 67, 947) := rfl
set_option maxRecDepth 1000000 in
theorem f_189_123 : xi 189 123 = some (.iaload, 0, 0) := rfl
set_option maxRecDepth 1000000 in
theorem f_189_125 : xi 189 125 = some (.getfield 34, 67, 947) := rfl
set_option maxRecDepth 1000000 in
theorem f_189_132 : xi 189 132 = some (.iaload, 0, 0) := rfl
set_option maxRecDepth 1000000 in
theorem f_189_134 : xi 189 134 = some (.getfield 34, 67, 947) := rfl
set_option maxRecDepth 1000000 in
theorem f_189_141 : xi 189 141 = some (.iaload, 0, 0) := rfl
set_option maxRecDepth 1000000 in
theorem f_189_143 : xi 189 143 = some (.getfield 34, 67, 947) := rfl
set_option maxRecDepth 1000000 in
theorem f_189_150 : xi 189 150 = some (.iaload, 0, 0) := rfl
set_option maxRecDepth 1000000 in
theorem f_189_151 : xi 189 151 = some (.invokevirtual 274, 136, 1307) := rfl
set_option maxRecDepth 1000000 in
theorem f_189_154 : xi 189 154 = some (.ifCond .lt 7, 0, 0) := rfl
set_option maxRecDepth 1000000 in
theorem f_189_173 : xi 189 173 = some (.ireturn, 0, 0) := rfl
theorem m_190 : xme 190 = some xe_190 := rfl
theorem f_190_1 : xi 190 1 = some (.ifCond .eq 28, 0, 0) := rfl
theorem f_190_6 : xi 190 6 = some (.if_icmp .eq 23, 0, 0) := rfl
theorem f_190_11 : xi 190 11 = some (.if_icmp .ne 8, 0, 0) := rfl
theorem f_190_16 : xi 190 16 = some (.if_icmp .eq 13, 0, 0) := rfl
theorem f_190_21 : xi 190 21 = some (.if_icmp .ne 12, 0, 0) := rfl
theorem f_190_26 : xi 190 26 = some (.if_icmp .ne 7, 0, 0) := rfl
theorem f_190_34 : xi 190 34 = some (.ireturn, 0, 0) := rfl
theorem m_191 : xme 191 = some xe_191 := rfl
theorem f_191_4 : xi 191 4 = some (.invokestatic 75, 112, 889) := rfl
theorem f_191_7 : xi 191 7 = some (.ifCond .ne 6, 0, 0) := rfl
theorem f_191_12 : xi 191 12 = some (.ireturn, 0, 0) := rfl
theorem f_191_17 : xi 191 17 = some (.invokestatic 75, 112, 889) := rfl
theorem f_191_20 : xi 191 20 = some (.ifCond .ne 6, 0, 0) := rfl
theorem f_191_25 : xi 191 25 = some (.ireturn, 0, 0) := rfl
theorem f_191_29 : xi 191 29 = some (.if_icmp .ge 44, 0, 0) := rfl
theorem f_191_34 : xi 191 34 = some (.getfield 72, 48, 928) := rfl
theorem f_191_37 : xi 191 37 = some (.if_icmp .lt 8, 0, 0) := rfl
theorem f_191_48 : xi 191 48 = some (.if_icmp .ge 22, 0, 0) := rfl
theorem f_191_52 : xi 191 52 = some (.getfield 7, 49, 929) := rfl
theorem f_191_58 : xi 191 58 = some (.iaload, 0, 0) := rfl
theorem f_191_60 : xi 191 60 = some (.invokestatic 278, 190, 1312) := rfl
theorem f_191_63 : xi 191 63 = some (.ifCond .eq 7, 0, 0) := rfl
theorem f_191_72 : xi 191 72 = some (.ireturn, 0, 0) := rfl
set_option maxRecDepth 1000000 in
theorem f_191_80 : xi 191 80 = some (.getfield 82, 50, 930) := rfl
set_option maxRecDepth 1000000 in
theorem f_191_83 : xi 191 83 = some (.if_icmp .lt 8, 0, 0) := rfl
set_option maxRecDepth 1000000 in
theorem f_191_94 : xi 191 94 = some (.if_icmp .ne 27, 0, 0) := rfl
set_option maxRecDepth 1000000 in
theorem f_191_98 : xi 191 98 = some (.getfield 13, 51, 931) := rfl
set_option maxRecDepth 1000000 in
theorem f_191_106 : xi 191 106 = some (.iaload, 0, 0) := rfl
set_option maxRecDepth 1000000 in
theorem f_191_108 : xi 191 108 = some (.getfield 13, 51, 931) := rfl
set_option maxRecDepth 1000000 in
theorem f_191_116 : xi 191 116 = some (.iaload, 0, 0) := rfl
set_option maxRecDepth 1000000 in
theorem f_191_123 : xi 191 123 = some (.ireturn, 0, 0) := rfl
theorem m_192 : xme 192 = some xe_192 := rfl
theorem f_192_1 : xi 192 1 = some (.getfield 9, 900, 1315) := rfl
theorem f_192_4 : xi 192 4 = some (.arraylength, 0, 0) := rfl
theorem f_192_6 : xi 192 6 = some (.invokevirtual 335, 196, 292) := rfl
theorem f_192_10 : xi 192 10 = some (.ireturn, 0, 0) := rfl
theorem m_193 : xme 193 = some xe_193 := rfl
theorem f_193_1 : xi 193 1 = some (.invokevirtual 492, 197, 302) := rfl
theorem f_193_4 : xi 193 4 = some (.ifCond .eq 12, 0, 0) := rfl
theorem f_193_8 : xi 193 8 = some (.getfield 9, 900, 1315) := rfl
theorem f_193_12 : xi 193 12 = some (.invokestatic 495, 199, 306) := rfl
theorem f_193_15 : xi 193 15 = some (.ireturn, 0, 0) := rfl
theorem f_193_17 : xi 193 17 = some (.getfield 9, 900, 1315) := rfl
theorem f_193_21 : xi 193 21 = some (.invokestatic 498, 99999, 0) := rfl
theorem f_193_24 : xi 193 24 = some (.ireturn, 0, 0) := rfl
theorem m_194 : xme 194 = some xe_194 := rfl
theorem f_194_3 : xi 194 3 = some (.invokevirtual 633, 195, 383) := rfl
theorem f_194_6 : xi 194 6 = some (.ireturn, 0, 0) := rfl
theorem m_195 : xme 195 = some xe_195 := rfl
theorem f_195_1 : xi 195 1 = some (.invokevirtual 492, 197, 302) := rfl
theorem f_195_4 : xi 195 4 = some (.ifCond .eq 19, 0, 0) := rfl
theorem f_195_8 : xi 195 8 = some (.getfield 9, 900, 1315) := rfl
theorem f_195_14 : xi 195 14 = some (.invokevirtual 505, 192, 387) := rfl
theorem f_195_17 : xi 195 17 = some (.invokestatic 637, 201, 388) := rfl
theorem f_195_24 : xi 195 24 = some (.getfield 9, 900, 1315) := rfl
theorem f_195_30 : xi 195 30 = some (.invokevirtual 505, 192, 387) := rfl
theorem f_195_33 : xi 195 33 = some (.invokestatic 640, 99999, 0) := rfl
theorem f_195_36 : xi 195 36 = some (.ireturn, 0, 0) := rfl
theorem m_196 : xme 196 = some xe_196 := rfl
theorem f_196_3 : xi 196 3 = some (.ifCond .eq 10, 0, 0) := rfl
theorem f_196_7 : xi 196 7 = some (.getfield 15, 901, 1316) := rfl
theorem f_196_14 : xi 196 14 = some (.ireturn, 0, 0) := rfl
theorem m_197 : xme 197 = some xe_197 := rfl
theorem f_197_3 : xi 197 3 = some (.ifCond .eq 14, 0, 0) := rfl
theorem f_197_7 : xi 197 7 = some (.getfield 15, 901, 1316) := rfl
theorem f_197_10 : xi 197 10 = some (.ifCond .ne 7, 0, 0) := rfl
theorem f_197_18 : xi 197 18 = some (.ireturn, 0, 0) := rfl
theorem m_198 : xme 198 = some xe_198 := rfl
theorem f_198_5 : xi 198 5 = some (.invokestatic 1059, 203, 314) := rfl
theorem f_198_9 : xi 198 9 = some (.return_, 0, 0) := rfl
theorem m_199 : xme 199 = some xe_199 := rfl
theorem f_199_2 : xi 199 2 = some (.arraylength, 0, 0) := rfl
theorem f_199_3 : xi 199 3 = some (.invokestatic 9, 198, 309) := rfl
theorem f_199_14 : xi 199 14 = some (.ireturn, 0, 0) := rfl
theorem m_200 : xme 200 = some xe_200 := rfl
theorem f_200_1 : xi 200 1 = some (.ifCond .lt 14, 0, 0) := rfl
theorem f_200_8 : xi 200 8 = some (.if_icmp .gt 7, 0, 0) := rfl
theorem f_200_16 : xi 200 16 = some (.ireturn, 0, 0) := rfl
theorem m_201 : xme 201 = some xe_201 := rfl
theorem f_201_1 : xi 201 1 = some (.invokestatic 88, 200, 391) := rfl
theorem f_201_4 : xi 201 4 = some (.ifCond .ne 5, 0, 0) := rfl
theorem f_201_8 : xi 201 8 = some (.ireturn, 0, 0) := rfl
theorem f_201_11 : xi 201 11 = some (.invokestatic 92, 9997, 394) := rfl
theorem f_201_17 : xi 201 17 = some (.arraylength, 0, 0) := rfl
theorem f_201_18 : xi 201 18 = some (.invokestatic 38, 9998, 397) := rfl
theorem f_201_24 : xi 201 24 = some (.if_icmp .lt 5, 0, 0) := rfl
theorem f_201_28 : xi 201 28 = some (.ireturn, 0, 0) := rfl
theorem f_201_33 : xi 201 33 = some (.invokestatic 95, 202, 400) := rfl
theorem f_201_36 : xi 201 36 = some (.ireturn, 0, 0) := rfl
theorem m_202 : xme 202 = some xe_202 := rfl
theorem f_202_10 : xi 202 10 = some (.if_icmp .ge 21, 0, 0) := rfl
theorem f_202_19 : xi 202 19 = some (.if_icmp .ne 6, 0, 0) := rfl
theorem f_202_24 : xi 202 24 = some (.ireturn, 0, 0) := rfl
theorem f_202_32 : xi 202 32 = some (.ireturn, 0, 0) := rfl
theorem m_203 : xme 203 = some xe_203 := rfl
theorem f_203_1 : xi 203 1 = some (.ifCond .lt 8, 0, 0) := rfl
theorem f_203_6 : xi 203 6 = some (.if_icmp .lt 10, 0, 0) := rfl
theorem f_203_12 : xi 203 12 = some (.invokestatic 95, 99999, 0) := rfl
theorem f_203_17 : xi 203 17 = some (.ireturn, 0, 0) := rfl
theorem m_204 : xme 204 = some xe_204 := rfl
theorem f_204_3 : xi 204 3 = some (.arraylength, 0, 0) := rfl
theorem f_204_7 : xi 204 7 = some (.if_icmp .ge 13, 0, 0) := rfl
theorem f_204_13 : xi 204 13 = some (.iastore, 0, 0) := rfl
theorem f_204_20 : xi 204 20 = some (.return_, 0, 0) := rfl
theorem m_205 : xme 205 = some xe_205 := rfl
set_option maxRecDepth 1000000 in
theorem f_205_52 : xi 205 52 = some (.ireturn, 0, 0) := rfl
