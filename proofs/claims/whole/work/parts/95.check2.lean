set_option maxRecDepth 1000000 in
theorem xk_1 : xi_1.all (xokE xe_1) = true := by decide +kernel
set_option maxRecDepth 1000000 in
theorem xm_1 : xokM xe_1 = true := by decide +kernel
set_option maxRecDepth 1000000 in
theorem xc_1 : Cond.code xe_1.2.1 xe_1.2.2.1 xe_1.2.2.2.1 xe_1.2.2.2.2.1 ∈ lw_tbl := List.mem_of_getElem? (i := xe_1.2.2.2.2.2.2.2.1) rfl
set_option maxRecDepth 1000000 in
theorem xk_2 : xi_2.all (xokE xe_2) = true := by decide +kernel
set_option maxRecDepth 1000000 in
theorem xm_2 : xokM xe_2 = true := by decide +kernel
set_option maxRecDepth 1000000 in
theorem xc_2 : Cond.code xe_2.2.1 xe_2.2.2.1 xe_2.2.2.2.1 xe_2.2.2.2.2.1 ∈ lw_tbl := List.mem_of_getElem? (i := xe_2.2.2.2.2.2.2.2.1) rfl
set_option maxRecDepth 1000000 in
theorem xk_3 : xi_3.all (xokE xe_3) = true := by decide +kernel
set_option maxRecDepth 1000000 in
theorem xm_3 : xokM xe_3 = true := by decide +kernel
set_option maxRecDepth 1000000 in
theorem xc_3 : Cond.code xe_3.2.1 xe_3.2.2.1 xe_3.2.2.2.1 xe_3.2.2.2.2.1 ∈ lw_tbl := List.mem_of_getElem? (i := xe_3.2.2.2.2.2.2.2.1) rfl
set_option maxRecDepth 1000000 in
theorem xk_4 : xi_4.all (xokE xe_4) = true := by decide +kernel
set_option maxRecDepth 1000000 in
theorem xm_4 : xokM xe_4 = true := by decide +kernel
set_option maxRecDepth 1000000 in
theorem xc_4 : Cond.code xe_4.2.1 xe_4.2.2.1 xe_4.2.2.2.1 xe_4.2.2.2.2.1 ∈ lw_tbl := List.mem_of_getElem? (i := xe_4.2.2.2.2.2.2.2.1) rfl
set_option maxRecDepth 1000000 in
theorem xk_5 : xi_5.all (xokE xe_5) = true := by decide +kernel
set_option maxRecDepth 1000000 in
theorem xm_5 : xokM xe_5 = true := by decide +kernel
set_option maxRecDepth 1000000 in
theorem xc_5 : Cond.code xe_5.2.1 xe_5.2.2.1 xe_5.2.2.2.1 xe_5.2.2.2.2.1 ∈ lw_tbl := List.mem_of_getElem? (i := xe_5.2.2.2.2.2.2.2.1) rfl
set_option maxRecDepth 1000000 in
theorem xk_6 : xi_6.all (xokE xe_6) = true := by decide +kernel
set_option maxRecDepth 1000000 in
theorem xm_6 : xokM xe_6 = true := by decide +kernel
set_option maxRecDepth 1000000 in
theorem xc_6 : Cond.code xe_6.2.1 xe_6.2.2.1 xe_6.2.2.2.1 xe_6.2.2.2.2.1 ∈ lw_tbl := List.mem_of_getElem? (i := xe_6.2.2.2.2.2.2.2.1) rfl
set_option maxRecDepth 1000000 in
theorem xk_7 : xi_7.all (xokE xe_7) = true := by decide +kernel
set_option maxRecDepth 1000000 in
theorem xm_7 : xokM xe_7 = true := by decide +kernel
set_option maxRecDepth 1000000 in
theorem xc_7 : Cond.code xe_7.2.1 xe_7.2.2.1 xe_7.2.2.2.1 xe_7.2.2.2.2.1 ∈ lw_tbl := List.mem_of_getElem? (i := xe_7.2.2.2.2.2.2.2.1) rfl
set_option maxRecDepth 1000000 in
theorem xk_8 : xi_8.all (xokE xe_8) = true := by decide +kernel
set_option maxRecDepth 1000000 in
theorem xm_8 : xokM xe_8 = true := by decide +kernel
set_option maxRecDepth 1000000 in
theorem xc_8 : Cond.code xe_8.2.1 xe_8.2.2.1 xe_8.2.2.2.1 xe_8.2.2.2.2.1 ∈ lw_tbl := List.mem_of_getElem? (i := xe_8.2.2.2.2.2.2.2.1) rfl
set_option maxRecDepth 1000000 in
theorem xk_9 : xi_9.all (xokE xe_9) = true := by decide +kernel
set_option maxRecDepth 1000000 in
theorem xm_9 : xokM xe_9 = true := by decide +kernel
set_option maxRecDepth 1000000 in
theorem xc_9 : Cond.code xe_9.2.1 xe_9.2.2.1 xe_9.2.2.2.1 xe_9.2.2.2.2.1 ∈ lw_tbl := List.mem_of_getElem? (i := xe_9.2.2.2.2.2.2.2.1) rfl
set_option maxRecDepth 1000000 in
theorem xk_10 : xi_10.all (xokE xe_10) = true := by decide +kernel
set_option maxRecDepth 1000000 in
theorem xm_10 : xokM xe_10 = true := by decide +kernel
set_option maxRecDepth 1000000 in
theorem xc_10 : Cond.code xe_10.2.1 xe_10.2.2.1 xe_10.2.2.2.1 xe_10.2.2.2.2.1 ∈ lw_tbl := List.mem_of_getElem? (i := xe_10.2.2.2.2.2.2.2.1) rfl
set_option maxRecDepth 1000000 in
theorem xk_11 : xi_11.all (xokE xe_11) = true := by decide +kernel
set_option maxRecDepth 1000000 in
theorem xm_11 : xokM xe_11 = true := by decide +kernel
set_option maxRecDepth 1000000 in
theorem xc_11 : Cond.code xe_11.2.1 xe_11.2.2.1 xe_11.2.2.2.1 xe_11.2.2.2.2.1 ∈ lw_tbl := List.mem_of_getElem? (i := xe_11.2.2.2.2.2.2.2.1) rfl
set_option maxRecDepth 1000000 in
theorem xk_12 : xi_12.all (xokE xe_12) = true := by decide +kernel
set_option maxRecDepth 1000000 in
theorem xm_12 : xokM xe_12 = true := by decide +kernel
set_option maxRecDepth 1000000 in
theorem xc_12 : Cond.code xe_12.2.1 xe_12.2.2.1 xe_12.2.2.2.1 xe_12.2.2.2.2.1 ∈ lw_tbl := List.mem_of_getElem? (i := xe_12.2.2.2.2.2.2.2.1) rfl
set_option maxRecDepth 1000000 in
theorem xk_13 : xi_13.all (xokE xe_13) = true := by decide +kernel
set_option maxRecDepth 1000000 in
theorem xm_13 : xokM xe_13 = true := by decide +kernel
set_option maxRecDepth 1000000 in
theorem xc_13 : Cond.code xe_13.2.1 xe_13.2.2.1 xe_13.2.2.2.1 xe_13.2.2.2.2.1 ∈ lw_tbl := List.mem_of_getElem? (i := xe_13.2.2.2.2.2.2.2.1) rfl
set_option maxRecDepth 1000000 in
theorem xk_14 : xi_14.all (xokE xe_14) = true := by decide +kernel
set_option maxRecDepth 1000000 in
theorem xm_14 : xokM xe_14 = true := by decide +kernel
set_option maxRecDepth 1000000 in
theorem xc_14 : Cond.code xe_14.2.1 xe_14.2.2.1 xe_14.2.2.2.1 xe_14.2.2.2.2.1 ∈ lw_tbl := List.mem_of_getElem? (i := xe_14.2.2.2.2.2.2.2.1) rfl
set_option maxRecDepth 1000000 in
theorem xk_15 : xi_15.all (xokE xe_15) = true := by decide +kernel
set_option maxRecDepth 1000000 in
theorem xm_15 : xokM xe_15 = true := by decide +kernel
set_option maxRecDepth 1000000 in
theorem xc_15 : Cond.code xe_15.2.1 xe_15.2.2.1 xe_15.2.2.2.1 xe_15.2.2.2.2.1 ∈ lw_tbl := List.mem_of_getElem? (i := xe_15.2.2.2.2.2.2.2.1) rfl
set_option maxRecDepth 1000000 in
theorem xk_16 : xi_16.all (xokE xe_16) = true := by decide +kernel
set_option maxRecDepth 1000000 in
theorem xm_16 : xokM xe_16 = true := by decide +kernel
set_option maxRecDepth 1000000 in
theorem xc_16 : Cond.code xe_16.2.1 xe_16.2.2.1 xe_16.2.2.2.1 xe_16.2.2.2.2.1 ∈ lw_tbl := List.mem_of_getElem? (i := xe_16.2.2.2.2.2.2.2.1) rfl
set_option maxRecDepth 1000000 in
theorem xk_17 : xi_17.all (xokE xe_17) = true := by decide +kernel
set_option maxRecDepth 1000000 in
theorem xm_17 : xokM xe_17 = true := by decide +kernel
set_option maxRecDepth 1000000 in
theorem xc_17 : Cond.code xe_17.2.1 xe_17.2.2.1 xe_17.2.2.2.1 xe_17.2.2.2.2.1 ∈ lw_tbl := List.mem_of_getElem? (i := xe_17.2.2.2.2.2.2.2.1) rfl
set_option maxRecDepth 1000000 in
theorem xk_18 : xi_18.all (xokE xe_18) = true := by decide +kernel
set_option maxRecDepth 1000000 in
theorem xm_18 : xokM xe_18 = true := by decide +kernel
set_option maxRecDepth 1000000 in
theorem xc_18 : Cond.code xe_18.2.1 xe_18.2.2.1 xe_18.2.2.2.1 xe_18.2.2.2.2.1 ∈ lw_tbl := List.mem_of_getElem? (i := xe_18.2.2.2.2.2.2.2.1) rfl
set_option maxRecDepth 1000000 in
theorem xk_19 : xi_19.all (xokE xe_19) = true := by decide +kernel
set_option maxRecDepth 1000000 in
theorem xm_19 : xokM xe_19 = true := by decide +kernel
set_option maxRecDepth 1000000 in
theorem xc_19 : Cond.code xe_19.2.1 xe_19.2.2.1 xe_19.2.2.2.1 xe_19.2.2.2.2.1 ∈ lw_tbl := List.mem_of_getElem? (i := xe_19.2.2.2.2.2.2.2.1) rfl
set_option maxRecDepth 1000000 in
theorem xk_20 : xi_20.all (xokE xe_20) = true := by decide +kernel
set_option maxRecDepth 1000000 in
theorem xm_20 : xokM xe_20 = true := by decide +kernel
set_option maxRecDepth 1000000 in
theorem xc_20 : Cond.code xe_20.2.1 xe_20.2.2.1 xe_20.2.2.2.1 xe_20.2.2.2.2.1 ∈ lw_tbl := List.mem_of_getElem? (i := xe_20.2.2.2.2.2.2.2.1) rfl
set_option maxRecDepth 1000000 in
theorem xk_21 : xi_21.all (xokE xe_21) = true := by decide +kernel
set_option maxRecDepth 1000000 in
theorem xm_21 : xokM xe_21 = true := by decide +kernel
set_option maxRecDepth 1000000 in
theorem xc_21 : Cond.code xe_21.2.1 xe_21.2.2.1 xe_21.2.2.2.1 xe_21.2.2.2.2.1 ∈ lw_tbl := List.mem_of_getElem? (i := xe_21.2.2.2.2.2.2.2.1) rfl
set_option maxRecDepth 1000000 in
theorem xk_22 : xi_22.all (xokE xe_22) = true := by decide +kernel
set_option maxRecDepth 1000000 in
theorem xm_22 : xokM xe_22 = true := by decide +kernel
set_option maxRecDepth 1000000 in
theorem xc_22 : Cond.code xe_22.2.1 xe_22.2.2.1 xe_22.2.2.2.1 xe_22.2.2.2.2.1 ∈ lw_tbl := List.mem_of_getElem? (i := xe_22.2.2.2.2.2.2.2.1) rfl
set_option maxRecDepth 1000000 in
theorem xk_23 : xi_23.all (xokE xe_23) = true := by decide +kernel
set_option maxRecDepth 1000000 in
theorem xm_23 : xokM xe_23 = true := by decide +kernel
set_option maxRecDepth 1000000 in
theorem xc_23 : Cond.code xe_23.2.1 xe_23.2.2.1 xe_23.2.2.2.1 xe_23.2.2.2.2.1 ∈ lw_tbl := List.mem_of_getElem? (i := xe_23.2.2.2.2.2.2.2.1) rfl
set_option maxRecDepth 1000000 in
theorem xk_24 : xi_24.all (xokE xe_24) = true := by decide +kernel
set_option maxRecDepth 1000000 in
theorem xm_24 : xokM xe_24 = true := by decide +kernel
set_option maxRecDepth 1000000 in
theorem xc_24 : Cond.code xe_24.2.1 xe_24.2.2.1 xe_24.2.2.2.1 xe_24.2.2.2.2.1 ∈ lw_tbl := List.mem_of_getElem? (i := xe_24.2.2.2.2.2.2.2.1) rfl
set_option maxRecDepth 1000000 in
theorem xk_25 : xi_25.all (xokE xe_25) = true := by decide +kernel
set_option maxRecDepth 1000000 in
theorem xm_25 : xokM xe_25 = true := by decide +kernel
set_option maxRecDepth 1000000 in
theorem xc_25 : Cond.code xe_25.2.1 xe_25.2.2.1 xe_25.2.2.2.1 xe_25.2.2.2.2.1 ∈ lw_tbl := List.mem_of_getElem? (i := xe_25.2.2.2.2.2.2.2.1) rfl
set_option maxRecDepth 1000000 in
theorem xk_26 : xi_26.all (xokE xe_26) = true := by decide +kernel
set_option maxRecDepth 1000000 in
theorem xm_26 : xokM xe_26 = true := by decide +kernel
set_option maxRecDepth 1000000 in
theorem xc_26 : Cond.code xe_26.2.1 xe_26.2.2.1 xe_26.2.2.2.1 xe_26.2.2.2.2.1 ∈ lw_tbl := List.mem_of_getElem? (i := xe_26.2.2.2.2.2.2.2.1) rfl
set_option maxRecDepth 1000000 in
theorem xk_27 : xi_27.all (xokE xe_27) = true := by decide +kernel
set_option maxRecDepth 1000000 in
theorem xm_27 : xokM xe_27 = true := by decide +kernel
set_option maxRecDepth 1000000 in
theorem xc_27 : Cond.code xe_27.2.1 xe_27.2.2.1 xe_27.2.2.2.1 xe_27.2.2.2.2.1 ∈ lw_tbl := List.mem_of_getElem? (i := xe_27.2.2.2.2.2.2.2.1) rfl
set_option maxRecDepth 1000000 in
theorem xk_28 : xi_28.all (xokE xe_28) = true := by decide +kernel
set_option maxRecDepth 1000000 in
theorem xm_28 : xokM xe_28 = true := by decide +kernel
set_option maxRecDepth 1000000 in
theorem xc_28 : Cond.code xe_28.2.1 xe_28.2.2.1 xe_28.2.2.2.1 xe_28.2.2.2.2.1 ∈ lw_tbl := List.mem_of_getElem? (i := xe_28.2.2.2.2.2.2.2.1) rfl
set_option maxRecDepth 1000000 in
theorem xk_29 : xi_29.all (xokE xe_29) = true := by decide +kernel
set_option maxRecDepth 1000000 in
theorem xm_29 : xokM xe_29 = true := by decide +kernel
set_option maxRecDepth 1000000 in
theorem xc_29 : Cond.code xe_29.2.1 xe_29.2.2.1 xe_29.2.2.2.1 xe_29.2.2.2.2.1 ∈ lw_tbl := List.mem_of_getElem? (i := xe_29.2.2.2.2.2.2.2.1) rfl
set_option maxRecDepth 1000000 in
theorem xk_30 : xi_30.all (xokE xe_30) = true := by decide +kernel
set_option maxRecDepth 1000000 in
theorem xm_30 : xokM xe_30 = true := by decide +kernel
set_option maxRecDepth 1000000 in
theorem xc_30 : Cond.code xe_30.2.1 xe_30.2.2.1 xe_30.2.2.2.1 xe_30.2.2.2.2.1 ∈ lw_tbl := List.mem_of_getElem? (i := xe_30.2.2.2.2.2.2.2.1) rfl
set_option maxRecDepth 1000000 in
theorem xk_31 : xi_31.all (xokE xe_31) = true := by decide +kernel
set_option maxRecDepth 1000000 in
theorem xm_31 : xokM xe_31 = true := by decide +kernel
set_option maxRecDepth 1000000 in
theorem xc_31 : Cond.code xe_31.2.1 xe_31.2.2.1 xe_31.2.2.2.1 xe_31.2.2.2.2.1 ∈ lw_tbl := List.mem_of_getElem? (i := xe_31.2.2.2.2.2.2.2.1) rfl
set_option maxRecDepth 1000000 in
theorem xk_32 : xi_32.all (xokE xe_32) = true := by decide +kernel
set_option maxRecDepth 1000000 in
theorem xm_32 : xokM xe_32 = true := by decide +kernel
set_option maxRecDepth 1000000 in
theorem xc_32 : Cond.code xe_32.2.1 xe_32.2.2.1 xe_32.2.2.2.1 xe_32.2.2.2.2.1 ∈ lw_tbl := List.mem_of_getElem? (i := xe_32.2.2.2.2.2.2.2.1) rfl
set_option maxRecDepth 1000000 in
theorem xk_33 : xi_33.all (xokE xe_33) = true := by decide +kernel
set_option maxRecDepth 1000000 in
theorem xm_33 : xokM xe_33 = true := by decide +kernel
set_option maxRecDepth 1000000 in
theorem xc_33 : Cond.code xe_33.2.1 xe_33.2.2.1 xe_33.2.2.2.1 xe_33.2.2.2.2.1 ∈ lw_tbl := List.mem_of_getElem? (i := xe_33.2.2.2.2.2.2.2.1) rfl
set_option maxRecDepth 1000000 in
theorem xk_34 : xi_34.all (xokE xe_34) = true := by decide +kernel
set_option maxRecDepth 1000000 in
theorem xm_34 : xokM xe_34 = true := by decide +kernel
set_option maxRecDepth 1000000 in
theorem xc_34 : Cond.code xe_34.2.1 xe_34.2.2.1 xe_34.2.2.2.1 xe_34.2.2.2.2.1 ∈ lw_tbl := List.mem_of_getElem? (i := xe_34.2.2.2.2.2.2.2.1) rfl
set_option maxRecDepth 1000000 in
theorem xk_35 : xi_35.all (xokE xe_35) = true := by decide +kernel
set_option maxRecDepth 1000000 in
theorem xm_35 : xokM xe_35 = true := by decide +kernel
set_option maxRecDepth 1000000 in
theorem xc_35 : Cond.code xe_35.2.1 xe_35.2.2.1 xe_35.2.2.2.1 xe_35.2.2.2.2.1 ∈ lw_tbl := List.mem_of_getElem? (i := xe_35.2.2.2.2.2.2.2.1) rfl
set_option maxRecDepth 1000000 in
theorem xk_36 : xi_36.all (xokE xe_36) = true := by decide +kernel
set_option maxRecDepth 1000000 in
theorem xm_36 : xokM xe_36 = true := by decide +kernel
set_option maxRecDepth 1000000 in
theorem xc_36 : Cond.code xe_36.2.1 xe_36.2.2.1 xe_36.2.2.2.1 xe_36.2.2.2.2.1 ∈ lw_tbl := List.mem_of_getElem? (i := xe_36.2.2.2.2.2.2.2.1) rfl
set_option maxRecDepth 1000000 in
theorem xk_37 : xi_37.all (xokE xe_37) = true := by decide +kernel
set_option maxRecDepth 1000000 in
theorem xm_37 : xokM xe_37 = true := by decide +kernel
set_option maxRecDepth 1000000 in
theorem xc_37 : Cond.code xe_37.2.1 xe_37.2.2.1 xe_37.2.2.2.1 xe_37.2.2.2.2.1 ∈ lw_tbl := List.mem_of_getElem? (i := xe_37.2.2.2.2.2.2.2.1) rfl
set_option maxRecDepth 1000000 in
theorem xk_38 : xi_38.all (xokE xe_38) = true := by decide +kernel
set_option maxRecDepth 1000000 in
theorem xm_38 : xokM xe_38 = true := by decide +kernel
set_option maxRecDepth 1000000 in
theorem xc_38 : Cond.code xe_38.2.1 xe_38.2.2.1 xe_38.2.2.2.1 xe_38.2.2.2.2.1 ∈ lw_tbl := List.mem_of_getElem? (i := xe_38.2.2.2.2.2.2.2.1) rfl
set_option maxRecDepth 1000000 in
theorem xk_39 : xi_39.all (xokE xe_39) = true := by decide +kernel
set_option maxRecDepth 1000000 in
theorem xm_39 : xokM xe_39 = true := by decide +kernel
set_option maxRecDepth 1000000 in
theorem xc_39 : Cond.code xe_39.2.1 xe_39.2.2.1 xe_39.2.2.2.1 xe_39.2.2.2.2.1 ∈ lw_tbl := List.mem_of_getElem? (i := xe_39.2.2.2.2.2.2.2.1) rfl
set_option maxRecDepth 1000000 in
theorem xk_40 : xi_40.all (xokE xe_40) = true := by decide +kernel
set_option maxRecDepth 1000000 in
theorem xm_40 : xokM xe_40 = true := by decide +kernel
set_option maxRecDepth 1000000 in
theorem xc_40 : Cond.code xe_40.2.1 xe_40.2.2.1 xe_40.2.2.2.1 xe_40.2.2.2.2.1 ∈ lw_tbl := List.mem_of_getElem? (i := xe_40.2.2.2.2.2.2.2.1) rfl
set_option maxRecDepth 1000000 in
theorem xk_41 : xi_41.all (xokE xe_41) = true := by decide +kernel
set_option maxRecDepth 1000000 in
theorem xm_41 : xokM xe_41 = true := by decide +kernel
set_option maxRecDepth 1000000 in
theorem xc_41 : Cond.code xe_41.2.1 xe_41.2.2.1 xe_41.2.2.2.1 xe_41.2.2.2.2.1 ∈ lw_tbl := List.mem_of_getElem? (i := xe_41.2.2.2.2.2.2.2.1) rfl
set_option maxRecDepth 1000000 in
theorem xk_42 : xi_42.all (xokE xe_42) = true := by decide +kernel
set_option maxRecDepth 1000000 in
theorem xm_42 : xokM xe_42 = true := by decide +kernel
set_option maxRecDepth 1000000 in
theorem xc_42 : Cond.code xe_42.2.1 xe_42.2.2.1 xe_42.2.2.2.1 xe_42.2.2.2.2.1 ∈ lw_tbl := List.mem_of_getElem? (i := xe_42.2.2.2.2.2.2.2.1) rfl
set_option maxRecDepth 1000000 in
theorem xk_43 : xi_43.all (xokE xe_43) = true := by decide +kernel
set_option maxRecDepth 1000000 in
theorem xm_43 : xokM xe_43 = true := by decide +kernel
set_option maxRecDepth 1000000 in
theorem xc_43 : Cond.code xe_43.2.1 xe_43.2.2.1 xe_43.2.2.2.1 xe_43.2.2.2.2.1 ∈ lw_tbl := List.mem_of_getElem? (i := xe_43.2.2.2.2.2.2.2.1) rfl
set_option maxRecDepth 1000000 in
theorem xk_44 : xi_44.all (xokE xe_44) = true := by decide +kernel
set_option maxRecDepth 1000000 in
theorem xm_44 : xokM xe_44 = true := by decide +kernel
set_option maxRecDepth 1000000 in
theorem xc_44 : Cond.code xe_44.2.1 xe_44.2.2.1 xe_44.2.2.2.1 xe_44.2.2.2.2.1 ∈ lw_tbl := List.mem_of_getElem? (i := xe_44.2.2.2.2.2.2.2.1) rfl
set_option maxRecDepth 1000000 in
theorem xk_45 : xi_45.all (xokE xe_45) = true := by decide +kernel
set_option maxRecDepth 1000000 in
theorem xm_45 : xokM xe_45 = true := by decide +kernel
set_option maxRecDepth 1000000 in
theorem xc_45 : Cond.code xe_45.2.1 xe_45.2.2.1 xe_45.2.2.2.1 xe_45.2.2.2.2.1 ∈ lw_tbl := List.mem_of_getElem? (i := xe_45.2.2.2.2.2.2.2.1) rfl
set_option maxRecDepth 1000000 in
theorem xk_46 : xi_46.all (xokE xe_46) = true := by decide +kernel
set_option maxRecDepth 1000000 in
theorem xm_46 : xokM xe_46 = true := by decide +kernel
set_option maxRecDepth 1000000 in
theorem xc_46 : Cond.code xe_46.2.1 xe_46.2.2.1 xe_46.2.2.2.1 xe_46.2.2.2.2.1 ∈ lw_tbl := List.mem_of_getElem? (i := xe_46.2.2.2.2.2.2.2.1) rfl
set_option maxRecDepth 1000000 in
theorem xk_47 : xi_47.all (xokE xe_47) = true := by decide +kernel
set_option maxRecDepth 1000000 in
theorem xm_47 : xokM xe_47 = true := by decide +kernel
set_option maxRecDepth 1000000 in
theorem xc_47 : Cond.code xe_47.2.1 xe_47.2.2.1 xe_47.2.2.2.1 xe_47.2.2.2.2.1 ∈ lw_tbl := List.mem_of_getElem? (i := xe_47.2.2.2.2.2.2.2.1) rfl
set_option maxRecDepth 1000000 in
theorem xk_48 : xi_48.all (xokE xe_48) = true := by decide +kernel
set_option maxRecDepth 1000000 in
theorem xm_48 : xokM xe_48 = true := by decide +kernel
set_option maxRecDepth 1000000 in
theorem xc_48 : Cond.code xe_48.2.1 xe_48.2.2.1 xe_48.2.2.2.1 xe_48.2.2.2.2.1 ∈ lw_tbl := List.mem_of_getElem? (i := xe_48.2.2.2.2.2.2.2.1) rfl
set_option maxRecDepth 1000000 in
theorem xk_49 : xi_49.all (xokE xe_49) = true := by decide +kernel
set_option maxRecDepth 1000000 in
theorem xm_49 : xokM xe_49 = true := by decide +kernel
set_option maxRecDepth 1000000 in
theorem xc_49 : Cond.code xe_49.2.1 xe_49.2.2.1 xe_49.2.2.2.1 xe_49.2.2.2.2.1 ∈ lw_tbl := List.mem_of_getElem? (i := xe_49.2.2.2.2.2.2.2.1) rfl
set_option maxRecDepth 1000000 in
theorem xk_50 : xi_50.all (xokE xe_50) = true := by decide +kernel
set_option maxRecDepth 1000000 in
theorem xm_50 : xokM xe_50 = true := by decide +kernel
set_option maxRecDepth 1000000 in
theorem xc_50 : Cond.code xe_50.2.1 xe_50.2.2.1 xe_50.2.2.2.1 xe_50.2.2.2.2.1 ∈ lw_tbl := List.mem_of_getElem? (i := xe_50.2.2.2.2.2.2.2.1) rfl
set_option maxRecDepth 1000000 in
theorem xk_51 : xi_51.all (xokE xe_51) = true := by decide +kernel
set_option maxRecDepth 1000000 in
theorem xm_51 : xokM xe_51 = true := by decide +kernel
set_option maxRecDepth 1000000 in
theorem xc_51 : Cond.code xe_51.2.1 xe_51.2.2.1 xe_51.2.2.2.1 xe_51.2.2.2.2.1 ∈ lw_tbl := List.mem_of_getElem? (i := xe_51.2.2.2.2.2.2.2.1) rfl
set_option maxRecDepth 1000000 in
theorem xk_52 : xi_52.all (xokE xe_52) = true := by decide +kernel
set_option maxRecDepth 1000000 in
theorem xm_52 : xokM xe_52 = true := by decide +kernel
set_option maxRecDepth 1000000 in
theorem xc_52 : Cond.code xe_52.2.1 xe_52.2.2.1 xe_52.2.2.2.1 xe_52.2.2.2.2.1 ∈ lw_tbl := List.mem_of_getElem? (i := xe_52.2.2.2.2.2.2.2.1) rfl
set_option maxRecDepth 1000000 in
theorem xk_53 : xi_53.all (xokE xe_53) = true := by decide +kernel
set_option maxRecDepth 1000000 in
theorem xm_53 : xokM xe_53 = true := by decide +kernel
set_option maxRecDepth 1000000 in
theorem xc_53 : Cond.code xe_53.2.1 xe_53.2.2.1 xe_53.2.2.2.1 xe_53.2.2.2.2.1 ∈ lw_tbl := List.mem_of_getElem? (i := xe_53.2.2.2.2.2.2.2.1) rfl
set_option maxRecDepth 1000000 in
theorem xk_54 : xi_54.all (xokE xe_54) = true := by decide +kernel
set_option maxRecDepth 1000000 in
theorem xm_54 : xokM xe_54 = true := by decide +kernel
set_option maxRecDepth 1000000 in
theorem xc_54 : Cond.code xe_54.2.1 xe_54.2.2.1 xe_54.2.2.2.1 xe_54.2.2.2.2.1 ∈ lw_tbl := List.mem_of_getElem? (i := xe_54.2.2.2.2.2.2.2.1) rfl
set_option maxRecDepth 1000000 in
theorem xk_55 : xi_55.all (xokE xe_55) = true := by decide +kernel
set_option maxRecDepth 1000000 in
theorem xm_55 : xokM xe_55 = true := by decide +kernel
set_option maxRecDepth 1000000 in
theorem xc_55 : Cond.code xe_55.2.1 xe_55.2.2.1 xe_55.2.2.2.1 xe_55.2.2.2.2.1 ∈ lw_tbl := List.mem_of_getElem? (i := xe_55.2.2.2.2.2.2.2.1) rfl
set_option maxRecDepth 1000000 in
theorem xk_56 : xi_56.all (xokE xe_56) = true := by decide +kernel
set_option maxRecDepth 1000000 in
theorem xm_56 : xokM xe_56 = true := by decide +kernel
set_option maxRecDepth 1000000 in
theorem xc_56 : Cond.code xe_56.2.1 xe_56.2.2.1 xe_56.2.2.2.1 xe_56.2.2.2.2.1 ∈ lw_tbl := List.mem_of_getElem? (i := xe_56.2.2.2.2.2.2.2.1) rfl
set_option maxRecDepth 1000000 in
theorem xk_57 : xi_57.all (xokE xe_57) = true := by decide +kernel
set_option maxRecDepth 1000000 in
theorem xm_57 : xokM xe_57 = true := by decide +kernel
set_option maxRecDepth 1000000 in
theorem xc_57 : Cond.code xe_57.2.1 xe_57.2.2.1 xe_57.2.2.2.1 xe_57.2.2.2.2.1 ∈ lw_tbl := List.mem_of_getElem? (i := xe_57.2.2.2.2.2.2.2.1) rfl
set_option maxRecDepth 1000000 in
theorem xk_58 : xi_58.all (xokE xe_58) = true := by decide +kernel
set_option maxRecDepth 1000000 in
theorem xm_58 : xokM xe_58 = true := by decide +kernel
set_option maxRecDepth 1000000 in
theorem xc_58 : Cond.code xe_58.2.1 xe_58.2.2.1 xe_58.2.2.2.1 xe_58.2.2.2.2.1 ∈ lw_tbl := List.mem_of_getElem? (i := xe_58.2.2.2.2.2.2.2.1) rfl
set_option maxRecDepth 1000000 in
theorem xk_59 : xi_59.all (xokE xe_59) = true := by decide +kernel
set_option maxRecDepth 1000000 in
theorem xm_59 : xokM xe_59 = true := by decide +kernel
set_option maxRecDepth 1000000 in
theorem xc_59 : Cond.code xe_59.2.1 xe_59.2.2.1 xe_59.2.2.2.1 xe_59.2.2.2.2.1 ∈ lw_tbl := List.mem_of_getElem? (i := xe_59.2.2.2.2.2.2.2.1) rfl
