theorem zi_text (S : XS) : zE S 60 132 0 [some (.ref 75), none, none] [] Zs_2 (some (.int (0))) (zm Z94) := by
  refine zE_run zg_0 ?_
  refine zE_call (e2 := xe_123) (as := [.ref 75]) (rest := []) (r1 := none) (Z1 := Zs_3) (show xi 132 36 = some (.invokevirtual 134, 123, 885) from rfl) rfl (by decide) (by decide) rfl (zE_deep (by decide) (zE_x zc_1)) trivial ?_
  refine zE_run zg_2 ?_
  refine zE_call (e2 := xe_131) (as := [.ref 75]) (rest := []) (r1 := some (.int (1))) (Z1 := Zs_4) (show xi 132 83 = some (.invokevirtual 147, 131, 896) from rfl) rfl (by decide) (by decide) rfl (zE_deep (by decide) (zE_x zc_3)) trivial ?_
  refine zE_run zg_4 ?_
  refine zE_call (e2 := xe_123) (as := [.ref 75]) (rest := []) (r1 := none) (Z1 := Zs_5) (show xi 132 36 = some (.invokevirtual 134, 123, 885) from rfl) rfl (by decide) (by decide) rfl (zE_deep (by decide) (zE_x zc_5)) trivial ?_
  refine zE_run zg_6 ?_
  refine zE_call (e2 := xe_131) (as := [.ref 75]) (rest := []) (r1 := some (.int (1))) (Z1 := Zs_7) (show xi 132 83 = some (.invokevirtual 147, 131, 896) from rfl) rfl (by decide) (by decide) rfl (zE_deep (by decide) (zE_x zc_7)) trivial ?_
  refine zE_run zg_8 ?_
  refine zE_call (e2 := xe_123) (as := [.ref 75]) (rest := []) (r1 := none) (Z1 := Zs_8) (show xi 132 36 = some (.invokevirtual 134, 123, 885) from rfl) rfl (by decide) (by decide) rfl (zE_deep (by decide) (zE_x zc_9)) trivial ?_
  refine zE_run zg_10 ?_
  refine zE_call (e2 := xe_131) (as := [.ref 75]) (rest := []) (r1 := some (.int (1))) (Z1 := Zs_10) (show xi 132 83 = some (.invokevirtual 147, 131, 896) from rfl) rfl (by decide) (by decide) rfl (zE_deep (by decide) (zE_x zc_11)) trivial ?_
  refine zE_run zg_12 ?_
  refine zE_call (e2 := xe_123) (as := [.ref 75]) (rest := []) (r1 := none) (Z1 := Zs_11) (show xi 132 106 = some (.invokevirtual 134, 123, 885) from rfl) rfl (by decide) (by decide) rfl (zE_deep (by decide) (zE_x zc_13)) trivial ?_
  refine zE_run zg_14 ?_
  exact zE_deep (by decide) (zE_x zc_15)
set_option maxRecDepth 100000 in
theorem zi_init (S : XS) : zE S 61 111 0 [some (.ref 75), none] [] Zs_12 none (zm Z94) := by
  refine zE_run zg_16 ?_
  refine zE_obj (show xi 111 1 = some (.invokespecial 1, 8888, 880) from rfl) rfl (by decide) ?_
  refine zE_run zg_17 ?_
  refine zE_run zg_18 ?_
  refine zE_run zg_19 ?_
  refine zE_call (e2 := xe_132) (as := [.ref 75]) (rest := []) (r1 := some (.int (0))) (Z1 := Z94) (show xi 111 973 = some (.invokevirtual 68, 132, 881) from rfl) rfl (by decide) (by decide) rfl (zi_text S) trivial ?_
  refine zE_run zg_20 ?_
  exact zE_deep (by decide) (zE_x zc_21)
