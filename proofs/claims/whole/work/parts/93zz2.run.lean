def Zb0 : ZM := (0, [], [])
def Zb1 : ZM := (1, [], [])
theorem zb_0 : zrun 0 2 0 [some (.ref 40000), none, none, none] [] Zb0 = some (4, [some (.ref 40000), none, none, none], [.ref 0, .ref 0], Zb1) := zfq_eq (by decide +kernel)
theorem zb_1 : zrun 0 3 7 [some (.ref 40000), none, none, none] [.ref 0] Z75 = some (12, [some (.ref 40000), some (.ref 0), none, none], [.ref 75, .ref 75], Zs_12) := zfq_eq (by decide +kernel)
theorem zb_2 : zrun 0 1 15 [some (.ref 40000), some (.ref 0), none, none] [.ref 75] Z94 = some (16, [some (.ref 40000), some (.ref 0), some (.ref 75), none], [], Z94) := zfq_eq (by decide +kernel)
theorem zb_00 : zm Zb0 = (0, fun _ _ => 0, fun _ _ => 0, fun _ _ => none) := rfl
set_option maxRecDepth 100000 in
theorem law_run (S : XS) (h : S.1 ≤ 3584) : ∃ (n : Nat) (X' : XM), xexec S n 80 0 0 (xpad 4 (xlocs [.ref 40000])) [] (0, fun _ _ => 0, fun _ _ => 0, fun _ _ => none) = some (some (.int 1), X') ∧ X'.1 ≤ 94 := by
  obtain ⟨n, r, M', N', hx, hr⟩ := law_go h z_Rel (N := N0)
  subst hr
  have k0 : zE S 80 0 16 [some (.ref 40000), some (.ref 0), some (.ref 75), none] [] Z94 (some (.int 1)) (ym M' N') := by
    refine ⟨n, ?_⟩
    rw [← z_ym]
    exact hx
  have k1 : zE S 80 0 0 [some (.ref 40000), none, none, none] [] Zb0 (some (.int 1)) (ym M' N') := by
    refine zE_run zb_0 ?_
    refine zE_call (e2 := xe_51) (as := [.ref 0]) (rest := [.ref 0]) (r1 := none) (Z1 := Z75) (show xi 0 4 = some (.invokespecial 9, 51, 82) from rfl) rfl (by decide) (by decide) rfl (zE_deep (by decide) (zE_x z7)) trivial ?_
    refine zE_run zb_1 ?_
    refine zE_call (e2 := xe_111) (as := [.ref 75]) (rest := [.ref 75]) (r1 := none) (Z1 := Z94) (show xi 0 12 = some (.invokespecial 12, 111, 877) from rfl) rfl (by decide) (by decide) rfl (zE_deep (by decide) (zi_init S)) trivial ?_
    exact zE_run zb_2 k0
  obtain ⟨n2, k2⟩ := k1
  refine ⟨n2, ym M' N', ?_, Nat.le_refl 94⟩
  rw [← zb_00]
  exact k2
