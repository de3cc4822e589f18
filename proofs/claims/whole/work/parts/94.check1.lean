set_option maxRecDepth 1000000 in
theorem xk_0_0 : ((xi_0.drop 0).take 200).all (xokE xe_0) = true := by decide +kernel
set_option maxRecDepth 1000000 in
theorem xk_0_200 : ((xi_0.drop 200).take 200).all (xokE xe_0) = true := by decide +kernel
set_option maxRecDepth 1000000 in
theorem xk_0_400 : ((xi_0.drop 400).take 200).all (xokE xe_0) = true := by decide +kernel
set_option maxRecDepth 1000000 in
theorem xk_0_600 : ((xi_0.drop 600).take 200).all (xokE xe_0) = true := by decide +kernel
set_option maxRecDepth 1000000 in
theorem xk_0_800 : ((xi_0.drop 800).take 200).all (xokE xe_0) = true := by decide +kernel
set_option maxRecDepth 1000000 in
theorem xk_0_1000 : ((xi_0.drop 1000).take 200).all (xokE xe_0) = true := by decide +kernel
set_option maxRecDepth 1000000 in
theorem xk_0 : xi_0.all (xokE xe_0) = true := by
  have h : ∀ (l : List XIn) (a b : Nat) (f : XIn → Bool), ((l.drop a).take b).all f = true → (l.drop (a + b)).all f = true → (l.drop a).all f = true := by
    intro l a b f h1 h2
    have h3 : l.drop a = (l.drop a).take b ++ (l.drop a).drop b := (List.take_append_drop b _).symm
    rw [h3, List.all_append, h1, List.drop_drop, h2]
    rfl
  exact (h xi_0 0 200 _ xk_0_0 (h xi_0 200 200 _ xk_0_200 (h xi_0 400 200 _ xk_0_400 (h xi_0 600 200 _ xk_0_600 (h xi_0 800 200 _ xk_0_800 (h xi_0 1000 200 _ xk_0_1000 (by decide +kernel)))))))
