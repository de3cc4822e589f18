theorem c_image {S : XS} {M N : YM} (hS : RS M M) (hI : RI M M) : rm S 2 83 [yr 0] M N (fun r M' N' => ∃ v : Int, some (yi v) = r ∧ v = M 75 0 ∧ M' 0 2 = 1 ∧ (M' 13 1 = M 1 1 ∧ M' 13 2 = M 1 2 ∧ M' 13 3 = M 1 3 ∧ M' 13 4 = M 1 4) ∧ (∀ s, 0 ≤ s → s < M 1 1 → M' (15 + s) 0 = M (3 + s) 0 ∧ M' (15 + s) 1 = M (3 + s) 1 ∧ M' (15 + s) 2 = M (3 + s) 2 ∧ M' (15 + s) 3 = M (3 + s) 3 ∧ M' (15 + s) 4 = M (3 + s) 4) ∧ (∀ c k, c ≠ 13 → (c < 15 ∨ 25 ≤ c) → (c ≠ 0 ∨ k ≠ 2) → M' c k = M c k) ∧ N = N') := by
  refine ⟨xe_83, m_83, Nat.le_of_ble_eq_true rfl, ?_⟩
  refine r_run 4 (pc' := 8) (ls' := [some (yr 0)]) (st' := [yr 1, yr 13]) (M' := M) (N' := N) rfl ?_
  refine r_virtual (mj := 50) (b := 13) (as := [yr 1]) (rest := []) f_83_8 (by decide) rfl m_50 (by decide) (by decide) (by decide) rfl rfl (Nat.le_of_ble_eq_true rfl) (by omega) (c_tkeep (by rw [hS.1]; exact hS.2.1) (fun s s0 s1 => by obtain ⟨⟨e0, e1, e2, e3, e4⟩, ⟨f0, f1, f2⟩, f3⟩ := hS.2.2.2.2 s s0 (by rw [← hS.1]; exact s1); rw [e0, e1]; exact ⟨f0, f1⟩)) ?_
  rintro _ M2 _ ⟨rfl, q1, q2, q3, rfl⟩
  refine r_run 2 (pc' := 13) (ls' := [some (yr 0)]) (st' := [yi 1, yr 0]) (M' := M2) (N' := N) rfl ?_
  refine r_putf (n := 13) 2 rfl f_83_13 (show xFT[37]? = some (7, 2) from rfl) (Or.inr ⟨by decide, (by omega)⟩) (by decide) (by decide) ?_
  refine r_run 3 (pc' := 23) (ls' := [some (yr 0)]) (st' := [yi (M2 1 1)]) (M' := (yu M2 0 2 1)) (N' := N) rfl ?_
  refine r_iret m_83 rfl f_83_23 ?_
  have g : ∀ c k, (c ≠ 0 ∨ k ≠ 2) → yu M2 0 2 1 c k = M2 c k := fun c k n => yu_ne (by omega)
  refine ⟨_, rfl, ?_, ?_, ⟨?_, ?_, ?_, ?_⟩, fun s s0 s1 => ?_, fun c k h1 h2 h3 => ?_, rfl⟩
  · rw [q3 _ _ (by omega) (by omega)]; exact hS.1
  · rw [yu_at]
  · rw [g _ _ (by omega)]; exact q1.1
  · rw [g _ _ (by omega)]; exact q1.2.1
  · rw [g _ _ (by omega)]; exact q1.2.2.1
  · rw [g _ _ (by omega)]; exact q1.2.2.2
  · rw [g _ _ (by omega), g _ _ (by omega), g _ _ (by omega), g _ _ (by omega), g _ _ (by omega)]; exact q2 s s0 s1
  · rw [g _ _ h3]; exact q3 c k h1 h2
theorem c_back {S : XS} {M N : YM} (hS : RS M M) (hI : RI M M) : rm S 2 84 [yr 0] M N (fun r M' N' => ∃ v : Int, some (yi v) = r ∧ ((M 75 11 = 0 ∧ v = -3 ∧ M = M') ∨ (M 75 11 = 1 ∧ v = M 75 12 ∧ (M' 1 1 = M 13 1 ∧ M' 1 2 = M 13 2 ∧ M' 1 3 = M 13 3 ∧ M' 1 4 = M 13 4) ∧ (∀ s, 0 ≤ s → s < M 13 1 → M' (3 + s) 0 = M (15 + s) 0 ∧ M' (3 + s) 1 = M (15 + s) 1 ∧ M' (3 + s) 2 = M (15 + s) 2 ∧ M' (3 + s) 3 = M (15 + s) 3 ∧ M' (3 + s) 4 = M (15 + s) 4) ∧ (∀ c k, c ≠ 1 → (c < 3 ∨ 13 ≤ c) → M' c k = M c k))) ∧ N = N') := by
  refine ⟨xe_84, m_84, Nat.le_of_ble_eq_true rfl, ?_⟩
  have i0 := hI.1
  have i1 := hI.2.1
  refine r_run 2 (pc' := 4) (ls' := [some (yr 0)]) (st' := [yi (M 0 2)]) (M' := M) (N' := N) rfl ?_
  refine r_if_ne (pc := 4) f_84_4 (by omega) (fun h4 => ?_) (fun h4 => ?_)
  · have hI3 := hI.2.2 (by omega)
    refine r_run 4 (pc' := 18) (ls' := [some (yr 0)]) (st' := [yr 13, yr 1]) (M' := M) (N' := N) rfl ?_
    refine r_virtual (mj := 50) (b := 1) (as := [yr 13]) (rest := []) f_84_18 (by decide) rfl m_50 (by decide) (by decide) (by decide) rfl rfl (Nat.le_of_ble_eq_true rfl) (by omega) (c_tback (by rw [hI3.1.1]; exact hI3.2.1) (fun s s0 s1 => by obtain ⟨⟨e0, e1, e2, e3, e4⟩, ⟨f0, f1, f2⟩, f3⟩ := hI3.2.2.2.2.2 s s0 (by rw [← hI3.1.1]; exact s1); rw [e0, e1]; exact ⟨f0, f1⟩)) ?_
    rintro _ M2 _ ⟨rfl, q1, q2, q3, rfl⟩
    refine r_run 3 (pc' := 28) (ls' := [some (yr 0)]) (st' := [yi (M2 1 1)]) (M' := M2) (N' := N) rfl ?_
    refine r_iret m_84 rfl f_84_28 ?_
    exact ⟨_, rfl, Or.inr ⟨by omega, by rw [q1.1]; exact hI3.1.1, q1, q2, q3⟩, rfl⟩
  · refine r_run 1 (pc' := 9) (ls' := [some (yr 0)]) (st' := [yi (-3)]) (M' := M) (N' := N) rfl ?_
    refine r_iret m_84 rfl f_84_9 ?_
    exact ⟨_, rfl, Or.inl ⟨by omega, rfl, rfl⟩, rfl⟩
theorem mimage_loop {S : XS} {d : Nat} {N : YM} {j : Nat} : ∀ {k : Int} {A : YM}, 0 ≤ k → k + j = 50 → ry S d 184 39 [some (yr 75), some (yi k)] [] A N (fun r M' N' => some (yi (A 75 0)) = r ∧ (∀ i, k ≤ i → i < 50 → M' 81 i = A 76 i) ∧ (∀ c i, c ≠ 81 ∨ i < k → M' c i = A c i) ∧ N = N') := by
  induction j with
  | zero =>
    intro k A h0 h1
    refine r_run 2 (pc' := 42) (ls' := [some (yr 75), some (yi k)]) (st' := [yi 50, yi k]) (M' := A) (N' := N) rfl ?_
    refine r_icmp_ge (pc := 42) f_184_42 (by omega) (by omega) (fun h42 => ?_) (fun h42 => ?_)
    · refine r_run 2 (pc' := 67) (ls' := [some (yr 75), some (yi k)]) (st' := [yi (A 75 0)]) (M' := A) (N' := N) rfl ?_
      refine r_iret m_184 rfl f_184_67 ?_
      exact ⟨rfl, fun i i0 i1 => absurd i0 (by omega), fun _ _ _ => rfl, rfl⟩
    · omega
  | succ j ih =>
    intro k A h0 h1
    refine r_run 2 (pc' := 42) (ls' := [some (yr 75), some (yi k)]) (st' := [yi 50, yi k]) (M' := A) (N' := N) rfl ?_
    refine r_icmp_ge (pc := 42) f_184_42 (by omega) (by omega) (fun h42 => ?_) (fun h42 => ?_)
    · refine r_run 2 (pc' := 67) (ls' := [some (yr 75), some (yi k)]) (st' := [yi (A 75 0)]) (M' := A) (N' := N) rfl ?_
      refine r_iret m_184 rfl f_184_67 ?_
      exact ⟨rfl, fun i i0 i1 => absurd i0 (by omega), fun _ _ _ => rfl, rfl⟩
    · refine r_run 6 (pc' := 55) (ls' := [some (yr 75), some (yi k)]) (st' := [yi k, yr 76, yi k, yr 81]) (M' := A) (N' := N) rfl ?_
      refine r_iald (n := 50) f_184_55 (by decide) (by decide) (by decide) (by omega) ?_
      refine r_iast (n := 50) f_184_56 (by decide) (by decide) (by decide) (by omega) ?_
      refine r_run 2 (pc' := 39) (ls' := [some (yr 75), some (yi (k + 1))]) (st' := []) (M' := (yu A 81 k (A 76 k))) (N' := N) rfl ?_
      refine r_post (ih (by omega) (by omega)) ?_
      rintro _ M3 _ ⟨rfl, q1, q2, rfl⟩
      refine ⟨by rw [yu_ne (by omega)], fun i i0 i1 => ?_, fun c i h => ?_, rfl⟩
      · by_cases hi : i = k
        · rw [hi, q2 _ _ (by omega), yu_at]
        · rw [q1 i (by omega) i1, yu_ne (by omega)]
      · rw [q2 c i (by omega), yu_ne (by omega)]
theorem mback_loop {S : XS} {d : Nat} {N : YM} {j : Nat} : ∀ {k : Int} {A : YM}, 0 ≤ k → k + j = 50 → ry S d 185 44 [some (yr 75), some (yi k)] [] A N (fun r M' N' => some (yi (A 75 0)) = r ∧ (∀ i, k ≤ i → i < 50 → M' 76 i = A 81 i) ∧ (∀ c i, c ≠ 76 ∨ i < k → M' c i = A c i) ∧ N = N') := by
  induction j with
  | zero =>
    intro k A h0 h1
    refine r_run 2 (pc' := 47) (ls' := [some (yr 75), some (yi k)]) (st' := [yi 50, yi k]) (M' := A) (N' := N) rfl ?_
    refine r_icmp_ge (pc := 47) f_185_47 (by omega) (by omega) (fun h47 => ?_) (fun h47 => ?_)
    · refine r_run 2 (pc' := 72) (ls' := [some (yr 75), some (yi k)]) (st' := [yi (A 75 0)]) (M' := A) (N' := N) rfl ?_
      refine r_iret m_185 rfl f_185_72 ?_
      exact ⟨rfl, fun i i0 i1 => absurd i0 (by omega), fun _ _ _ => rfl, rfl⟩
    · omega
  | succ j ih =>
    intro k A h0 h1
    refine r_run 2 (pc' := 47) (ls' := [some (yr 75), some (yi k)]) (st' := [yi 50, yi k]) (M' := A) (N' := N) rfl ?_
    refine r_icmp_ge (pc := 47) f_185_47 (by omega) (by omega) (fun h47 => ?_) (fun h47 => ?_)
    · refine r_run 2 (pc' := 72) (ls' := [some (yr 75), some (yi k)]) (st' := [yi (A 75 0)]) (M' := A) (N' := N) rfl ?_
      refine r_iret m_185 rfl f_185_72 ?_
      exact ⟨rfl, fun i i0 i1 => absurd i0 (by omega), fun _ _ _ => rfl, rfl⟩
    · refine r_run 6 (pc' := 60) (ls' := [some (yr 75), some (yi k)]) (st' := [yi k, yr 81, yi k, yr 76]) (M' := A) (N' := N) rfl ?_
      refine r_iald (n := 50) f_185_60 (by decide) (by decide) (by decide) (by omega) ?_
      refine r_iast (n := 50) f_185_61 (by decide) (by decide) (by decide) (by omega) ?_
      refine r_run 2 (pc' := 44) (ls' := [some (yr 75), some (yi (k + 1))]) (st' := []) (M' := (yu A 76 k (A 81 k))) (N' := N) rfl ?_
      refine r_post (ih (by omega) (by omega)) ?_
      rintro _ M3 _ ⟨rfl, q1, q2, rfl⟩
      refine ⟨by rw [yu_ne (by omega)], fun i i0 i1 => ?_, fun c i h => ?_, rfl⟩
      · by_cases hi : i = k
        · rw [hi, q2 _ _ (by omega), yu_at]
        · rw [q1 i (by omega) i1, yu_ne (by omega)]
      · rw [q2 c i (by omega), yu_ne (by omega)]
theorem m_image {S : XS} {M N : YM}  : rm S 1 184 [yr 75] M N (fun r M' N' => ∃ v : Int, some (yi v) = r ∧ v = M 75 0 ∧ (M' 75 11 = 1 ∧ M' 75 12 = M 75 0 ∧ M' 75 13 = M 75 2 ∧ M' 75 14 = M 75 4 ∧ M' 75 15 = M 75 10) ∧ (∀ i, 0 ≤ i → i < 50 → M' 81 i = M 76 i) ∧ (∀ c k, c ≠ 81 → (c ≠ 75 ∨ k < 11 ∨ 15 < k) → M' c k = M c k) ∧ N = N') := by
  refine ⟨xe_184, m_184, Nat.le_of_ble_eq_true rfl, ?_⟩
  refine r_run 2 (pc' := 2) (ls' := [some (yr 75), none]) (st' := [yi 1, yr 75]) (M' := M) (N' := N) rfl ?_
  refine r_putf (n := 38) 11 rfl f_184_2 (show xFT[59]? = some (8, 11) from rfl) (Or.inr ⟨by decide, (Or.inr rfl)⟩) (by decide) (by decide) ?_
  refine r_run 18 (pc' := 39) (ls' := [some (yr 75), some (yi 0)]) (st' := []) (M' := (yu (yu (yu (yu (yu M 75 11 1) 75 12 (M 75 0)) 75 13 (M 75 2)) 75 14 (M 75 4)) 75 15 (M 75 10))) (N' := N) rfl ?_
  have g : ∀ c k, (c ≠ 75 ∨ k < 11 ∨ 15 < k) → (yu (yu (yu (yu (yu M 75 11 1) 75 12 (M 75 0)) 75 13 (M 75 2)) 75 14 (M 75 4)) 75 15 (M 75 10)) c k = M c k := fun c k n => by rw [yu_ne (by omega), yu_ne (by omega), yu_ne (by omega), yu_ne (by omega), yu_ne (by omega)]
  refine r_post (mimage_loop (j := 50) (k := 0) (by omega) (by omega)) ?_
  rintro _ M3 _ ⟨rfl, q1, q2, rfl⟩
  refine ⟨_, rfl, g _ _ (by omega), ⟨?_, ?_, ?_, ?_, ?_⟩, fun i i0 i1 => by rw [q1 i i0 i1, g _ _ (by omega)], fun c k h1 h2 => by rw [q2 _ _ (by omega), g _ _ h2], rfl⟩
  · rw [q2 _ _ (by omega)]; rw [yu_ne (by omega), yu_ne (by omega), yu_ne (by omega), yu_ne (by omega), yu_at]
  · rw [q2 _ _ (by omega)]; rw [yu_ne (by omega), yu_ne (by omega), yu_ne (by omega), yu_at]
  · rw [q2 _ _ (by omega)]; rw [yu_ne (by omega), yu_ne (by omega), yu_at]
  · rw [q2 _ _ (by omega)]; rw [yu_ne (by omega), yu_at]
  · rw [q2 _ _ (by omega)]; rw [yu_at]
theorem m_back {S : XS} {M N : YM} (hb : M 75 11 = 0 ∨ M 75 11 = 1) : rm S 1 185 [yr 75] M N (fun r M' N' => ∃ v : Int, some (yi v) = r ∧ ((M 75 11 = 0 ∧ v = -3 ∧ M = M') ∨ (M 75 11 = 1 ∧ v = M 75 12 ∧ (M' 75 0 = M 75 12 ∧ M' 75 2 = M 75 13 ∧ M' 75 4 = M 75 14 ∧ M' 75 10 = M 75 15) ∧ (∀ i, 0 ≤ i → i < 50 → M' 76 i = M 81 i) ∧ (∀ c k, c ≠ 76 → (c ≠ 75 ∨ (k ≠ 0 ∧ k ≠ 2 ∧ k ≠ 4 ∧ k ≠ 10)) → M' c k = M c k))) ∧ N = N') := by
  refine ⟨xe_185, m_185, Nat.le_of_ble_eq_true rfl, ?_⟩
  refine r_run 2 (pc' := 4) (ls' := [some (yr 75), none]) (st' := [yi (M 75 11)]) (M' := M) (N' := N) rfl ?_
  refine r_if_ne (pc := 4) f_185_4 (by omega) (fun h4 => ?_) (fun h4 => ?_)
  · refine r_run 18 (pc' := 44) (ls' := [some (yr 75), some (yi 0)]) (st' := []) (M' := (yu (yu (yu (yu M 75 0 (M 75 12)) 75 2 (M 75 13)) 75 4 (M 75 14)) 75 10 (M 75 15))) (N' := N) rfl ?_
    have g : ∀ c k, (c ≠ 75 ∨ (k ≠ 0 ∧ k ≠ 2 ∧ k ≠ 4 ∧ k ≠ 10)) → (yu (yu (yu (yu M 75 0 (M 75 12)) 75 2 (M 75 13)) 75 4 (M 75 14)) 75 10 (M 75 15)) c k = M c k := fun c k n => by rw [yu_ne (by omega), yu_ne (by omega), yu_ne (by omega), yu_ne (by omega)]
    have g0 : (yu (yu (yu (yu M 75 0 (M 75 12)) 75 2 (M 75 13)) 75 4 (M 75 14)) 75 10 (M 75 15)) 75 0 = M 75 12 := by rw [yu_ne (by omega), yu_ne (by omega), yu_ne (by omega), yu_at]
    refine r_post (mback_loop (j := 50) (k := 0) (by omega) (by omega)) ?_
    rintro _ M3 _ ⟨rfl, q1, q2, rfl⟩
    refine ⟨_, rfl, Or.inr ⟨by omega, g0, ⟨?_, ?_, ?_, ?_⟩, fun i i0 i1 => by rw [q1 i i0 i1, g _ _ (by omega)], fun c k h1 h2 => by rw [q2 _ _ (by omega), g _ _ h2]⟩, rfl⟩
    · rw [q2 _ _ (by omega)]; exact g0
    · rw [q2 _ _ (by omega)]; rw [yu_ne (by omega), yu_ne (by omega), yu_at]
    · rw [q2 _ _ (by omega)]; rw [yu_ne (by omega), yu_at]
    · rw [q2 _ _ (by omega)]; rw [yu_at]
  · refine r_run 1 (pc' := 9) (ls' := [some (yr 75), none]) (st' := [yi (-3)]) (M' := M) (N' := N) rfl ?_
    refine r_iret m_185 rfl f_185_9 ?_
    exact ⟨_, rfl, Or.inl ⟨by omega, rfl, rfl⟩, rfl⟩
