/-! what a text tells, both sides -/
def wr (x : Int) : Int := (Int32.ofInt x).toInt
theorem wr_in (x : Int) : -2147483648 ≤ wr x ∧ wr x < 2147483648 := ⟨Int32.le_toInt _, Int32.toInt_lt _⟩
theorem wr_of (x : Int) : Int32.ofInt (wr x) = Int32.ofInt x := Int32.ofInt_toInt _
theorem r_top {S : XS} {d mi pc : Nat} {ls : YL} {st : List YV} {M N : YM} {Q : Option YV → YM → YM → Prop} {a b : Int} (h : Int32.ofInt b = Int32.ofInt a) (k : ry S d mi pc ls (.inl b :: st) M N Q) : ry S d mi pc ls (.inl a :: st) M N Q := by
  have e : ((.inl b :: st : List YV)).map yv = ((.inl a :: st : List YV)).map yv := by
    simp only [List.map_cons, yv, h]
  unfold ry at k ⊢
  rw [e] at k
  exact k
def tw (c x y : Int) : Int := if c = 11 then (if x ≠ 0 ∨ y ≠ 0 then 1 else 0) else if c = 12 then (if x ≠ 0 ∧ y ≠ 0 then 1 else 0) else if c = 14 then (if x < y then 1 else 0) else if c = 15 then (if x = y then 1 else 0) else if c = 16 then wr (x + y) else if c = 17 then wr (x - y) else wr (x * y)
def twc (b x y : Int) : Int := if b = -1 then (if x ≠ 0 ∨ y ≠ 0 then 1 else 0) else if b = -2 then (if x ≠ 0 ∧ y ≠ 0 then 1 else 0) else if b = -4 then (if x < y then 1 else 0) else if b = -5 then (if x = y then 1 else 0) else if b = -6 then wr (x + y) else if b = -7 then wr (x - y) else wr (x * y)
theorem tw_in (c x y : Int) : -2147483648 ≤ tw c x y ∧ tw c x y < 2147483648 := by
  have h1 := wr_in (x + y)
  have h2 := wr_in (x - y)
  have h3 := wr_in (x * y)
  unfold tw
  (repeat' split) <;> omega
/-- a piece that joins two -/
abbrev tTwo (c : Int) : Prop := 11 ≤ c ∧ c ≤ 18 ∧ c ≠ 13
theorem twc_enc {c x y : Int} (h : tTwo c) : twc (tEnc c) x y = tw c x y := by
  rcases (show c = 11 ∨ c = 12 ∨ c = 14 ∨ c = 15 ∨ c = 16 ∨ c = 17 ∨ c = 18 by omega) with rfl | rfl | rfl | rfl | rfl | rfl | rfl <;> rfl
def evR (C nm : Int → Int) : Nat → Int → (Int → Int) → Int → Int → Int
  | 0, _, R, _ => R
  | j + 1, k, R, n => if C k < 11 ∨ 100000 ≤ C k then evR C nm j (k + 1) (up R n (if C k < 11 then nm (C k) else C k - 100000)) (n + 1) else if C k = 13 then evR C nm j (k + 1) (up R (n - 1) (if R (n - 1) = 0 then 1 else 0)) n else if C k = 19 then evR C nm j (k + 1) (up R (n - 1) (wr (-R (n - 1)))) n else evR C nm j (k + 1) (up R (n - 2) (tw (C k) (R (n - 2)) (R (n - 1)))) (n - 1)
theorem evR_a {C nm R : Int → Int} {j : Nat} {k n : Int} (h : C k < 11 ∨ 100000 ≤ C k) : evR C nm (j + 1) k R n = evR C nm j (k + 1) (up R n (if C k < 11 then nm (C k) else C k - 100000)) (n + 1) := by rw [evR, if_pos h]
theorem evR_b {C nm R : Int → Int} {j : Nat} {k n : Int} (h : C k = 13) : evR C nm (j + 1) k R n = evR C nm j (k + 1) (up R (n - 1) (if R (n - 1) = 0 then 1 else 0)) n := by rw [evR, if_neg (by omega), if_pos h]
theorem evR_c {C nm R : Int → Int} {j : Nat} {k n : Int} (h : C k = 19) : evR C nm (j + 1) k R n = evR C nm j (k + 1) (up R (n - 1) (wr (-R (n - 1)))) n := by rw [evR, if_neg (by omega), if_neg (by omega), if_pos h]
theorem evR_d {C nm R : Int → Int} {j : Nat} {k n : Int} (h : tTwo (C k)) : evR C nm (j + 1) k R n = evR C nm j (k + 1) (up R (n - 2) (tw (C k) (R (n - 2)) (R (n - 1)))) (n - 1) := by rw [evR, if_neg (by omega), if_neg (by omega), if_neg (by omega)]
theorem evR_congr {C C' nm nm' : Int → Int} {j : Nat} : ∀ {k n : Int} {R R' : Int → Int}, (∀ i, k ≤ i → i < k + j → C i = C' i) → (∀ i, k ≤ i → i < k + j → C i < 11 → nm (C i) = nm' (C i)) → 0 ≤ n → tDp C j k n 1 → (∀ i, 0 ≤ i → i < n → R i = R' i) → evR C nm j k R n 0 = evR C' nm' j k R' n 0 := by
  induction j with
  | zero =>
    intro k n R R' _ _ _ h g
    have e : n = 1 := h
    exact g 0 (Int.le_refl 0) (by omega)
  | succ j ih =>
    intro k n R R' hC hN hn h g
    have hk := hC k (Int.le_refl k) (by omega)
    have hC' : ∀ i, k + 1 ≤ i → i < k + 1 + j → C i = C' i := fun i i0 i1 => hC i (by omega) (by omega)
    have hN' : ∀ i, k + 1 ≤ i → i < k + 1 + j → C i < 11 → nm (C i) = nm' (C i) := fun i i0 i1 => hN i (by omega) (by omega)
    unfold tDp at h
    by_cases h1 : C k < 11 ∨ 100000 ≤ C k
    · rw [if_pos h1] at h
      rw [evR_a h1, evR_a (by rw [← hk]; exact h1), ← hk]
      refine ih hC' hN' (by omega) h fun i i0 i1 => ?_
      unfold up
      by_cases e : i = n
      · rw [if_pos e, if_pos e]
        split
        · rename_i g1; exact hN k (Int.le_refl k) (by omega) g1
        · rfl
      · rw [if_neg e, if_neg e]; exact g i i0 (by omega)
    · rw [if_neg h1] at h
      by_cases h2 : C k = 13 ∨ C k = 19
      · rw [if_pos h2] at h
        have g1 := g (n - 1) (by omega) (by omega)
        rcases h2 with h2 | h2
        · rw [evR_b h2, evR_b (by rw [← hk]; exact h2), g1]
          refine ih hC' hN' (by omega) h.2 fun i i0 i1 => ?_
          unfold up
          split
          · rfl
          · exact g i i0 (by omega)
        · rw [evR_c h2, evR_c (by rw [← hk]; exact h2), g1]
          refine ih hC' hN' (by omega) h.2 fun i i0 i1 => ?_
          unfold up
          split
          · rfl
          · exact g i i0 (by omega)
      · rw [if_neg h2] at h
        have g1 := g (n - 1) (by omega) (by omega)
        have g2 := g (n - 2) (by omega) (by omega)
        rw [evR, if_neg h1, if_neg (by omega), if_neg (by omega), evR, ← hk, if_neg h1, if_neg (by omega), if_neg (by omega), g1, g2]
        refine ih hC' hN' (by omega) h.2 fun i i0 i1 => ?_
        unfold up
        split
        · rfl
        · exact g i i0 (by omega)
/-- what so many pieces of C from k on tell -/
def evT (C nm : Int → Int) (j : Nat) (k : Int) : Int := evR C nm j k (fun _ => 0) 0 0
theorem evR_in {C nm : Int → Int} {j : Nat} : ∀ {k n : Int} {R : Int → Int}, (∀ i, k ≤ i → i < k + j → tVal (C i)) → (∀ q, in6 q → -2147483648 ≤ nm q ∧ nm q < 2147483648) → 0 ≤ n → tDp C j k n 1 → (∀ i, 0 ≤ i → i < n → -2147483648 ≤ R i ∧ R i < 2147483648) → -2147483648 ≤ evR C nm j k R n 0 ∧ evR C nm j k R n 0 < 2147483648 := by
  induction j with
  | zero =>
    intro k n R _ _ _ h g
    have e : n = 1 := h
    exact g 0 (Int.le_refl 0) (by omega)
  | succ j ih =>
    intro k n R hC hN hn h g
    have hk := hC k (Int.le_refl k) (by omega)
    have hC' : ∀ i, k + 1 ≤ i → i < k + 1 + j → tVal (C i) := fun i i0 i1 => hC i (by omega) (by omega)
    unfold tDp at h
    by_cases h1 : C k < 11 ∨ 100000 ≤ C k
    · rw [if_pos h1] at h
      rw [evR_a h1]
      refine ih hC' hN (by omega) h fun i i0 i1 => ?_
      unfold up
      split
      · split
        · exact hN _ ⟨by omega, by omega⟩
        · omega
      · exact g i i0 (by omega)
    · rw [if_neg h1] at h
      by_cases h2 : C k = 13 ∨ C k = 19
      · rw [if_pos h2] at h
        rcases h2 with h2 | h2
        · rw [evR_b h2]
          refine ih hC' hN (by omega) h.2 fun i i0 i1 => ?_
          unfold up
          split
          · split <;> omega
          · exact g i i0 (by omega)
        · rw [evR_c h2]
          refine ih hC' hN (by omega) h.2 fun i i0 i1 => ?_
          unfold up
          split
          · exact wr_in _
          · exact g i i0 (by omega)
      · rw [if_neg h2] at h
        rw [evR_d ⟨by omega, by omega, by omega⟩]
        refine ih hC' hN (by omega) h.2 fun i i0 i1 => ?_
        unfold up
        split
        · exact tw_in _ _ _
        · exact g i i0 (by omega)
theorem tEnc_is {c : Int} (h : tVal c) : (100000 ≤ c ∧ c ≤ 109999 ∧ tEnc c = c - 100000) ∨ (0 ≤ c ∧ c ≤ 5 ∧ tEnc c = 10000 + c) ∨ (c = 13 ∧ tEnc c = -3) ∨ (c = 19 ∧ tEnc c = -9) ∨ (tTwo c ∧ -8 ≤ tEnc c ∧ tEnc c ≤ -1 ∧ tEnc c ≠ -3) := by
  rcases h with h | h | h
  · exact Or.inl ⟨h.1, h.2, by unfold tEnc; rw [if_pos h.1]⟩
  · exact Or.inr (Or.inl ⟨h.1, h.2, by unfold tEnc; rw [if_neg (by omega), if_pos (by omega)]⟩)
  · rcases (show c = 11 ∨ c = 12 ∨ c = 13 ∨ c = 14 ∨ c = 15 ∨ c = 16 ∨ c = 17 ∨ c = 18 ∨ c = 19 by omega) with rfl | rfl | rfl | rfl | rfl | rfl | rfl | rfl | rfl <;> decide
theorem c_truth {S : XS} {M N : YM} {x : Int} (hx : -2147483648 ≤ x ∧ x < 2147483648) : rm S 0 48 [yi x] M N (fun r M' N' => ∃ v : Int, some (yi v) = r ∧ (v = if x = 0 then 0 else 1) ∧ M = M' ∧ N = N') := by
  refine ⟨xe_48, m_48, Nat.le_of_ble_eq_true rfl, ?_⟩
  refine r_run 1 (pc' := 1) (ls' := [some (yi x)]) (st' := [yi x]) (M' := M) (N' := N) rfl ?_
  refine r_if_eq (pc := 1) f_48_1 (by omega) (fun h1 => ?_) (fun h1 => ?_)
  · refine r_run 1 (pc' := 9) (ls' := [some (yi x)]) (st' := [yi 0]) (M' := M) (N' := N) rfl ?_
    refine r_iret m_48 rfl f_48_9 ?_
    exact ⟨_, rfl, by rw [if_pos (by omega)], rfl, rfl⟩
  · refine r_run 2 (pc' := 9) (ls' := [some (yi x)]) (st' := [yi 1]) (M' := M) (N' := N) rfl ?_
    refine r_iret m_48 rfl f_48_9 ?_
    exact ⟨_, rfl, by rw [if_neg (by omega)], rfl, rfl⟩
theorem c_joined {S : XS} {M N : YM} {b x y : Int} (hb : -8 ≤ b ∧ b ≤ -1 ∧ b ≠ -3) (hx : -2147483648 ≤ x ∧ x < 2147483648) (hy : -2147483648 ≤ y ∧ y < 2147483648) : rm S 1 47 [yi b, yi x, yi y] M N (fun r M' N' => ∃ v : Int, some (yi v) = r ∧ (v = twc b x y) ∧ M = M' ∧ N = N') := by
  refine ⟨xe_47, m_47, Nat.le_of_ble_eq_true rfl, ?_⟩
  refine r_run 1 (pc' := 1) (ls' := [some (yi b), some (yi x), some (yi y)]) (st' := [yi b]) (M' := M) (N' := N) rfl ?_
  rcases (show (b < -7 ∨ -1 < b) ∨ b = -7 ∨ b = -6 ∨ b = -5 ∨ b = -4 ∨ b = -3 ∨ b = -2 ∨ b = -1 by omega) with h1 | h1 | h1 | h1 | h1 | h1 | h1 | h1
  · refine r_sw_out (pc := 1) f_47_1 (by omega) h1 ?_
    refine r_run 3 (pc' := 117) (ls' := [some (yi b), some (yi x), some (yi y)]) (st' := [yi (x * y)]) (M' := M) (N' := N) rfl ?_
    refine r_top (wr_of _) ?_
    refine r_iret m_47 rfl f_47_117 ?_
    refine ⟨_, rfl, ?_, rfl, rfl⟩
    unfold twc
    rw [if_neg (by omega), if_neg (by omega), if_neg (by omega), if_neg (by omega), if_neg (by omega), if_neg (by omega)]
  · refine r_sw_in (pc := 1) 0 f_47_1 (by omega) (by omega) (by omega) rfl ?_
    refine r_run 3 (pc' := 113) (ls' := [some (yi b), some (yi x), some (yi y)]) (st' := [yi (x - y)]) (M' := M) (N' := N) rfl ?_
    refine r_top (wr_of _) ?_
    refine r_iret m_47 rfl f_47_113 ?_
    refine ⟨_, rfl, ?_, rfl, rfl⟩
    unfold twc
    rw [if_neg (by omega), if_neg (by omega), if_neg (by omega), if_neg (by omega), if_neg (by omega), if_pos (by omega)]
  · refine r_sw_in (pc := 1) 1 f_47_1 (by omega) (by omega) (by omega) rfl ?_
    refine r_run 3 (pc' := 109) (ls' := [some (yi b), some (yi x), some (yi y)]) (st' := [yi (x + y)]) (M' := M) (N' := N) rfl ?_
    refine r_top (wr_of _) ?_
    refine r_iret m_47 rfl f_47_109 ?_
    refine ⟨_, rfl, ?_, rfl, rfl⟩
    unfold twc
    rw [if_neg (by omega), if_neg (by omega), if_neg (by omega), if_neg (by omega), if_pos (by omega)]
  · refine r_sw_in (pc := 1) 2 f_47_1 (by omega) (by omega) (by omega) rfl ?_
    refine r_run 2 (pc' := 94) (ls' := [some (yi b), some (yi x), some (yi y)]) (st' := [yi y, yi x]) (M' := M) (N' := N) rfl ?_
    refine r_icmp_ne (pc := 94) f_47_94 (by omega) (by omega) (fun h94 => ?_) (fun h94 => ?_)
    · refine r_run 1 (pc' := 102) (ls' := [some (yi b), some (yi x), some (yi y)]) (st' := [yi 0]) (M' := M) (N' := N) rfl ?_
      refine r_static (mj := 48) (as := [yi 0]) (rest := []) f_47_102 (by decide) rfl m_48 rfl rfl rfl (Nat.le_of_ble_eq_true rfl) (by omega) (c_truth (by omega)) ?_
      rintro _ _ _ ⟨v102, rfl, hv102, rfl, rfl⟩
      refine r_iret m_47 rfl f_47_105 ?_
      refine ⟨_, rfl, ?_, rfl, rfl⟩
      unfold twc
      rw [if_neg (by omega), if_neg (by omega), if_neg (by omega), if_pos (by omega)]
      split <;> omega
    · refine r_run 2 (pc' := 102) (ls' := [some (yi b), some (yi x), some (yi y)]) (st' := [yi 1]) (M' := M) (N' := N) rfl ?_
      refine r_static (mj := 48) (as := [yi 1]) (rest := []) f_47_102 (by decide) rfl m_48 rfl rfl rfl (Nat.le_of_ble_eq_true rfl) (by omega) (c_truth (by omega)) ?_
      rintro _ _ _ ⟨v102, rfl, hv102, rfl, rfl⟩
      refine r_iret m_47 rfl f_47_105 ?_
      refine ⟨_, rfl, ?_, rfl, rfl⟩
      unfold twc
      rw [if_neg (by omega), if_neg (by omega), if_neg (by omega), if_pos (by omega)]
      split <;> omega
  · refine r_sw_in (pc := 1) 3 f_47_1 (by omega) (by omega) (by omega) rfl ?_
    refine r_run 2 (pc' := 80) (ls' := [some (yi b), some (yi x), some (yi y)]) (st' := [yi y, yi x]) (M' := M) (N' := N) rfl ?_
    refine r_icmp_ge (pc := 80) f_47_80 (by omega) (by omega) (fun h80 => ?_) (fun h80 => ?_)
    · refine r_run 1 (pc' := 88) (ls' := [some (yi b), some (yi x), some (yi y)]) (st' := [yi 0]) (M' := M) (N' := N) rfl ?_
      refine r_static (mj := 48) (as := [yi 0]) (rest := []) f_47_88 (by decide) rfl m_48 rfl rfl rfl (Nat.le_of_ble_eq_true rfl) (by omega) (c_truth (by omega)) ?_
      rintro _ _ _ ⟨v88, rfl, hv88, rfl, rfl⟩
      refine r_iret m_47 rfl f_47_91 ?_
      refine ⟨_, rfl, ?_, rfl, rfl⟩
      unfold twc
      rw [if_neg (by omega), if_neg (by omega), if_pos (by omega)]
      split <;> omega
    · refine r_run 2 (pc' := 88) (ls' := [some (yi b), some (yi x), some (yi y)]) (st' := [yi 1]) (M' := M) (N' := N) rfl ?_
      refine r_static (mj := 48) (as := [yi 1]) (rest := []) f_47_88 (by decide) rfl m_48 rfl rfl rfl (Nat.le_of_ble_eq_true rfl) (by omega) (c_truth (by omega)) ?_
      rintro _ _ _ ⟨v88, rfl, hv88, rfl, rfl⟩
      refine r_iret m_47 rfl f_47_91 ?_
      refine ⟨_, rfl, ?_, rfl, rfl⟩
      unfold twc
      rw [if_neg (by omega), if_neg (by omega), if_pos (by omega)]
      split <;> omega
  · exfalso; omega
  · refine r_sw_in (pc := 1) 5 f_47_1 (by omega) (by omega) (by omega) rfl ?_
    refine r_run 1 (pc' := 62) (ls' := [some (yi b), some (yi x), some (yi y)]) (st' := [yi x]) (M' := M) (N' := N) rfl ?_
    refine r_if_eq (pc := 62) f_47_62 (by omega) (fun h62 => ?_) (fun h62 => ?_)
    · refine r_run 1 (pc' := 74) (ls' := [some (yi b), some (yi x), some (yi y)]) (st' := [yi 0]) (M' := M) (N' := N) rfl ?_
      refine r_static (mj := 48) (as := [yi 0]) (rest := []) f_47_74 (by decide) rfl m_48 rfl rfl rfl (Nat.le_of_ble_eq_true rfl) (by omega) (c_truth (by omega)) ?_
      rintro _ _ _ ⟨v74, rfl, hv74, rfl, rfl⟩
      refine r_iret m_47 rfl f_47_77 ?_
      refine ⟨_, rfl, ?_, rfl, rfl⟩
      unfold twc
      rw [if_neg (by omega), if_pos (by omega)]
      split <;> omega
    · refine r_run 1 (pc' := 66) (ls' := [some (yi b), some (yi x), some (yi y)]) (st' := [yi y]) (M' := M) (N' := N) rfl ?_
      refine r_if_eq (pc := 66) f_47_66 (by omega) (fun h66 => ?_) (fun h66 => ?_)
      · refine r_run 1 (pc' := 74) (ls' := [some (yi b), some (yi x), some (yi y)]) (st' := [yi 0]) (M' := M) (N' := N) rfl ?_
        refine r_static (mj := 48) (as := [yi 0]) (rest := []) f_47_74 (by decide) rfl m_48 rfl rfl rfl (Nat.le_of_ble_eq_true rfl) (by omega) (c_truth (by omega)) ?_
        rintro _ _ _ ⟨v74, rfl, hv74, rfl, rfl⟩
        refine r_iret m_47 rfl f_47_77 ?_
        refine ⟨_, rfl, ?_, rfl, rfl⟩
        unfold twc
        rw [if_neg (by omega), if_pos (by omega)]
        split <;> omega
      · refine r_run 2 (pc' := 74) (ls' := [some (yi b), some (yi x), some (yi y)]) (st' := [yi 1]) (M' := M) (N' := N) rfl ?_
        refine r_static (mj := 48) (as := [yi 1]) (rest := []) f_47_74 (by decide) rfl m_48 rfl rfl rfl (Nat.le_of_ble_eq_true rfl) (by omega) (c_truth (by omega)) ?_
        rintro _ _ _ ⟨v74, rfl, hv74, rfl, rfl⟩
        refine r_iret m_47 rfl f_47_77 ?_
        refine ⟨_, rfl, ?_, rfl, rfl⟩
        unfold twc
        rw [if_neg (by omega), if_pos (by omega)]
        split <;> omega
  · refine r_sw_in (pc := 1) 6 f_47_1 (by omega) (by omega) (by omega) rfl ?_
    refine r_run 1 (pc' := 45) (ls' := [some (yi b), some (yi x), some (yi y)]) (st' := [yi x]) (M' := M) (N' := N) rfl ?_
    refine r_if_ne (pc := 45) f_47_45 (by omega) (fun h45 => ?_) (fun h45 => ?_)
    · refine r_run 2 (pc' := 57) (ls' := [some (yi b), some (yi x), some (yi y)]) (st' := [yi 1]) (M' := M) (N' := N) rfl ?_
      refine r_static (mj := 48) (as := [yi 1]) (rest := []) f_47_57 (by decide) rfl m_48 rfl rfl rfl (Nat.le_of_ble_eq_true rfl) (by omega) (c_truth (by omega)) ?_
      rintro _ _ _ ⟨v57, rfl, hv57, rfl, rfl⟩
      refine r_iret m_47 rfl f_47_60 ?_
      refine ⟨_, rfl, ?_, rfl, rfl⟩
      unfold twc
      rw [if_pos (by omega)]
      split <;> omega
    · refine r_run 1 (pc' := 49) (ls' := [some (yi b), some (yi x), some (yi y)]) (st' := [yi y]) (M' := M) (N' := N) rfl ?_
      refine r_if_eq (pc := 49) f_47_49 (by omega) (fun h49 => ?_) (fun h49 => ?_)
      · refine r_run 1 (pc' := 57) (ls' := [some (yi b), some (yi x), some (yi y)]) (st' := [yi 0]) (M' := M) (N' := N) rfl ?_
        refine r_static (mj := 48) (as := [yi 0]) (rest := []) f_47_57 (by decide) rfl m_48 rfl rfl rfl (Nat.le_of_ble_eq_true rfl) (by omega) (c_truth (by omega)) ?_
        rintro _ _ _ ⟨v57, rfl, hv57, rfl, rfl⟩
        refine r_iret m_47 rfl f_47_60 ?_
        refine ⟨_, rfl, ?_, rfl, rfl⟩
        unfold twc
        rw [if_pos (by omega)]
        split <;> omega
      · refine r_run 2 (pc' := 57) (ls' := [some (yi b), some (yi x), some (yi y)]) (st' := [yi 1]) (M' := M) (N' := N) rfl ?_
        refine r_static (mj := 48) (as := [yi 1]) (rest := []) f_47_57 (by decide) rfl m_48 rfl rfl rfl (Nat.le_of_ble_eq_true rfl) (by omega) (c_truth (by omega)) ?_
        rintro _ _ _ ⟨v57, rfl, hv57, rfl, rfl⟩
        refine r_iret m_47 rfl f_47_60 ?_
        refine ⟨_, rfl, ?_, rfl, rfl⟩
        unfold twc
        rw [if_pos (by omega)]
        split <;> omega
theorem m_two {S : XS} {M N : YM} {c x y : Int} (hc : tTwo c) (hx : -2147483648 ≤ x ∧ x < 2147483648) (hy : -2147483648 ≤ y ∧ y < 2147483648) : rm S 1 133 [yi c, yi x, yi y] M N (fun r M' N' => ∃ v : Int, some (yi v) = r ∧ (v = tw c x y) ∧ M = M' ∧ N = N') := by
  refine ⟨xe_133, m_133, Nat.le_of_ble_eq_true rfl, ?_⟩
  refine r_run 1 (pc' := 1) (ls' := [some (yi c), some (yi x), some (yi y)]) (st' := [yi c]) (M' := M) (N' := N) rfl ?_
  rcases (show (c < 11 ∨ 17 < c) ∨ c = 11 ∨ c = 12 ∨ c = 13 ∨ c = 14 ∨ c = 15 ∨ c = 16 ∨ c = 17 by omega) with h1 | h1 | h1 | h1 | h1 | h1 | h1 | h1
  · refine r_sw_out (pc := 1) f_133_1 (by omega) h1 ?_
    refine r_run 3 (pc' := 105) (ls' := [some (yi c), some (yi x), some (yi y)]) (st' := [yi (x * y)]) (M' := M) (N' := N) rfl ?_
    refine r_top (wr_of _) ?_
    refine r_iret m_133 rfl f_133_105 ?_
    refine ⟨_, rfl, ?_, rfl, rfl⟩
    unfold tw
    rw [if_neg (by omega), if_neg (by omega), if_neg (by omega), if_neg (by omega), if_neg (by omega), if_neg (by omega)]
  · refine r_sw_in (pc := 1) 0 f_133_1 (by omega) (by omega) (by omega) rfl ?_
    refine r_run 1 (pc' := 45) (ls' := [some (yi c), some (yi x), some (yi y)]) (st' := [yi x]) (M' := M) (N' := N) rfl ?_
    refine r_if_ne (pc := 45) f_133_45 (by omega) (fun h45 => ?_) (fun h45 => ?_)
    · refine r_run 2 (pc' := 57) (ls' := [some (yi c), some (yi x), some (yi y)]) (st' := [yi 1]) (M' := M) (N' := N) rfl ?_
      refine r_iret m_133 rfl f_133_57 ?_
      refine ⟨_, rfl, ?_, rfl, rfl⟩
      unfold tw
      rw [if_pos (by omega)]
      first | (rw [if_pos (by omega)]; done) | (rw [if_neg (by omega)]; done)
    · refine r_run 1 (pc' := 49) (ls' := [some (yi c), some (yi x), some (yi y)]) (st' := [yi y]) (M' := M) (N' := N) rfl ?_
      refine r_if_eq (pc := 49) f_133_49 (by omega) (fun h49 => ?_) (fun h49 => ?_)
      · refine r_run 1 (pc' := 57) (ls' := [some (yi c), some (yi x), some (yi y)]) (st' := [yi 0]) (M' := M) (N' := N) rfl ?_
        refine r_iret m_133 rfl f_133_57 ?_
        refine ⟨_, rfl, ?_, rfl, rfl⟩
        unfold tw
        rw [if_pos (by omega)]
        first | (rw [if_pos (by omega)]; done) | (rw [if_neg (by omega)]; done)
      · refine r_run 2 (pc' := 57) (ls' := [some (yi c), some (yi x), some (yi y)]) (st' := [yi 1]) (M' := M) (N' := N) rfl ?_
        refine r_iret m_133 rfl f_133_57 ?_
        refine ⟨_, rfl, ?_, rfl, rfl⟩
        unfold tw
        rw [if_pos (by omega)]
        first | (rw [if_pos (by omega)]; done) | (rw [if_neg (by omega)]; done)
  · refine r_sw_in (pc := 1) 1 f_133_1 (by omega) (by omega) (by omega) rfl ?_
    refine r_run 1 (pc' := 59) (ls' := [some (yi c), some (yi x), some (yi y)]) (st' := [yi x]) (M' := M) (N' := N) rfl ?_
    refine r_if_eq (pc := 59) f_133_59 (by omega) (fun h59 => ?_) (fun h59 => ?_)
    · refine r_run 1 (pc' := 71) (ls' := [some (yi c), some (yi x), some (yi y)]) (st' := [yi 0]) (M' := M) (N' := N) rfl ?_
      refine r_iret m_133 rfl f_133_71 ?_
      refine ⟨_, rfl, ?_, rfl, rfl⟩
      unfold tw
      rw [if_neg (by omega), if_pos (by omega)]
      first | (rw [if_pos (by omega)]; done) | (rw [if_neg (by omega)]; done)
    · refine r_run 1 (pc' := 63) (ls' := [some (yi c), some (yi x), some (yi y)]) (st' := [yi y]) (M' := M) (N' := N) rfl ?_
      refine r_if_eq (pc := 63) f_133_63 (by omega) (fun h63 => ?_) (fun h63 => ?_)
      · refine r_run 1 (pc' := 71) (ls' := [some (yi c), some (yi x), some (yi y)]) (st' := [yi 0]) (M' := M) (N' := N) rfl ?_
        refine r_iret m_133 rfl f_133_71 ?_
        refine ⟨_, rfl, ?_, rfl, rfl⟩
        unfold tw
        rw [if_neg (by omega), if_pos (by omega)]
        first | (rw [if_pos (by omega)]; done) | (rw [if_neg (by omega)]; done)
      · refine r_run 2 (pc' := 71) (ls' := [some (yi c), some (yi x), some (yi y)]) (st' := [yi 1]) (M' := M) (N' := N) rfl ?_
        refine r_iret m_133 rfl f_133_71 ?_
        refine ⟨_, rfl, ?_, rfl, rfl⟩
        unfold tw
        rw [if_neg (by omega), if_pos (by omega)]
        first | (rw [if_pos (by omega)]; done) | (rw [if_neg (by omega)]; done)
  · exfalso; omega
  · refine r_sw_in (pc := 1) 3 f_133_1 (by omega) (by omega) (by omega) rfl ?_
    refine r_run 2 (pc' := 74) (ls' := [some (yi c), some (yi x), some (yi y)]) (st' := [yi y, yi x]) (M' := M) (N' := N) rfl ?_
    refine r_icmp_ge (pc := 74) f_133_74 (by omega) (by omega) (fun h74 => ?_) (fun h74 => ?_)
    · refine r_run 1 (pc' := 82) (ls' := [some (yi c), some (yi x), some (yi y)]) (st' := [yi 0]) (M' := M) (N' := N) rfl ?_
      refine r_iret m_133 rfl f_133_82 ?_
      refine ⟨_, rfl, ?_, rfl, rfl⟩
      unfold tw
      rw [if_neg (by omega), if_neg (by omega), if_pos (by omega)]
      first | (rw [if_pos (by omega)]; done) | (rw [if_neg (by omega)]; done)
    · refine r_run 2 (pc' := 82) (ls' := [some (yi c), some (yi x), some (yi y)]) (st' := [yi 1]) (M' := M) (N' := N) rfl ?_
      refine r_iret m_133 rfl f_133_82 ?_
      refine ⟨_, rfl, ?_, rfl, rfl⟩
      unfold tw
      rw [if_neg (by omega), if_neg (by omega), if_pos (by omega)]
      first | (rw [if_pos (by omega)]; done) | (rw [if_neg (by omega)]; done)
  · refine r_sw_in (pc := 1) 4 f_133_1 (by omega) (by omega) (by omega) rfl ?_
    refine r_run 2 (pc' := 85) (ls' := [some (yi c), some (yi x), some (yi y)]) (st' := [yi y, yi x]) (M' := M) (N' := N) rfl ?_
    refine r_icmp_ne (pc := 85) f_133_85 (by omega) (by omega) (fun h85 => ?_) (fun h85 => ?_)
    · refine r_run 1 (pc' := 93) (ls' := [some (yi c), some (yi x), some (yi y)]) (st' := [yi 0]) (M' := M) (N' := N) rfl ?_
      refine r_iret m_133 rfl f_133_93 ?_
      refine ⟨_, rfl, ?_, rfl, rfl⟩
      unfold tw
      rw [if_neg (by omega), if_neg (by omega), if_neg (by omega), if_pos (by omega)]
      first | (rw [if_pos (by omega)]; done) | (rw [if_neg (by omega)]; done)
    · refine r_run 2 (pc' := 93) (ls' := [some (yi c), some (yi x), some (yi y)]) (st' := [yi 1]) (M' := M) (N' := N) rfl ?_
      refine r_iret m_133 rfl f_133_93 ?_
      refine ⟨_, rfl, ?_, rfl, rfl⟩
      unfold tw
      rw [if_neg (by omega), if_neg (by omega), if_neg (by omega), if_pos (by omega)]
      first | (rw [if_pos (by omega)]; done) | (rw [if_neg (by omega)]; done)
  · refine r_sw_in (pc := 1) 5 f_133_1 (by omega) (by omega) (by omega) rfl ?_
    refine r_run 3 (pc' := 97) (ls' := [some (yi c), some (yi x), some (yi y)]) (st' := [yi (x + y)]) (M' := M) (N' := N) rfl ?_
    refine r_top (wr_of _) ?_
    refine r_iret m_133 rfl f_133_97 ?_
    refine ⟨_, rfl, ?_, rfl, rfl⟩
    unfold tw
    rw [if_neg (by omega), if_neg (by omega), if_neg (by omega), if_neg (by omega), if_pos (by omega)]
  · refine r_sw_in (pc := 1) 6 f_133_1 (by omega) (by omega) (by omega) rfl ?_
    refine r_run 3 (pc' := 101) (ls' := [some (yi c), some (yi x), some (yi y)]) (st' := [yi (x - y)]) (M' := M) (N' := N) rfl ?_
    refine r_top (wr_of _) ?_
    refine r_iret m_133 rfl f_133_101 ?_
    refine ⟨_, rfl, ?_, rfl, rfl⟩
    unfold tw
    rw [if_neg (by omega), if_neg (by omega), if_neg (by omega), if_neg (by omega), if_neg (by omega), if_pos (by omega)]
theorem c_tellR_l {S : XS} {d : Nat} {t p e : Int} {A E C nm : Int → Int} {N : YM} (hd : 3 ≤ d) (ht : 0 ≤ t ∧ t < 6) (hp : 0 ≤ p ∧ p < 3) (hEp : E p = e) (he : e ≤ 160) (hAC : ∀ k, 0 ≤ k → k < e → A k = tEnc (C k) ∧ tVal (C k)) (hN : ∀ q, in6 q → -2147483648 ≤ nm q ∧ nm q < 2147483648) {j : Nat} : ∀ {i n : Int} {M : YM} {l6 : Option YV}, 0 ≤ i → i + j = e → 0 ≤ n → n ≤ i → tDp C j i n 1 → M (50 + 3 * t) = A → M (51 + 3 * t) = E → M (39) = nm → (∀ x, 0 ≤ x → x < n → -2147483648 ≤ M 40 x ∧ M 40 x < 2147483648) → ry S d 46 21 [some (yr (49 + 3 * t)), some (yi p), some (yr 39), some (yr 40), some (yi n), some (yi i), l6] [] M N (fun r M' N' => some (yi (evR C nm j i (M 40) n 0)) = r ∧ (∀ c, c ≠ 40 → M' c = M c) ∧ N = N') := by
  induction j with
  | zero =>
    intro i n M l6 h0 h1 hn hni hD hA hE hV hR
    have hE2 : M (51 + 3 * t) p = e := by rw [hE]; exact hEp
    have hD0 : n = 1 := hD
    have r1 := hR 0 (by omega) (by omega)
    refine r_run 2 (pc' := 24) (ls' := [some (yr (49 + 3 * t)), some (yi p), some (yr 39), some (yr 40), some (yi n), some (yi i), l6]) (st' := [yr (49 + 3 * t), yi i]) (M' := M) (N' := N) rfl ?_
    refine r_getr (r := 51 + 3 * t) (n := 4) f_46_24 (by decide) (show xFT[28]? = some (5, 2) from rfl) (by decide) (by omega) (yk_text (by omega)) (rf_tends (by omega)) ?_
    refine r_run 1 (pc' := 28) (ls' := [some (yr (49 + 3 * t)), some (yi p), some (yr 39), some (yr 40), some (yi n), some (yi i), l6]) (st' := [yi p, yr (51 + 3 * t), yi i]) (M' := M) (N' := N) rfl ?_
    refine r_iald (n := 3) f_46_28 (by omega) (yk_tends (by omega)) (by decide) (by omega) ?_
    refine r_icmp_ge (pc := 29) f_46_29 (by omega) (by omega) (fun h29 => ?_) (fun h29 => ?_)
    · refine r_run 2 (pc' := 192) (ls' := [some (yr (49 + 3 * t)), some (yi p), some (yr 39), some (yr 40), some (yi n), some (yi i), l6]) (st' := [yi 1, yi n]) (M' := M) (N' := N) rfl ?_
      refine r_icmp_ne (pc := 192) f_46_192 (by omega) (by omega) (fun h192 => ?_) (fun h192 => ?_)
      · exfalso; omega
      · refine r_run 2 (pc' := 197) (ls' := [some (yr (49 + 3 * t)), some (yi p), some (yr 39), some (yr 40), some (yi n), some (yi i), l6]) (st' := [yi 0, yr 40]) (M' := M) (N' := N) rfl ?_
        refine r_iald (n := 160) f_46_197 (by decide) (by decide) (by decide) (by omega) ?_
        refine r_run 1 (pc' := 202) (ls' := [some (yr (49 + 3 * t)), some (yi p), some (yr 39), some (yr 40), some (yi n), some (yi i), l6]) (st' := [yi (M 40 0)]) (M' := M) (N' := N) rfl ?_
        refine r_iret m_46 rfl f_46_202 ?_
        exact ⟨rfl, fun c hc => rfl, rfl⟩
    · exfalso; omega
  | succ j ih =>
    intro i n M l6 h0 h1 hn hni hD hA hE hV hR
    have hE2 : M (51 + 3 * t) p = e := by rw [hE]; exact hEp
    obtain ⟨hAi, hCi⟩ := hAC i h0 (by omega)
    have hAe : M (50 + 3 * t) i = tEnc (C i) := by rw [hA]; exact hAi
    have hT0 : (100000 ≤ C i ∧ C i ≤ 109999 ∧ tEnc (C i) = C i - 100000) ∨ (0 ≤ C i ∧ C i ≤ 5 ∧ tEnc (C i) = 10000 + C i) ∨ (C i = 13 ∧ tEnc (C i) = -3) ∨ (C i = 19 ∧ tEnc (C i) = -9) ∨ (tTwo (C i) ∧ -8 ≤ tEnc (C i) ∧ tEnc (C i) ≤ -1 ∧ tEnc (C i) ≠ -3) := tEnc_is hCi
    refine r_run 2 (pc' := 24) (ls' := [some (yr (49 + 3 * t)), some (yi p), some (yr 39), some (yr 40), some (yi n), some (yi i), l6]) (st' := [yr (49 + 3 * t), yi i]) (M' := M) (N' := N) rfl ?_
    refine r_getr (r := 51 + 3 * t) (n := 4) f_46_24 (by decide) (show xFT[28]? = some (5, 2) from rfl) (by decide) (by omega) (yk_text (by omega)) (rf_tends (by omega)) ?_
    refine r_run 1 (pc' := 28) (ls' := [some (yr (49 + 3 * t)), some (yi p), some (yr 39), some (yr 40), some (yi n), some (yi i), l6]) (st' := [yi p, yr (51 + 3 * t), yi i]) (M' := M) (N' := N) rfl ?_
    refine r_iald (n := 3) f_46_28 (by omega) (yk_tends (by omega)) (by decide) (by omega) ?_
    refine r_icmp_ge (pc := 29) f_46_29 (by omega) (by omega) (fun h29 => ?_) (fun h29 => ?_)
    · exfalso; omega
    · refine r_run 1 (pc' := 33) (ls' := [some (yr (49 + 3 * t)), some (yi p), some (yr 39), some (yr 40), some (yi n), some (yi i), l6]) (st' := [yr (49 + 3 * t)]) (M' := M) (N' := N) rfl ?_
      refine r_getr (r := 50 + 3 * t) (n := 4) f_46_33 (by decide) (show xFT[26]? = some (5, 0) from rfl) (by decide) (by omega) (yk_text (by omega)) (rf_tcode (by omega)) ?_
      refine r_run 1 (pc' := 38) (ls' := [some (yr (49 + 3 * t)), some (yi p), some (yr 39), some (yr 40), some (yi n), some (yi i), l6]) (st' := [yi i, yr (50 + 3 * t)]) (M' := M) (N' := N) rfl ?_
      refine r_iald (n := 160) f_46_38 (by omega) (yk_tcode (by omega)) (by decide) (by omega) ?_
      refine r_run 2 (pc' := 43) (ls' := [some (yr (49 + 3 * t)), some (yi p), some (yr 39), some (yr 40), some (yi n), some (yi i), some (yi (M (50 + 3 * t) i))]) (st' := [yi (M (50 + 3 * t) i)]) (M' := M) (N' := N) rfl ?_
      refine r_if_lt (pc := 43) f_46_43 (by omega) (fun h43 => ?_) (fun h43 => ?_)
      · refine r_run 2 (pc' := 90) (ls' := [some (yr (49 + 3 * t)), some (yi p), some (yr 39), some (yr 40), some (yi n), some (yi i), some (yi (M (50 + 3 * t) i))]) (st' := [yi (-3), yi (M (50 + 3 * t) i)]) (M' := M) (N' := N) rfl ?_
        refine r_icmp_eq (pc := 90) f_46_90 (by omega) (by omega) (fun h90 => ?_) (fun h90 => ?_)
        · have hc13 : C i = 13 ∨ C i = 19 := by omega
          unfold tDp at hD
          rw [if_neg (by omega), if_pos hc13] at hD
          have r1 := hR (n - 1) (by omega) (by omega)
          refine r_run 2 (pc' := 103) (ls' := [some (yr (49 + 3 * t)), some (yi p), some (yr 39), some (yr 40), some (yi n), some (yi i), some (yi (M (50 + 3 * t) i))]) (st' := [yi 1, yi n]) (M' := M) (N' := N) rfl ?_
          refine r_icmp_ge (pc := 103) f_46_103 (by omega) (by omega) (fun h103 => ?_) (fun h103 => ?_)
          · refine r_run 6 (pc' := 117) (ls' := [some (yr (49 + 3 * t)), some (yi p), some (yr 39), some (yr 40), some (yi n), some (yi i), some (yi (M (50 + 3 * t) i))]) (st' := [yi (-9), yi (M (50 + 3 * t) i), yi (n - 1), yr 40]) (M' := M) (N' := N) rfl ?_
            refine r_icmp_ne (pc := 117) f_46_117 (by omega) (by omega) (fun h117 => ?_) (fun h117 => ?_)
            · refine r_run 4 (pc' := 135) (ls' := [some (yr (49 + 3 * t)), some (yi p), some (yr 39), some (yr 40), some (yi n), some (yi i), some (yi (M (50 + 3 * t) i))]) (st' := [yi (n - 1), yr 40, yi (n - 1), yr 40]) (M' := M) (N' := N) rfl ?_
              refine r_iald (n := 160) f_46_135 (by decide) (by decide) (by decide) (by omega) ?_
              refine r_if_ne (pc := 136) f_46_136 (by omega) (fun h136 => ?_) (fun h136 => ?_)
              · refine r_run 1 (pc' := 144) (ls' := [some (yr (49 + 3 * t)), some (yi p), some (yr 39), some (yr 40), some (yi n), some (yi i), some (yi (M (50 + 3 * t) i))]) (st' := [yi 0, yi (n - 1), yr 40]) (M' := M) (N' := N) rfl ?_
                refine r_static (mj := 48) (as := [yi 0]) (rest := [yi (n - 1), yr 40]) f_46_144 (by decide) rfl m_48 rfl rfl rfl (Nat.le_of_ble_eq_true rfl) (by omega) (c_truth (by omega)) ?_
                rintro _ _ _ ⟨v144, rfl, hv144, rfl, rfl⟩
                refine r_iast (n := 160) f_46_147 (by decide) (by decide) (by decide) (by omega) ?_
                refine r_run 3 (pc' := 21) (ls' := [some (yr (49 + 3 * t)), some (yi p), some (yr 39), some (yr 40), some (yi n), some (yi (i + 1)), some (yi (M (50 + 3 * t) i))]) (st' := []) (M' := (yu M 40 (n - 1) v144)) (N' := N) rfl ?_
                have hc1 : C i = 13 := by omega
                have ev : v144 = (if M 40 (n - 1) = 0 then 1 else 0) := by
                  split <;> omega
                rw [evR_b hc1, yu_row, ev]
                refine r_post (ih (by omega) (by omega) (by omega) (by omega) hD.2 (by rw [yrow_ne (by omega)]; exact hA) (by rw [yrow_ne (by omega)]; exact hE) (by rw [yrow_ne (by omega)]; exact hV) ?_) ?_
                · rw [yrow_at]
                  intro x x0 x1
                  unfold up
                  split
                  · (repeat' split) <;> omega
                  · exact hR x x0 (by omega)
                rintro _ M' _ ⟨rfl, hfr, rfl⟩
                rw [yrow_at]
                exact ⟨rfl, fun c hc => by rw [hfr c hc, yrow_ne hc], rfl⟩
              · refine r_run 2 (pc' := 144) (ls' := [some (yr (49 + 3 * t)), some (yi p), some (yr 39), some (yr 40), some (yi n), some (yi i), some (yi (M (50 + 3 * t) i))]) (st' := [yi 1, yi (n - 1), yr 40]) (M' := M) (N' := N) rfl ?_
                refine r_static (mj := 48) (as := [yi 1]) (rest := [yi (n - 1), yr 40]) f_46_144 (by decide) rfl m_48 rfl rfl rfl (Nat.le_of_ble_eq_true rfl) (by omega) (c_truth (by omega)) ?_
                rintro _ _ _ ⟨v144, rfl, hv144, rfl, rfl⟩
                refine r_iast (n := 160) f_46_147 (by decide) (by decide) (by decide) (by omega) ?_
                refine r_run 3 (pc' := 21) (ls' := [some (yr (49 + 3 * t)), some (yi p), some (yr 39), some (yr 40), some (yi n), some (yi (i + 1)), some (yi (M (50 + 3 * t) i))]) (st' := []) (M' := (yu M 40 (n - 1) v144)) (N' := N) rfl ?_
                have hc1 : C i = 13 := by omega
                have ev : v144 = (if M 40 (n - 1) = 0 then 1 else 0) := by
                  split <;> omega
                rw [evR_b hc1, yu_row, ev]
                refine r_post (ih (by omega) (by omega) (by omega) (by omega) hD.2 (by rw [yrow_ne (by omega)]; exact hA) (by rw [yrow_ne (by omega)]; exact hE) (by rw [yrow_ne (by omega)]; exact hV) ?_) ?_
                · rw [yrow_at]
                  intro x x0 x1
                  unfold up
                  split
                  · (repeat' split) <;> omega
                  · exact hR x x0 (by omega)
                rintro _ M' _ ⟨rfl, hfr, rfl⟩
                rw [yrow_at]
                exact ⟨rfl, fun c hc => by rw [hfr c hc, yrow_ne hc], rfl⟩
            · refine r_run 4 (pc' := 125) (ls' := [some (yr (49 + 3 * t)), some (yi p), some (yr 39), some (yr 40), some (yi n), some (yi i), some (yi (M (50 + 3 * t) i))]) (st' := [yi (n - 1), yr 40, yi (n - 1), yr 40]) (M' := M) (N' := N) rfl ?_
              refine r_iald (n := 160) f_46_125 (by decide) (by decide) (by decide) (by omega) ?_
              refine r_run 1 (pc' := 127) (ls' := [some (yr (49 + 3 * t)), some (yi p), some (yr 39), some (yr 40), some (yi n), some (yi i), some (yi (M (50 + 3 * t) i))]) (st' := [yi (-(M 40 (n - 1))), yi (n - 1), yr 40]) (M' := M) (N' := N) rfl ?_
              refine r_top (wr_of _) ?_
              refine r_run 1 (pc' := 147) (ls' := [some (yr (49 + 3 * t)), some (yi p), some (yr 39), some (yr 40), some (yi n), some (yi i), some (yi (M (50 + 3 * t) i))]) (st' := [yi (wr (-(M 40 (n - 1)))), yi (n - 1), yr 40]) (M' := M) (N' := N) rfl ?_
              refine r_iast (n := 160) f_46_147 (by decide) (by decide) (by decide) (by omega) ?_
              refine r_run 3 (pc' := 21) (ls' := [some (yr (49 + 3 * t)), some (yi p), some (yr 39), some (yr 40), some (yi n), some (yi (i + 1)), some (yi (M (50 + 3 * t) i))]) (st' := []) (M' := (yu M 40 (n - 1) (wr (-(M 40 (n - 1)))))) (N' := N) rfl ?_
              exfalso; omega
          · exfalso; omega
        · refine r_run 2 (pc' := 97) (ls' := [some (yr (49 + 3 * t)), some (yi p), some (yr 39), some (yr 40), some (yi n), some (yi i), some (yi (M (50 + 3 * t) i))]) (st' := [yi (-9), yi (M (50 + 3 * t) i)]) (M' := M) (N' := N) rfl ?_
          refine r_icmp_ne (pc := 97) f_46_97 (by omega) (by omega) (fun h97 => ?_) (fun h97 => ?_)
          · have hn13 : ¬ (C i = 13 ∨ C i = 19) := by omega
            unfold tDp at hD
            rw [if_neg (by omega), if_neg hn13] at hD
            have r1 := hR (n + -1) (by omega) (by omega)
            have r2 := hR (n + -1 - 1) (by omega) (by omega)
            refine r_run 2 (pc' := 154) (ls' := [some (yr (49 + 3 * t)), some (yi p), some (yr 39), some (yr 40), some (yi n), some (yi i), some (yi (M (50 + 3 * t) i))]) (st' := [yi 2, yi n]) (M' := M) (N' := N) rfl ?_
            refine r_icmp_ge (pc := 154) f_46_154 (by omega) (by omega) (fun h154 => ?_) (fun h154 => ?_)
            · refine r_run 10 (pc' := 174) (ls' := [some (yr (49 + 3 * t)), some (yi p), some (yr 39), some (yr 40), some (yi (n + (-1))), some (yi i), some (yi (M (50 + 3 * t) i))]) (st' := [yi ((n + (-1)) - 1), yr 40, yi (M (50 + 3 * t) i), yi ((n + (-1)) - 1), yr 40]) (M' := M) (N' := N) rfl ?_
              refine r_iald (n := 160) f_46_174 (by decide) (by decide) (by decide) (by omega) ?_
              refine r_run 2 (pc' := 178) (ls' := [some (yr (49 + 3 * t)), some (yi p), some (yr 39), some (yr 40), some (yi (n + (-1))), some (yi i), some (yi (M (50 + 3 * t) i))]) (st' := [yi (n + (-1)), yr 40, yi (M 40 ((n + (-1)) - 1)), yi (M (50 + 3 * t) i), yi ((n + (-1)) - 1), yr 40]) (M' := M) (N' := N) rfl ?_
              refine r_iald (n := 160) f_46_178 (by decide) (by decide) (by decide) (by omega) ?_
              refine r_static (mj := 47) (as := [yi (M (50 + 3 * t) i), yi (M 40 ((n + (-1)) - 1)), yi (M 40 (n + (-1)))]) (rest := [yi ((n + (-1)) - 1), yr 40]) f_46_179 (by decide) rfl m_47 rfl rfl rfl (Nat.le_of_ble_eq_true rfl) (by omega) (c_joined (by omega) (by omega) (by omega)) ?_
              rintro _ _ _ ⟨v179, rfl, hv179, rfl, rfl⟩
              refine r_iast (n := 160) f_46_182 (by decide) (by decide) (by decide) (by omega) ?_
              refine r_run 2 (pc' := 21) (ls' := [some (yr (49 + 3 * t)), some (yi p), some (yr 39), some (yr 40), some (yi (n + (-1))), some (yi (i + 1)), some (yi (M (50 + 3 * t) i))]) (st' := []) (M' := (yu M 40 ((n + (-1)) - 1) v179)) (N' := N) rfl ?_
              have hc1 : tTwo (C i) := ⟨by omega, by omega, by omega⟩
              rw [hA, hAi, twc_enc hc1] at hv179
              rw [evR_d hc1, yu_row, hv179, show n + -1 - 1 = n - 2 by omega, show n + -1 = n - 1 by omega]
              refine r_post (ih (by omega) (by omega) (by omega) (by omega) hD.2 (by rw [yrow_ne (by omega)]; exact hA) (by rw [yrow_ne (by omega)]; exact hE) (by rw [yrow_ne (by omega)]; exact hV) ?_) ?_
              · rw [yrow_at]
                intro x x0 x1
                unfold up
                split
                · exact tw_in _ _ _
                · exact hR x x0 (by omega)
              rintro _ M' _ ⟨rfl, hfr, rfl⟩
              rw [yrow_at]
              exact ⟨rfl, fun c hc => by rw [hfr c hc, yrow_ne hc], rfl⟩
            · exfalso; omega
          · have hc13 : C i = 13 ∨ C i = 19 := by omega
            unfold tDp at hD
            rw [if_neg (by omega), if_pos hc13] at hD
            have r1 := hR (n - 1) (by omega) (by omega)
            refine r_run 2 (pc' := 103) (ls' := [some (yr (49 + 3 * t)), some (yi p), some (yr 39), some (yr 40), some (yi n), some (yi i), some (yi (M (50 + 3 * t) i))]) (st' := [yi 1, yi n]) (M' := M) (N' := N) rfl ?_
            refine r_icmp_ge (pc := 103) f_46_103 (by omega) (by omega) (fun h103 => ?_) (fun h103 => ?_)
            · refine r_run 6 (pc' := 117) (ls' := [some (yr (49 + 3 * t)), some (yi p), some (yr 39), some (yr 40), some (yi n), some (yi i), some (yi (M (50 + 3 * t) i))]) (st' := [yi (-9), yi (M (50 + 3 * t) i), yi (n - 1), yr 40]) (M' := M) (N' := N) rfl ?_
              refine r_icmp_ne (pc := 117) f_46_117 (by omega) (by omega) (fun h117 => ?_) (fun h117 => ?_)
              · refine r_run 4 (pc' := 135) (ls' := [some (yr (49 + 3 * t)), some (yi p), some (yr 39), some (yr 40), some (yi n), some (yi i), some (yi (M (50 + 3 * t) i))]) (st' := [yi (n - 1), yr 40, yi (n - 1), yr 40]) (M' := M) (N' := N) rfl ?_
                refine r_iald (n := 160) f_46_135 (by decide) (by decide) (by decide) (by omega) ?_
                refine r_if_ne (pc := 136) f_46_136 (by omega) (fun h136 => ?_) (fun h136 => ?_)
                · refine r_run 1 (pc' := 144) (ls' := [some (yr (49 + 3 * t)), some (yi p), some (yr 39), some (yr 40), some (yi n), some (yi i), some (yi (M (50 + 3 * t) i))]) (st' := [yi 0, yi (n - 1), yr 40]) (M' := M) (N' := N) rfl ?_
                  refine r_static (mj := 48) (as := [yi 0]) (rest := [yi (n - 1), yr 40]) f_46_144 (by decide) rfl m_48 rfl rfl rfl (Nat.le_of_ble_eq_true rfl) (by omega) (c_truth (by omega)) ?_
                  rintro _ _ _ ⟨v144, rfl, hv144, rfl, rfl⟩
                  refine r_iast (n := 160) f_46_147 (by decide) (by decide) (by decide) (by omega) ?_
                  refine r_run 3 (pc' := 21) (ls' := [some (yr (49 + 3 * t)), some (yi p), some (yr 39), some (yr 40), some (yi n), some (yi (i + 1)), some (yi (M (50 + 3 * t) i))]) (st' := []) (M' := (yu M 40 (n - 1) v144)) (N' := N) rfl ?_
                  exfalso; omega
                · refine r_run 2 (pc' := 144) (ls' := [some (yr (49 + 3 * t)), some (yi p), some (yr 39), some (yr 40), some (yi n), some (yi i), some (yi (M (50 + 3 * t) i))]) (st' := [yi 1, yi (n - 1), yr 40]) (M' := M) (N' := N) rfl ?_
                  refine r_static (mj := 48) (as := [yi 1]) (rest := [yi (n - 1), yr 40]) f_46_144 (by decide) rfl m_48 rfl rfl rfl (Nat.le_of_ble_eq_true rfl) (by omega) (c_truth (by omega)) ?_
                  rintro _ _ _ ⟨v144, rfl, hv144, rfl, rfl⟩
                  refine r_iast (n := 160) f_46_147 (by decide) (by decide) (by decide) (by omega) ?_
                  refine r_run 3 (pc' := 21) (ls' := [some (yr (49 + 3 * t)), some (yi p), some (yr 39), some (yr 40), some (yi n), some (yi (i + 1)), some (yi (M (50 + 3 * t) i))]) (st' := []) (M' := (yu M 40 (n - 1) v144)) (N' := N) rfl ?_
                  exfalso; omega
              · refine r_run 4 (pc' := 125) (ls' := [some (yr (49 + 3 * t)), some (yi p), some (yr 39), some (yr 40), some (yi n), some (yi i), some (yi (M (50 + 3 * t) i))]) (st' := [yi (n - 1), yr 40, yi (n - 1), yr 40]) (M' := M) (N' := N) rfl ?_
                refine r_iald (n := 160) f_46_125 (by decide) (by decide) (by decide) (by omega) ?_
                refine r_run 1 (pc' := 127) (ls' := [some (yr (49 + 3 * t)), some (yi p), some (yr 39), some (yr 40), some (yi n), some (yi i), some (yi (M (50 + 3 * t) i))]) (st' := [yi (-(M 40 (n - 1))), yi (n - 1), yr 40]) (M' := M) (N' := N) rfl ?_
                refine r_top (wr_of _) ?_
                refine r_run 1 (pc' := 147) (ls' := [some (yr (49 + 3 * t)), some (yi p), some (yr 39), some (yr 40), some (yi n), some (yi i), some (yi (M (50 + 3 * t) i))]) (st' := [yi (wr (-(M 40 (n - 1)))), yi (n - 1), yr 40]) (M' := M) (N' := N) rfl ?_
                refine r_iast (n := 160) f_46_147 (by decide) (by decide) (by decide) (by omega) ?_
                refine r_run 3 (pc' := 21) (ls' := [some (yr (49 + 3 * t)), some (yi p), some (yr 39), some (yr 40), some (yi n), some (yi (i + 1)), some (yi (M (50 + 3 * t) i))]) (st' := []) (M' := (yu M 40 (n - 1) (wr (-(M 40 (n - 1)))))) (N' := N) rfl ?_
                have hc1 : C i = 19 := by omega
                rw [evR_c hc1, yu_row]
                refine r_post (ih (by omega) (by omega) (by omega) (by omega) hD.2 (by rw [yrow_ne (by omega)]; exact hA) (by rw [yrow_ne (by omega)]; exact hE) (by rw [yrow_ne (by omega)]; exact hV) ?_) ?_
                · rw [yrow_at]
                  intro x x0 x1
                  unfold up
                  split
                  · exact wr_in _
                  · exact hR x x0 (by omega)
                rintro _ M' _ ⟨rfl, hfr, rfl⟩
                rw [yrow_at]
                exact ⟨rfl, fun c hc => by rw [hfr c hc, yrow_ne hc], rfl⟩
            · exfalso; omega
      · refine r_run 2 (pc' := 49) (ls' := [some (yr (49 + 3 * t)), some (yi p), some (yr 39), some (yr 40), some (yi n), some (yi i), some (yi (M (50 + 3 * t) i))]) (st' := [yr 40, yi n]) (M' := M) (N' := N) rfl ?_
        refine r_alen (kd := 0) (n := 160) f_46_49 (by decide) (by decide) (by decide) ?_
        refine r_icmp_lt (pc := 50) f_46_50 (by omega) (by omega) (fun h50 => ?_) (fun h50 => ?_)
        · refine r_run 4 (pc' := 63) (ls' := [some (yr (49 + 3 * t)), some (yi p), some (yr 39), some (yr 40), some (yi n), some (yi i), some (yi (M (50 + 3 * t) i))]) (st' := [yi 10000, yi (M (50 + 3 * t) i), yi n, yr 40]) (M' := M) (N' := N) rfl ?_
          refine r_icmp_ge (pc := 63) f_46_63 (by omega) (by omega) (fun h63 => ?_) (fun h63 => ?_)
          · refine r_run 4 (pc' := 78) (ls' := [some (yr (49 + 3 * t)), some (yi p), some (yr 39), some (yr 40), some (yi n), some (yi i), some (yi (M (50 + 3 * t) i))]) (st' := [yi ((M (50 + 3 * t) i) - 10000), yr 39, yi n, yr 40]) (M' := M) (N' := N) rfl ?_
            refine r_iald (n := 6) f_46_78 (by decide) (by decide) (by decide) (by omega) ?_
            refine r_iast (n := 160) f_46_79 (by decide) (by decide) (by decide) (by omega) ?_
            refine r_run 4 (pc' := 21) (ls' := [some (yr (49 + 3 * t)), some (yi p), some (yr 39), some (yr 40), some (yi (n + 1)), some (yi (i + 1)), some (yi (M (50 + 3 * t) i))]) (st' := []) (M' := (yu M 40 n (M 39 ((M (50 + 3 * t) i) - 10000)))) (N' := N) rfl ?_
            have hc1 : C i < 11 ∨ 100000 ≤ C i := by omega
            unfold tDp at hD
            rw [if_pos hc1] at hD
            have ev : M (39) (M (50 + 3 * t) i - 10000) = (if C i < 11 then nm (C i) else C i - 100000) := by
              rw [if_pos (by omega), hA, hV, show A i - 10000 = C i by omega]
            rw [evR_a hc1, yu_row, ev]
            refine r_post (ih (by omega) (by omega) (by omega) (by omega) hD (by rw [yrow_ne (by omega)]; exact hA) (by rw [yrow_ne (by omega)]; exact hE) (by rw [yrow_ne (by omega)]; exact hV) ?_) ?_
            · rw [yrow_at]
              intro x x0 x1
              unfold up
              split
              · split
                · exact hN _ ⟨by omega, by omega⟩
                · omega
              · exact hR x x0 (by omega)
            rintro _ M' _ ⟨rfl, hfr, rfl⟩
            rw [yrow_at]
            exact ⟨rfl, fun c hc => by rw [hfr c hc, yrow_ne hc], rfl⟩
          · refine r_run 2 (pc' := 79) (ls' := [some (yr (49 + 3 * t)), some (yi p), some (yr 39), some (yr 40), some (yi n), some (yi i), some (yi (M (50 + 3 * t) i))]) (st' := [yi (M (50 + 3 * t) i), yi n, yr 40]) (M' := M) (N' := N) rfl ?_
            refine r_iast (n := 160) f_46_79 (by decide) (by decide) (by decide) (by omega) ?_
            refine r_run 4 (pc' := 21) (ls' := [some (yr (49 + 3 * t)), some (yi p), some (yr 39), some (yr 40), some (yi (n + 1)), some (yi (i + 1)), some (yi (M (50 + 3 * t) i))]) (st' := []) (M' := (yu M 40 n (M (50 + 3 * t) i))) (N' := N) rfl ?_
            have hc1 : C i < 11 ∨ 100000 ≤ C i := by omega
            unfold tDp at hD
            rw [if_pos hc1] at hD
            have ev : M (50 + 3 * t) i = (if C i < 11 then nm (C i) else C i - 100000) := by
              rw [if_neg (by omega), hA]; omega
            rw [evR_a hc1, yu_row, ev]
            refine r_post (ih (by omega) (by omega) (by omega) (by omega) hD (by rw [yrow_ne (by omega)]; exact hA) (by rw [yrow_ne (by omega)]; exact hE) (by rw [yrow_ne (by omega)]; exact hV) ?_) ?_
            · rw [yrow_at]
              intro x x0 x1
              unfold up
              split
              · split
                · exact hN _ ⟨by omega, by omega⟩
                · omega
              · exact hR x x0 (by omega)
            rintro _ M' _ ⟨rfl, hfr, rfl⟩
            rw [yrow_at]
            exact ⟨rfl, fun c hc => by rw [hfr c hc, yrow_ne hc], rfl⟩
        · exfalso; omega
theorem c_tellR {S : XS} {M N : YM} {t p na : Int} {C T : Int → Int} (ht : 0 ≤ t ∧ t < 6) (hp : 0 ≤ p ∧ p < 3) (hT : tRel na (M (50 + 3 * t)) (M (51 + 3 * t)) C T) (hN : ∀ q, in6 q → -2147483648 ≤ M (39) q ∧ M (39) q < 2147483648) : rm S 3 46 [yr (49 + 3 * t), yi p, yr 39, yr 40] M N (fun r M' N' => ∃ v : Int, some (yi v) = r ∧ (v = evT C (M (39)) (T (p + 1) - T p).toNat (T p) ∧ ∀ c, c ≠ 40 → M' c = M c) ∧ N = N') := by
  refine ⟨xe_46, m_46, Nat.le_of_ble_eq_true rfl, ?_⟩
  have q0 := hT.1
  have q1 := hT.2.1 0 (by omega) (by omega)
  have q2 := hT.2.1 1 (by omega) (by omega)
  have q3 := hT.2.1 2 (by omega) (by omega)
  rw [show (0 : Int) + 1 = 1 from rfl] at q1
  rw [show (1 : Int) + 1 = 2 from rfl] at q2
  rw [show (2 : Int) + 1 = 3 from rfl] at q3
  have hp3 : p = 0 ∨ p = 1 ∨ p = 2 := by omega
  have qp : T p = if p = 0 then 0 else M (51 + 3 * t) (p - 1) := by
    rcases hp3 with rfl | rfl | rfl
    · rw [if_pos rfl]; exact q0
    · rw [if_neg (by omega)]; exact q1.1.symm
    · rw [if_neg (by omega)]; exact q2.1.symm
  have qb : 0 ≤ T p ∧ T p ≤ T (p + 1) ∧ T (p + 1) ≤ 160 ∧ T (p + 1) ≤ T 3 := by
    rcases hp3 with rfl | rfl | rfl
    · rw [show (0 : Int) + 1 = 1 from rfl]; omega
    · rw [show (1 : Int) + 1 = 2 from rfl]; omega
    · rw [show (2 : Int) + 1 = 3 from rfl]; omega
  refine r_run 3 (pc' := 4) (ls' := [some (yr (49 + 3 * t)), some (yi p), some (yr 39), some (yr 40), some (yi 0), none, none]) (st' := [yi p]) (M' := M) (N' := N) rfl ?_
  refine r_if_ne (pc := 4) f_46_4 (by omega) (fun h4 => ?_) (fun h4 => ?_)
  · refine r_run 1 (pc' := 12) (ls' := [some (yr (49 + 3 * t)), some (yi p), some (yr 39), some (yr 40), some (yi 0), none, none]) (st' := [yr (49 + 3 * t)]) (M' := M) (N' := N) rfl ?_
    refine r_getr (r := 51 + 3 * t) (n := 4) f_46_12 (by decide) (show xFT[28]? = some (5, 2) from rfl) (by decide) (by omega) (yk_text (by omega)) (rf_tends (by omega)) ?_
    refine r_run 3 (pc' := 18) (ls' := [some (yr (49 + 3 * t)), some (yi p), some (yr 39), some (yr 40), some (yi 0), none, none]) (st' := [yi (p - 1), yr (51 + 3 * t)]) (M' := M) (N' := N) rfl ?_
    refine r_iald (n := 3) f_46_18 (by omega) (yk_tends (by omega)) (by decide) (by omega) ?_
    refine r_run 1 (pc' := 21) (ls' := [some (yr (49 + 3 * t)), some (yi p), some (yr 39), some (yr 40), some (yi 0), some (yi (M (51 + 3 * t) (p - 1))), none]) (st' := []) (M' := M) (N' := N) rfl ?_
    refine r_loc 5 (a := M (51 + 3 * t) (p - 1)) (b := T p) rfl (by omega) ?_
    refine r_post (c_tellR_l (j := (T (p + 1) - T p).toNat) (C := C) (e := T (p + 1)) (Nat.le_refl _) ht hp (hT.2.1 p hp.1 hp.2).1 (hT.2.1 p hp.1 hp.2).2.2.1 (fun k k0 k1 => hT.2.2.1 k k0 (by omega)) hN (by omega) (by omega) (Int.le_refl 0) (by omega) (hT.2.1 p hp.1 hp.2).2.2.2 rfl rfl rfl (fun x x0 x1 => by omega)) ?_
    rintro _ M' _ ⟨rfl, hfr, rfl⟩
    refine ⟨_, rfl, ⟨?_, hfr⟩, rfl⟩
    exact evR_congr (fun _ _ _ => rfl) (fun _ _ _ _ => rfl) (Int.le_refl 0) (hT.2.1 p hp.1 hp.2).2.2.2 (fun i i0 i1 => by omega)
  · refine r_run 3 (pc' := 21) (ls' := [some (yr (49 + 3 * t)), some (yi p), some (yr 39), some (yr 40), some (yi 0), some (yi 0), none]) (st' := []) (M' := M) (N' := N) rfl ?_
    refine r_loc 5 (a := 0) (b := T p) rfl (by omega) ?_
    refine r_post (c_tellR_l (j := (T (p + 1) - T p).toNat) (C := C) (e := T (p + 1)) (Nat.le_refl _) ht hp (hT.2.1 p hp.1 hp.2).1 (hT.2.1 p hp.1 hp.2).2.2.1 (fun k k0 k1 => hT.2.2.1 k k0 (by omega)) hN (by omega) (by omega) (Int.le_refl 0) (by omega) (hT.2.1 p hp.1 hp.2).2.2.2 rfl rfl rfl (fun x x0 x1 => by omega)) ?_
    rintro _ M' _ ⟨rfl, hfr, rfl⟩
    refine ⟨_, rfl, ⟨?_, hfr⟩, rfl⟩
    exact evR_congr (fun _ _ _ => rfl) (fun _ _ _ _ => rfl) (Int.le_refl 0) (hT.2.1 p hp.1 hp.2).2.2.2 (fun i i0 i1 => by omega)
theorem c_tellS_l {S : XS} {d : Nat} {s : Int} (hs : 0 ≤ s ∧ s < 4) {t p e : Int} {A E C nm : Int → Int} {N : YM} (hd : 3 ≤ d) (ht : 0 ≤ t ∧ t < 6) (hp : 0 ≤ p ∧ p < 3) (hEp : E p = e) (he : e ≤ 160) (hAC : ∀ k, 0 ≤ k → k < e → A k = tEnc (C k) ∧ tVal (C k)) (hN : ∀ q, in6 q → -2147483648 ≤ nm q ∧ nm q < 2147483648) {j : Nat} : ∀ {i n : Int} {M : YM} {l6 : Option YV}, 0 ≤ i → i + j = e → 0 ≤ n → n ≤ i → tDp C j i n 1 → M (50 + 3 * t) = A → M (51 + 3 * t) = E → M (68 + 2 * s) = nm → (∀ x, 0 ≤ x → x < n → -2147483648 ≤ M 40 x ∧ M 40 x < 2147483648) → ry S d 46 21 [some (yr (49 + 3 * t)), some (yi p), some (yr (68 + 2 * s)), some (yr 40), some (yi n), some (yi i), l6] [] M N (fun r M' N' => some (yi (evR C nm j i (M 40) n 0)) = r ∧ (∀ c, c ≠ 40 → M' c = M c) ∧ N = N') := by
  induction j with
  | zero =>
    intro i n M l6 h0 h1 hn hni hD hA hE hV hR
    have hE2 : M (51 + 3 * t) p = e := by rw [hE]; exact hEp
    have hD0 : n = 1 := hD
    have r1 := hR 0 (by omega) (by omega)
    refine r_run 2 (pc' := 24) (ls' := [some (yr (49 + 3 * t)), some (yi p), some (yr (68 + 2 * s)), some (yr 40), some (yi n), some (yi i), l6]) (st' := [yr (49 + 3 * t), yi i]) (M' := M) (N' := N) rfl ?_
    refine r_getr (r := 51 + 3 * t) (n := 4) f_46_24 (by decide) (show xFT[28]? = some (5, 2) from rfl) (by decide) (by omega) (yk_text (by omega)) (rf_tends (by omega)) ?_
    refine r_run 1 (pc' := 28) (ls' := [some (yr (49 + 3 * t)), some (yi p), some (yr (68 + 2 * s)), some (yr 40), some (yi n), some (yi i), l6]) (st' := [yi p, yr (51 + 3 * t), yi i]) (M' := M) (N' := N) rfl ?_
    refine r_iald (n := 3) f_46_28 (by omega) (yk_tends (by omega)) (by decide) (by omega) ?_
    refine r_icmp_ge (pc := 29) f_46_29 (by omega) (by omega) (fun h29 => ?_) (fun h29 => ?_)
    · refine r_run 2 (pc' := 192) (ls' := [some (yr (49 + 3 * t)), some (yi p), some (yr (68 + 2 * s)), some (yr 40), some (yi n), some (yi i), l6]) (st' := [yi 1, yi n]) (M' := M) (N' := N) rfl ?_
      refine r_icmp_ne (pc := 192) f_46_192 (by omega) (by omega) (fun h192 => ?_) (fun h192 => ?_)
      · exfalso; omega
      · refine r_run 2 (pc' := 197) (ls' := [some (yr (49 + 3 * t)), some (yi p), some (yr (68 + 2 * s)), some (yr 40), some (yi n), some (yi i), l6]) (st' := [yi 0, yr 40]) (M' := M) (N' := N) rfl ?_
        refine r_iald (n := 160) f_46_197 (by decide) (by decide) (by decide) (by omega) ?_
        refine r_run 1 (pc' := 202) (ls' := [some (yr (49 + 3 * t)), some (yi p), some (yr (68 + 2 * s)), some (yr 40), some (yi n), some (yi i), l6]) (st' := [yi (M 40 0)]) (M' := M) (N' := N) rfl ?_
        refine r_iret m_46 rfl f_46_202 ?_
        exact ⟨rfl, fun c hc => rfl, rfl⟩
    · exfalso; omega
  | succ j ih =>
    intro i n M l6 h0 h1 hn hni hD hA hE hV hR
    have hE2 : M (51 + 3 * t) p = e := by rw [hE]; exact hEp
    obtain ⟨hAi, hCi⟩ := hAC i h0 (by omega)
    have hAe : M (50 + 3 * t) i = tEnc (C i) := by rw [hA]; exact hAi
    have hT0 : (100000 ≤ C i ∧ C i ≤ 109999 ∧ tEnc (C i) = C i - 100000) ∨ (0 ≤ C i ∧ C i ≤ 5 ∧ tEnc (C i) = 10000 + C i) ∨ (C i = 13 ∧ tEnc (C i) = -3) ∨ (C i = 19 ∧ tEnc (C i) = -9) ∨ (tTwo (C i) ∧ -8 ≤ tEnc (C i) ∧ tEnc (C i) ≤ -1 ∧ tEnc (C i) ≠ -3) := tEnc_is hCi
    refine r_run 2 (pc' := 24) (ls' := [some (yr (49 + 3 * t)), some (yi p), some (yr (68 + 2 * s)), some (yr 40), some (yi n), some (yi i), l6]) (st' := [yr (49 + 3 * t), yi i]) (M' := M) (N' := N) rfl ?_
    refine r_getr (r := 51 + 3 * t) (n := 4) f_46_24 (by decide) (show xFT[28]? = some (5, 2) from rfl) (by decide) (by omega) (yk_text (by omega)) (rf_tends (by omega)) ?_
    refine r_run 1 (pc' := 28) (ls' := [some (yr (49 + 3 * t)), some (yi p), some (yr (68 + 2 * s)), some (yr 40), some (yi n), some (yi i), l6]) (st' := [yi p, yr (51 + 3 * t), yi i]) (M' := M) (N' := N) rfl ?_
    refine r_iald (n := 3) f_46_28 (by omega) (yk_tends (by omega)) (by decide) (by omega) ?_
    refine r_icmp_ge (pc := 29) f_46_29 (by omega) (by omega) (fun h29 => ?_) (fun h29 => ?_)
    · exfalso; omega
    · refine r_run 1 (pc' := 33) (ls' := [some (yr (49 + 3 * t)), some (yi p), some (yr (68 + 2 * s)), some (yr 40), some (yi n), some (yi i), l6]) (st' := [yr (49 + 3 * t)]) (M' := M) (N' := N) rfl ?_
      refine r_getr (r := 50 + 3 * t) (n := 4) f_46_33 (by decide) (show xFT[26]? = some (5, 0) from rfl) (by decide) (by omega) (yk_text (by omega)) (rf_tcode (by omega)) ?_
      refine r_run 1 (pc' := 38) (ls' := [some (yr (49 + 3 * t)), some (yi p), some (yr (68 + 2 * s)), some (yr 40), some (yi n), some (yi i), l6]) (st' := [yi i, yr (50 + 3 * t)]) (M' := M) (N' := N) rfl ?_
      refine r_iald (n := 160) f_46_38 (by omega) (yk_tcode (by omega)) (by decide) (by omega) ?_
      refine r_run 2 (pc' := 43) (ls' := [some (yr (49 + 3 * t)), some (yi p), some (yr (68 + 2 * s)), some (yr 40), some (yi n), some (yi i), some (yi (M (50 + 3 * t) i))]) (st' := [yi (M (50 + 3 * t) i)]) (M' := M) (N' := N) rfl ?_
      refine r_if_lt (pc := 43) f_46_43 (by omega) (fun h43 => ?_) (fun h43 => ?_)
      · refine r_run 2 (pc' := 90) (ls' := [some (yr (49 + 3 * t)), some (yi p), some (yr (68 + 2 * s)), some (yr 40), some (yi n), some (yi i), some (yi (M (50 + 3 * t) i))]) (st' := [yi (-3), yi (M (50 + 3 * t) i)]) (M' := M) (N' := N) rfl ?_
        refine r_icmp_eq (pc := 90) f_46_90 (by omega) (by omega) (fun h90 => ?_) (fun h90 => ?_)
        · have hc13 : C i = 13 ∨ C i = 19 := by omega
          unfold tDp at hD
          rw [if_neg (by omega), if_pos hc13] at hD
          have r1 := hR (n - 1) (by omega) (by omega)
          refine r_run 2 (pc' := 103) (ls' := [some (yr (49 + 3 * t)), some (yi p), some (yr (68 + 2 * s)), some (yr 40), some (yi n), some (yi i), some (yi (M (50 + 3 * t) i))]) (st' := [yi 1, yi n]) (M' := M) (N' := N) rfl ?_
          refine r_icmp_ge (pc := 103) f_46_103 (by omega) (by omega) (fun h103 => ?_) (fun h103 => ?_)
          · refine r_run 6 (pc' := 117) (ls' := [some (yr (49 + 3 * t)), some (yi p), some (yr (68 + 2 * s)), some (yr 40), some (yi n), some (yi i), some (yi (M (50 + 3 * t) i))]) (st' := [yi (-9), yi (M (50 + 3 * t) i), yi (n - 1), yr 40]) (M' := M) (N' := N) rfl ?_
            refine r_icmp_ne (pc := 117) f_46_117 (by omega) (by omega) (fun h117 => ?_) (fun h117 => ?_)
            · refine r_run 4 (pc' := 135) (ls' := [some (yr (49 + 3 * t)), some (yi p), some (yr (68 + 2 * s)), some (yr 40), some (yi n), some (yi i), some (yi (M (50 + 3 * t) i))]) (st' := [yi (n - 1), yr 40, yi (n - 1), yr 40]) (M' := M) (N' := N) rfl ?_
              refine r_iald (n := 160) f_46_135 (by decide) (by decide) (by decide) (by omega) ?_
              refine r_if_ne (pc := 136) f_46_136 (by omega) (fun h136 => ?_) (fun h136 => ?_)
              · refine r_run 1 (pc' := 144) (ls' := [some (yr (49 + 3 * t)), some (yi p), some (yr (68 + 2 * s)), some (yr 40), some (yi n), some (yi i), some (yi (M (50 + 3 * t) i))]) (st' := [yi 0, yi (n - 1), yr 40]) (M' := M) (N' := N) rfl ?_
                refine r_static (mj := 48) (as := [yi 0]) (rest := [yi (n - 1), yr 40]) f_46_144 (by decide) rfl m_48 rfl rfl rfl (Nat.le_of_ble_eq_true rfl) (by omega) (c_truth (by omega)) ?_
                rintro _ _ _ ⟨v144, rfl, hv144, rfl, rfl⟩
                refine r_iast (n := 160) f_46_147 (by decide) (by decide) (by decide) (by omega) ?_
                refine r_run 3 (pc' := 21) (ls' := [some (yr (49 + 3 * t)), some (yi p), some (yr (68 + 2 * s)), some (yr 40), some (yi n), some (yi (i + 1)), some (yi (M (50 + 3 * t) i))]) (st' := []) (M' := (yu M 40 (n - 1) v144)) (N' := N) rfl ?_
                have hc1 : C i = 13 := by omega
                have ev : v144 = (if M 40 (n - 1) = 0 then 1 else 0) := by
                  split <;> omega
                rw [evR_b hc1, yu_row, ev]
                refine r_post (ih (by omega) (by omega) (by omega) (by omega) hD.2 (by rw [yrow_ne (by omega)]; exact hA) (by rw [yrow_ne (by omega)]; exact hE) (by rw [yrow_ne (by omega)]; exact hV) ?_) ?_
                · rw [yrow_at]
                  intro x x0 x1
                  unfold up
                  split
                  · (repeat' split) <;> omega
                  · exact hR x x0 (by omega)
                rintro _ M' _ ⟨rfl, hfr, rfl⟩
                rw [yrow_at]
                exact ⟨rfl, fun c hc => by rw [hfr c hc, yrow_ne hc], rfl⟩
              · refine r_run 2 (pc' := 144) (ls' := [some (yr (49 + 3 * t)), some (yi p), some (yr (68 + 2 * s)), some (yr 40), some (yi n), some (yi i), some (yi (M (50 + 3 * t) i))]) (st' := [yi 1, yi (n - 1), yr 40]) (M' := M) (N' := N) rfl ?_
                refine r_static (mj := 48) (as := [yi 1]) (rest := [yi (n - 1), yr 40]) f_46_144 (by decide) rfl m_48 rfl rfl rfl (Nat.le_of_ble_eq_true rfl) (by omega) (c_truth (by omega)) ?_
                rintro _ _ _ ⟨v144, rfl, hv144, rfl, rfl⟩
                refine r_iast (n := 160) f_46_147 (by decide) (by decide) (by decide) (by omega) ?_
                refine r_run 3 (pc' := 21) (ls' := [some (yr (49 + 3 * t)), some (yi p), some (yr (68 + 2 * s)), some (yr 40), some (yi n), some (yi (i + 1)), some (yi (M (50 + 3 * t) i))]) (st' := []) (M' := (yu M 40 (n - 1) v144)) (N' := N) rfl ?_
                have hc1 : C i = 13 := by omega
                have ev : v144 = (if M 40 (n - 1) = 0 then 1 else 0) := by
                  split <;> omega
                rw [evR_b hc1, yu_row, ev]
                refine r_post (ih (by omega) (by omega) (by omega) (by omega) hD.2 (by rw [yrow_ne (by omega)]; exact hA) (by rw [yrow_ne (by omega)]; exact hE) (by rw [yrow_ne (by omega)]; exact hV) ?_) ?_
                · rw [yrow_at]
                  intro x x0 x1
                  unfold up
                  split
                  · (repeat' split) <;> omega
                  · exact hR x x0 (by omega)
                rintro _ M' _ ⟨rfl, hfr, rfl⟩
                rw [yrow_at]
                exact ⟨rfl, fun c hc => by rw [hfr c hc, yrow_ne hc], rfl⟩
            · refine r_run 4 (pc' := 125) (ls' := [some (yr (49 + 3 * t)), some (yi p), some (yr (68 + 2 * s)), some (yr 40), some (yi n), some (yi i), some (yi (M (50 + 3 * t) i))]) (st' := [yi (n - 1), yr 40, yi (n - 1), yr 40]) (M' := M) (N' := N) rfl ?_
              refine r_iald (n := 160) f_46_125 (by decide) (by decide) (by decide) (by omega) ?_
              refine r_run 1 (pc' := 127) (ls' := [some (yr (49 + 3 * t)), some (yi p), some (yr (68 + 2 * s)), some (yr 40), some (yi n), some (yi i), some (yi (M (50 + 3 * t) i))]) (st' := [yi (-(M 40 (n - 1))), yi (n - 1), yr 40]) (M' := M) (N' := N) rfl ?_
              refine r_top (wr_of _) ?_
              refine r_run 1 (pc' := 147) (ls' := [some (yr (49 + 3 * t)), some (yi p), some (yr (68 + 2 * s)), some (yr 40), some (yi n), some (yi i), some (yi (M (50 + 3 * t) i))]) (st' := [yi (wr (-(M 40 (n - 1)))), yi (n - 1), yr 40]) (M' := M) (N' := N) rfl ?_
              refine r_iast (n := 160) f_46_147 (by decide) (by decide) (by decide) (by omega) ?_
              refine r_run 3 (pc' := 21) (ls' := [some (yr (49 + 3 * t)), some (yi p), some (yr (68 + 2 * s)), some (yr 40), some (yi n), some (yi (i + 1)), some (yi (M (50 + 3 * t) i))]) (st' := []) (M' := (yu M 40 (n - 1) (wr (-(M 40 (n - 1)))))) (N' := N) rfl ?_
              exfalso; omega
          · exfalso; omega
        · refine r_run 2 (pc' := 97) (ls' := [some (yr (49 + 3 * t)), some (yi p), some (yr (68 + 2 * s)), some (yr 40), some (yi n), some (yi i), some (yi (M (50 + 3 * t) i))]) (st' := [yi (-9), yi (M (50 + 3 * t) i)]) (M' := M) (N' := N) rfl ?_
          refine r_icmp_ne (pc := 97) f_46_97 (by omega) (by omega) (fun h97 => ?_) (fun h97 => ?_)
          · have hn13 : ¬ (C i = 13 ∨ C i = 19) := by omega
            unfold tDp at hD
            rw [if_neg (by omega), if_neg hn13] at hD
            have r1 := hR (n + -1) (by omega) (by omega)
            have r2 := hR (n + -1 - 1) (by omega) (by omega)
            refine r_run 2 (pc' := 154) (ls' := [some (yr (49 + 3 * t)), some (yi p), some (yr (68 + 2 * s)), some (yr 40), some (yi n), some (yi i), some (yi (M (50 + 3 * t) i))]) (st' := [yi 2, yi n]) (M' := M) (N' := N) rfl ?_
            refine r_icmp_ge (pc := 154) f_46_154 (by omega) (by omega) (fun h154 => ?_) (fun h154 => ?_)
            · refine r_run 10 (pc' := 174) (ls' := [some (yr (49 + 3 * t)), some (yi p), some (yr (68 + 2 * s)), some (yr 40), some (yi (n + (-1))), some (yi i), some (yi (M (50 + 3 * t) i))]) (st' := [yi ((n + (-1)) - 1), yr 40, yi (M (50 + 3 * t) i), yi ((n + (-1)) - 1), yr 40]) (M' := M) (N' := N) rfl ?_
              refine r_iald (n := 160) f_46_174 (by decide) (by decide) (by decide) (by omega) ?_
              refine r_run 2 (pc' := 178) (ls' := [some (yr (49 + 3 * t)), some (yi p), some (yr (68 + 2 * s)), some (yr 40), some (yi (n + (-1))), some (yi i), some (yi (M (50 + 3 * t) i))]) (st' := [yi (n + (-1)), yr 40, yi (M 40 ((n + (-1)) - 1)), yi (M (50 + 3 * t) i), yi ((n + (-1)) - 1), yr 40]) (M' := M) (N' := N) rfl ?_
              refine r_iald (n := 160) f_46_178 (by decide) (by decide) (by decide) (by omega) ?_
              refine r_static (mj := 47) (as := [yi (M (50 + 3 * t) i), yi (M 40 ((n + (-1)) - 1)), yi (M 40 (n + (-1)))]) (rest := [yi ((n + (-1)) - 1), yr 40]) f_46_179 (by decide) rfl m_47 rfl rfl rfl (Nat.le_of_ble_eq_true rfl) (by omega) (c_joined (by omega) (by omega) (by omega)) ?_
              rintro _ _ _ ⟨v179, rfl, hv179, rfl, rfl⟩
              refine r_iast (n := 160) f_46_182 (by decide) (by decide) (by decide) (by omega) ?_
              refine r_run 2 (pc' := 21) (ls' := [some (yr (49 + 3 * t)), some (yi p), some (yr (68 + 2 * s)), some (yr 40), some (yi (n + (-1))), some (yi (i + 1)), some (yi (M (50 + 3 * t) i))]) (st' := []) (M' := (yu M 40 ((n + (-1)) - 1) v179)) (N' := N) rfl ?_
              have hc1 : tTwo (C i) := ⟨by omega, by omega, by omega⟩
              rw [hA, hAi, twc_enc hc1] at hv179
              rw [evR_d hc1, yu_row, hv179, show n + -1 - 1 = n - 2 by omega, show n + -1 = n - 1 by omega]
              refine r_post (ih (by omega) (by omega) (by omega) (by omega) hD.2 (by rw [yrow_ne (by omega)]; exact hA) (by rw [yrow_ne (by omega)]; exact hE) (by rw [yrow_ne (by omega)]; exact hV) ?_) ?_
              · rw [yrow_at]
                intro x x0 x1
                unfold up
                split
                · exact tw_in _ _ _
                · exact hR x x0 (by omega)
              rintro _ M' _ ⟨rfl, hfr, rfl⟩
              rw [yrow_at]
              exact ⟨rfl, fun c hc => by rw [hfr c hc, yrow_ne hc], rfl⟩
            · exfalso; omega
          · have hc13 : C i = 13 ∨ C i = 19 := by omega
            unfold tDp at hD
            rw [if_neg (by omega), if_pos hc13] at hD
            have r1 := hR (n - 1) (by omega) (by omega)
            refine r_run 2 (pc' := 103) (ls' := [some (yr (49 + 3 * t)), some (yi p), some (yr (68 + 2 * s)), some (yr 40), some (yi n), some (yi i), some (yi (M (50 + 3 * t) i))]) (st' := [yi 1, yi n]) (M' := M) (N' := N) rfl ?_
            refine r_icmp_ge (pc := 103) f_46_103 (by omega) (by omega) (fun h103 => ?_) (fun h103 => ?_)
            · refine r_run 6 (pc' := 117) (ls' := [some (yr (49 + 3 * t)), some (yi p), some (yr (68 + 2 * s)), some (yr 40), some (yi n), some (yi i), some (yi (M (50 + 3 * t) i))]) (st' := [yi (-9), yi (M (50 + 3 * t) i), yi (n - 1), yr 40]) (M' := M) (N' := N) rfl ?_
              refine r_icmp_ne (pc := 117) f_46_117 (by omega) (by omega) (fun h117 => ?_) (fun h117 => ?_)
              · refine r_run 4 (pc' := 135) (ls' := [some (yr (49 + 3 * t)), some (yi p), some (yr (68 + 2 * s)), some (yr 40), some (yi n), some (yi i), some (yi (M (50 + 3 * t) i))]) (st' := [yi (n - 1), yr 40, yi (n - 1), yr 40]) (M' := M) (N' := N) rfl ?_
                refine r_iald (n := 160) f_46_135 (by decide) (by decide) (by decide) (by omega) ?_
                refine r_if_ne (pc := 136) f_46_136 (by omega) (fun h136 => ?_) (fun h136 => ?_)
                · refine r_run 1 (pc' := 144) (ls' := [some (yr (49 + 3 * t)), some (yi p), some (yr (68 + 2 * s)), some (yr 40), some (yi n), some (yi i), some (yi (M (50 + 3 * t) i))]) (st' := [yi 0, yi (n - 1), yr 40]) (M' := M) (N' := N) rfl ?_
                  refine r_static (mj := 48) (as := [yi 0]) (rest := [yi (n - 1), yr 40]) f_46_144 (by decide) rfl m_48 rfl rfl rfl (Nat.le_of_ble_eq_true rfl) (by omega) (c_truth (by omega)) ?_
                  rintro _ _ _ ⟨v144, rfl, hv144, rfl, rfl⟩
                  refine r_iast (n := 160) f_46_147 (by decide) (by decide) (by decide) (by omega) ?_
                  refine r_run 3 (pc' := 21) (ls' := [some (yr (49 + 3 * t)), some (yi p), some (yr (68 + 2 * s)), some (yr 40), some (yi n), some (yi (i + 1)), some (yi (M (50 + 3 * t) i))]) (st' := []) (M' := (yu M 40 (n - 1) v144)) (N' := N) rfl ?_
                  exfalso; omega
                · refine r_run 2 (pc' := 144) (ls' := [some (yr (49 + 3 * t)), some (yi p), some (yr (68 + 2 * s)), some (yr 40), some (yi n), some (yi i), some (yi (M (50 + 3 * t) i))]) (st' := [yi 1, yi (n - 1), yr 40]) (M' := M) (N' := N) rfl ?_
                  refine r_static (mj := 48) (as := [yi 1]) (rest := [yi (n - 1), yr 40]) f_46_144 (by decide) rfl m_48 rfl rfl rfl (Nat.le_of_ble_eq_true rfl) (by omega) (c_truth (by omega)) ?_
                  rintro _ _ _ ⟨v144, rfl, hv144, rfl, rfl⟩
                  refine r_iast (n := 160) f_46_147 (by decide) (by decide) (by decide) (by omega) ?_
                  refine r_run 3 (pc' := 21) (ls' := [some (yr (49 + 3 * t)), some (yi p), some (yr (68 + 2 * s)), some (yr 40), some (yi n), some (yi (i + 1)), some (yi (M (50 + 3 * t) i))]) (st' := []) (M' := (yu M 40 (n - 1) v144)) (N' := N) rfl ?_
                  exfalso; omega
              · refine r_run 4 (pc' := 125) (ls' := [some (yr (49 + 3 * t)), some (yi p), some (yr (68 + 2 * s)), some (yr 40), some (yi n), some (yi i), some (yi (M (50 + 3 * t) i))]) (st' := [yi (n - 1), yr 40, yi (n - 1), yr 40]) (M' := M) (N' := N) rfl ?_
                refine r_iald (n := 160) f_46_125 (by decide) (by decide) (by decide) (by omega) ?_
                refine r_run 1 (pc' := 127) (ls' := [some (yr (49 + 3 * t)), some (yi p), some (yr (68 + 2 * s)), some (yr 40), some (yi n), some (yi i), some (yi (M (50 + 3 * t) i))]) (st' := [yi (-(M 40 (n - 1))), yi (n - 1), yr 40]) (M' := M) (N' := N) rfl ?_
                refine r_top (wr_of _) ?_
                refine r_run 1 (pc' := 147) (ls' := [some (yr (49 + 3 * t)), some (yi p), some (yr (68 + 2 * s)), some (yr 40), some (yi n), some (yi i), some (yi (M (50 + 3 * t) i))]) (st' := [yi (wr (-(M 40 (n - 1)))), yi (n - 1), yr 40]) (M' := M) (N' := N) rfl ?_
                refine r_iast (n := 160) f_46_147 (by decide) (by decide) (by decide) (by omega) ?_
                refine r_run 3 (pc' := 21) (ls' := [some (yr (49 + 3 * t)), some (yi p), some (yr (68 + 2 * s)), some (yr 40), some (yi n), some (yi (i + 1)), some (yi (M (50 + 3 * t) i))]) (st' := []) (M' := (yu M 40 (n - 1) (wr (-(M 40 (n - 1)))))) (N' := N) rfl ?_
                have hc1 : C i = 19 := by omega
                rw [evR_c hc1, yu_row]
                refine r_post (ih (by omega) (by omega) (by omega) (by omega) hD.2 (by rw [yrow_ne (by omega)]; exact hA) (by rw [yrow_ne (by omega)]; exact hE) (by rw [yrow_ne (by omega)]; exact hV) ?_) ?_
                · rw [yrow_at]
                  intro x x0 x1
                  unfold up
                  split
                  · exact wr_in _
                  · exact hR x x0 (by omega)
                rintro _ M' _ ⟨rfl, hfr, rfl⟩
                rw [yrow_at]
                exact ⟨rfl, fun c hc => by rw [hfr c hc, yrow_ne hc], rfl⟩
            · exfalso; omega
      · refine r_run 2 (pc' := 49) (ls' := [some (yr (49 + 3 * t)), some (yi p), some (yr (68 + 2 * s)), some (yr 40), some (yi n), some (yi i), some (yi (M (50 + 3 * t) i))]) (st' := [yr 40, yi n]) (M' := M) (N' := N) rfl ?_
        refine r_alen (kd := 0) (n := 160) f_46_49 (by decide) (by decide) (by decide) ?_
        refine r_icmp_lt (pc := 50) f_46_50 (by omega) (by omega) (fun h50 => ?_) (fun h50 => ?_)
        · refine r_run 4 (pc' := 63) (ls' := [some (yr (49 + 3 * t)), some (yi p), some (yr (68 + 2 * s)), some (yr 40), some (yi n), some (yi i), some (yi (M (50 + 3 * t) i))]) (st' := [yi 10000, yi (M (50 + 3 * t) i), yi n, yr 40]) (M' := M) (N' := N) rfl ?_
          refine r_icmp_ge (pc := 63) f_46_63 (by omega) (by omega) (fun h63 => ?_) (fun h63 => ?_)
          · refine r_run 4 (pc' := 78) (ls' := [some (yr (49 + 3 * t)), some (yi p), some (yr (68 + 2 * s)), some (yr 40), some (yi n), some (yi i), some (yi (M (50 + 3 * t) i))]) (st' := [yi ((M (50 + 3 * t) i) - 10000), yr (68 + 2 * s), yi n, yr 40]) (M' := M) (N' := N) rfl ?_
            refine r_iald (n := 40) f_46_78 (by omega) (yk_scell (by omega)) (by decide) (by omega) ?_
            refine r_iast (n := 160) f_46_79 (by decide) (by decide) (by decide) (by omega) ?_
            refine r_run 4 (pc' := 21) (ls' := [some (yr (49 + 3 * t)), some (yi p), some (yr (68 + 2 * s)), some (yr 40), some (yi (n + 1)), some (yi (i + 1)), some (yi (M (50 + 3 * t) i))]) (st' := []) (M' := (yu M 40 n (M (68 + 2 * s) ((M (50 + 3 * t) i) - 10000)))) (N' := N) rfl ?_
            have hc1 : C i < 11 ∨ 100000 ≤ C i := by omega
            unfold tDp at hD
            rw [if_pos hc1] at hD
            have ev : M (68 + 2 * s) (M (50 + 3 * t) i - 10000) = (if C i < 11 then nm (C i) else C i - 100000) := by
              rw [if_pos (by omega), hA, hV, show A i - 10000 = C i by omega]
            rw [evR_a hc1, yu_row, ev]
            refine r_post (ih (by omega) (by omega) (by omega) (by omega) hD (by rw [yrow_ne (by omega)]; exact hA) (by rw [yrow_ne (by omega)]; exact hE) (by rw [yrow_ne (by omega)]; exact hV) ?_) ?_
            · rw [yrow_at]
              intro x x0 x1
              unfold up
              split
              · split
                · exact hN _ ⟨by omega, by omega⟩
                · omega
              · exact hR x x0 (by omega)
            rintro _ M' _ ⟨rfl, hfr, rfl⟩
            rw [yrow_at]
            exact ⟨rfl, fun c hc => by rw [hfr c hc, yrow_ne hc], rfl⟩
          · refine r_run 2 (pc' := 79) (ls' := [some (yr (49 + 3 * t)), some (yi p), some (yr (68 + 2 * s)), some (yr 40), some (yi n), some (yi i), some (yi (M (50 + 3 * t) i))]) (st' := [yi (M (50 + 3 * t) i), yi n, yr 40]) (M' := M) (N' := N) rfl ?_
            refine r_iast (n := 160) f_46_79 (by decide) (by decide) (by decide) (by omega) ?_
            refine r_run 4 (pc' := 21) (ls' := [some (yr (49 + 3 * t)), some (yi p), some (yr (68 + 2 * s)), some (yr 40), some (yi (n + 1)), some (yi (i + 1)), some (yi (M (50 + 3 * t) i))]) (st' := []) (M' := (yu M 40 n (M (50 + 3 * t) i))) (N' := N) rfl ?_
            have hc1 : C i < 11 ∨ 100000 ≤ C i := by omega
            unfold tDp at hD
            rw [if_pos hc1] at hD
            have ev : M (50 + 3 * t) i = (if C i < 11 then nm (C i) else C i - 100000) := by
              rw [if_neg (by omega), hA]; omega
            rw [evR_a hc1, yu_row, ev]
            refine r_post (ih (by omega) (by omega) (by omega) (by omega) hD (by rw [yrow_ne (by omega)]; exact hA) (by rw [yrow_ne (by omega)]; exact hE) (by rw [yrow_ne (by omega)]; exact hV) ?_) ?_
            · rw [yrow_at]
              intro x x0 x1
              unfold up
              split
              · split
                · exact hN _ ⟨by omega, by omega⟩
                · omega
              · exact hR x x0 (by omega)
            rintro _ M' _ ⟨rfl, hfr, rfl⟩
            rw [yrow_at]
            exact ⟨rfl, fun c hc => by rw [hfr c hc, yrow_ne hc], rfl⟩
        · exfalso; omega
theorem c_tellS {S : XS} {M N : YM} {s : Int} (hs : 0 ≤ s ∧ s < 4) {t p na : Int} {C T : Int → Int} (ht : 0 ≤ t ∧ t < 6) (hp : 0 ≤ p ∧ p < 3) (hT : tRel na (M (50 + 3 * t)) (M (51 + 3 * t)) C T) (hN : ∀ q, in6 q → -2147483648 ≤ M (68 + 2 * s) q ∧ M (68 + 2 * s) q < 2147483648) : rm S 3 46 [yr (49 + 3 * t), yi p, yr (68 + 2 * s), yr 40] M N (fun r M' N' => ∃ v : Int, some (yi v) = r ∧ (v = evT C (M (68 + 2 * s)) (T (p + 1) - T p).toNat (T p) ∧ ∀ c, c ≠ 40 → M' c = M c) ∧ N = N') := by
  refine ⟨xe_46, m_46, Nat.le_of_ble_eq_true rfl, ?_⟩
  have q0 := hT.1
  have q1 := hT.2.1 0 (by omega) (by omega)
  have q2 := hT.2.1 1 (by omega) (by omega)
  have q3 := hT.2.1 2 (by omega) (by omega)
  rw [show (0 : Int) + 1 = 1 from rfl] at q1
  rw [show (1 : Int) + 1 = 2 from rfl] at q2
  rw [show (2 : Int) + 1 = 3 from rfl] at q3
  have hp3 : p = 0 ∨ p = 1 ∨ p = 2 := by omega
  have qp : T p = if p = 0 then 0 else M (51 + 3 * t) (p - 1) := by
    rcases hp3 with rfl | rfl | rfl
    · rw [if_pos rfl]; exact q0
    · rw [if_neg (by omega)]; exact q1.1.symm
    · rw [if_neg (by omega)]; exact q2.1.symm
  have qb : 0 ≤ T p ∧ T p ≤ T (p + 1) ∧ T (p + 1) ≤ 160 ∧ T (p + 1) ≤ T 3 := by
    rcases hp3 with rfl | rfl | rfl
    · rw [show (0 : Int) + 1 = 1 from rfl]; omega
    · rw [show (1 : Int) + 1 = 2 from rfl]; omega
    · rw [show (2 : Int) + 1 = 3 from rfl]; omega
  refine r_run 3 (pc' := 4) (ls' := [some (yr (49 + 3 * t)), some (yi p), some (yr (68 + 2 * s)), some (yr 40), some (yi 0), none, none]) (st' := [yi p]) (M' := M) (N' := N) rfl ?_
  refine r_if_ne (pc := 4) f_46_4 (by omega) (fun h4 => ?_) (fun h4 => ?_)
  · refine r_run 1 (pc' := 12) (ls' := [some (yr (49 + 3 * t)), some (yi p), some (yr (68 + 2 * s)), some (yr 40), some (yi 0), none, none]) (st' := [yr (49 + 3 * t)]) (M' := M) (N' := N) rfl ?_
    refine r_getr (r := 51 + 3 * t) (n := 4) f_46_12 (by decide) (show xFT[28]? = some (5, 2) from rfl) (by decide) (by omega) (yk_text (by omega)) (rf_tends (by omega)) ?_
    refine r_run 3 (pc' := 18) (ls' := [some (yr (49 + 3 * t)), some (yi p), some (yr (68 + 2 * s)), some (yr 40), some (yi 0), none, none]) (st' := [yi (p - 1), yr (51 + 3 * t)]) (M' := M) (N' := N) rfl ?_
    refine r_iald (n := 3) f_46_18 (by omega) (yk_tends (by omega)) (by decide) (by omega) ?_
    refine r_run 1 (pc' := 21) (ls' := [some (yr (49 + 3 * t)), some (yi p), some (yr (68 + 2 * s)), some (yr 40), some (yi 0), some (yi (M (51 + 3 * t) (p - 1))), none]) (st' := []) (M' := M) (N' := N) rfl ?_
    refine r_loc 5 (a := M (51 + 3 * t) (p - 1)) (b := T p) rfl (by omega) ?_
    refine r_post (c_tellS_l (j := (T (p + 1) - T p).toNat) (C := C) (e := T (p + 1)) hs (Nat.le_refl _) ht hp (hT.2.1 p hp.1 hp.2).1 (hT.2.1 p hp.1 hp.2).2.2.1 (fun k k0 k1 => hT.2.2.1 k k0 (by omega)) hN (by omega) (by omega) (Int.le_refl 0) (by omega) (hT.2.1 p hp.1 hp.2).2.2.2 rfl rfl rfl (fun x x0 x1 => by omega)) ?_
    rintro _ M' _ ⟨rfl, hfr, rfl⟩
    refine ⟨_, rfl, ⟨?_, hfr⟩, rfl⟩
    exact evR_congr (fun _ _ _ => rfl) (fun _ _ _ _ => rfl) (Int.le_refl 0) (hT.2.1 p hp.1 hp.2).2.2.2 (fun i i0 i1 => by omega)
  · refine r_run 3 (pc' := 21) (ls' := [some (yr (49 + 3 * t)), some (yi p), some (yr (68 + 2 * s)), some (yr 40), some (yi 0), some (yi 0), none]) (st' := []) (M' := M) (N' := N) rfl ?_
    refine r_loc 5 (a := 0) (b := T p) rfl (by omega) ?_
    refine r_post (c_tellS_l (j := (T (p + 1) - T p).toNat) (C := C) (e := T (p + 1)) hs (Nat.le_refl _) ht hp (hT.2.1 p hp.1 hp.2).1 (hT.2.1 p hp.1 hp.2).2.2.1 (fun k k0 k1 => hT.2.2.1 k k0 (by omega)) hN (by omega) (by omega) (Int.le_refl 0) (by omega) (hT.2.1 p hp.1 hp.2).2.2.2 rfl rfl rfl (fun x x0 x1 => by omega)) ?_
    rintro _ M' _ ⟨rfl, hfr, rfl⟩
    refine ⟨_, rfl, ⟨?_, hfr⟩, rfl⟩
    exact evR_congr (fun _ _ _ => rfl) (fun _ _ _ _ => rfl) (Int.le_refl 0) (hT.2.1 p hp.1 hp.2).2.2.2 (fun i i0 i1 => by omega)
