/-- the class's links are those of row L -/
def cLk (M : YM) (L : Int → Int) (n : Int) : Prop := ∀ k, 0 ≤ k → k < n → M (41 + k) 0 = L (4 * k) ∧ M (41 + k) 1 = L (4 * k + 1) ∧ M (41 + k) 2 = L (4 * k + 2) ∧ M (41 + k) 3 = L (4 * k + 3)
def pw : Nat → Int
  | 0 => 1
  | j + 1 => 6 * pw j
theorem pw_ge (j : Nat) : 1 ≤ pw j := by
  induction j with
  | zero => exact Int.le_refl _
  | succ j ih => show 1 ≤ 6 * pw j; omega
theorem pw_mul {L : Int} {j : Nat} (h : 0 ≤ L) : L ≤ L * pw j := by
  have := Int.mul_le_mul_of_nonneg_left (pw_ge j) h
  omega
theorem pw_step {L : Int} {j : Nat} : L * pw (j + 1) = 6 * L * pw j := by
  show L * (6 * pw j) = _
  rw [← Int.mul_assoc, Int.mul_comm L 6]
def rng (L : Int) (R : Int → Int) (n : Int) : Prop := ∀ j, 0 ≤ j → j < n → -L ≤ R j ∧ R j ≤ 9999
/-- nobody told a link yet -/
def tie0 (R : Int → Int) : Prop := ∀ i, 0 ≤ i → i < 36 → R i = if i / 6 = i % 6 then 0 else 999
theorem c_tie_a {S : XS} {d : Nat} {n w : Int} {N : YM} {Q : Option YV → YM → YM → Prop} {j : Nat} : ∀ {k : Int} {M : YM}, 0 ≤ k → k + j = 36 → (∀ i, 0 ≤ i → i < k → M 38 i = if i / 6 = i % 6 then 0 else 999) → (∀ R, tie0 R → ry S d 35 46 [some (yr 33), some (yr 25), some (yi n), some (yi w), some (yi 36), none] [] (yrow M 38 R) N Q) → ry S d 35 3 [some (yr 33), some (yr 25), some (yi n), some (yi w), some (yi k), none] [] M N Q := by
  induction j with
  | zero =>
    intro k M h0 h1 hr kk
    refine r_run 3 (pc' := 9) (ls' := [some (yr 33), some (yr 25), some (yi n), some (yi w), some (yi k), none]) (st' := [yr 38, yi k]) (M' := M) (N' := N) rfl ?_
    refine r_alen (kd := 0) (n := 36) f_35_9 (by decide) (by decide) (by decide) ?_
    refine r_icmp_ge (pc := 10) f_35_10 (by omega) (by omega) (fun h10 => ?_) (fun h10 => ?_)
    · have hb : k = 36 := by omega
      subst hb
      have := kk (M 38) (fun i i0 i1 => hr i i0 i1)
      rw [yrow_self] at this
      exact this
    · exfalso; omega
  | succ j ih =>
    intro k M h0 h1 hr kk
    refine r_run 3 (pc' := 9) (ls' := [some (yr 33), some (yr 25), some (yi n), some (yi w), some (yi k), none]) (st' := [yr 38, yi k]) (M' := M) (N' := N) rfl ?_
    refine r_alen (kd := 0) (n := 36) f_35_9 (by decide) (by decide) (by decide) ?_
    refine r_icmp_ge (pc := 10) f_35_10 (by omega) (by omega) (fun h10 => ?_) (fun h10 => ?_)
    · exfalso; omega
    · refine r_run 5 (pc' := 23) (ls' := [some (yr 33), some (yr 25), some (yi n), some (yi w), some (yi k), none]) (st' := [yi 6, yi k, yi k, yr 38]) (M' := M) (N' := N) rfl ?_
      refine r_idiv f_35_23 (by omega) (by omega) ?_
      refine r_run 2 (pc' := 28) (ls' := [some (yr 33), some (yr 25), some (yi n), some (yi w), some (yi k), none]) (st' := [yi 6, yi k, yi (k / 6), yi k, yr 38]) (M' := M) (N' := N) rfl ?_
      refine r_irem f_35_28 (by omega) (by omega) ?_
      refine r_icmp_ne (pc := 29) f_35_29 (by omega) (by omega) (fun h29 => ?_) (fun h29 => ?_)
      · refine r_run 1 (pc' := 39) (ls' := [some (yr 33), some (yr 25), some (yi n), some (yi w), some (yi k), none]) (st' := [yi 999, yi k, yr 38]) (M' := M) (N' := N) rfl ?_
        refine r_iast (n := 36) f_35_39 (by decide) (by decide) (by decide) (by omega) ?_
        refine r_run 2 (pc' := 3) (ls' := [some (yr 33), some (yr 25), some (yi n), some (yi w), some (yi (k + 1)), none]) (st' := []) (M' := (yu M 38 k 999)) (N' := N) rfl ?_
        rw [yu_row]
        refine ih (by omega) (by omega) (fun i i0 i1 => ?_) (fun R hR => ?_)
        · rw [yrow_at]
          by_cases hc : i = k
          · rw [hc, up_at, if_neg h29]
          · rw [up_ne hc]; exact hr i i0 (by omega)
        · rw [yrow_row]
          exact kk R hR
      · refine r_run 2 (pc' := 39) (ls' := [some (yr 33), some (yr 25), some (yi n), some (yi w), some (yi k), none]) (st' := [yi 0, yi k, yr 38]) (M' := M) (N' := N) rfl ?_
        refine r_iast (n := 36) f_35_39 (by decide) (by decide) (by decide) (by omega) ?_
        refine r_run 2 (pc' := 3) (ls' := [some (yr 33), some (yr 25), some (yi n), some (yi w), some (yi (k + 1)), none]) (st' := []) (M' := (yu M 38 k 0)) (N' := N) rfl ?_
        rw [yu_row]
        refine ih (by omega) (by omega) (fun i i0 i1 => ?_) (fun R hR => ?_)
        · rw [yrow_at]
          by_cases hc : i = k
          · rw [hc, up_at, if_pos h29]
          · rw [up_ne hc]; exact hr i i0 (by omega)
        · rw [yrow_row]
          exact kk R hR
/-- a round more, with links: numbers stay so great -/
theorem lk1_rng {L R : Int → Int} {n k : Int} (hL : lkOk L n) (h0 : 0 ≤ k) (h1 : k < n) (h : rng 999 R 36) : rng 999 (lk16 L k R) 36 := by
  have l := hL k h0 h1
  intro i i0 i1
  exact ⟨upmin_ge (upmin_ge (h i i0 i1).1 (fun _ => by omega)) (fun _ => by omega), Int.le_trans upmin_le (Int.le_trans upmin_le (h i i0 i1).2)⟩
theorem c_tie_b {S : XS} {d : Nat} {n w : Int} {N : YM} {Q : Option YV → YM → YM → Prop} {L sk : Int → Int} (hd : 3 ≤ d) (hw : -1 ≤ w ∧ w ≤ 8) (hn : 0 ≤ n ∧ n ≤ 8) (hL : lkOk L n) (hsk : ∀ k, sk k = if k = w then 1 else 0) {j : Nat} : ∀ {k : Int} {M : YM} {l5 : Option YV}, 0 ≤ k → k + j = n → cLk M L n → rng 999 (M 38) 36 → (∀ l5, ry S d 35 120 [some (yr 33), some (yr 25), some (yi n), some (yi w), some (yi n), l5] [] (yrow M 38 (lkF6 L sk j k (M 38))) N Q) → ry S d 35 49 [some (yr 33), some (yr 25), some (yi n), some (yi w), some (yi k), l5] [] M N Q := by
  induction j with
  | zero =>
    intro k M l5 h0 h1 hc hr kk
    refine r_run 2 (pc' := 52) (ls' := [some (yr 33), some (yr 25), some (yi n), some (yi w), some (yi k), l5]) (st' := [yi n, yi k]) (M' := M) (N' := N) rfl ?_
    refine r_icmp_ge (pc := 52) f_35_52 (by omega) (by omega) (fun h52 => ?_) (fun h52 => ?_)
    · have hb : k = n := by omega
      subst hb
      have e : yrow M 38 (lkF6 L sk 0 k (M 38)) = M := yrow_self
      have kk := kk l5
      rw [e] at kk
      exact kk
    · exfalso; omega
  | succ j ih =>
    intro k M l5 h0 h1 hc hr kk
    obtain ⟨l0, l1, l2, l3⟩ := hc k h0 (by omega)
    have g := hL k h0 (by omega)
    have u9 := hr (6 * L (4 * k) + L (4 * k + 1)) (by omega) (by omega)
    refine r_run 2 (pc' := 52) (ls' := [some (yr 33), some (yr 25), some (yi n), some (yi w), some (yi k), l5]) (st' := [yi n, yi k]) (M' := M) (N' := N) rfl ?_
    refine r_icmp_ge (pc := 52) f_35_52 (by omega) (by omega) (fun h52 => ?_) (fun h52 => ?_)
    · exfalso; omega
    · refine r_run 2 (pc' := 58) (ls' := [some (yr 33), some (yr 25), some (yi n), some (yi w), some (yi k), l5]) (st' := [yi w, yi k]) (M' := M) (N' := N) rfl ?_
      refine r_icmp_eq (pc := 58) f_35_58 (by omega) (by omega) (fun h58 => ?_) (fun h58 => ?_)
      · refine r_run 2 (pc' := 49) (ls' := [some (yr 33), some (yr 25), some (yi n), some (yi w), some (yi (k + 1)), l5]) (st' := []) (M' := M) (N' := N) rfl ?_
        refine ih (l5 := l5) (by omega) (by omega) hc hr ?_
        rw [lkF6_no (by rw [hsk, if_pos h58]; decide)] at kk
        exact kk
      · refine r_run 2 (pc' := 64) (ls' := [some (yr 33), some (yr 25), some (yi n), some (yi w), some (yi k), l5]) (st' := [yi k, yr 25]) (M' := M) (N' := N) rfl ?_
        refine r_aald (r := 41 + k) (kd := 100) (n := 8) f_35_64 (by decide) (by decide) (by decide) (by decide) (by omega) (rf_link (by omega)) ?_
        refine r_run 3 (pc' := 70) (ls' := [some (yr 33), some (yr 25), some (yi n), some (yi w), some (yi k), some (yr (41 + k))]) (st' := [yr (41 + k), yr 33]) (M' := M) (N' := N) rfl ?_
        refine r_getf (n := 4) 0 rfl f_35_70 (by decide) (show xFT[0]? = some (0, 0) from rfl) (by decide) (by omega) (yk_link (by omega)) ?_
        refine r_run 3 (pc' := 78) (ls' := [some (yr 33), some (yr 25), some (yi n), some (yi w), some (yi k), some (yr (41 + k))]) (st' := [yr (41 + k), yi ((M (41 + k) 0) * 6), yr 33]) (M' := M) (N' := N) rfl ?_
        refine r_getf (n := 4) 1 rfl f_35_78 (by decide) (show xFT[1]? = some (0, 1) from rfl) (by decide) (by omega) (yk_link (by omega)) ?_
        refine r_run 2 (pc' := 84) (ls' := [some (yr 33), some (yr 25), some (yi n), some (yi w), some (yi k), some (yr (41 + k))]) (st' := [yr (41 + k), yi (((M (41 + k) 0) * 6) + (M (41 + k) 1)), yr 33]) (M' := M) (N' := N) rfl ?_
        refine r_getf (n := 4) 3 rfl f_35_84 (by decide) (show xFT[3]? = some (0, 3) from rfl) (by decide) (by omega) (yk_link (by omega)) ?_
        refine r_virtual (mj := 37) (b := 33) (as := [yi (((M (41 + k) 0) * 6) + (M (41 + k) 1)), yi (M (41 + k) 3)]) (rest := []) f_35_87 (by decide) rfl m_37 (by decide) (by decide) (by decide) rfl rfl (Nat.le_of_ble_eq_true rfl) (by omega) (c_shorten (by omega) (by rw [l0, l1, show L (4 * k) * 6 + L (4 * k + 1) = 6 * L (4 * k) + L (4 * k + 1) by omega]; omega) (by omega)) ?_
        rintro _ M2 _ ⟨rfl, hM2, rfl⟩
        have e2 : ∀ c, c ≠ 38 → M2 c = M c := fun c hc => by rw [← hM2]; exact yrow_ne hc
        have q2 : M2 38 = up (M 38) (6 * L (4 * k) + L (4 * k + 1)) (imin (M 38 (6 * L (4 * k) + L (4 * k + 1))) (L (4 * k + 3))) := by
          rw [← hM2, yrow_at, l0, l1, l3, show L (4 * k) * 6 + L (4 * k + 1) = 6 * L (4 * k) + L (4 * k + 1) by omega]
        have w0 : M2 (41 + k) 0 = L (4 * k) := by rw [e2 _ (by omega)]; exact l0
        have w1 : M2 (41 + k) 1 = L (4 * k + 1) := by rw [e2 _ (by omega)]; exact l1
        have w2 : M2 (41 + k) 2 = L (4 * k + 2) := by rw [e2 _ (by omega)]; exact l2
        have u0 := hr (6 * L (4 * k + 1) + L (4 * k)) (by omega) (by omega)
        have u1 : -999 ≤ M2 38 (6 * L (4 * k + 1) + L (4 * k)) := by rw [q2]; exact upmin_ge u0.1 (fun _ => by omega)
        have u2 : M2 38 (6 * L (4 * k + 1) + L (4 * k)) ≤ 9999 := by rw [q2]; exact Int.le_trans upmin_le u0.2
        refine r_run 2 (pc' := 93) (ls' := [some (yr 33), some (yr 25), some (yi n), some (yi w), some (yi k), some (yr (41 + k))]) (st' := [yr (41 + k), yr 33]) (M' := M2) (N' := N) rfl ?_
        refine r_getf (n := 4) 1 rfl f_35_93 (by decide) (show xFT[1]? = some (0, 1) from rfl) (by decide) (by omega) (yk_link (by omega)) ?_
        refine r_run 3 (pc' := 101) (ls' := [some (yr 33), some (yr 25), some (yi n), some (yi w), some (yi k), some (yr (41 + k))]) (st' := [yr (41 + k), yi ((M2 (41 + k) 1) * 6), yr 33]) (M' := M2) (N' := N) rfl ?_
        refine r_getf (n := 4) 0 rfl f_35_101 (by decide) (show xFT[0]? = some (0, 0) from rfl) (by decide) (by omega) (yk_link (by omega)) ?_
        refine r_run 2 (pc' := 107) (ls' := [some (yr 33), some (yr 25), some (yi n), some (yi w), some (yi k), some (yr (41 + k))]) (st' := [yr (41 + k), yi (((M2 (41 + k) 1) * 6) + (M2 (41 + k) 0)), yr 33]) (M' := M2) (N' := N) rfl ?_
        refine r_getf (n := 4) 2 rfl f_35_107 (by decide) (show xFT[2]? = some (0, 2) from rfl) (by decide) (by omega) (yk_link (by omega)) ?_
        refine r_run 1 (pc' := 111) (ls' := [some (yr 33), some (yr 25), some (yi n), some (yi w), some (yi k), some (yr (41 + k))]) (st' := [yi (-(M2 (41 + k) 2)), yi (((M2 (41 + k) 1) * 6) + (M2 (41 + k) 0)), yr 33]) (M' := M2) (N' := N) rfl ?_
        refine r_virtual (mj := 37) (b := 33) (as := [yi (((M2 (41 + k) 1) * 6) + (M2 (41 + k) 0)), yi (-(M2 (41 + k) 2))]) (rest := []) f_35_111 (by decide) rfl m_37 (by decide) (by decide) (by decide) rfl rfl (Nat.le_of_ble_eq_true rfl) (by omega) (c_shorten (by omega) (by rw [w0, w1, show L (4 * k + 1) * 6 + L (4 * k) = 6 * L (4 * k + 1) + L (4 * k) by omega]; omega) (by omega)) ?_
        rintro _ M3 _ ⟨rfl, hM3, rfl⟩
        refine r_run 2 (pc' := 49) (ls' := [some (yr 33), some (yr 25), some (yi n), some (yi w), some (yi (k + 1)), some (yr (41 + k))]) (st' := []) (M' := M3) (N' := N) rfl ?_
        have e3 : M3 = yrow M 38 (lk16 L k (M 38)) := by
          rw [← hM3, q2, w0, w1, w2, ← hM2, yrow_row, show L (4 * k + 1) * 6 + L (4 * k) = 6 * L (4 * k + 1) + L (4 * k) by omega]
          rfl
        rw [e3]
        refine ih (by omega) (by omega) ?_ ?_ ?_
        · intro i i0 i1
          rw [yrow_ne (by omega)]
          exact hc i i0 i1
        · rw [yrow_at]
          exact lk1_rng hL h0 (by omega) hr
        · rw [lkF6_yes (by rw [hsk, if_neg h58])] at kk
          rw [yrow_at, yrow_row]
          exact kk
theorem c_tie_c {S : XS} {d : Nat} {n w : Int} {N : YM} {Q : Option YV → YM → YM → Prop} {l5 : Option YV} (hd : 4 ≤ d) {j : Nat} : ∀ {y L : Int} {M : YM}, 0 ≤ y → y + j = 6 → 0 ≤ L → L * pw j ≤ 50000000 → rng L (M 38) 36 → ry S d 35 142 [some (yr 33), some (yr 25), some (yi n), some (yi w), some (yi 6), l5] [] (yrow M 38 (fwA6 j y (M 38))) N Q → ry S d 35 123 [some (yr 33), some (yr 25), some (yi n), some (yi w), some (yi y), l5] [] M N Q := by
  induction j with
  | zero =>
    intro y L M h0 h1 hL hB hr kk
    refine r_run 2 (pc' := 127) (ls' := [some (yr 33), some (yr 25), some (yi n), some (yi w), some (yi y), l5]) (st' := [yi 6, yi y]) (M' := M) (N' := N) rfl ?_
    refine r_icmp_ge (pc := 127) f_35_127 (by omega) (by omega) (fun h127 => ?_) (fun h127 => ?_)
    · have hb : y = 6 := by omega
      subst hb
      have e : yrow M 38 (fwA6 0 6 (M 38)) = M := yrow_self
      rw [e] at kk
      exact kk
    · exfalso; omega
  | succ j ih =>
    intro y L M h0 h1 hL hB hr kk
    have g9 := @pw_mul L (j + 1) hL
    refine r_run 2 (pc' := 127) (ls' := [some (yr 33), some (yr 25), some (yi n), some (yi w), some (yi y), l5]) (st' := [yi 6, yi y]) (M' := M) (N' := N) rfl ?_
    refine r_icmp_ge (pc := 127) f_35_127 (by omega) (by omega) (fun h127 => ?_) (fun h127 => ?_)
    · exfalso; omega
    · refine r_run 2 (pc' := 133) (ls' := [some (yr 33), some (yr 25), some (yi n), some (yi w), some (yi y), l5]) (st' := [yi y, yr 33]) (M' := M) (N' := N) rfl ?_
      refine r_virtual (mj := 36) (b := 33) (as := [yi y]) (rest := []) f_35_133 (by decide) rfl m_36 (by decide) (by decide) (by decide) rfl rfl (Nat.le_of_ble_eq_true rfl) (by omega) (c_sab (L := L) (by omega) (by omega) hr) ?_
      rintro _ M2 _ ⟨rfl, hM2, rfl⟩
      refine r_run 2 (pc' := 123) (ls' := [some (yr 33), some (yr 25), some (yi n), some (yi w), some (yi (y + 1)), l5]) (st' := []) (M' := M2) (N' := N) rfl ?_
      rw [← hM2]
      refine ih (L := 6 * L) (by omega) (by omega) (by omega) (by rw [← pw_step]; exact hB) ?_ ?_
      · intro i i0 i1
        rw [yrow_at]
        exact gb6_end (j := 36) ⟨h0, by omega⟩ hL (Int.le_refl 0) rfl (gb6_start ⟨h0, by omega⟩ hL hr) i i0 i1
      · rw [yrow_at, yrow_row]
        exact kk
theorem yu_yu {M : YM} {c k v w : Int} : yu (yu M c k v) c k w = yu M c k w := by
  funext c' k'
  unfold yu
  split <;> rfl
theorem yu_self {M : YM} {c k : Int} : yu M c k (M c k) = M := by
  funext c' k'
  unfold yu
  split
  · rename_i h; rw [h.1, h.2]
  · rfl
theorem c_tie_d {S : XS} {d : Nat} {n w : Int} {N : YM} {l5 : Option YV} {j : Nat} : ∀ {q : Int} {M : YM}, 0 ≤ q → q + j = 6 → (M 33 5 = 0 ∨ M 33 5 = 1) → (∀ i, 0 ≤ i → i < 36 → -50000000 ≤ M 38 i ∧ M 38 i ≤ 9999) → ry S d 35 150 [some (yr 33), some (yr 25), some (yi n), some (yi w), some (yi q), l5] [] M N (fun r M' N' => none = r ∧ (∃ v, yu M 33 5 v = M' ∧ ((v = 1 ∧ M 33 5 = 1 ∧ ∀ i, q ≤ i → i < 6 → 0 ≤ M 38 (6 * i + i)) ∨ (v = 0 ∧ (M 33 5 = 0 ∨ ∃ i, q ≤ i ∧ i < 6 ∧ M 38 (6 * i + i) < 0)))) ∧ N = N') := by
  induction j with
  | zero =>
    intro q M h0 h1 h5 hr
    refine r_run 2 (pc' := 154) (ls' := [some (yr 33), some (yr 25), some (yi n), some (yi w), some (yi q), l5]) (st' := [yi 6, yi q]) (M' := M) (N' := N) rfl ?_
    refine r_icmp_ge (pc := 154) f_35_154 (by omega) (by omega) (fun h154 => ?_) (fun h154 => ?_)
    · refine r_vret m_35 rfl f_35_195 ?_
      refine ⟨rfl, ⟨M 33 5, yu_self, ?_⟩, rfl⟩
      rcases h5 with h5 | h5
      · exact Or.inr ⟨h5, Or.inl h5⟩
      · exact Or.inl ⟨h5, h5, fun i i0 i1 => by omega⟩
    · exfalso; omega
  | succ j ih =>
    intro q M h0 h1 h5 hr
    refine r_run 2 (pc' := 154) (ls' := [some (yr 33), some (yr 25), some (yi n), some (yi w), some (yi q), l5]) (st' := [yi 6, yi q]) (M' := M) (N' := N) rfl ?_
    refine r_icmp_ge (pc := 154) f_35_154 (by omega) (by omega) (fun h154 => ?_) (fun h154 => ?_)
    · exfalso; omega
    · refine r_run 3 (pc' := 162) (ls' := [some (yr 33), some (yr 25), some (yi n), some (yi w), some (yi q), l5]) (st' := [yi (M 33 5), yr 33]) (M' := M) (N' := N) rfl ?_
      refine r_if_eq (pc := 162) f_35_162 (by omega) (fun h162 => ?_) (fun h162 => ?_)
      · refine r_run 1 (pc' := 186) (ls' := [some (yr 33), some (yr 25), some (yi n), some (yi w), some (yi q), l5]) (st' := [yi 0, yr 33]) (M' := M) (N' := N) rfl ?_
        refine r_putf (n := 6) 5 rfl f_35_186 (show xFT[25]? = some (4, 5) from rfl) (Or.inr ⟨by decide, (by omega)⟩) (by decide) (by decide) ?_
        refine r_run 2 (pc' := 150) (ls' := [some (yr 33), some (yr 25), some (yi n), some (yi w), some (yi (q + 1)), l5]) (st' := []) (M' := (yu M 33 5 0)) (N' := N) rfl ?_
        refine r_post (ih (M := yu M 33 5 0) (by omega) (by omega) (by rw [yu_at]; omega) (fun i i0 i1 => by rw [yu_ne (by omega)]; exact hr i i0 i1)) ?_
        rintro _ _ _ ⟨rfl, ⟨v, rfl, hv⟩, rfl⟩
        refine ⟨rfl, ⟨v, by rw [yu_yu], ?_⟩, rfl⟩
        rw [yu_at] at hv
        simp only [yu_ne (Or.inl (show (38 : Int) ≠ 33 by decide))] at hv
        rcases hv with ⟨v1, v2, v3⟩ | ⟨v1, v2⟩
        · omega
        · exact Or.inr ⟨v1, Or.inl h162⟩
      · refine r_run 7 (pc' := 177) (ls' := [some (yr 33), some (yr 25), some (yi n), some (yi w), some (yi q), l5]) (st' := [yi ((q * 6) + q), yr 38, yr 33]) (M' := M) (N' := N) rfl ?_
        refine r_iald (n := 36) f_35_177 (by decide) (by decide) (by decide) (by omega) ?_
        refine r_if_lt (pc := 178) f_35_178 (by have := hr (q * 6 + q) (by omega) (by omega); omega) (fun h178 => ?_) (fun h178 => ?_)
        · refine r_run 1 (pc' := 186) (ls' := [some (yr 33), some (yr 25), some (yi n), some (yi w), some (yi q), l5]) (st' := [yi 0, yr 33]) (M' := M) (N' := N) rfl ?_
          refine r_putf (n := 6) 5 rfl f_35_186 (show xFT[25]? = some (4, 5) from rfl) (Or.inr ⟨by decide, (by omega)⟩) (by decide) (by decide) ?_
          refine r_run 2 (pc' := 150) (ls' := [some (yr 33), some (yr 25), some (yi n), some (yi w), some (yi (q + 1)), l5]) (st' := []) (M' := (yu M 33 5 0)) (N' := N) rfl ?_
          refine r_post (ih (M := yu M 33 5 0) (by omega) (by omega) (by rw [yu_at]; omega) (fun i i0 i1 => by rw [yu_ne (by omega)]; exact hr i i0 i1)) ?_
          rintro _ _ _ ⟨rfl, ⟨v, rfl, hv⟩, rfl⟩
          refine ⟨rfl, ⟨v, by rw [yu_yu], ?_⟩, rfl⟩
          rw [yu_at] at hv
          simp only [yu_ne (Or.inl (show (38 : Int) ≠ 33 by decide))] at hv
          rcases hv with ⟨v1, v2, v3⟩ | ⟨v1, v2⟩
          · omega
          · exact Or.inr ⟨v1, Or.inr ⟨q, Int.le_refl _, by omega, by rw [show 6 * q + q = q * 6 + q by omega]; exact h178⟩⟩
        · refine r_run 2 (pc' := 186) (ls' := [some (yr 33), some (yr 25), some (yi n), some (yi w), some (yi q), l5]) (st' := [yi 1, yr 33]) (M' := M) (N' := N) rfl ?_
          refine r_putf (n := 6) 5 rfl f_35_186 (show xFT[25]? = some (4, 5) from rfl) (Or.inr ⟨by decide, (by omega)⟩) (by decide) (by decide) ?_
          refine r_run 2 (pc' := 150) (ls' := [some (yr 33), some (yr 25), some (yi n), some (yi w), some (yi (q + 1)), l5]) (st' := []) (M' := (yu M 33 5 1)) (N' := N) rfl ?_
          refine r_post (ih (M := yu M 33 5 1) (by omega) (by omega) (by rw [yu_at]; omega) (fun i i0 i1 => by rw [yu_ne (by omega)]; exact hr i i0 i1)) ?_
          rintro _ _ _ ⟨rfl, ⟨v, rfl, hv⟩, rfl⟩
          refine ⟨rfl, ⟨v, by rw [yu_yu], ?_⟩, rfl⟩
          rw [yu_at] at hv
          simp only [yu_ne (Or.inl (show (38 : Int) ≠ 33 by decide))] at hv
          rcases hv with ⟨v1, v2, v3⟩ | ⟨v1, v2⟩
          · refine Or.inl ⟨v1, by omega, fun i i0 i1 => ?_⟩
            by_cases hi : i = q
            · rw [hi, show 6 * q + q = q * 6 + q by omega]; exact h178
            · exact v3 i (by omega) i1
          · refine Or.inr ⟨v1, ?_⟩
            rcases v2 with v2 | ⟨i, i0, i1, i2⟩
            · omega
            · exact Or.inr ⟨i, by omega, i1, i2⟩
/-- what ties tell: how far each can be ahead by links and 0 .. 999 alone -/
def tieOk (L sk : Int → Int) (n : Int) (R : Int → Int) (v : Int) : Prop := (v = 1 ∧ cl 6 (fun a b => R (6 * a + b)) ∧ (∀ j, 0 ≤ j → j < 36 → R j ≤ 999) ∧ lkC L sk n (fun a b => R (6 * a + b)) ∧ ∀ X, cl 6 X → (∀ a b, 0 ≤ a → a < 6 → 0 ≤ b → b < 6 → X a b ≤ 999) → lkC L sk n X → ∀ a b, 0 ≤ a → a < 6 → 0 ≤ b → b < 6 → X a b ≤ R (6 * a + b)) ∨ (v = 0 ∧ ¬ ∃ X, cl 6 X ∧ (∀ a b, 0 ≤ a → a < 6 → 0 ≤ b → b < 6 → X a b ≤ 999) ∧ lkC L sk n X)
theorem tie_ok {L sk R : Int → Int} {n v : Int} (hn : 0 ≤ n) (hL : lkOk L n) (hR : tie0 R) (hv : (v = 1 ∧ ∀ i, 0 ≤ i → i < 6 → 0 ≤ fwA6 6 0 (lkF6 L sk n.toNat 0 R) (6 * i + i)) ∨ (v = 0 ∧ ∃ i, 0 ≤ i ∧ i < 6 ∧ fwA6 6 0 (lkF6 L sk n.toNat 0 R) (6 * i + i) < 0)) : tieOk L sk n (fwA6 6 0 (lkF6 L sk n.toNat 0 R)) v := by
  have h9 : ∀ j, 0 ≤ j → j < 36 → R j ≤ 999 := fun j j0 j1 => by rw [hR j j0 j1]; split <;> omega
  have hX0 : ∀ X, cl 6 X → (∀ a b, 0 ≤ a → a < 6 → 0 ≤ b → b < 6 → X a b ≤ 999) → ∀ a b, 0 ≤ a → a < 6 → 0 ≤ b → b < 6 → X a b ≤ R (6 * a + b) := fun X h g a b a0 a1 b0 b1 => by
    rw [hR _ (by omega) (by omega)]
    split
    · rw [show b = a by omega, h.1 a a0 a1]; exact Int.le_refl _
    · exact g a b a0 a1 b0 b1
  rcases hv with ⟨hv, hp⟩ | ⟨hv, i, i0, i1, hi⟩
  · refine Or.inl ⟨hv, ?_, fun j j0 j1 => Int.le_trans (fwA6_le _) (Int.le_trans lkF6_le (h9 j j0 j1)), fun k k0 k1 k2 => ?_, fun X h g l => ?_⟩
    · rcases fwA6_main (R := lkF6 L sk n.toNat 0 R) (fun q q0 q1 => Int.le_trans lkF6_le (by rw [hR _ (by omega) (by omega), if_pos (by omega)]; exact Int.le_refl _)) with ⟨q, q0, q1, q2⟩ | h
      · have := hp q q0 q1; omega
      · exact h
    · have := lkF6_has (L := L) (sk := sk) (j := n.toNat) (k := 0) (R := R) k k0 (by omega) k2
      exact ⟨Int.le_trans (fwA6_le _) this.1, Int.le_trans (fwA6_le _) this.2⟩
    · exact fwA6_sound h (Int.le_refl 0) (by decide) (lkF6_sound hL l (Int.le_refl 0) (by omega) (hX0 X h g))
  · refine Or.inr ⟨hv, ?_⟩
    rintro ⟨X, h, g, l⟩
    exact bad6_no ⟨i, i0, i1, hi⟩ ⟨X, h, fwA6_sound h (Int.le_refl 0) (by decide) (lkF6_sound hL l (Int.le_refl 0) (by omega) (hX0 X h g))⟩
theorem fwA6_rng' {j : Nat} : ∀ {y L : Int} {R : Int → Int}, 0 ≤ y → y + j = 6 → 0 ≤ L → rng L R 36 → rng (L * pw j) (fwA6 j y R) 36 := by
  induction j with
  | zero => intro y L R _ _ _ h; rw [show L * pw 0 = L from Int.mul_one L]; exact h
  | succ j ih =>
    intro y L R h0 h1 hL h
    rw [pw_step]
    exact ih (by omega) (by omega) (by omega) (fun i i0 i1 => gb6_end (j := 36) ⟨h0, by omega⟩ hL (Int.le_refl 0) rfl (gb6_start ⟨h0, by omega⟩ hL h) i i0 i1)
theorem fwA6_rng {R : Int → Int} (h : rng 999 R 36) : ∀ i, 0 ≤ i → i < 36 → -50000000 ≤ fwA6 6 0 R i ∧ fwA6 6 0 R i ≤ 9999 := fun i i0 i1 => by
  have := fwA6_rng' (j := 6) (Int.le_refl 0) rfl (by decide) h i i0 i1
  have e : (999 : Int) * pw 6 = 46609344 := by decide
  rw [e] at this
  omega
theorem c_tie {S : XS} {M N : YM} {n w : Int} {L sk : Int → Int} (hw : -1 ≤ w ∧ w ≤ 8) (hn : 0 ≤ n ∧ n ≤ 8) (hL : lkOk L n) (hsk : ∀ k, sk k = if k = w then 1 else 0) (hc : cLk M L n) : rm S 4 35 [yr 33, yr 25, yi n, yi w] M N (fun r M' N' => none = r ∧ (∃ R v, yu (yrow M 38 R) 33 5 v = M' ∧ tieOk L sk n R v ∧ (∀ i, 0 ≤ i → i < 36 → -50000000 ≤ R i ∧ R i ≤ 9999) ∧ (v = 0 ∨ v = 1)) ∧ N = N') := by
  refine ⟨xe_35, m_35, Nat.le_of_ble_eq_true rfl, ?_⟩
  refine r_run 2 (pc' := 3) (ls' := [some (yr 33), some (yr 25), some (yi n), some (yi w), some (yi 0), none]) (st' := []) (M' := M) (N' := N) rfl ?_
  refine c_tie_a (j := 36) (Int.le_refl 0) rfl (fun i i0 i1 => by omega) (fun R hR => ?_)
  have hR0 : rng 999 R 36 := fun i i0 i1 => by rw [hR i i0 i1]; split <;> omega
  refine r_run 2 (pc' := 49) (ls' := [some (yr 33), some (yr 25), some (yi n), some (yi w), some (yi 0), none]) (st' := []) (M' := yrow M 38 R) (N' := N) rfl ?_
  refine c_tie_b (L := L) (sk := sk) (j := n.toNat) (by omega) hw hn hL hsk (Int.le_refl 0) (by omega) (fun i i0 i1 => by rw [yrow_ne (by omega)]; exact hc i i0 i1) (by rw [yrow_at]; exact hR0) (fun l5 => ?_)
  rw [yrow_at, yrow_row]
  have hR1 : rng 999 (lkF6 L sk n.toNat 0 R) 36 := fun i i0 i1 => ⟨lkF6_ge hL (Int.le_refl _) (Int.le_refl 0) (by omega) (fun i i0 i1 => (hR0 i i0 i1).1) i i0 i1, Int.le_trans lkF6_le (hR0 i i0 i1).2⟩
  refine r_run 2 (pc' := 123) (ls' := [some (yr 33), some (yr 25), some (yi n), some (yi w), some (yi 0), l5]) (st' := []) (M' := yrow M 38 (lkF6 L sk n.toNat 0 R)) (N' := N) rfl ?_
  refine c_tie_c (j := 6) (L := 999) (by omega) (Int.le_refl 0) rfl (by decide) (by decide) (by rw [yrow_at]; exact hR1) ?_
  rw [yrow_at, yrow_row]
  refine r_run 2 (pc' := 144) (ls' := [some (yr 33), some (yr 25), some (yi n), some (yi w), some (yi 6), l5]) (st' := [yi 1, yr 33]) (M' := yrow M 38 (fwA6 6 0 (lkF6 L sk n.toNat 0 R))) (N' := N) rfl ?_
  refine r_putf (n := 6) 5 rfl f_35_144 (show xFT[25]? = some (4, 5) from rfl) (Or.inr ⟨by decide, by omega⟩) (by decide) (by decide) ?_
  refine r_run 2 (pc' := 150) (ls' := [some (yr 33), some (yr 25), some (yi n), some (yi w), some (yi 0), l5]) (st' := []) (M' := yu (yrow M 38 (fwA6 6 0 (lkF6 L sk n.toNat 0 R))) 33 5 1) (N' := N) rfl ?_
  have hR2 : ∀ i, 0 ≤ i → i < 36 → -50000000 ≤ fwA6 6 0 (lkF6 L sk n.toNat 0 R) i ∧ fwA6 6 0 (lkF6 L sk n.toNat 0 R) i ≤ 9999 := fwA6_rng hR1
  refine r_post (c_tie_d (j := 6) (Int.le_refl 0) rfl (by rw [yu_at]; omega) (fun i i0 i1 => by rw [yu_ne (by omega), yrow_at]; exact hR2 i i0 i1)) ?_
  rintro _ _ _ ⟨rfl, ⟨v, rfl, hv⟩, rfl⟩
  rw [yu_at] at hv
  simp only [yu_ne (Or.inl (show (38 : Int) ≠ 33 by decide)), yrow_at] at hv
  refine ⟨rfl, ⟨_, v, by rw [yu_yu], ?_, hR2, by omega⟩, rfl⟩
  exact tie_ok hn.1 hL hR (by
    rcases hv with ⟨v1, -, v3⟩ | ⟨v1, v2⟩
    · exact Or.inl ⟨v1, v3⟩
    · rcases v2 with v2 | v2
      · omega
      · exact Or.inr ⟨v1, v2⟩)
