def ini7 (R : Int → Int) : Prop := ∀ i, 0 ≤ i → i < 49 → R i = if i / 7 = i % 7 then 0 else 9999
def me1 (B E : Int → Int) (q : Int) (R : Int → Int) : Int → Int := up (up R (42 + q) (imin (R (42 + q)) (E q))) (7 * q + 6) (imin (up R (42 + q) (imin (R (42 + q)) (E q)) (7 * q + 6)) (-B q))
def meF (B E : Int → Int) : Nat → Int → (Int → Int) → Int → Int
  | 0, _, R => R
  | j + 1, q, R => meF B E j (q + 1) (me1 B E q R)
theorem meF_le {B E : Int → Int} {j : Nat} : ∀ {q : Int} {R : Int → Int} {i : Int}, meF B E j q R i ≤ R i := by
  induction j with
  | zero => intro q R i; exact Int.le_refl _
  | succ j ih => intro q R i; exact Int.le_trans ih (Int.le_trans upmin_le upmin_le)
theorem meF_ge {B E : Int → Int} (hB : ∀ q, in6 q → B q ≤ 1001) (hE : ∀ q, in6 q → -2 ≤ E q) {j : Nat} : ∀ {q : Int} {R : Int → Int}, 0 ≤ q → q + j = 6 → (∀ i, 0 ≤ i → i < 49 → -1001 ≤ R i) → ∀ i, 0 ≤ i → i < 49 → -1001 ≤ meF B E j q R i := by
  induction j with
  | zero => intro q R _ _ h; exact h
  | succ j ih =>
    intro q R h0 h1 h
    have b := hB q ⟨h0, by omega⟩
    have e := hE q ⟨h0, by omega⟩
    exact ih (by omega) (by omega) fun i i0 i1 => upmin_ge (upmin_ge (h i i0 i1) (fun _ => by omega)) (fun _ => by omega)
theorem meF_sound {B E : Int → Int} {X : Int → Int → Int} (hX : ∀ q, in6 q → X 6 q ≤ E q ∧ X q 6 ≤ -B q) {j : Nat} : ∀ {q : Int} {R : Int → Int}, 0 ≤ q → q + j = 6 → (∀ a b, 0 ≤ a → a < 7 → 0 ≤ b → b < 7 → X a b ≤ R (7 * a + b)) → ∀ a b, 0 ≤ a → a < 7 → 0 ≤ b → b < 7 → X a b ≤ meF B E j q R (7 * a + b) := by
  induction j with
  | zero => intro q R _ _ h; exact h
  | succ j ih =>
    intro q R h0 h1 h
    have x := hX q ⟨h0, by omega⟩
    refine ih (by omega) (by omega) fun a b a0 a1 b0 b1 => upmin_ge (upmin_ge (h a b a0 a1 b0 b1) (fun e => ?_)) (fun e => ?_)
    · rw [show a = 6 by omega, show b = q by omega]; exact x.1
    · rw [show a = q by omega, show b = 6 by omega]; exact x.2
theorem meF_has {B E : Int → Int} {j : Nat} : ∀ {q : Int} {R : Int → Int}, ∀ i, q ≤ i → i < q + j → meF B E j q R (42 + i) ≤ E i ∧ meF B E j q R (7 * i + 6) ≤ -B i := by
  induction j with
  | zero => intro q R i i0 i1; omega
  | succ j ih =>
    intro q R i i0 i1
    by_cases h : i = q
    · subst h
      exact ⟨Int.le_trans (show meF B E (j + 1) i R (42 + i) ≤ me1 B E i R (42 + i) from meF_le) (Int.le_trans upmin_le upmin_v), Int.le_trans (show meF B E (j + 1) i R (7 * i + 6) ≤ me1 B E i R (7 * i + 6) from meF_le) upmin_v⟩
    · exact ih i (by omega) (by omega)
theorem fwA7_rng' {j : Nat} : ∀ {y L : Int} {R : Int → Int}, 0 ≤ y → y + j = 7 → 0 ≤ L → rng L R 49 → rng (L * pw j) (fwA7 j y R) 49 := by
  induction j with
  | zero => intro y L R _ _ _ h; rw [show L * pw 0 = L from Int.mul_one L]; exact h
  | succ j ih =>
    intro y L R h0 h1 hL h
    rw [pw_step]
    exact ih (by omega) (by omega) (by omega) (fun i i0 i1 => gb7_end (j := 49) ⟨h0, by omega⟩ hL (Int.le_refl 0) rfl (gb7_start ⟨h0, by omega⟩ hL h) i i0 i1)
theorem fwA7_rng {R : Int → Int} (h : rng 1001 R 49) : ∀ i, 0 ≤ i → i < 49 → -300000000 ≤ fwA7 7 0 R i ∧ fwA7 7 0 R i ≤ 9999 := fun i i0 i1 => by
  have := fwA7_rng' (j := 7) (Int.le_refl 0) rfl (by decide) h i i0 i1
  have e : (1001 : Int) * pw 7 = 280215936 := by decide
  rw [e] at this
  omega
theorem ca_ok {B E L sk R : Int → Int} {n v : Int} (hn : 0 ≤ n) (hL : lkOk L n) (hB : ∀ q, in6 q → 0 ≤ B q) (hE : ∀ q, in6 q → E q ≤ 999) (hR : ini7 R) (hv : (v = 1 ∧ ∀ i, 0 ≤ i → i < 7 → 0 ≤ fwA7 7 0 (lkF7 L sk n.toNat 0 (meF B E 6 0 R)) (7 * i + i)) ∨ (v = 0 ∧ ∃ i, 0 ≤ i ∧ i < 7 ∧ fwA7 7 0 (lkF7 L sk n.toNat 0 (meF B E 6 0 R)) (7 * i + i) < 0)) :
    (v = 1 ∧ spK B E L sk n (fun a b => fwA7 7 0 (lkF7 L sk n.toNat 0 (meF B E 6 0 R)) (7 * a + b))) ∨ (v = 0 ∧ ¬ spC B E L sk n) := by
  have hX0 : ∀ X, cl 7 X → cst B E L sk n X → ∀ a b, 0 ≤ a → a < 7 → 0 ≤ b → b < 7 → X a b ≤ R (7 * a + b) := fun X h g a b a0 a1 b0 b1 => by
    rw [hR _ (by omega) (by omega)]
    split
    · rw [show b = a by omega, h.1 a a0 a1]; exact Int.le_refl _
    · have k := h.2 a b 6 a0 a1 b0 b1 (by omega) (by omega)
      have h6 := h.1 6 (by omega) (by omega)
      have z1 : X a 6 ≤ 0 := by
        by_cases ha : a = 6
        · rw [ha, h6]; exact Int.le_refl _
        · have := (g.1 a ⟨a0, by omega⟩).2
          have := hB a ⟨a0, by omega⟩
          omega
      have z2 : X 6 b ≤ 999 := by
        by_cases hb : b = 6
        · rw [hb, h6]; decide
        · have := (g.1 b ⟨b0, by omega⟩).1
          have := hE b ⟨b0, by omega⟩
          omega
      omega
  have hX1 : ∀ X, cl 7 X → cst B E L sk n X → ∀ a b, 0 ≤ a → a < 7 → 0 ≤ b → b < 7 → X a b ≤ fwA7 7 0 (lkF7 L sk n.toNat 0 (meF B E 6 0 R)) (7 * a + b) := fun X h g =>
    fwA7_sound h (Int.le_refl 0) (by decide) (lkF7_sound hL g.2 (Int.le_refl 0) (by omega) (meF_sound g.1 (Int.le_refl 0) rfl (hX0 X h g)))
  rcases hv with ⟨hv, hp⟩ | ⟨hv, i, i0, i1, hi⟩
  · refine Or.inl ⟨hv, ?_, ⟨fun q hq => ?_, fun k k0 k1 k2 => ?_⟩, hX1⟩
    · rcases fwA7_main (R := lkF7 L sk n.toNat 0 (meF B E 6 0 R)) (fun q q0 q1 => Int.le_trans lkF7_le (Int.le_trans meF_le (by rw [hR _ (by omega) (by omega), if_pos (by omega)]; exact Int.le_refl _))) with ⟨q, q0, q1, q2⟩ | h
      · have := hp q q0 q1; omega
      · exact h
    · have := meF_has (B := B) (E := E) (j := 6) (q := 0) (R := R) q hq.1 (by omega)
      exact ⟨Int.le_trans (fwA7_le _) (Int.le_trans lkF7_le this.1), Int.le_trans (fwA7_le _) (Int.le_trans lkF7_le this.2)⟩
    · have := lkF7_has (L := L) (sk := sk) (j := n.toNat) (k := 0) (R := meF B E 6 0 R) k k0 (by omega) k2
      exact ⟨Int.le_trans (fwA7_le _) this.1, Int.le_trans (fwA7_le _) this.2⟩
  · refine Or.inr ⟨hv, ?_⟩
    rintro ⟨X, h, g⟩
    exact bad7_no ⟨i, i0, i1, hi⟩ ⟨X, h, hX1 X h g⟩
theorem m_cb_a {S : XS} {d : Nat} {w : Int} {N : YM} {Q : Option YV → YM → YM → Prop} {j : Nat} : ∀ {k : Int} {M : YM}, 0 ≤ k → k + j = 49 → (∀ i, 0 ≤ i → i < k → M 92 i = if i / 7 = i % 7 then 0 else 9999) → (∀ R, ini7 R → ry S d 147 38 [some (yr 75), some (yi w), some (yi 49), none] [] (yrow M 92 R) N Q) → ry S d 147 2 [some (yr 75), some (yi w), some (yi k), none] [] M N Q := by
  induction j with
  | zero =>
    intro k M h0 h1 hr kk
    refine r_run 2 (pc' := 5) (ls' := [some (yr 75), some (yi w), some (yi k), none]) (st' := [yi 49, yi k]) (M' := M) (N' := N) rfl ?_
    refine r_icmp_ge (pc := 5) f_147_5 (by omega) (by omega) (fun h5 => ?_) (fun h5 => ?_)
    · have hb : k = 49 := by omega
      subst hb
      have := kk (M 92) (fun i i0 i1 => hr i i0 i1)
      rw [yrow_self] at this
      exact this
    · exfalso; omega
  | succ j ih =>
    intro k M h0 h1 hr kk
    refine r_run 2 (pc' := 5) (ls' := [some (yr 75), some (yi w), some (yi k), none]) (st' := [yi 49, yi k]) (M' := M) (N' := N) rfl ?_
    refine r_icmp_ge (pc := 5) f_147_5 (by omega) (by omega) (fun h5 => ?_) (fun h5 => ?_)
    · exfalso; omega
    · refine r_run 5 (pc' := 16) (ls' := [some (yr 75), some (yi w), some (yi k), none]) (st' := [yi 7, yi k, yi k, yr 92]) (M' := M) (N' := N) rfl ?_
      refine r_idiv f_147_16 (by omega) (by omega) ?_
      refine r_run 2 (pc' := 20) (ls' := [some (yr 75), some (yi w), some (yi k), none]) (st' := [yi 7, yi k, yi (k / 7), yi k, yr 92]) (M' := M) (N' := N) rfl ?_
      refine r_irem f_147_20 (by omega) (by omega) ?_
      refine r_icmp_ne (pc := 21) f_147_21 (by omega) (by omega) (fun h21 => ?_) (fun h21 => ?_)
      · refine r_run 1 (pc' := 31) (ls' := [some (yr 75), some (yi w), some (yi k), none]) (st' := [yi 9999, yi k, yr 92]) (M' := M) (N' := N) rfl ?_
        refine r_iast (n := 49) f_147_31 (by decide) (by decide) (by decide) (by omega) ?_
        refine r_run 2 (pc' := 2) (ls' := [some (yr 75), some (yi w), some (yi (k + 1)), none]) (st' := []) (M' := (yu M 92 k 9999)) (N' := N) rfl ?_
        rw [yu_row]
        refine ih (by omega) (by omega) (fun i i0 i1 => ?_) (fun R hR => ?_)
        · rw [yrow_at]
          by_cases hc : i = k
          · rw [hc, up_at, if_neg h21]
          · rw [up_ne hc]; exact hr i i0 (by omega)
        · rw [yrow_row]
          exact kk R hR
      · refine r_run 2 (pc' := 31) (ls' := [some (yr 75), some (yi w), some (yi k), none]) (st' := [yi 0, yi k, yr 92]) (M' := M) (N' := N) rfl ?_
        refine r_iast (n := 49) f_147_31 (by decide) (by decide) (by decide) (by omega) ?_
        refine r_run 2 (pc' := 2) (ls' := [some (yr 75), some (yi w), some (yi (k + 1)), none]) (st' := []) (M' := (yu M 92 k 0)) (N' := N) rfl ?_
        rw [yu_row]
        refine ih (by omega) (by omega) (fun i i0 i1 => ?_) (fun R hR => ?_)
        · rw [yrow_at]
          by_cases hc : i = k
          · rw [hc, up_at, if_pos h21]
          · rw [up_ne hc]; exact hr i i0 (by omega)
        · rw [yrow_row]
          exact kk R hR
theorem m_cb_b {S : XS} {d : Nat} {w : Int} {N : YM} {Q : Option YV → YM → YM → Prop} (hd : 1 ≤ d) {j : Nat} : ∀ {k : Int} {M : YM}, 0 ≤ k → k + j = 6 → (∀ q, in6 q → (0 ≤ M 90 q ∧ M 90 q ≤ 1001) ∧ (-2 ≤ M 91 q ∧ M 91 q ≤ 999)) → rng 1001 (M 92) 49 → ry S d 147 79 [some (yr 75), some (yi w), some (yi 6), none] [] (yrow M 92 (meF (M 90) (M 91) j k (M 92))) N Q → ry S d 147 40 [some (yr 75), some (yi w), some (yi k), none] [] M N Q := by
  induction j with
  | zero =>
    intro k M h0 h1 hb hr kk
    refine r_run 2 (pc' := 43) (ls' := [some (yr 75), some (yi w), some (yi k), none]) (st' := [yi 6, yi k]) (M' := M) (N' := N) rfl ?_
    refine r_icmp_ge (pc := 43) f_147_43 (by omega) (by omega) (fun h43 => ?_) (fun h43 => ?_)
    · have hb : k = 6 := by omega
      subst hb
      have e : yrow M 92 (meF (M 90) (M 91) 0 6 (M 92)) = M := yrow_self
      rw [e] at kk
      exact kk
    · exfalso; omega
  | succ j ih =>
    intro k M h0 h1 hb hr kk
    have b0 := hb k ⟨h0, by omega⟩
    have u0 := hr (7 * k + 6) (by omega) (by omega)
    have u9 := hr (42 + k) (by omega) (by omega)
    refine r_run 2 (pc' := 43) (ls' := [some (yr 75), some (yi w), some (yi k), none]) (st' := [yi 6, yi k]) (M' := M) (N' := N) rfl ?_
    refine r_icmp_ge (pc := 43) f_147_43 (by omega) (by omega) (fun h43 => ?_) (fun h43 => ?_)
    · exfalso; omega
    · refine r_run 6 (pc' := 55) (ls' := [some (yr 75), some (yi w), some (yi k), none]) (st' := [yi k, yr 91, yi k, yi 6, yr 75]) (M' := M) (N' := N) rfl ?_
      refine r_iald (n := 6) f_147_55 (by decide) (by decide) (by decide) (by omega) ?_
      refine r_virtual (mj := 146) (b := 75) (as := [yi 6, yi k, yi (M 91 k)]) (rest := []) f_147_56 (by decide) rfl m_146 (by decide) (by decide) (by decide) rfl rfl (Nat.le_of_ble_eq_true rfl) (by omega) (m_cuts (by omega) (by omega) (by rw [show 7 * 6 + k = 42 + k by omega]; omega) (by omega)) ?_
      rintro _ M2 _ ⟨rfl, hM2, rfl⟩
      have e2 : ∀ c, c ≠ 92 → M2 c = M c := fun c hc => by rw [← hM2]; exact yrow_ne hc
      have q2 : M2 92 = up (M 92) (42 + k) (imin (M 92 (42 + k)) (M 91 k)) := by
        rw [← hM2, yrow_at, show 7 * 6 + k = 42 + k by omega]
      have w0 : M2 90 k = M 90 k := by rw [e2 _ (by omega)]
      have u1 : -1001 ≤ M2 92 (7 * k + 6) := by rw [q2]; exact upmin_ge u0.1 (fun _ => by omega)
      have u2 : M2 92 (7 * k + 6) ≤ 9999 := by rw [q2]; exact Int.le_trans upmin_le u0.2
      refine r_run 6 (pc' := 68) (ls' := [some (yr 75), some (yi w), some (yi k), none]) (st' := [yi k, yr 90, yi 6, yi k, yr 75]) (M' := M2) (N' := N) rfl ?_
      refine r_iald (n := 6) f_147_68 (by decide) (by decide) (by decide) (by omega) ?_
      refine r_run 1 (pc' := 70) (ls' := [some (yr 75), some (yi w), some (yi k), none]) (st' := [yi (-(M2 90 k)), yi 6, yi k, yr 75]) (M' := M2) (N' := N) rfl ?_
      refine r_virtual (mj := 146) (b := 75) (as := [yi k, yi 6, yi (-(M2 90 k))]) (rest := []) f_147_70 (by decide) rfl m_146 (by decide) (by decide) (by decide) rfl rfl (Nat.le_of_ble_eq_true rfl) (by omega) (m_cuts (by omega) (by omega) (by omega) (by rw [w0]; omega)) ?_
      rintro _ M3 _ ⟨rfl, hM3, rfl⟩
      refine r_run 2 (pc' := 40) (ls' := [some (yr 75), some (yi w), some (yi (k + 1)), none]) (st' := []) (M' := M3) (N' := N) rfl ?_
      have e3 : M3 = yrow M 92 (me1 (M 90) (M 91) k (M 92)) := by
        rw [← hM3, q2, w0, ← hM2, yrow_row]
        rfl
      rw [e3]
      refine ih (by omega) (by omega) ?_ ?_ ?_
      · rw [yrow_ne (show (90 : Int) ≠ 92 by decide), yrow_ne (show (91 : Int) ≠ 92 by decide)]; exact hb
      · rw [yrow_at]
        intro i i0 i1
        exact ⟨upmin_ge (upmin_ge (hr i i0 i1).1 (fun _ => by omega)) (fun _ => by omega), Int.le_trans upmin_le (Int.le_trans upmin_le (hr i i0 i1).2)⟩
      · rw [yrow_ne (show (90 : Int) ≠ 92 by decide), yrow_ne (show (91 : Int) ≠ 92 by decide), yrow_at, yrow_row]
        exact kk
theorem m_cb_c {S : XS} {d : Nat} {w : Int} {N : YM} {Q : Option YV → YM → YM → Prop} {n : Int} (hd : 1 ≤ d) (hn8 : n ≤ 8) {j : Nat} : ∀ {k : Int} {M : YM}, 0 ≤ k → k + j = n → M 75 2 = n → lkOk (M 77) n → rng 1001 (M 92) 49 → ry S d 147 168 [some (yr 75), some (yi w), some (yi n), none] [] (yrow M 92 (lkF7 (M 77) (bit w) j k (M 92))) N Q → ry S d 147 81 [some (yr 75), some (yi w), some (yi k), none] [] M N Q := by
  induction j with
  | zero =>
    intro k M h0 h1 hn hL hr kk
    refine r_run 3 (pc' := 86) (ls' := [some (yr 75), some (yi w), some (yi k), none]) (st' := [yi (M 75 2), yi k]) (M' := M) (N' := N) rfl ?_
    refine r_icmp_ge (pc := 86) f_147_86 (by omega) (by omega) (fun h86 => ?_) (fun h86 => ?_)
    · have hb : k = n := by omega
      subst hb
      have e : yrow M 92 (lkF7 (M 77) (bit w) 0 k (M 92)) = M := yrow_self
      rw [e] at kk
      exact kk
    · exfalso; omega
  | succ j ih =>
    intro k M h0 h1 hn hL hr kk
    have g := hL k h0 (by omega)
    have u9 := hr (7 * M 77 (4 * k) + M 77 (4 * k + 1)) (by omega) (by omega)
    refine r_run 3 (pc' := 86) (ls' := [some (yr 75), some (yi w), some (yi k), none]) (st' := [yi (M 75 2), yi k]) (M' := M) (N' := N) rfl ?_
    refine r_icmp_ge (pc := 86) f_147_86 (by omega) (by omega) (fun h86 => ?_) (fun h86 => ?_)
    · exfalso; omega
    · refine r_run 5 (pc' := 94) (ls' := [some (yr 75), some (yi w), some (yi k), none]) (st' := [yi ((Int32.ofInt ((Int32.ofInt w >>> (Int32.ofInt k &&& 31)).toInt) &&& Int32.ofInt 1).toInt)]) (M' := M) (N' := N) rfl ?_
      refine r_if_ne (pc := 94) f_147_94 ⟨Int32.le_toInt _, Int32.toInt_lt _⟩ (fun h94 => ?_) (fun h94 => ?_)
      · refine r_run 2 (pc' := 81) (ls' := [some (yr 75), some (yi w), some (yi (k + 1)), none]) (st' := []) (M' := M) (N' := N) rfl ?_
        refine ih (by omega) (by omega) hn hL hr ?_
        rw [lkF7_no (show ¬ bit w k = 0 from h94)] at kk
        exact kk
      · refine r_run 6 (pc' := 105) (ls' := [some (yr 75), some (yi w), some (yi k), none]) (st' := [yi (4 * k), yr 77, yr 75]) (M' := M) (N' := N) rfl ?_
        refine r_iald (n := 32) f_147_105 (by decide) (by decide) (by decide) (by omega) ?_
        refine r_run 7 (pc' := 115) (ls' := [some (yr 75), some (yi w), some (yi k), none]) (st' := [yi ((4 * k) + 1), yr 77, yi (M 77 (4 * k)), yr 75]) (M' := M) (N' := N) rfl ?_
        refine r_iald (n := 32) f_147_115 (by decide) (by decide) (by decide) (by omega) ?_
        refine r_run 7 (pc' := 125) (ls' := [some (yr 75), some (yi w), some (yi k), none]) (st' := [yi ((4 * k) + 3), yr 77, yi (M 77 ((4 * k) + 1)), yi (M 77 (4 * k)), yr 75]) (M' := M) (N' := N) rfl ?_
        refine r_iald (n := 32) f_147_125 (by decide) (by decide) (by decide) (by omega) ?_
        refine r_virtual (mj := 146) (b := 75) (as := [yi (M 77 (4 * k)), yi (M 77 ((4 * k) + 1)), yi (M 77 ((4 * k) + 3))]) (rest := []) f_147_126 (by decide) rfl m_146 (by decide) (by decide) (by decide) rfl rfl (Nat.le_of_ble_eq_true rfl) (by omega) (m_cuts (by omega) (by omega) (by omega) (by omega)) ?_
        rintro _ M2 _ ⟨rfl, hM2, rfl⟩
        have e2 : ∀ c, c ≠ 92 → M2 c = M c := fun c hc => by rw [← hM2]; exact yrow_ne hc
        have q2 : M2 92 = up (M 92) (7 * M 77 (4 * k) + M 77 (4 * k + 1)) (imin (M 92 (7 * M 77 (4 * k) + M 77 (4 * k + 1))) (M 77 (4 * k + 3))) := by
          rw [← hM2, yrow_at]
        have w0 : M2 77 = M 77 := e2 _ (by omega)
        have u0 := hr (7 * M 77 (4 * k + 1) + M 77 (4 * k)) (by omega) (by omega)
        have u1 : -1001 ≤ M2 92 (7 * M 77 (4 * k + 1) + M 77 (4 * k)) := by rw [q2]; exact upmin_ge u0.1 (fun _ => by omega)
        have u2 : M2 92 (7 * M 77 (4 * k + 1) + M 77 (4 * k)) ≤ 9999 := by rw [q2]; exact Int.le_trans upmin_le u0.2
        refine r_run 8 (pc' := 139) (ls' := [some (yr 75), some (yi w), some (yi k), none]) (st' := [yi ((4 * k) + 1), yr 77, yr 75]) (M' := M2) (N' := N) rfl ?_
        refine r_iald (n := 32) f_147_139 (by decide) (by decide) (by decide) (by omega) ?_
        refine r_run 5 (pc' := 147) (ls' := [some (yr 75), some (yi w), some (yi k), none]) (st' := [yi (4 * k), yr 77, yi (M2 77 ((4 * k) + 1)), yr 75]) (M' := M2) (N' := N) rfl ?_
        refine r_iald (n := 32) f_147_147 (by decide) (by decide) (by decide) (by omega) ?_
        refine r_run 7 (pc' := 157) (ls' := [some (yr 75), some (yi w), some (yi k), none]) (st' := [yi ((4 * k) + 2), yr 77, yi (M2 77 (4 * k)), yi (M2 77 ((4 * k) + 1)), yr 75]) (M' := M2) (N' := N) rfl ?_
        refine r_iald (n := 32) f_147_157 (by decide) (by decide) (by decide) (by omega) ?_
        refine r_run 1 (pc' := 159) (ls' := [some (yr 75), some (yi w), some (yi k), none]) (st' := [yi (-(M2 77 ((4 * k) + 2))), yi (M2 77 (4 * k)), yi (M2 77 ((4 * k) + 1)), yr 75]) (M' := M2) (N' := N) rfl ?_
        refine r_virtual (mj := 146) (b := 75) (as := [yi (M2 77 ((4 * k) + 1)), yi (M2 77 (4 * k)), yi (-(M2 77 ((4 * k) + 2)))]) (rest := []) f_147_159 (by decide) rfl m_146 (by decide) (by decide) (by decide) rfl rfl (Nat.le_of_ble_eq_true rfl) (by omega) (m_cuts (by rw [w0]; omega) (by rw [w0]; omega) (by rw [w0]; omega) (by rw [w0]; omega)) ?_
        rintro _ M3 _ ⟨rfl, hM3, rfl⟩
        refine r_run 2 (pc' := 81) (ls' := [some (yr 75), some (yi w), some (yi (k + 1)), none]) (st' := []) (M' := M3) (N' := N) rfl ?_
        have e3 : M3 = yrow M 92 (lk17 (M 77) k (M 92)) := by
          rw [← hM3, q2, w0, ← hM2, yrow_row]
          rfl
        rw [e3]
        refine ih (by omega) (by omega) ?_ ?_ ?_ ?_
        · rw [yrow_ne (by omega)]; exact hn
        · rw [yrow_ne (by omega)]; exact hL
        · rw [yrow_at]
          intro i i0 i1
          exact ⟨upmin_ge (upmin_ge (hr i i0 i1).1 (fun _ => by omega)) (fun _ => by omega), Int.le_trans upmin_le (Int.le_trans upmin_le (hr i i0 i1).2)⟩
        · rw [lkF7_yes (show bit w k = 0 from h94)] at kk
          rw [yrow_ne (show (77 : Int) ≠ 92 by decide), yrow_at, yrow_row]
          exact kk
theorem m_cb_d {S : XS} {d : Nat} {w : Int} {N : YM} {Q : Option YV → YM → YM → Prop} {y L : Int} (hd : 1 ≤ d) (hy : 0 ≤ y ∧ y < 7) (hL : 0 ≤ L ∧ L ≤ 50000000) {j : Nat} : ∀ {k : Int} {M : YM}, 0 ≤ k → k + j = 49 → gb7 y L k (M 92) → ry S d 147 231 [some (yr 75), some (yi w), some (yi y), some (yi 49)] [] (yrow M 92 (fwR7 y j k (M 92))) N Q → ry S d 147 178 [some (yr 75), some (yi w), some (yi y), some (yi k)] [] M N Q := by
  induction j with
  | zero =>
    intro k M h0 h1 hg kk
    refine r_run 2 (pc' := 181) (ls' := [some (yr 75), some (yi w), some (yi y), some (yi k)]) (st' := [yi 49, yi k]) (M' := M) (N' := N) rfl ?_
    refine r_icmp_ge (pc := 181) f_147_181 (by omega) (by omega) (fun h181 => ?_) (fun h181 => ?_)
    · have hb : k = 49 := by omega
      subst hb
      have e : yrow M 92 (fwR7 y 0 49 (M 92)) = M := yrow_self
      rw [e] at kk
      exact kk
    · exfalso; omega
  | succ j ih =>
    intro k M h0 h1 hg kk
    obtain ⟨g1, g2, g3, g4⟩ := id hg
    have s0 := g4 k h0 (by omega)
    have s1 := g4 (7 * (k / 7) + y) (by omega) (by omega)
    have s2 := g4 (7 * y + k % 7) (by omega) (by omega)
    refine r_run 2 (pc' := 181) (ls' := [some (yr 75), some (yi w), some (yi y), some (yi k)]) (st' := [yi 49, yi k]) (M' := M) (N' := N) rfl ?_
    refine r_icmp_ge (pc := 181) f_147_181 (by omega) (by omega) (fun h181 => ?_) (fun h181 => ?_)
    · exfalso; omega
    · refine r_run 3 (pc' := 188) (ls' := [some (yr 75), some (yi w), some (yi y), some (yi k)]) (st' := [yi 7, yi k, yr 75]) (M' := M) (N' := N) rfl ?_
      refine r_idiv f_147_188 (by omega) (by omega) ?_
      refine r_run 2 (pc' := 192) (ls' := [some (yr 75), some (yi w), some (yi y), some (yi k)]) (st' := [yi 7, yi k, yi (k / 7), yr 75]) (M' := M) (N' := N) rfl ?_
      refine r_irem f_147_192 (by omega) (by omega) ?_
      refine r_run 5 (pc' := 202) (ls' := [some (yr 75), some (yi w), some (yi y), some (yi k)]) (st' := [yi 7, yi k, yi 7, yr 92, yi (k % 7), yi (k / 7), yr 75]) (M' := M) (N' := N) rfl ?_
      refine r_idiv f_147_202 (by omega) (by omega) ?_
      refine r_run 3 (pc' := 206) (ls' := [some (yr 75), some (yi w), some (yi y), some (yi k)]) (st' := [yi ((7 * (k / 7)) + y), yr 92, yi (k % 7), yi (k / 7), yr 75]) (M' := M) (N' := N) rfl ?_
      refine r_iald (n := 49) f_147_206 (by decide) (by decide) (by decide) (by omega) ?_
      refine r_run 7 (pc' := 218) (ls' := [some (yr 75), some (yi w), some (yi y), some (yi k)]) (st' := [yi 7, yi k, yi (7 * y), yr 92, yi (M 92 ((7 * (k / 7)) + y)), yi (k % 7), yi (k / 7), yr 75]) (M' := M) (N' := N) rfl ?_
      refine r_irem f_147_218 (by omega) (by omega) ?_
      refine r_run 1 (pc' := 220) (ls' := [some (yr 75), some (yi w), some (yi y), some (yi k)]) (st' := [yi ((7 * y) + (k % 7)), yr 92, yi (M 92 ((7 * (k / 7)) + y)), yi (k % 7), yi (k / 7), yr 75]) (M' := M) (N' := N) rfl ?_
      refine r_iald (n := 49) f_147_220 (by decide) (by decide) (by decide) (by omega) ?_
      refine r_run 1 (pc' := 222) (ls' := [some (yr 75), some (yi w), some (yi y), some (yi k)]) (st' := [yi ((M 92 ((7 * (k / 7)) + y)) + (M 92 ((7 * y) + (k % 7)))), yi (k % 7), yi (k / 7), yr 75]) (M' := M) (N' := N) rfl ?_
      refine r_virtual (mj := 146) (b := 75) (as := [yi (k / 7), yi (k % 7), yi ((M 92 ((7 * (k / 7)) + y)) + (M 92 ((7 * y) + (k % 7))))]) (rest := []) f_147_222 (by decide) rfl m_146 (by decide) (by decide) (by decide) rfl rfl (Nat.le_of_ble_eq_true rfl) (by omega) (m_cuts (by omega) (by omega) (by rw [show 7 * (k / 7) + k % 7 = k by omega]; omega) (by omega)) ?_
      rintro _ M2 _ ⟨rfl, hM2, rfl⟩
      refine r_run 2 (pc' := 178) (ls' := [some (yr 75), some (yi w), some (yi y), some (yi (k + 1))]) (st' := []) (M' := M2) (N' := N) rfl ?_
      have e : M2 = yrow M 92 (up (M 92) k (fwv7 y (M 92) k)) := by
        rw [← hM2]
        unfold fwv7
        rw [show 7 * (k / 7) + k % 7 = k by omega]
      rw [e]
      refine ih (by omega) (by omega) ?_ ?_
      · rw [yrow_at]
        exact gb7_step hy hL.1 ⟨h0, by omega⟩ hg
      · rw [yrow_at, yrow_row]
        exact kk
theorem m_cb_e {S : XS} {d : Nat} {w : Int} {N : YM} {Q : Option YV → YM → YM → Prop} (hd : 1 ≤ d) {j : Nat} : ∀ {y L : Int} {M : YM} {l3 : Option YV}, 0 ≤ y → y + j = 7 → 0 ≤ L → L * pw j ≤ 300000000 → rng L (M 92) 49 → (∀ l3, ry S d 147 237 [some (yr 75), some (yi w), some (yi 7), l3] [] (yrow M 92 (fwA7 j y (M 92))) N Q) → ry S d 147 170 [some (yr 75), some (yi w), some (yi y), l3] [] M N Q := by
  induction j with
  | zero =>
    intro y L M l3 h0 h1 hL hB hr kk
    refine r_run 2 (pc' := 173) (ls' := [some (yr 75), some (yi w), some (yi y), l3]) (st' := [yi 7, yi y]) (M' := M) (N' := N) rfl ?_
    refine r_icmp_ge (pc := 173) f_147_173 (by omega) (by omega) (fun h173 => ?_) (fun h173 => ?_)
    · have hb : y = 7 := by omega
      subst hb
      have e : yrow M 92 (fwA7 0 7 (M 92)) = M := yrow_self
      have kk := kk l3
      rw [e] at kk
      exact kk
    · refine r_run 2 (pc' := 178) (ls' := [some (yr 75), some (yi w), some (yi y), some (yi 0)]) (st' := []) (M' := M) (N' := N) rfl ?_
      exfalso; omega
  | succ j ih =>
    intro y L M l3 h0 h1 hL hB hr kk
    have g9 := @pw_mul (6 * L) j (by omega)
    refine r_run 2 (pc' := 173) (ls' := [some (yr 75), some (yi w), some (yi y), l3]) (st' := [yi 7, yi y]) (M' := M) (N' := N) rfl ?_
    refine r_icmp_ge (pc := 173) f_147_173 (by omega) (by omega) (fun h173 => ?_) (fun h173 => ?_)
    · exfalso; omega
    · refine r_run 2 (pc' := 178) (ls' := [some (yr 75), some (yi w), some (yi y), some (yi 0)]) (st' := []) (M' := M) (N' := N) rfl ?_
      refine m_cb_d (j := 49) hd ⟨h0, by omega⟩ ⟨hL, by rw [pw_step] at hB; omega⟩ (Int.le_refl 0) rfl (gb7_start ⟨h0, by omega⟩ hL hr) ?_
      refine r_run 2 (pc' := 170) (ls' := [some (yr 75), some (yi w), some (yi (y + 1)), some (yi 49)]) (st' := []) (M' := yrow M 92 (fwR7 y 49 0 (M 92))) (N' := N) rfl ?_
      refine ih (L := 6 * L) (by omega) (by omega) (by omega) (by rw [← pw_step]; exact hB) ?_ ?_
      · intro i i0 i1
        rw [yrow_at]
        exact gb7_end (j := 49) ⟨h0, by omega⟩ hL (Int.le_refl 0) rfl (gb7_start ⟨h0, by omega⟩ hL hr) i i0 i1
      · intro l3
        rw [yrow_at, yrow_row]
        exact kk l3
theorem m_cb_f {S : XS} {d : Nat} {w : Int} {M N : YM} (hr : ∀ i, 0 ≤ i → i < 49 → -300000000 ≤ M 92 i ∧ M 92 i ≤ 9999) {j : Nat} : ∀ {v q : Int}, 0 ≤ q → q + j = 7 → (v = 0 ∨ v = 1) → ry S d 147 241 [some (yr 75), some (yi w), some (yi v), some (yi q)] [] M N (fun r M' N' => (∃ v', some (yi v') = r ∧ ((v' = 1 ∧ v = 1 ∧ ∀ i, q ≤ i → i < 7 → 0 ≤ M 92 (7 * i + i)) ∨ (v' = 0 ∧ (v = 0 ∨ ∃ i, q ≤ i ∧ i < 7 ∧ M 92 (7 * i + i) < 0)))) ∧ M = M' ∧ N = N') := by
  induction j with
  | zero =>
    intro v q h0 h1 hv
    refine r_run 2 (pc' := 244) (ls' := [some (yr 75), some (yi w), some (yi v), some (yi q)]) (st' := [yi 7, yi q]) (M' := M) (N' := N) rfl ?_
    refine r_icmp_ge (pc := 244) f_147_244 (by omega) (by omega) (fun h244 => ?_) (fun h244 => ?_)
    · refine r_run 1 (pc' := 278) (ls' := [some (yr 75), some (yi w), some (yi v), some (yi q)]) (st' := [yi v]) (M' := M) (N' := N) rfl ?_
      refine r_zret m_147 rfl f_147_278 (by omega) ?_
      refine ⟨⟨v, rfl, ?_⟩, rfl, rfl⟩
      rcases hv with hv | hv
      · exact Or.inr ⟨hv, Or.inl hv⟩
      · exact Or.inl ⟨hv, hv, fun i i0 i1 => by omega⟩
    · exfalso; omega
  | succ j ih =>
    intro v q h0 h1 hv
    refine r_run 2 (pc' := 244) (ls' := [some (yr 75), some (yi w), some (yi v), some (yi q)]) (st' := [yi 7, yi q]) (M' := M) (N' := N) rfl ?_
    refine r_icmp_ge (pc := 244) f_147_244 (by omega) (by omega) (fun h244 => ?_) (fun h244 => ?_)
    · exfalso; omega
    · refine r_run 1 (pc' := 248) (ls' := [some (yr 75), some (yi w), some (yi v), some (yi q)]) (st' := [yi v]) (M' := M) (N' := N) rfl ?_
      refine r_if_eq (pc := 248) f_147_248 (by omega) (fun h248 => ?_) (fun h248 => ?_)
      · refine r_run 4 (pc' := 241) (ls' := [some (yr 75), some (yi w), some (yi 0), some (yi (q + 1))]) (st' := []) (M' := M) (N' := N) rfl ?_
        refine r_post (ih (v := 0) (by omega) (by omega) (by omega)) ?_
        rintro _ _ _ ⟨⟨v', rfl, hv'⟩, rfl, rfl⟩
        refine ⟨⟨v', rfl, ?_⟩, rfl, rfl⟩
        rcases hv' with ⟨a1, a2, a3⟩ | ⟨a1, a2⟩
        · omega
        · exact Or.inr ⟨a1, Or.inl (by omega)⟩
      · refine r_run 7 (pc' := 261) (ls' := [some (yr 75), some (yi w), some (yi v), some (yi q)]) (st' := [yi ((7 * q) + q), yr 92]) (M' := M) (N' := N) rfl ?_
        refine r_iald (n := 49) f_147_261 (by decide) (by decide) (by decide) (by omega) ?_
        refine r_if_lt (pc := 262) f_147_262 (by have := hr (7 * q + q) (by omega) (by omega); omega) (fun h262 => ?_) (fun h262 => ?_)
        · refine r_run 4 (pc' := 241) (ls' := [some (yr 75), some (yi w), some (yi 0), some (yi (q + 1))]) (st' := []) (M' := M) (N' := N) rfl ?_
          refine r_post (ih (v := 0) (by omega) (by omega) (by omega)) ?_
          rintro _ _ _ ⟨⟨v', rfl, hv'⟩, rfl, rfl⟩
          refine ⟨⟨v', rfl, ?_⟩, rfl, rfl⟩
          rcases hv' with ⟨a1, a2, a3⟩ | ⟨a1, a2⟩
          · omega
          · exact Or.inr ⟨a1, Or.inr ⟨q, Int.le_refl _, by omega, by omega⟩⟩
        · refine r_run 5 (pc' := 241) (ls' := [some (yr 75), some (yi w), some (yi 1), some (yi (q + 1))]) (st' := []) (M' := M) (N' := N) rfl ?_
          refine r_post (ih (v := 1) (by omega) (by omega) (by omega)) ?_
          rintro _ _ _ ⟨⟨v', rfl, hv'⟩, rfl, rfl⟩
          refine ⟨⟨v', rfl, ?_⟩, rfl, rfl⟩
          rcases hv' with ⟨a1, a2, a3⟩ | ⟨a1, a2⟩
          · refine Or.inl ⟨a1, by omega, fun i i0 i1 => ?_⟩
            by_cases hi : i = q
            · subst hi; omega
            · exact a3 i (by omega) i1
          · rcases a2 with a2 | ⟨i, i0, i1, a2⟩
            · omega
            · exact Or.inr ⟨a1, Or.inr ⟨i, by omega, i1, a2⟩⟩
theorem m_canBe {S : XS} {M N : YM} {w n : Int} (hn : M 75 2 = n) (hn0 : 0 ≤ n) (hn8 : n ≤ 8) (hL : lkOk (M 77) n) (hb : ∀ q, in6 q → (0 ≤ M 90 q ∧ M 90 q ≤ 1001) ∧ (-2 ≤ M 91 q ∧ M 91 q ≤ 999)) : rm S 1 147 [yr 75, yi w] M N (fun r M' N' => ∃ v : Int, some (yi v) = r ∧ (∃ R, yrow M 92 R = M' ∧ ((v = 1 ∧ spK (M 90) (M 91) (M 77) (bit w) n (fun a b => R (7 * a + b))) ∨ (v = 0 ∧ ¬ spC (M 90) (M 91) (M 77) (bit w) n)) ∧ ∀ i, 0 ≤ i → i < 49 → -300000000 ≤ R i ∧ R i ≤ 9999) ∧ N = N') := by
  refine ⟨xe_147, m_147, Nat.le_of_ble_eq_true rfl, ?_⟩
  refine r_run 2 (pc' := 2) (ls' := [some (yr 75), some (yi w), some (yi 0), none]) (st' := []) (M' := M) (N' := N) rfl ?_
  have hb0 := hb
  refine m_cb_a (j := 49) (Int.le_refl 0) rfl (fun i i0 i1 => by omega) (fun R hR => ?_)
  have hR0 : rng 1001 R 49 := fun i i0 i1 => by rw [hR i i0 i1]; split <;> omega
  have hR1 : rng 1001 (meF (M 90) (M 91) 6 0 R) 49 := fun i i0 i1 => ⟨meF_ge (fun q hq => (hb q hq).1.2) (fun q hq => (hb q hq).2.1) (Int.le_refl 0) rfl (fun i i0 i1 => (hR0 i i0 i1).1) i i0 i1, Int.le_trans meF_le (hR0 i i0 i1).2⟩
  have hR2 : rng 1001 (lkF7 (M 77) (bit w) n.toNat 0 (meF (M 90) (M 91) 6 0 R)) 49 := fun i i0 i1 => ⟨lkF7_ge hL (by decide) (Int.le_refl 0) (by omega) (fun i i0 i1 => (hR1 i i0 i1).1) i i0 i1, Int.le_trans lkF7_le (hR1 i i0 i1).2⟩
  refine r_run 2 (pc' := 40) (ls' := [some (yr 75), some (yi w), some (yi 0), none]) (st' := []) (M' := yrow M 92 R) (N' := N) rfl ?_
  refine m_cb_b (j := 6) (by omega) (Int.le_refl 0) rfl (by rw [yrow_ne (show (90 : Int) ≠ 92 by decide), yrow_ne (show (91 : Int) ≠ 92 by decide)]; exact hb) (by rw [yrow_at]; exact hR0) ?_
  rw [yrow_ne (show (90 : Int) ≠ 92 by decide), yrow_ne (show (91 : Int) ≠ 92 by decide), yrow_at, yrow_row]
  refine r_run 2 (pc' := 81) (ls' := [some (yr 75), some (yi w), some (yi 0), none]) (st' := []) (M' := yrow M 92 (meF (M 90) (M 91) 6 0 R)) (N' := N) rfl ?_
  refine m_cb_c (j := n.toNat) (by omega) hn8 (Int.le_refl 0) (by omega) (by rw [yrow_ne (by decide)]; exact hn) (by rw [yrow_ne (by decide)]; exact hL) (by rw [yrow_at]; exact hR1) ?_
  rw [yrow_ne (show (77 : Int) ≠ 92 by decide), yrow_at, yrow_row]
  refine r_run 2 (pc' := 170) (ls' := [some (yr 75), some (yi w), some (yi 0), none]) (st' := []) (M' := yrow M 92 (lkF7 (M 77) (bit w) n.toNat 0 (meF (M 90) (M 91) 6 0 R))) (N' := N) rfl ?_
  refine m_cb_e (j := 7) (L := 1001) (by omega) (Int.le_refl 0) rfl (by decide) (by decide) (by rw [yrow_at]; exact hR2) (fun l3 => ?_)
  rw [yrow_at, yrow_row]
  have hR3 := fwA7_rng hR2
  refine r_run 4 (pc' := 241) (ls' := [some (yr 75), some (yi w), some (yi 1), some (yi 0)]) (st' := []) (M' := yrow M 92 (fwA7 7 0 (lkF7 (M 77) (bit w) n.toNat 0 (meF (M 90) (M 91) 6 0 R)))) (N' := N) rfl ?_
  refine r_post (m_cb_f (j := 7) (by rw [yrow_at]; exact hR3) (Int.le_refl 0) rfl (by omega)) ?_
  rintro _ _ _ ⟨⟨v, rfl, hv⟩, rfl, rfl⟩
  rw [yrow_at] at hv
  refine ⟨v, rfl, ⟨_, rfl, ?_, hR3⟩, rfl⟩
  refine ca_ok hn0 hL (fun q hq => (hb q hq).1.1) (fun q hq => (hb q hq).2.2) hR ?_
  rcases hv with ⟨a1, -, a3⟩ | ⟨a1, a2⟩
  · exact Or.inl ⟨a1, a3⟩
  · rcases a2 with a2 | a2
    · omega
    · exact Or.inr ⟨a1, a2⟩
theorem m_low {S : XS} {M N : YM} {q : Int} (hq : in6 q) : rm S 0 149 [yr 75, yi q] M N (fun r M' N' => ∃ v : Int, some (yi v) = r ∧ (v = -M 92 (7 * q + 6)) ∧ M = M' ∧ N = N') := by
  refine ⟨xe_149, m_149, Nat.le_of_ble_eq_true rfl, ?_⟩
  refine r_run 7 (pc' := 11) (ls' := [some (yr 75), some (yi q)]) (st' := [yi ((7 * q) + 6), yr 92]) (M' := M) (N' := N) rfl ?_
  refine r_iald (n := 49) f_149_11 (by decide) (by decide) (by decide) (by omega) ?_
  refine r_run 1 (pc' := 13) (ls' := [some (yr 75), some (yi q)]) (st' := [yi (-(M 92 ((7 * q) + 6)))]) (M' := M) (N' := N) rfl ?_
  refine r_iret m_149 rfl f_149_13 ?_
  exact ⟨_, rfl, rfl, rfl, rfl⟩
theorem m_high {S : XS} {M N : YM} {q : Int} (hq : in6 q) : rm S 0 150 [yr 75, yi q] M N (fun r M' N' => ∃ v : Int, some (yi v) = r ∧ (v = M 92 (42 + q)) ∧ M = M' ∧ N = N') := by
  refine ⟨xe_150, m_150, Nat.le_of_ble_eq_true rfl, ?_⟩
  refine r_run 5 (pc' := 8) (ls' := [some (yr 75), some (yi q)]) (st' := [yi (42 + q), yr 92]) (M' := M) (N' := N) rfl ?_
  refine r_iald (n := 49) f_150_8 (by decide) (by decide) (by decide) (by omega) ?_
  refine r_iret m_150 rfl f_150_9 ?_
  exact ⟨_, rfl, rfl, rfl, rfl⟩
