/-! what sayings leave, cut by what is tied -/
def bit (w s : Int) : Int := (Int32.ofInt (Int32.ofInt w >>> (Int32.ofInt s &&& 31)).toInt &&& Int32.ofInt 1).toInt
theorem bit_in (w s : Int) : -2147483648 ≤ bit w s ∧ bit w s < 2147483648 := ⟨Int32.le_toInt _, Int32.toInt_lt _⟩
theorem bit_zero {s : Int} (h : 0 ≤ s ∧ s < 10) : bit 0 s = 0 := by
  rcases (show s = 0 ∨ s = 1 ∨ s = 2 ∨ s = 3 ∨ s = 4 ∨ s = 5 ∨ s = 6 ∨ s = 7 ∨ s = 8 ∨ s = 9 by omega) with rfl | rfl | rfl | rfl | rfl | rfl | rfl | rfl | rfl | rfl <;> decide
def lvB (O F sk : Int → Int) : Nat → Int → (Int → Int) → Int → Int
  | 0, _, B => B
  | j + 1, s, B => lvB O F sk j (s + 1) (if sk s = 0 then up B (O s) (imax (B (O s)) (F s)) else B)
def lvE (O U sk : Int → Int) : Nat → Int → (Int → Int) → Int → Int
  | 0, _, E => E
  | j + 1, s, E => lvE O U sk j (s + 1) (if sk s = 0 then up E (O s) (imin (E (O s)) (U s)) else E)
theorem lvB_yes {O F sk : Int → Int} {j : Nat} {s : Int} {B : Int → Int} (h : sk s = 0) : lvB O F sk (j + 1) s B = lvB O F sk j (s + 1) (up B (O s) (imax (B (O s)) (F s))) := by rw [lvB, if_pos h]
theorem lvB_no {O F sk : Int → Int} {j : Nat} {s : Int} {B : Int → Int} (h : ¬ sk s = 0) : lvB O F sk (j + 1) s B = lvB O F sk j (s + 1) B := by rw [lvB, if_neg h]
theorem lvE_yes {O F sk : Int → Int} {j : Nat} {s : Int} {B : Int → Int} (h : sk s = 0) : lvE O F sk (j + 1) s B = lvE O F sk j (s + 1) (up B (O s) (imin (B (O s)) (F s))) := by rw [lvE, if_pos h]
theorem lvE_no {O F sk : Int → Int} {j : Nat} {s : Int} {B : Int → Int} (h : ¬ sk s = 0) : lvE O F sk (j + 1) s B = lvE O F sk j (s + 1) B := by rw [lvE, if_neg h]
abbrev in6 (x : Int) : Prop := 0 ≤ x ∧ x ≤ 5
abbrev in9 (x : Int) : Prop := 0 ≤ x ∧ x ≤ 999
theorem lvB_congr {O F sk : Int → Int} {n : Int} (hO : ∀ s, 0 ≤ s → s < n → in6 (O s)) {j : Nat} : ∀ {s : Int} {B B' : Int → Int}, 0 ≤ s → s + j = n → (∀ q, in6 q → B q = B' q) → ∀ q, in6 q → lvB O F sk j s B q = lvB O F sk j s B' q := by
  induction j with
  | zero => intro s B B' _ _ h; exact h
  | succ j ih =>
    intro s B B' h0 h1 h
    by_cases g : sk s = 0
    · rw [lvB_yes g, lvB_yes g]
      refine ih (by omega) (by omega) fun q hq => ?_
      unfold up
      rw [h _ (hO s h0 (by omega))]
      split
      · rfl
      · exact h q hq
    · rw [lvB_no g, lvB_no g]; exact ih (by omega) (by omega) h
theorem lvE_congr {O F sk : Int → Int} {n : Int} (hO : ∀ s, 0 ≤ s → s < n → in6 (O s)) {j : Nat} : ∀ {s : Int} {B B' : Int → Int}, 0 ≤ s → s + j = n → (∀ q, in6 q → B q = B' q) → ∀ q, in6 q → lvE O F sk j s B q = lvE O F sk j s B' q := by
  induction j with
  | zero => intro s B B' _ _ h; exact h
  | succ j ih =>
    intro s B B' h0 h1 h
    by_cases g : sk s = 0
    · rw [lvE_yes g, lvE_yes g]
      refine ih (by omega) (by omega) fun q hq => ?_
      unfold up
      rw [h _ (hO s h0 (by omega))]
      split
      · rfl
      · exact h q hq
    · rw [lvE_no g, lvE_no g]; exact ih (by omega) (by omega) h
theorem lvB_in {O F sk : Int → Int} {n : Int} (hF : ∀ s, 0 ≤ s → s < n → in9 (F s)) {j : Nat} : ∀ {s : Int} {B : Int → Int}, 0 ≤ s → s + j = n → (∀ q, in6 q → in9 (B q)) → ∀ q, in6 q → in9 (lvB O F sk j s B q) := by
  induction j with
  | zero => intro s B _ _ h; exact h
  | succ j ih =>
    intro s B h0 h1 h
    have := hF s h0 (by omega)
    by_cases g : sk s = 0
    · rw [lvB_yes g]
      refine ih (by omega) (by omega) fun q hq => ?_
      unfold up
      split
      · rename_i e
        rw [← e]
        have := h q hq
        exact ⟨Int.le_trans this.1 (imax_ge1 _ _), imax_le this.2 (by omega)⟩
      · exact h q hq
    · rw [lvB_no g]; exact ih (by omega) (by omega) h
theorem lvE_in {O F sk : Int → Int} {n : Int} (hF : ∀ s, 0 ≤ s → s < n → in9 (F s)) {j : Nat} : ∀ {s : Int} {B : Int → Int}, 0 ≤ s → s + j = n → (∀ q, in6 q → in9 (B q)) → ∀ q, in6 q → in9 (lvE O F sk j s B q) := by
  induction j with
  | zero => intro s B _ _ h; exact h
  | succ j ih =>
    intro s B h0 h1 h
    have := hF s h0 (by omega)
    by_cases g : sk s = 0
    · rw [lvE_yes g]
      refine ih (by omega) (by omega) fun q hq => ?_
      unfold up
      split
      · rename_i e
        rw [← e]
        have := h q hq
        exact ⟨imin_ge this.1 (by omega), Int.le_trans (imin_le1 _ _) this.2⟩
      · exact h q hq
    · rw [lvE_no g]; exact ih (by omega) (by omega) h
/-- the class's sayings: of, from, up to -/
def cSy (M : YM) (O F U : Int → Int) (n : Int) : Prop := M 1 1 = n ∧ (0 ≤ M 1 3 ∧ M 1 3 ≤ 99) ∧ ∀ s, 0 ≤ s → s < n → sOk (M (3 + s) 0) (M (3 + s) 1) (M (3 + s) 3) (M (3 + s) 4) ∧ M (3 + s) 2 = O s ∧ in6 (O s) ∧ sFrom (M (3 + s) 0) (M (3 + s) 1) (M (3 + s) 3) (M (3 + s) 4) (M 1 3) = F s ∧ sUpTo (M (3 + s) 0) (M (3 + s) 1) (M (3 + s) 3) (M (3 + s) 4) (M 1 3) = U s ∧ in9 (F s) ∧ in9 (U s)
theorem cSy.fr {M M' : YM} {O F U : Int → Int} {n : Int} (h : cSy M O F U n) (hn : n ≤ 10) (g : ∀ c, c = 1 ∨ (3 ≤ c ∧ c ≤ 12) → M' c = M c) : cSy M' O F U n := by
  obtain ⟨h1, h2, h3⟩ := h
  refine ⟨by rw [g 1 (by omega)]; exact h1, by rw [g 1 (by omega)]; exact h2, fun s s0 s1 => ?_⟩
  rw [g (3 + s) (by omega), g 1 (by omega)]
  exact h3 s s0 s1

theorem fill6_loop {S : XS} {d : Nat} {b x : Int} {N : YM} (hb : 0 ≤ b ∧ b < 94) (hk : yk b = (0, 6)) {j : Nat} : ∀ {k : Int} {M : YM}, 0 ≤ k → k + j = 6 → ry S d 204 5 [some (yr b), some (yi x), some (yi k), some (yi 6)] [] M N (fun r M' N' => none = r ∧ yfill M b k 6 x = M' ∧ N = N') := by
  induction j with
  | zero =>
    intro k M h0 h1
    refine r_run 2 (pc' := 7) (ls' := [some (yr b), some (yi x), some (yi k), some (yi 6)]) (st' := [yi 6, yi k]) (M' := M) (N' := N) rfl ?_
    refine r_icmp_ge (pc := 7) f_204_7 (by omega) (by omega) (fun h7 => ?_) (fun h7 => ?_)
    · refine r_vret m_204 rfl f_204_20 ?_
      exact ⟨rfl, yfill_done (by omega), rfl⟩
    · refine r_run 3 (pc' := 13) (ls' := [some (yr b), some (yi x), some (yi k), some (yi 6)]) (st' := [yi x, yi k, yr b]) (M' := M) (N' := N) rfl ?_
      refine r_iast (n := 6) f_204_13 hb hk (by decide) (by omega) ?_
      refine r_run 2 (pc' := 5) (ls' := [some (yr b), some (yi x), some (yi (k + 1)), some (yi 6)]) (st' := []) (M' := (yu M b k x)) (N' := N) rfl ?_
      exfalso
      omega
  | succ j ih =>
    intro k M h0 h1
    refine r_run 2 (pc' := 7) (ls' := [some (yr b), some (yi x), some (yi k), some (yi 6)]) (st' := [yi 6, yi k]) (M' := M) (N' := N) rfl ?_
    refine r_icmp_ge (pc := 7) f_204_7 (by omega) (by omega) (fun h7 => ?_) (fun h7 => ?_)
    · refine r_vret m_204 rfl f_204_20 ?_
      exact ⟨rfl, yfill_done (by omega), rfl⟩
    · refine r_run 3 (pc' := 13) (ls' := [some (yr b), some (yi x), some (yi k), some (yi 6)]) (st' := [yi x, yi k, yr b]) (M' := M) (N' := N) rfl ?_
      refine r_iast (n := 6) f_204_13 hb hk (by decide) (by omega) ?_
      refine r_run 2 (pc' := 5) (ls' := [some (yr b), some (yi x), some (yi (k + 1)), some (yi 6)]) (st' := []) (M' := (yu M b k x)) (N' := N) rfl ?_
      rw [← yfill_step (show k < 6 by omega)]
      exact ih (by omega) (by omega)
theorem j_fill6 {S : XS} {M N : YM} {b x : Int} (hb : 0 ≤ b ∧ b < 94) (hk : yk b = (0, 6)) : rm S 0 204 [yr b, yi x] M N (fun r M' N' => none = r ∧ yfill M b 0 6 x = M' ∧ N = N') := by
  refine ⟨xe_204, m_204, Nat.le_of_ble_eq_true rfl, ?_⟩
  refine r_run 3 (pc' := 3) (ls' := [some (yr b), some (yi x), some (yi 0), none]) (st' := [yr b]) (M' := M) (N' := N) rfl ?_
  refine r_alen (kd := 0) (n := 6) f_204_3 hb hk (by decide) ?_
  refine r_run 1 (pc' := 5) (ls' := [some (yr b), some (yi x), some (yi 0), some (yi 6)]) (st' := []) (M' := M) (N' := N) rfl ?_
  exact fill6_loop hb hk (j := 6) (by omega) (by omega)
theorem yfill_row {M : YM} {b x n : Int} : yfill M b 0 n x = yrow M b (fun k => if 0 ≤ k ∧ k < n then x else M b k) := by
  funext c k
  unfold yfill yrow
  by_cases h : c = b
  · subst h
    by_cases g : 0 ≤ k ∧ k < n
    · rw [if_pos ⟨rfl, g⟩, if_pos rfl]; exact (if_pos g).symm
    · rw [if_neg (fun q => g q.2), if_pos rfl]; exact (if_neg g).symm
  · rw [if_neg (fun q => h q.1), if_neg h]
theorem c_leave_l {S : XS} {d : Nat} {w n : Int} {N : YM} {O F U : Int → Int} (hd : 2 ≤ d) (hn10 : n ≤ 10) {j : Nat} : ∀ {s : Int} {M : YM} {l4 : Option YV}, 0 ≤ s → s + j = n → cSy M O F U n → (∀ q, in6 q → in9 (M 34 q)) → (∀ q, in6 q → in9 (M 35 q)) → ry S d 34 20 [some (yr 33), some (yr 1), some (yi w), some (yi s), l4] [] M N (fun r M' N' => none = r ∧ yrow (yrow M 34 (lvB O F (bit w) j s (M 34))) 35 (lvE O U (bit w) j s (M 35)) = M' ∧ N = N') := by
  induction j with
  | zero =>
    intro s M l4 h0 h1 hS hB hE
    obtain ⟨g1, g2, -⟩ := id hS
    refine r_run 3 (pc' := 25) (ls' := [some (yr 33), some (yr 1), some (yi w), some (yi s), l4]) (st' := [yi (M 1 1), yi s]) (M' := M) (N' := N) rfl ?_
    refine r_icmp_ge (pc := 25) f_34_25 (by omega) (by omega) (fun h25 => ?_) (fun h25 => ?_)
    · refine r_vret m_34 rfl f_34_114 ?_
      exact ⟨rfl, by show yrow (yrow M 34 (M 34)) 35 (M 35) = M; rw [yrow_self, yrow_self], rfl⟩
    · exfalso; omega
  | succ j ih =>
    intro s M l4 h0 h1 hS hB hE
    obtain ⟨g1, g2, g3⟩ := id hS
    obtain ⟨o1, o2, o3, o4, o5, o6, o7⟩ := g3 s h0 (by omega)
    have b0 := hB (O s) o3
    have b1 := hE (O s) o3
    rw [← o2] at b0 b1 o3
    refine r_run 3 (pc' := 25) (ls' := [some (yr 33), some (yr 1), some (yi w), some (yi s), l4]) (st' := [yi (M 1 1), yi s]) (M' := M) (N' := N) rfl ?_
    refine r_icmp_ge (pc := 25) f_34_25 (by omega) (by omega) (fun h25 => ?_) (fun h25 => ?_)
    · exfalso; omega
    · refine r_run 5 (pc' := 33) (ls' := [some (yr 33), some (yr 1), some (yi w), some (yi s), l4]) (st' := [yi ((Int32.ofInt ((Int32.ofInt w >>> (Int32.ofInt s &&& 31)).toInt) &&& Int32.ofInt 1).toInt)]) (M' := M) (N' := N) rfl ?_
      refine r_if_ne (pc := 33) f_34_33 ⟨Int32.le_toInt _, Int32.toInt_lt _⟩ (fun h33 => ?_) (fun h33 => ?_)
      · refine r_run 2 (pc' := 20) (ls' := [some (yr 33), some (yr 1), some (yi w), some (yi (s + 1)), l4]) (st' := []) (M' := M) (N' := N) rfl ?_
        have hb : ¬ bit w s = 0 := h33
        rw [lvB_no hb, lvE_no hb]
        exact ih (l4 := l4) (by omega) (by omega) hS hB hE
      · refine r_run 3 (pc' := 41) (ls' := [some (yr 33), some (yr 1), some (yi w), some (yi s), l4]) (st' := [yi s, yr 2]) (M' := M) (N' := N) rfl ?_
        refine r_aald (r := 3 + s) (kd := 102) (n := 10) f_34_41 (by decide) (by decide) (by decide) (by decide) (by omega) (rf_say (by omega)) ?_
        refine r_run 4 (pc' := 50) (ls' := [some (yr 33), some (yr 1), some (yi w), some (yi s), some (yr (3 + s))]) (st' := [yr (3 + s), yr 34]) (M' := M) (N' := N) rfl ?_
        refine r_getf (n := 5) 2 rfl f_34_50 (by decide) (show xFT[14]? = some (2, 2) from rfl) (by decide) (by omega) (yk_say (by omega)) ?_
        refine r_run 3 (pc' := 59) (ls' := [some (yr 33), some (yr 1), some (yi w), some (yi s), some (yr (3 + s))]) (st' := [yr (3 + s), yr 34, yi (M (3 + s) 2), yr 34]) (M' := M) (N' := N) rfl ?_
        refine r_getf (n := 5) 2 rfl f_34_59 (by decide) (show xFT[14]? = some (2, 2) from rfl) (by decide) (by omega) (yk_say (by omega)) ?_
        refine r_iald (n := 6) f_34_62 (by decide) (by decide) (by decide) (by omega) ?_
        refine r_run 3 (pc' := 69) (ls' := [some (yr 33), some (yr 1), some (yi w), some (yi s), some (yr (3 + s))]) (st' := [yi (M 1 3), yr (3 + s), yi (M 34 (M (3 + s) 2)), yi (M (3 + s) 2), yr 34]) (M' := M) (N' := N) rfl ?_
        refine r_virtual (mj := 23) (b := 3 + s) (as := [yi (M 1 3)]) (rest := [yi (M 34 (M (3 + s) 2)), yi (M (3 + s) 2), yr 34]) f_34_69 (by decide) rfl m_23 (by decide) (by omega) (by rw [(yk_say (by omega))]; rfl) rfl rfl (Nat.le_of_ble_eq_true rfl) (by omega) (c_from (by omega) (yk_say (by omega)) o1 (by omega)) ?_
        rintro _ _ _ ⟨v69, rfl, hv69, rfl, rfl⟩
        rw [o4] at hv69
        refine r_max f_34_72 (by omega) (by omega) (Nat.le_of_ble_eq_true rfl) (by omega) (fun v72 hv72 => ?_)
        refine r_iast (n := 6) f_34_75 (by decide) (by decide) (by decide) (by omega) ?_
        have f3 : ∀ k, yu M 34 (M (3 + s) 2) v72 (3 + s) k = M (3 + s) k := fun k => yu_ne (by omega)
        have f1 : ∀ k, yu M 34 (M (3 + s) 2) v72 1 k = M 1 k := fun k => yu_ne (by omega)
        have h72 := imax_eq hv72
        refine r_run 3 (pc' := 82) (ls' := [some (yr 33), some (yr 1), some (yi w), some (yi s), some (yr (3 + s))]) (st' := [yr (3 + s), yr 35]) (M' := (yu M 34 (M (3 + s) 2) v72)) (N' := N) rfl ?_
        refine r_getf (n := 5) 2 rfl f_34_82 (by decide) (show xFT[14]? = some (2, 2) from rfl) (by decide) (by omega) (yk_say (by omega)) ?_
        refine r_run 3 (pc' := 91) (ls' := [some (yr 33), some (yr 1), some (yi w), some (yi s), some (yr (3 + s))]) (st' := [yr (3 + s), yr 35, yi ((yu M 34 (M (3 + s) 2) v72) (3 + s) 2), yr 35]) (M' := (yu M 34 (M (3 + s) 2) v72)) (N' := N) rfl ?_
        refine r_getf (n := 5) 2 rfl f_34_91 (by decide) (show xFT[14]? = some (2, 2) from rfl) (by decide) (by omega) (yk_say (by omega)) ?_
        refine r_iald (n := 6) f_34_94 (by decide) (by decide) (by decide) (by rw [f3]; omega) ?_
        refine r_run 3 (pc' := 101) (ls' := [some (yr 33), some (yr 1), some (yi w), some (yi s), some (yr (3 + s))]) (st' := [yi (M 1 3), yr (3 + s), yi (M 35 ((yu M 34 (M (3 + s) 2) v72) (3 + s) 2)), yi ((yu M 34 (M (3 + s) 2) v72) (3 + s) 2), yr 35]) (M' := (yu M 34 (M (3 + s) 2) v72)) (N' := N) rfl ?_
        refine r_virtual (mj := 24) (b := 3 + s) (as := [yi (M 1 3)]) (rest := [yi (M 35 ((yu M 34 (M (3 + s) 2) v72) (3 + s) 2)), yi ((yu M 34 (M (3 + s) 2) v72) (3 + s) 2), yr 35]) f_34_101 (by decide) rfl m_24 (by decide) (by omega) (by rw [(yk_say (by omega))]; rfl) rfl rfl (Nat.le_of_ble_eq_true rfl) (by omega) (c_upTo (by omega) (yk_say (by omega)) (by rw [f3, f3, f3, f3]; exact o1) g2) ?_
        rintro _ _ _ ⟨v101, rfl, hv101, rfl, rfl⟩
        rw [f3, f3, f3, f3, o5] at hv101
        refine r_min f_34_104 (by rw [f3]; omega) (by omega) (Nat.le_of_ble_eq_true rfl) (by omega) (fun v104 hv104 => ?_)
        refine r_iast (n := 6) f_34_107 (by decide) (by decide) (by decide) (by rw [f3]; omega) ?_
        refine r_run 2 (pc' := 20) (ls' := [some (yr 33), some (yr 1), some (yi w), some (yi (s + 1)), some (yr (3 + s))]) (st' := []) (M' := (yu (yu M 34 (M (3 + s) 2) v72) 35 ((yu M 34 (M (3 + s) 2) v72) (3 + s) 2) v104)) (N' := N) rfl ?_
        have hb : bit w s = 0 := h33
        have h104 := imin_eq hv104
        rw [f3, o2, hv101] at h104
        rw [o2, hv69] at h72
        rw [f3, o2, yu_row, yu_row, h104, h72]
        rw [yrow_ne (show (35 : Int) ≠ 34 by decide)]
        refine r_post (ih (l4 := some (yr (3 + s))) (by omega) (by omega) ?_ ?_ ?_) ?_
        · exact hS.fr hn10 (fun c hc => by rw [yrow_ne (by omega), yrow_ne (by omega)])
        · rw [yrow_ne (show (34 : Int) ≠ 35 by decide), yrow_at]
          intro q hq
          have b1 := hB q hq
          unfold up
          split
          · rename_i e; rw [← e]; exact ⟨Int.le_trans b1.1 (imax_ge1 _ _), imax_le b1.2 o6.2⟩
          · exact b1
        · rw [yrow_at]
          intro q hq
          have b1 := hE q hq
          unfold up
          split
          · rename_i e; rw [← e]; exact ⟨imin_ge b1.1 o7.1, Int.le_trans (imin_le1 _ _) b1.2⟩
          · exact b1
        rintro _ _ _ ⟨rfl, rfl, rfl⟩
        refine ⟨rfl, ?_, rfl⟩
        rw [lvB_yes hb, lvE_yes hb, yrow_at, yrow_ne (show (34 : Int) ≠ 35 by decide), yrow_at, yrow_comm (show (35 : Int) ≠ 34 by decide), yrow_row, yrow_row]
theorem c_leave {S : XS} {M N : YM} {w n : Int} {O F U : Int → Int} (hn : 0 ≤ n) (hn10 : n ≤ 10) (hS : cSy M O F U n) : rm S 2 34 [yr 33, yr 1, yi w] M N (fun r M' N' => none = r ∧ (∃ B E, yrow (yrow M 34 B) 35 E = M' ∧ (∀ q, in6 q → B q = lvB O F (bit w) n.toNat 0 (fun _ => 0) q) ∧ (∀ q, in6 q → E q = lvE O U (bit w) n.toNat 0 (fun _ => 999) q)) ∧ N = N') := by
  refine ⟨xe_34, m_34, Nat.le_of_ble_eq_true rfl, ?_⟩
  refine r_run 3 (pc' := 5) (ls' := [some (yr 33), some (yr 1), some (yi w), none, none]) (st' := [yi 0, yr 34]) (M' := M) (N' := N) rfl ?_
  refine r_static (mj := 204) (as := [yr 34, yi 0]) (rest := []) f_34_5 (by decide) rfl m_204 rfl rfl rfl (Nat.le_of_ble_eq_true rfl) (by omega) (j_fill6 (by omega) (by decide)) ?_
  rintro _ M2 _ ⟨rfl, hM2, rfl⟩
  refine r_run 3 (pc' := 15) (ls' := [some (yr 33), some (yr 1), some (yi w), none, none]) (st' := [yi 999, yr 35]) (M' := M2) (N' := N) rfl ?_
  refine r_static (mj := 204) (as := [yr 35, yi 999]) (rest := []) f_34_15 (by decide) rfl m_204 rfl rfl rfl (Nat.le_of_ble_eq_true rfl) (by omega) (j_fill6 (by omega) (by decide)) ?_
  rintro _ M3 _ ⟨rfl, hM3, rfl⟩
  refine r_run 2 (pc' := 20) (ls' := [some (yr 33), some (yr 1), some (yi w), some (yi 0), none]) (st' := []) (M' := M3) (N' := N) rfl ?_
  rw [← hM2] at hM3
  refine r_post (c_leave_l (j := n.toNat) (Nat.le_refl _) hn10 (Int.le_refl 0) (by omega) (hS.fr hn10 (fun c hc => ?_)) ?_ ?_) ?_
  · rw [← hM3, yfill_row, yrow_ne (by omega), yfill_row, yrow_ne (by omega)]
  · intro q hq
    rw [← hM3, yfill_row, yrow_ne (by omega), yfill_row, yrow_at]
    rw [if_pos (by omega)]; omega
  · intro q hq
    rw [← hM3, yfill_row, yrow_at]
    rw [if_pos (by omega)]; omega
  rintro _ _ _ ⟨rfl, rfl, rfl⟩
  refine ⟨rfl, ⟨lvB O F (bit w) n.toNat 0 (M3 34), lvE O U (bit w) n.toNat 0 (M3 35), ?_, ?_, ?_⟩, rfl⟩
  · rw [← hM3, yfill_row, yfill_row]
    rw [yrow_comm (show (35 : Int) ≠ 34 by decide), yrow_row, yrow_row]
  · refine lvB_congr (fun s s0 s1 => (hS.2.2 s s0 s1).2.2.1) (Int.le_refl 0) (by omega) fun q hq => ?_
    rw [← hM3, yfill_row, yrow_ne (by omega), yfill_row, yrow_at]
    rw [if_pos (by omega)]
  · refine lvE_congr (fun s s0 s1 => (hS.2.2 s s0 s1).2.2.1) (Int.le_refl 0) (by omega) fun q hq => ?_
    rw [← hM3, yfill_row, yrow_at]
    rw [if_pos (by omega)]
def cuL (B D : Int → Int) (q : Int) : Nat → Int → Int → Int
  | 0, _, a => a
  | j + 1, o, a => cuL B D q j (o + 1) (imax a (B o - D (6 * q + o)))
def cuH (E D : Int → Int) (q : Int) : Nat → Int → Int → Int
  | 0, _, a => a
  | j + 1, o, a => cuH E D q j (o + 1) (imin a (E o + D (6 * o + q)))
theorem cuL_up {B D : Int → Int} {q : Int} {j : Nat} : ∀ {o a : Int}, a ≤ cuL B D q j o a := by
  induction j with
  | zero => intro o a; exact Int.le_refl _
  | succ j ih => intro o a; exact Int.le_trans (imax_ge1 _ _) ih
theorem cuL_ge {B D : Int → Int} {q : Int} {j : Nat} : ∀ {o a : Int}, ∀ i, o ≤ i → i < o + j → B i - D (6 * q + i) ≤ cuL B D q j o a := by
  induction j with
  | zero => intro o a i i0 i1; omega
  | succ j ih =>
    intro o a i i0 i1
    by_cases h : i = o
    · subst h; exact Int.le_trans (imax_ge2 _ _) cuL_up
    · exact ih i (by omega) (by omega)
theorem cuL_is {B D : Int → Int} {q : Int} {j : Nat} : ∀ {o a : Int}, cuL B D q j o a = a ∨ ∃ i, o ≤ i ∧ i < o + j ∧ cuL B D q j o a = B i - D (6 * q + i) := by
  induction j with
  | zero => intro o a; exact Or.inl rfl
  | succ j ih =>
    intro o a
    rcases @ih (o + 1) (imax a (B o - D (6 * q + o))) with h | ⟨i, i0, i1, h⟩
    · unfold imax at h
      split at h
      · exact Or.inr ⟨o, Int.le_refl _, by omega, by show cuL B D q j _ _ = _; unfold imax; rw [if_pos (by assumption)]; exact h⟩
      · exact Or.inl (by show cuL B D q j _ _ = _; unfold imax; rw [if_neg (by assumption)]; exact h)
    · exact Or.inr ⟨i, by omega, by omega, h⟩
theorem cuH_dn {E D : Int → Int} {q : Int} {j : Nat} : ∀ {o a : Int}, cuH E D q j o a ≤ a := by
  induction j with
  | zero => intro o a; exact Int.le_refl _
  | succ j ih => intro o a; exact Int.le_trans ih (imin_le1 _ _)
theorem cuH_le {E D : Int → Int} {q : Int} {j : Nat} : ∀ {o a : Int}, ∀ i, o ≤ i → i < o + j → cuH E D q j o a ≤ E i + D (6 * i + q) := by
  induction j with
  | zero => intro o a i i0 i1; omega
  | succ j ih =>
    intro o a i i0 i1
    by_cases h : i = o
    · subst h; exact Int.le_trans (show cuH E D q (j + 1) i a ≤ imin a (E i + D (6 * i + q)) from cuH_dn) (imin_le2 _ _)
    · exact ih i (by omega) (by omega)
theorem cuH_is {E D : Int → Int} {q : Int} {j : Nat} : ∀ {o a : Int}, cuH E D q j o a = a ∨ ∃ i, o ≤ i ∧ i < o + j ∧ cuH E D q j o a = E i + D (6 * i + q) := by
  induction j with
  | zero => intro o a; exact Or.inl rfl
  | succ j ih =>
    intro o a
    rcases @ih (o + 1) (imin a (E o + D (6 * o + q))) with h | ⟨i, i0, i1, h⟩
    · unfold imin at h
      split at h
      · exact Or.inr ⟨o, Int.le_refl _, by omega, by show cuH E D q j _ _ = _; unfold imin; rw [if_pos (by assumption)]; exact h⟩
      · exact Or.inl (by show cuH E D q j _ _ = _; unfold imin; rw [if_neg (by assumption)]; exact h)
    · exact Or.inr ⟨i, by omega, by omega, h⟩
/-- numbers of the rows that are cut are not too great -/
def cuOk (M : YM) : Prop := (∀ q, in6 q → (0 ≤ M 34 q ∧ M 34 q ≤ 1001) ∧ (-2 ≤ M 35 q ∧ M 35 q ≤ 999)) ∧ ∀ i, 0 ≤ i → i < 36 → -50000000 ≤ M 38 i ∧ M 38 i ≤ 9999
theorem cuOk.fr {M M' : YM} (h : cuOk M) (g : ∀ c, c = 34 ∨ c = 35 ∨ c = 38 → M' c = M c) : cuOk M' := by
  unfold cuOk
  rw [g 34 (by omega), g 35 (by omega), g 38 (by omega)]
  exact h
theorem up_up {R : Int → Int} {k v w : Int} : up (up R k v) k w = up R k w := by
  funext j
  unfold up
  split <;> rfl
theorem c_cut_in {S : XS} {d : Nat} {v q : Int} {N : YM} {Q : Option YV → YM → YM → Prop} (hd : 1 ≤ d) (hq : in6 q) {j : Nat} : ∀ {o : Int} {M : YM}, 0 ≤ o → o + j = 6 → cuOk M → (-60000 ≤ M 36 q ∧ M 36 q ≤ 60000000) → (-60000000 ≤ M 37 q ∧ M 37 q ≤ 60000) → ry S d 38 117 [some (yr 33), some (yi v), some (yi q), some (yi 6)] [] (yrow (yrow M 36 (up (M 36) q (cuL (M 34) (M 38) q j o (M 36 q)))) 37 (up (M 37) q (cuH (M 35) (M 38) q j o (M 37 q)))) N Q → ry S d 38 39 [some (yr 33), some (yi v), some (yi q), some (yi o)] [] M N Q := by
  induction j with
  | zero =>
    intro o M h0 h1 hc hl hh kk
    refine r_run 2 (pc' := 42) (ls' := [some (yr 33), some (yi v), some (yi q), some (yi o)]) (st' := [yi 6, yi o]) (M' := M) (N' := N) rfl ?_
    refine r_icmp_ge (pc := 42) f_38_42 (by omega) (by omega) (fun h42 => ?_) (fun h42 => ?_)
    · have hb : o = 6 := by omega
      subst hb
      have e : yrow (yrow M 36 (up (M 36) q (cuL (M 34) (M 38) q 0 6 (M 36 q)))) 37 (up (M 37) q (cuH (M 35) (M 38) q 0 6 (M 37 q))) = M := by
        show yrow (yrow M 36 (up (M 36) q (M 36 q))) 37 (up (M 37) q (M 37 q)) = M
        rw [up_self, up_self, yrow_self, yrow_self]
      rw [e] at kk
      exact kk
    · exfalso; omega
  | succ j ih =>
    intro o M h0 h1 hc hl hh kk
    have b0 := hc.1 o ⟨h0, by omega⟩
    have b1 := hc.2 (q * 6 + o) (by omega) (by omega)
    have b2 := hc.2 (o * 6 + q) (by omega) (by omega)
    refine r_run 2 (pc' := 42) (ls' := [some (yr 33), some (yi v), some (yi q), some (yi o)]) (st' := [yi 6, yi o]) (M' := M) (N' := N) rfl ?_
    refine r_icmp_ge (pc := 42) f_38_42 (by omega) (by omega) (fun h42 => ?_) (fun h42 => ?_)
    · exfalso; omega
    · refine r_run 6 (pc' := 55) (ls' := [some (yr 33), some (yi v), some (yi q), some (yi o)]) (st' := [yi q, yr 36, yi q, yr 36]) (M' := M) (N' := N) rfl ?_
      refine r_iald (n := 6) f_38_55 (by decide) (by decide) (by decide) (by omega) ?_
      refine r_run 3 (pc' := 61) (ls' := [some (yr 33), some (yi v), some (yi q), some (yi o)]) (st' := [yi o, yr 34, yi (M 36 q), yi q, yr 36]) (M' := M) (N' := N) rfl ?_
      refine r_iald (n := 6) f_38_61 (by decide) (by decide) (by decide) (by omega) ?_
      refine r_run 7 (pc' := 72) (ls' := [some (yr 33), some (yi v), some (yi q), some (yi o)]) (st' := [yi ((q * 6) + o), yr 38, yi (M 34 o), yi (M 36 q), yi q, yr 36]) (M' := M) (N' := N) rfl ?_
      refine r_iald (n := 36) f_38_72 (by decide) (by decide) (by decide) (by omega) ?_
      refine r_run 1 (pc' := 74) (ls' := [some (yr 33), some (yi v), some (yi q), some (yi o)]) (st' := [yi ((M 34 o) - (M 38 ((q * 6) + o))), yi (M 36 q), yi q, yr 36]) (M' := M) (N' := N) rfl ?_
      refine r_max f_38_74 (by omega) (by omega) (Nat.le_of_ble_eq_true rfl) (by omega) (fun v74 hv74 => ?_)
      refine r_iast (n := 6) f_38_77 (by decide) (by decide) (by decide) (by omega) ?_
      refine r_run 6 (pc' := 88) (ls' := [some (yr 33), some (yi v), some (yi q), some (yi o)]) (st' := [yi q, yr 37, yi q, yr 37]) (M' := (yu M 36 q v74)) (N' := N) rfl ?_
      refine r_iald (n := 6) f_38_88 (by decide) (by decide) (by decide) (by omega) ?_
      refine r_run 3 (pc' := 94) (ls' := [some (yr 33), some (yi v), some (yi q), some (yi o)]) (st' := [yi o, yr 35, yi (M 37 q), yi q, yr 37]) (M' := (yu M 36 q v74)) (N' := N) rfl ?_
      refine r_iald (n := 6) f_38_94 (by decide) (by decide) (by decide) (by omega) ?_
      refine r_run 7 (pc' := 105) (ls' := [some (yr 33), some (yi v), some (yi q), some (yi o)]) (st' := [yi ((o * 6) + q), yr 38, yi (M 35 o), yi (M 37 q), yi q, yr 37]) (M' := (yu M 36 q v74)) (N' := N) rfl ?_
      refine r_iald (n := 36) f_38_105 (by decide) (by decide) (by decide) (by omega) ?_
      refine r_run 1 (pc' := 107) (ls' := [some (yr 33), some (yi v), some (yi q), some (yi o)]) (st' := [yi ((M 35 o) + (M 38 ((o * 6) + q))), yi (M 37 q), yi q, yr 37]) (M' := (yu M 36 q v74)) (N' := N) rfl ?_
      refine r_min f_38_107 (by omega) (by omega) (Nat.le_of_ble_eq_true rfl) (by omega) (fun v107 hv107 => ?_)
      refine r_iast (n := 6) f_38_110 (by decide) (by decide) (by decide) (by omega) ?_
      refine r_run 2 (pc' := 39) (ls' := [some (yr 33), some (yi v), some (yi q), some (yi (o + 1))]) (st' := []) (M' := (yu (yu M 36 q v74) 37 q v107)) (N' := N) rfl ?_
      have e1 : v74 = imax (M 36 q) (M 34 o - M 38 (6 * q + o)) := by
        rw [show 6 * q + o = q * 6 + o by omega]; exact imax_eq hv74
      have e2 : v107 = imin (M 37 q) (M 35 o + M 38 (6 * o + q)) := by
        rw [show 6 * o + q = o * 6 + q by omega]; exact imin_eq hv107
      rw [yu_row, yu_row, yrow_ne (show (37 : Int) ≠ 36 by decide), e1, e2]
      have n1 := imax_ge1 (M 36 q) (M 34 o - M 38 (6 * q + o))
      have n2 := imin_le1 (M 37 q) (M 35 o + M 38 (6 * o + q))
      refine ih (by omega) (by omega) (hc.fr (fun c g => by rw [yrow_ne (by omega), yrow_ne (by omega)])) ?_ ?_ ?_
      · rw [yrow_ne (show (36 : Int) ≠ 37 by decide), yrow_at, up_at]
        omega
      · rw [yrow_at, up_at]
        omega
      · rw [yrow_ne (show (36 : Int) ≠ 37 by decide), yrow_at, yrow_at, up_at, up_at, yrow_ne (show (34 : Int) ≠ 37 by decide), yrow_ne (show (34 : Int) ≠ 36 by decide), yrow_ne (show (35 : Int) ≠ 37 by decide), yrow_ne (show (35 : Int) ≠ 36 by decide), yrow_ne (show (38 : Int) ≠ 37 by decide), yrow_ne (show (38 : Int) ≠ 36 by decide), yrow_comm (show (37 : Int) ≠ 36 by decide), yrow_row, yrow_row, up_up, up_up]
        exact kk
theorem c_cut_out {S : XS} {d : Nat} {N : YM} (hd : 1 ≤ d) {j : Nat} : ∀ {v q : Int} {M : YM} {l3 : Option YV}, 0 ≤ q → q + j = 6 → cuOk M → (v = 0 ∨ v = 1) → ry S d 38 7 [some (yr 33), some (yi v), some (yi q), l3] [] M N (fun r M' N' => (∃ v', some (yi v') = r ∧ ((v' = 1 ∧ v = 1 ∧ ∀ i, q ≤ i → i < 6 → M 34 i ≤ cuH (M 35) (M 38) i 6 0 (M 35 i)) ∨ (v' = 0 ∧ (v = 0 ∨ ∃ i, q ≤ i ∧ i < 6 ∧ cuH (M 35) (M 38) i 6 0 (M 35 i) < M 34 i)))) ∧ (∃ Lo Hi, yrow (yrow M 36 Lo) 37 Hi = M' ∧ (∀ i, 0 ≤ i → i < q → Lo i = M 36 i ∧ Hi i = M 37 i) ∧ ∀ i, q ≤ i → i < 6 → Lo i = cuL (M 34) (M 38) i 6 0 (M 34 i) ∧ Hi i = cuH (M 35) (M 38) i 6 0 (M 35 i)) ∧ N = N') := by
  induction j with
  | zero =>
    intro v q M l3 h0 h1 hc hv
    refine r_run 2 (pc' := 10) (ls' := [some (yr 33), some (yi v), some (yi q), l3]) (st' := [yi 6, yi q]) (M' := M) (N' := N) rfl ?_
    refine r_icmp_ge (pc := 10) f_38_10 (by omega) (by omega) (fun h10 => ?_) (fun h10 => ?_)
    · refine r_run 1 (pc' := 149) (ls' := [some (yr 33), some (yi v), some (yi q), l3]) (st' := [yi v]) (M' := M) (N' := N) rfl ?_
      refine r_zret m_38 rfl f_38_149 (by omega) ?_
      refine ⟨⟨v, rfl, ?_⟩, ⟨M 36, M 37, by rw [yrow_self, yrow_self], fun i i0 i1 => ⟨rfl, rfl⟩, fun i i0 i1 => by omega⟩, rfl⟩
      rcases hv with hv | hv
      · exact Or.inr ⟨hv, Or.inl hv⟩
      · exact Or.inl ⟨hv, hv, fun i i0 i1 => by omega⟩
    · exfalso; omega
  | succ j ih =>
    intro v q M l3 h0 h1 hc hv
    have b0 := hc.1 q ⟨h0, by omega⟩
    refine r_run 2 (pc' := 10) (ls' := [some (yr 33), some (yi v), some (yi q), l3]) (st' := [yi 6, yi q]) (M' := M) (N' := N) rfl ?_
    refine r_icmp_ge (pc := 10) f_38_10 (by omega) (by omega) (fun h10 => ?_) (fun h10 => ?_)
    · exfalso; omega
    · refine r_run 6 (pc' := 23) (ls' := [some (yr 33), some (yi v), some (yi q), l3]) (st' := [yi q, yr 34, yi q, yr 36]) (M' := M) (N' := N) rfl ?_
      refine r_iald (n := 6) f_38_23 (by decide) (by decide) (by decide) (by omega) ?_
      refine r_iast (n := 6) f_38_24 (by decide) (by decide) (by decide) (by omega) ?_
      refine r_run 6 (pc' := 35) (ls' := [some (yr 33), some (yi v), some (yi q), l3]) (st' := [yi q, yr 35, yi q, yr 37]) (M' := (yu M 36 q (M 34 q))) (N' := N) rfl ?_
      refine r_iald (n := 6) f_38_35 (by decide) (by decide) (by decide) (by omega) ?_
      refine r_iast (n := 6) f_38_36 (by decide) (by decide) (by decide) (by omega) ?_
      refine r_run 2 (pc' := 39) (ls' := [some (yr 33), some (yi v), some (yi q), some (yi 0)]) (st' := []) (M' := (yu (yu M 36 q (M 34 q)) 37 q (M 35 q))) (N' := N) rfl ?_
      rw [yu_row, yu_row, yrow_ne (show (37 : Int) ≠ 36 by decide)]
      refine c_cut_in (j := 6) hd ⟨h0, by omega⟩ (Int.le_refl 0) rfl (hc.fr (fun c g => by rw [yrow_ne (by omega), yrow_ne (by omega)])) ?_ ?_ ?_
      · rw [yrow_ne (show (36 : Int) ≠ 37 by decide), yrow_at, up_at]; omega
      · rw [yrow_at, up_at]; omega
      rw [yrow_ne (show (36 : Int) ≠ 37 by decide), yrow_at, yrow_at, up_at, up_at, yrow_ne (show (34 : Int) ≠ 37 by decide), yrow_ne (show (34 : Int) ≠ 36 by decide), yrow_ne (show (35 : Int) ≠ 37 by decide), yrow_ne (show (35 : Int) ≠ 36 by decide), yrow_ne (show (38 : Int) ≠ 37 by decide), yrow_ne (show (38 : Int) ≠ 36 by decide), yrow_comm (show (37 : Int) ≠ 36 by decide), yrow_row, yrow_row, up_up, up_up]
      have nh1 : -60000000 ≤ cuH (M 35) (M 38) q 6 0 (M 35 q) := by
        rcases @cuH_is (M 35) (M 38) q 6 0 (M 35 q) with h | ⟨i, i0, i1, h⟩
        · omega
        · have := hc.1 i ⟨i0, by omega⟩
          have := hc.2 (6 * i + q) (by omega) (by omega)
          omega
      have nh2 := @cuH_dn (M 35) (M 38) q 6 0 (M 35 q)
      generalize hM2 : yrow (yrow M 36 (up (M 36) q (cuL (M 34) (M 38) q 6 0 (M 34 q)))) 37 (up (M 37) q (cuH (M 35) (M 38) q 6 0 (M 35 q))) = M2
      have k34 : M2 34 = M 34 := by rw [← hM2, yrow_ne (by omega), yrow_ne (by omega)]
      have k35 : M2 35 = M 35 := by rw [← hM2, yrow_ne (by omega), yrow_ne (by omega)]
      have k38 : M2 38 = M 38 := by rw [← hM2, yrow_ne (by omega), yrow_ne (by omega)]
      have k36 : M2 36 = up (M 36) q (cuL (M 34) (M 38) q 6 0 (M 34 q)) := by rw [← hM2, yrow_ne (by omega), yrow_at]
      have k37 : M2 37 = up (M 37) q (cuH (M 35) (M 38) q 6 0 (M 35 q)) := by rw [← hM2, yrow_at]
      have k37q : M2 37 q = cuH (M 35) (M 38) q 6 0 (M 35 q) := by rw [k37, up_at]
      have k34q : M2 34 q = M 34 q := by rw [k34]
      have hc2 : cuOk M2 := hc.fr (fun c g => by rw [← hM2, yrow_ne (by omega), yrow_ne (by omega)])
      refine r_run 1 (pc' := 118) (ls' := [some (yr 33), some (yi v), some (yi q), some (yi 6)]) (st' := [yi v]) (M' := M2) (N' := N) rfl ?_
      refine r_if_eq (pc := 118) f_38_118 (by omega) (fun h118 => ?_) (fun h118 => ?_)
      · refine r_run 4 (pc' := 7) (ls' := [some (yr 33), some (yi 0), some (yi (q + 1)), some (yi 6)]) (st' := []) (M' := M2) (N' := N) rfl ?_
        refine r_post (ih (v := 0) (l3 := some (yi 6)) (by omega) (by omega) hc2 (by omega)) ?_
        rintro _ _ _ ⟨⟨v', rfl, hv'⟩, ⟨Lo, Hi, rfl, z1, z2⟩, rfl⟩
        rw [k34, k35, k38] at hv' z2
        rw [k36, k37] at z1
        refine ⟨⟨v', rfl, ?_⟩, ⟨Lo, Hi, ?_, fun i i0 i1 => ?_, fun i i0 i1 => ?_⟩, rfl⟩
        · rcases hv' with ⟨a1, a2, a3⟩ | ⟨a1, a2⟩
          · omega
          · exact Or.inr ⟨a1, Or.inl (by omega)⟩
        · rw [← hM2, yrow_comm (show (37 : Int) ≠ 36 by decide), yrow_row, yrow_row]
        · have := z1 i i0 (by omega)
          rw [up_ne (by omega), up_ne (by omega)] at this
          exact this
        · by_cases hi : i = q
          · subst hi
            have := z1 i h0 (by omega)
            rw [up_at, up_at] at this
            exact this
          · exact z2 i (by omega) i1
      · refine r_run 3 (pc' := 126) (ls' := [some (yr 33), some (yi v), some (yi q), some (yi 6)]) (st' := [yi q, yr 34]) (M' := M2) (N' := N) rfl ?_
        refine r_iald (n := 6) f_38_126 (by decide) (by decide) (by decide) (by omega) ?_
        refine r_run 3 (pc' := 132) (ls' := [some (yr 33), some (yi v), some (yi q), some (yi 6)]) (st' := [yi q, yr 37, yi (M2 34 q)]) (M' := M2) (N' := N) rfl ?_
        refine r_iald (n := 6) f_38_132 (by decide) (by decide) (by decide) (by omega) ?_
        refine r_icmp_gt (pc := 133) f_38_133 (by omega) (by omega) (fun h133 => ?_) (fun h133 => ?_)
        · refine r_run 4 (pc' := 7) (ls' := [some (yr 33), some (yi 0), some (yi (q + 1)), some (yi 6)]) (st' := []) (M' := M2) (N' := N) rfl ?_
          refine r_post (ih (v := 0) (l3 := some (yi 6)) (by omega) (by omega) hc2 (by omega)) ?_
          rintro _ _ _ ⟨⟨v', rfl, hv'⟩, ⟨Lo, Hi, rfl, z1, z2⟩, rfl⟩
          rw [k34, k35, k38] at hv' z2
          rw [k36, k37] at z1
          refine ⟨⟨v', rfl, ?_⟩, ⟨Lo, Hi, ?_, fun i i0 i1 => ?_, fun i i0 i1 => ?_⟩, rfl⟩
          · rcases hv' with ⟨a1, a2, a3⟩ | ⟨a1, a2⟩
            · omega
            · exact Or.inr ⟨a1, Or.inr ⟨q, Int.le_refl _, by omega, by omega⟩⟩
          · rw [← hM2, yrow_comm (show (37 : Int) ≠ 36 by decide), yrow_row, yrow_row]
          · have := z1 i i0 (by omega)
            rw [up_ne (by omega), up_ne (by omega)] at this
            exact this
          · by_cases hi : i = q
            · subst hi
              have := z1 i h0 (by omega)
              rw [up_at, up_at] at this
              exact this
            · exact z2 i (by omega) i1
        · refine r_run 5 (pc' := 7) (ls' := [some (yr 33), some (yi 1), some (yi (q + 1)), some (yi 6)]) (st' := []) (M' := M2) (N' := N) rfl ?_
          refine r_post (ih (v := 1) (l3 := some (yi 6)) (by omega) (by omega) hc2 (by omega)) ?_
          rintro _ _ _ ⟨⟨v', rfl, hv'⟩, ⟨Lo, Hi, rfl, z1, z2⟩, rfl⟩
          rw [k34, k35, k38] at hv' z2
          rw [k36, k37] at z1
          refine ⟨⟨v', rfl, ?_⟩, ⟨Lo, Hi, ?_, fun i i0 i1 => ?_, fun i i0 i1 => ?_⟩, rfl⟩
          · rcases hv' with ⟨a1, a2, a3⟩ | ⟨a1, a2⟩
            · refine Or.inl ⟨a1, by omega, fun i i0 i1 => ?_⟩
              by_cases hi : i = q
              · subst hi; omega
              · exact a3 i (by omega) i1
            · rcases a2 with a2 | ⟨i, i0, i1, a2⟩
              · omega
              · exact Or.inr ⟨a1, Or.inr ⟨i, by omega, i1, a2⟩⟩
          · rw [← hM2, yrow_comm (show (37 : Int) ≠ 36 by decide), yrow_row, yrow_row]
          · have := z1 i i0 (by omega)
            rw [up_ne (by omega), up_ne (by omega)] at this
            exact this
          · by_cases hi : i = q
            · subst hi
              have := z1 i h0 (by omega)
              rw [up_at, up_at] at this
              exact this
            · exact z2 i (by omega) i1
theorem c_cut {S : XS} {M N : YM} (hc : cuOk M) (hv : M 33 5 = 0 ∨ M 33 5 = 1) : rm S 1 38 [yr 33] M N (fun r M' N' => (∃ v', some (yi v') = r ∧ ((v' = 1 ∧ M 33 5 = 1 ∧ ∀ i, 0 ≤ i → i < 6 → M 34 i ≤ cuH (M 35) (M 38) i 6 0 (M 35 i)) ∨ (v' = 0 ∧ (M 33 5 = 0 ∨ ∃ i, 0 ≤ i ∧ i < 6 ∧ cuH (M 35) (M 38) i 6 0 (M 35 i) < M 34 i)))) ∧ (∃ Lo Hi, yrow (yrow M 36 Lo) 37 Hi = M' ∧ ∀ i, 0 ≤ i → i < 6 → Lo i = cuL (M 34) (M 38) i 6 0 (M 34 i) ∧ Hi i = cuH (M 35) (M 38) i 6 0 (M 35 i)) ∧ N = N') := by
  refine ⟨xe_38, m_38, Nat.le_of_ble_eq_true rfl, ?_⟩
  refine r_run 5 (pc' := 7) (ls' := [some (yr 33), some (yi (M 33 5)), some (yi 0), none]) (st' := []) (M' := M) (N' := N) rfl ?_
  refine r_post (c_cut_out (j := 6) (Nat.le_refl _) (Int.le_refl 0) rfl hc hv) ?_
  rintro _ _ _ ⟨a, ⟨Lo, Hi, b1, b2, b3⟩, c⟩
  exact ⟨a, ⟨Lo, Hi, b1, b3⟩, c⟩
