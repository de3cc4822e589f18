/-- sayings by a sheet of cells D, of size z: turns left, the turn, the reference's memory, how many came -/
def mBy (D : Int → Int) (z p : Int) : Nat → Int → YM → Int → YM × Int
  | 0, _, B, m => (B, m)
  | j + 1, i, B, m => if p < 0 ∨ z < p ∨ z - 4 < p + 4 * i then (B, -12) else
    if sGood (D (p + 4 * i)) (D (p + 4 * i + 1)) (D (p + 4 * i + 2)) (D (p + 4 * i + 3)) ∧ B 75 0 < 10 then mBy D z p j (i + 1) (mSaid B (D (p + 4 * i)) (D (p + 4 * i + 1)) (D (p + 4 * i + 2)) (D (p + 4 * i + 3))) (m + 1) else mBy D z p j (i + 1) B m
theorem mBy_out {D : Int → Int} {z p : Int} {j : Nat} {i : Int} {B : YM} {m : Int} (h : p < 0 ∨ z < p ∨ z - 4 < p + 4 * i) : mBy D z p (j + 1) i B m = (B, -12) := by
  unfold mBy
  rw [if_pos h]
theorem mBy_yes {D : Int → Int} {z p : Int} {j : Nat} {i : Int} {B : YM} {m : Int} (h : ¬ (p < 0 ∨ z < p ∨ z - 4 < p + 4 * i)) (g : sGood (D (p + 4 * i)) (D (p + 4 * i + 1)) (D (p + 4 * i + 2)) (D (p + 4 * i + 3))) (n : B 75 0 < 10) : mBy D z p (j + 1) i B m = mBy D z p j (i + 1) (mSaid B (D (p + 4 * i)) (D (p + 4 * i + 1)) (D (p + 4 * i + 2)) (D (p + 4 * i + 3))) (m + 1) := by
  rw [mBy, if_neg h, if_pos ⟨g, n⟩]
theorem mBy_no {D : Int → Int} {z p : Int} {j : Nat} {i : Int} {B : YM} {m : Int} (h : ¬ (p < 0 ∨ z < p ∨ z - 4 < p + 4 * i)) (g : ¬ (sGood (D (p + 4 * i)) (D (p + 4 * i + 1)) (D (p + 4 * i + 2)) (D (p + 4 * i + 3)) ∧ B 75 0 < 10)) : mBy D z p (j + 1) i B m = mBy D z p j (i + 1) B m := by
  rw [mBy, if_neg h, if_neg g]
/-- only sayings change -/
def eqo (A A' : YM) : Prop := ∀ c k : Int, c ≠ 1 ∨ k ≠ 1 → c < 3 ∨ 12 < c → A' c k = A c k
theorem eqo.refl {A : YM} : eqo A A := fun _ _ _ _ => rfl
theorem eqo.trans {A B C : YM} (h : eqo A B) (g : eqo B C) : eqo A C := fun c k n m => (g c k n m).trans (h c k n m)
theorem eqo.said {A : YM} {km o lo hi : Int} (h : 0 ≤ A 1 1 ∧ A 1 1 < 10) : eqo A (cSaid A km o lo hi) := fun c k n m => by
  unfold cSaid
  rw [yu_ne (by omega), yu_ne (by omega), yu_ne (by omega), yu_ne (by omega), yu_ne (by omega), yu_ne (by omega)]
/-- only sayings change, of the reference -/
def eqp (B B' : YM) : Prop := ∀ c k : Int, c ≠ 76 → c ≠ 75 ∨ k ≠ 0 → B' c k = B c k
theorem eqp.refl {A : YM} : eqp A A := fun _ _ _ _ => rfl
theorem eqp.trans {A B C : YM} (h : eqp A B) (g : eqp B C) : eqp A C := fun c k n m => (g c k n m).trans (h c k n m)
theorem eqp.said {B : YM} {km o lo hi : Int} : eqp B (mSaid B km o lo hi) := fun c k n m => by
  unfold mSaid
  rw [yu_ne (by omega), yu_ne (by omega), yu_ne (by omega), yu_ne (by omega), yu_ne (by omega), yu_ne (by omega)]
theorem mBy_eqp {D : Int → Int} {z p : Int} {j : Nat} : ∀ {i : Int} {B : YM} {m : Int}, eqp B (mBy D z p j i B m).1 := by
  induction j with
  | zero => intro i B m; exact eqp.refl
  | succ j ih =>
    intro i B m
    unfold mBy
    split
    · exact eqp.refl
    · split
      · exact eqp.said.trans ih
      · exact ih
/-- what is reckoned of like cells is alike -/
def eqt (B B' : YM) : Prop := (∀ k : Int, B' 76 k = B 76 k) ∧ ∀ k : Int, k < 21 → B' 75 k = B 75 k
theorem mBy_congr {D : Int → Int} {z p : Int} {j : Nat} : ∀ {i : Int} {B B' : YM} {m : Int}, eqt B B' → (mBy D z p j i B' m).2 = (mBy D z p j i B m).2 ∧ eqt (mBy D z p j i B m).1 (mBy D z p j i B' m).1 := by
  induction j with
  | zero => intro i B B' m h; exact ⟨rfl, h⟩
  | succ j ih =>
    intro i B B' m h
    unfold mBy
    rw [h.2 0 (by omega)]
    split
    · exact ⟨rfl, h⟩
    · split
      · refine ih ⟨fun k => ?_, fun k hk => ?_⟩
        · unfold mSaid
          rw [h.2 0 (by omega)]
          unfold yu
          simp only [h.1]
        · unfold mSaid
          rw [h.2 0 (by omega)]
          unfold yu
          simp only [h.2 k hk]
      · exact ih h
theorem c_by_loop {S : XS} {d : Nat} {s t p n z : Int} {D : Int → Int} {N : YM} (hd : 4 ≤ d) (hs : 0 ≤ s ∧ s < 4) (hp : -2147483648 ≤ p ∧ p < 2147483648) (hz0 : 0 ≤ z ∧ z ≤ 40) (hn : 0 ≤ n ∧ n ≤ 10) {j : Nat} : ∀ {i m : Int} {A B : YM} {l8 : Option YV}, 0 ≤ i → i + j = n → (0 ≤ m ∧ m ≤ i) → RS A B → A (67 + 2 * s) 2 = z → (∀ k, 0 ≤ k → k < 40 → A (68 + 2 * s) k = D k ∧ (-2147483648 ≤ D k ∧ D k < 2147483648)) → ry S d 88 68 [some (yr 0), some (yi s), some (yi t), some (yi p), some (yi n), some (yr (67 + 2 * s)), some (yi m), some (yi i), l8] [] A N (fun r M' N' => ∃ v : Int, some (yi v) = r ∧ v = (mBy D z p j i B m).2 ∧ RS M' (mBy D z p j i B m).1 ∧ eqo A M' ∧ N = N') := by
  induction j with
  | zero =>
    intro i m A B l8 h0 h1 hm hS hz hD
    refine r_run 2 (pc' := 72) (ls' := [some (yr 0), some (yi s), some (yi t), some (yi p), some (yi n), some (yr (67 + 2 * s)), some (yi m), some (yi i), l8]) (st' := [yi n, yi i]) (M' := A) (N' := N) rfl ?_
    refine r_icmp_ge (pc := 72) f_88_72 (by omega) (by omega) (fun h72 => ?_) (fun h72 => ?_)
    · refine r_run 1 (pc' := 170) (ls' := [some (yr 0), some (yi s), some (yi t), some (yi p), some (yi n), some (yr (67 + 2 * s)), some (yi m), some (yi i), l8]) (st' := [yi m]) (M' := A) (N' := N) rfl ?_
      refine r_iret m_88 rfl f_88_170 ?_
      exact ⟨_, rfl, rfl, hS, eqo.refl, rfl⟩
    · omega
  | succ j ih =>
    intro i m A B l8 h0 h1 hm hS hz hD
    refine r_run 2 (pc' := 72) (ls' := [some (yr 0), some (yi s), some (yi t), some (yi p), some (yi n), some (yr (67 + 2 * s)), some (yi m), some (yi i), l8]) (st' := [yi n, yi i]) (M' := A) (N' := N) rfl ?_
    refine r_icmp_ge (pc := 72) f_88_72 (by omega) (by omega) (fun h72 => ?_) (fun h72 => ?_)
    · refine r_run 1 (pc' := 170) (ls' := [some (yr 0), some (yi s), some (yi t), some (yi p), some (yi n), some (yr (67 + 2 * s)), some (yi m), some (yi i), l8]) (st' := [yi m]) (M' := A) (N' := N) rfl ?_
      refine r_iret m_88 rfl f_88_170 ?_
      exfalso; omega
--      exact ⟨_, rfl, rfl, hS, eqo.refl, rfl⟩
    · refine r_run 3 (pc' := 79) (ls' := [some (yr 0), some (yi s), some (yi t), some (yi p), some (yi n), some (yr (67 + 2 * s)), some (yi m), some (yi i), l8]) (st' := [yr (67 + 2 * s), yi 0, yi p]) (M' := A) (N' := N) rfl ?_
      refine r_getf (n := 3) 2 rfl f_88_79 (by decide) (show xFT[19]? = some (3, 2) from rfl) (by decide) (by omega) (yk_sheet (by omega)) ?_
      refine r_static (mj := 90) (as := [yi p, yi 0, yi (A (67 + 2 * s) 2)]) (rest := []) f_88_82 (by decide) rfl m_90 rfl rfl rfl (Nat.le_of_ble_eq_true rfl) (by omega) (c_within (by omega) (by omega) (by omega)) ?_
      rintro _ _ _ ⟨v82, rfl, hv82, rfl, rfl⟩
      refine r_if_eq (pc := 85) f_88_85 (by omega) (fun h85 => ?_) (fun h85 => ?_)
      · refine r_run 1 (pc' := 105) (ls' := [some (yr 0), some (yi s), some (yi t), some (yi p), some (yi n), some (yr (67 + 2 * s)), some (yi m), some (yi i), l8]) (st' := [yi (-12)]) (M' := A) (N' := N) rfl ?_
        refine r_iret m_88 rfl f_88_105 ?_
        skip
        exact ⟨_, rfl, by rw [mBy_out (by omega)], by rw [mBy_out (by omega)]; exact hS, eqo.refl, rfl⟩
      · refine r_run 7 (pc' := 97) (ls' := [some (yr 0), some (yi s), some (yi t), some (yi p), some (yi n), some (yr (67 + 2 * s)), some (yi m), some (yi i), l8]) (st' := [yi 4, yi (p + (4 * i)), yr (67 + 2 * s)]) (M' := A) (N' := N) rfl ?_
        refine r_virtual (mj := 32) (b := 67 + 2 * s) (as := [yi (p + (4 * i)), yi 4]) (rest := []) f_88_97 (by decide) rfl m_32 (by decide) (by omega) (by rw [(yk_sheet (by omega))]; rfl) rfl rfl (Nat.le_of_ble_eq_true rfl) (by omega) (c_hasRun (by omega) (by omega) (by omega) (by omega)) ?_
        rintro _ _ _ ⟨v97, rfl, hv97, rfl, rfl⟩
        refine r_if_ne (pc := 100) f_88_100 (by omega) (fun h100 => ?_) (fun h100 => ?_)
        · refine r_run 8 (pc' := 117) (ls' := [some (yr 0), some (yi s), some (yi t), some (yi p), some (yi n), some (yr (67 + 2 * s)), some (yi m), some (yi i), some (yi (p + (4 * i)))]) (st' := [yr (67 + 2 * s), yr 0]) (M' := A) (N' := N) rfl ?_
          refine r_getr (r := 68 + 2 * s) (n := 3) f_88_117 (by decide) (show xFT[17]? = some (3, 0) from rfl) (by decide) (by omega) (yk_sheet (by omega)) (rf_scell (by omega)) ?_
          refine r_run 1 (pc' := 122) (ls' := [some (yr 0), some (yi s), some (yi t), some (yi p), some (yi n), some (yr (67 + 2 * s)), some (yi m), some (yi i), some (yi (p + (4 * i)))]) (st' := [yi (p + (4 * i)), yr (68 + 2 * s), yr 0]) (M' := A) (N' := N) rfl ?_
          refine r_iald (n := 40) f_88_122 (by omega) (yk_scell (by omega)) (by decide) (by omega) ?_
          refine r_run 1 (pc' := 125) (ls' := [some (yr 0), some (yi s), some (yi t), some (yi p), some (yi n), some (yr (67 + 2 * s)), some (yi m), some (yi i), some (yi (p + (4 * i)))]) (st' := [yr (67 + 2 * s), yi (A (68 + 2 * s) (p + (4 * i))), yr 0]) (M' := A) (N' := N) rfl ?_
          refine r_getr (r := 68 + 2 * s) (n := 3) f_88_125 (by decide) (show xFT[17]? = some (3, 0) from rfl) (by decide) (by omega) (yk_sheet (by omega)) (rf_scell (by omega)) ?_
          refine r_run 3 (pc' := 132) (ls' := [some (yr 0), some (yi s), some (yi t), some (yi p), some (yi n), some (yr (67 + 2 * s)), some (yi m), some (yi i), some (yi (p + (4 * i)))]) (st' := [yi ((p + (4 * i)) + 1), yr (68 + 2 * s), yi (A (68 + 2 * s) (p + (4 * i))), yr 0]) (M' := A) (N' := N) rfl ?_
          refine r_iald (n := 40) f_88_132 (by omega) (yk_scell (by omega)) (by decide) (by omega) ?_
          refine r_run 1 (pc' := 135) (ls' := [some (yr 0), some (yi s), some (yi t), some (yi p), some (yi n), some (yr (67 + 2 * s)), some (yi m), some (yi i), some (yi (p + (4 * i)))]) (st' := [yr (67 + 2 * s), yi (A (68 + 2 * s) ((p + (4 * i)) + 1)), yi (A (68 + 2 * s) (p + (4 * i))), yr 0]) (M' := A) (N' := N) rfl ?_
          refine r_getr (r := 68 + 2 * s) (n := 3) f_88_135 (by decide) (show xFT[17]? = some (3, 0) from rfl) (by decide) (by omega) (yk_sheet (by omega)) (rf_scell (by omega)) ?_
          refine r_run 3 (pc' := 142) (ls' := [some (yr 0), some (yi s), some (yi t), some (yi p), some (yi n), some (yr (67 + 2 * s)), some (yi m), some (yi i), some (yi (p + (4 * i)))]) (st' := [yi ((p + (4 * i)) + 2), yr (68 + 2 * s), yi (A (68 + 2 * s) ((p + (4 * i)) + 1)), yi (A (68 + 2 * s) (p + (4 * i))), yr 0]) (M' := A) (N' := N) rfl ?_
          refine r_iald (n := 40) f_88_142 (by omega) (yk_scell (by omega)) (by decide) (by omega) ?_
          refine r_run 1 (pc' := 145) (ls' := [some (yr 0), some (yi s), some (yi t), some (yi p), some (yi n), some (yr (67 + 2 * s)), some (yi m), some (yi i), some (yi (p + (4 * i)))]) (st' := [yr (67 + 2 * s), yi (A (68 + 2 * s) ((p + (4 * i)) + 2)), yi (A (68 + 2 * s) ((p + (4 * i)) + 1)), yi (A (68 + 2 * s) (p + (4 * i))), yr 0]) (M' := A) (N' := N) rfl ?_
          refine r_getr (r := 68 + 2 * s) (n := 3) f_88_145 (by decide) (show xFT[17]? = some (3, 0) from rfl) (by decide) (by omega) (yk_sheet (by omega)) (rf_scell (by omega)) ?_
          refine r_run 3 (pc' := 152) (ls' := [some (yr 0), some (yi s), some (yi t), some (yi p), some (yi n), some (yr (67 + 2 * s)), some (yi m), some (yi i), some (yi (p + (4 * i)))]) (st' := [yi ((p + (4 * i)) + 3), yr (68 + 2 * s), yi (A (68 + 2 * s) ((p + (4 * i)) + 2)), yi (A (68 + 2 * s) ((p + (4 * i)) + 1)), yi (A (68 + 2 * s) (p + (4 * i))), yr 0]) (M' := A) (N' := N) rfl ?_
          refine r_iald (n := 40) f_88_152 (by omega) (yk_scell (by omega)) (by decide) (by omega) ?_
          refine r_virtual (mj := 96) (b := 0) (as := [yi (A (68 + 2 * s) (p + (4 * i))), yi (A (68 + 2 * s) ((p + (4 * i)) + 1)), yi (A (68 + 2 * s) ((p + (4 * i)) + 2)), yi (A (68 + 2 * s) ((p + (4 * i)) + 3))]) (rest := []) f_88_153 (by decide) rfl m_96 (by decide) (by decide) (by decide) rfl rfl (Nat.le_of_ble_eq_true rfl) (by omega) (c_addSaying (by rw [(hD (p + 4 * i) (by omega) (by omega)).1]; exact (hD (p + 4 * i) (by omega) (by omega)).2) (by rw [(hD (p + 4 * i + 1) (by omega) (by omega)).1]; exact (hD (p + 4 * i + 1) (by omega) (by omega)).2) (by rw [(hD (p + 4 * i + 2) (by omega) (by omega)).1]; exact (hD (p + 4 * i + 2) (by omega) (by omega)).2) (by rw [(hD (p + 4 * i + 3) (by omega) (by omega)).1]; exact (hD (p + 4 * i + 3) (by omega) (by omega)).2) (by rw [hS.1]; exact hS.2.1)) ?_
          rintro _ A2 _ ⟨v, rfl, hv, rfl⟩
          have g1 := hS.1
          have g2 := hS.2.1
          refine r_if_lt (pc := 156) f_88_156 (by rcases hv with h | h | h <;> omega) (fun h156 => ?_) (fun h156 => ?_)
          · refine r_run 2 (pc' := 68) (ls' := [some (yr 0), some (yi s), some (yi t), some (yi p), some (yi n), some (yr (67 + 2 * s)), some (yi m), some (yi (i + 1)), some (yi (p + (4 * i)))]) (st' := []) (M' := A2) (N' := N) rfl ?_
            have e0 := hD (p + 4 * i) (by omega) (by omega)
            have e1 := hD (p + 4 * i + 1) (by omega) (by omega)
            have e2 := hD (p + 4 * i + 2) (by omega) (by omega)
            have e3 := hD (p + 4 * i + 3) (by omega) (by omega)
            rw [e0.1, e1.1, e2.1, e3.1] at hv
            rcases hv with ⟨g1, g2, g3, rfl⟩ | ⟨g1, g2, g3, rfl⟩ | ⟨g1, g3, rfl⟩
            · omega
            · rw [mBy_no (by omega) (fun g => by have := g.2; omega)]
              exact ih (l8 := some (yi (p + 4 * i))) (by omega) (by omega) (by omega) hS hz hD
            · rw [mBy_no (by omega) (fun g => g1 g.1)]
              exact ih (l8 := some (yi (p + 4 * i))) (by omega) (by omega) (by omega) hS hz hD
          · refine r_run 3 (pc' := 68) (ls' := [some (yr 0), some (yi s), some (yi t), some (yi p), some (yi n), some (yr (67 + 2 * s)), some (yi (m + 1)), some (yi (i + 1)), some (yi (p + (4 * i)))]) (st' := []) (M' := A2) (N' := N) rfl ?_
            have e0 := hD (p + 4 * i) (by omega) (by omega)
            have e1 := hD (p + 4 * i + 1) (by omega) (by omega)
            have e2 := hD (p + 4 * i + 2) (by omega) (by omega)
            have e3 := hD (p + 4 * i + 3) (by omega) (by omega)
            rw [e0.1, e1.1, e2.1, e3.1] at hv
            rcases hv with ⟨g1, g2, g3, rfl⟩ | ⟨g1, g2, g3, rfl⟩ | ⟨g1, g3, rfl⟩
            · rw [mBy_yes (by omega) g1 (by rw [← hS.1]; exact g2)]
              have ho : eqo A (cSaid A (D (p + 4 * i)) (D (p + 4 * i + 1)) (D (p + 4 * i + 2)) (D (p + 4 * i + 3))) := eqo.said ⟨by omega, g2⟩
              refine r_post (ih (l8 := some (yi (p + 4 * i))) (by omega) (by omega) (by omega) (hS.said g1 (by omega)) (by rw [ho _ _ (by omega) (by omega)]; exact hz) (fun k k0 k1 => by rw [ho _ _ (by omega) (by omega)]; exact hD k k0 k1)) ?_
              rintro _ _ _ ⟨v, rfl, h1, h2, h3, rfl⟩
              exact ⟨v, rfl, h1, h2, ho.trans h3, rfl⟩
            · omega
            · omega
        · refine r_run 1 (pc' := 105) (ls' := [some (yr 0), some (yi s), some (yi t), some (yi p), some (yi n), some (yr (67 + 2 * s)), some (yi m), some (yi i), l8]) (st' := [yi (-12)]) (M' := A) (N' := N) rfl ?_
          refine r_iret m_88 rfl f_88_105 ?_
          skip
          exact ⟨_, rfl, by rw [mBy_out (by omega)], by rw [mBy_out (by omega)]; exact hS, eqo.refl, rfl⟩
theorem r_wrapl {S : XS} {d mi pc : Nat} {ls : YL} {st : List YV} {M N : YM} {Q : Option YV → YM → YM → Prop} {a b : Int} (i : Nat) (h : ls[i]? = some (some (yi a))) (hb : ∃ q : Int, b = a + 4294967296 * q) (k : ry S d mi pc (ls.set i (some (yi b))) st M N Q) : ry S d mi pc ls st M N Q := by
  obtain ⟨q, rfl⟩ := hb
  have e : Int32.ofInt (a + 4294967296 * q) = Int32.ofInt a := Int32.toInt_inj.mp (by
    rw [Int32.toInt_ofInt, Int32.toInt_ofInt]
    simp only [Int.bmod_def, show Int32.size = 4294967296 from rfl]
    omega)
  have e2 : yo (ls.set i (some (yi (a + 4294967296 * q)))) = yo ls := by
    unfold yo
    rw [List.map_set]
    show (List.map (Option.map yv) ls).set i (some (Value.int (Int32.ofInt (a + 4294967296 * q)))) = _
    rw [e]
    apply List.ext_getElem?
    intro j
    rw [List.getElem?_set]
    split
    · rename_i hj
      subst hj
      split
      · rw [List.getElem?_map, h]; rfl
      · rename_i hl
        rw [List.length_map] at hl
        rw [List.getElem?_eq_none (by omega)] at h
        cases h
    · rfl
  unfold ry at k ⊢
  rw [e2] at k
  exact k
theorem m_by_loop {S : XS} {d : Nat} {s t p n z : Int} {D : Int → Int} {N : YM} (hd : 3 ≤ d) (hs : 0 ≤ s ∧ s < 4) (hp : -2147483648 ≤ p ∧ p < 2147483648) (hz0 : 0 ≤ z ∧ z ≤ 40) (hn : 0 ≤ n ∧ n ≤ 10) {j : Nat} : ∀ {i m : Int} {B : YM} {l7 l8 : Option YV}, 0 ≤ i → i + j = n → (0 ≤ m ∧ m ≤ i) → (0 ≤ B 75 0 ∧ B 75 0 ≤ 10) → B 83 s = z → (∀ k, 0 ≤ k → k < 40 → B 84 (40 * s + k) = D k ∧ (-2147483648 ≤ D k ∧ D k < 2147483648)) → ry S d 189 64 [some (yr 75), some (yi s), some (yi t), some (yi p), some (yi n), some (yi m), some (yi i), l7, l8] [] B N (fun r M' N' => ∃ v : Int, some (yi v) = r ∧ v = (mBy D (z) p j i B m).2 ∧ (mBy D (z) p j i B m).1 = M' ∧ N = N') := by
  induction j with
  | zero =>
    intro i m B l7 l8 h0 h1 hm hS h83 hD
    refine r_run 2 (pc' := 68) (ls' := [some (yr 75), some (yi s), some (yi t), some (yi p), some (yi n), some (yi m), some (yi i), l7, l8]) (st' := [yi n, yi i]) (M' := B) (N' := N) rfl ?_
    refine r_icmp_ge (pc := 68) f_189_68 (by omega) (by omega) (fun h68 => ?_) (fun h68 => ?_)
    · refine r_run 1 (pc' := 173) (ls' := [some (yr 75), some (yi s), some (yi t), some (yi p), some (yi n), some (yi m), some (yi i), l7, l8]) (st' := [yi m]) (M' := B) (N' := N) rfl ?_
      refine r_iret m_189 rfl f_189_173 ?_
      exact ⟨_, rfl, rfl, rfl, rfl⟩
    · omega
  | succ j ih =>
    intro i m B l7 l8 h0 h1 hm hS h83 hD
    refine r_run 2 (pc' := 68) (ls' := [some (yr 75), some (yi s), some (yi t), some (yi p), some (yi n), some (yi m), some (yi i), l7, l8]) (st' := [yi n, yi i]) (M' := B) (N' := N) rfl ?_
    refine r_icmp_ge (pc := 68) f_189_68 (by omega) (by omega) (fun h68 => ?_) (fun h68 => ?_)
    · refine r_run 1 (pc' := 173) (ls' := [some (yr 75), some (yi s), some (yi t), some (yi p), some (yi n), some (yi m), some (yi i), l7, l8]) (st' := [yi m]) (M' := B) (N' := N) rfl ?_
      refine r_iret m_189 rfl f_189_173 ?_
      exfalso; omega
--      exact ⟨_, rfl, rfl, rfl, rfl⟩
    · refine r_run 7 (pc' := 80) (ls' := [some (yr 75), some (yi s), some (yi t), some (yi p), some (yi n), some (yi m), some (yi i), some (yi (p + (4 * i))), l8]) (st' := [yi p]) (M' := B) (N' := N) rfl ?_
      refine r_if_lt (pc := 80) f_189_80 (by omega) (fun h80 => ?_) (fun h80 => ?_)
      · refine r_run 1 (pc' := 104) (ls' := [some (yr 75), some (yi s), some (yi t), some (yi p), some (yi n), some (yi m), some (yi i), some (yi (p + (4 * i))), l8]) (st' := [yi (-12)]) (M' := B) (N' := N) rfl ?_
        refine r_iret m_189 rfl f_189_104 ?_
        exact ⟨_, rfl, by rw [mBy_out (by omega)], by rw [mBy_out (by omega)], rfl⟩
      · by_cases hw : p + 4 * i < 2147483648
        rotate_left
        · refine r_wrapl 7 (a := p + 4 * i) (b := p + 4 * i - 4294967296) rfl ⟨-1, by omega⟩ ?_
          refine r_run 2 (pc' := 86) (ls' := [some (yr 75), some (yi s), some (yi t), some (yi p), some (yi n), some (yi m), some (yi i), some (yi (p + 4 * i - 4294967296)), l8]) (st' := [yi p, yi (p + 4 * i - 4294967296)]) (M' := B) (N' := N) rfl ?_
          refine r_icmp_lt (pc := 86) f_189_86 (by omega) (by omega) (fun h86 => ?_) (fun h86 => ?_)
          · refine r_run 1 (pc' := 104) (ls' := [some (yr 75), some (yi s), some (yi t), some (yi p), some (yi n), some (yi m), some (yi i), some (yi (p + 4 * i - 4294967296)), l8]) (st' := [yi (-12)]) (M' := B) (N' := N) rfl ?_
            refine r_iret m_189 rfl f_189_104 ?_
            exact ⟨_, rfl, by rw [mBy_out (by omega)], by rw [mBy_out (by omega)], rfl⟩
          · omega
        refine r_run 2 (pc' := 86) (ls' := [some (yr 75), some (yi s), some (yi t), some (yi p), some (yi n), some (yi m), some (yi i), some (yi (p + (4 * i))), l8]) (st' := [yi p, yi (p + (4 * i))]) (M' := B) (N' := N) rfl ?_
        refine r_icmp_lt (pc := 86) f_189_86 (by omega) (by omega) (fun h86 => ?_) (fun h86 => ?_)
        · refine r_run 1 (pc' := 104) (ls' := [some (yr 75), some (yi s), some (yi t), some (yi p), some (yi n), some (yi m), some (yi i), some (yi (p + (4 * i))), l8]) (st' := [yi (-12)]) (M' := B) (N' := N) rfl ?_
          refine r_iret m_189 rfl f_189_104 ?_
          exact ⟨_, rfl, by rw [mBy_out (by omega)], by rw [mBy_out (by omega)], rfl⟩
        · refine r_run 4 (pc' := 96) (ls' := [some (yr 75), some (yi s), some (yi t), some (yi p), some (yi n), some (yi m), some (yi i), some (yi (p + (4 * i))), l8]) (st' := [yi s, yr 83, yi (p + (4 * i))]) (M' := B) (N' := N) rfl ?_
          refine r_iald (n := 4) f_189_96 (by decide) (by decide) (by decide) (by omega) ?_
          refine r_run 2 (pc' := 99) (ls' := [some (yr 75), some (yi s), some (yi t), some (yi p), some (yi n), some (yi m), some (yi i), some (yi (p + (4 * i))), l8]) (st' := [yi ((B 83 s) - 4), yi (p + (4 * i))]) (M' := B) (N' := N) rfl ?_
          refine r_icmp_le (pc := 99) f_189_99 (by omega) (by omega) (fun h99 => ?_) (fun h99 => ?_)
          · have hA0 : B 84 (40 * s + (p + 4 * i)) = D (p + 4 * i) := (hD _ (by omega) (by omega)).1
            have hA1 : B 84 (40 * s + (p + 4 * i) + 1) = D (p + 4 * i + 1) := by rw [Int.add_assoc (40 * s)]; exact (hD _ (by omega) (by omega)).1
            have hA2 : B 84 (40 * s + (p + 4 * i) + 2) = D (p + 4 * i + 2) := by rw [Int.add_assoc (40 * s)]; exact (hD _ (by omega) (by omega)).1
            have hA3 : B 84 (40 * s + (p + 4 * i) + 3) = D (p + 4 * i + 3) := by rw [Int.add_assoc (40 * s)]; exact (hD _ (by omega) (by omega)).1
            refine r_run 11 (pc' := 123) (ls' := [some (yr 75), some (yi s), some (yi t), some (yi p), some (yi n), some (yi m), some (yi i), some (yi (p + (4 * i))), some (yi ((40 * s) + (p + (4 * i))))]) (st' := [yi ((40 * s) + (p + (4 * i))), yr 84, yr 75, yi m]) (M' := B) (N' := N) rfl ?_
            refine r_iald (n := 160) f_189_123 (by decide) (by decide) (by decide) (by omega) ?_
            refine r_run 5 (pc' := 132) (ls' := [some (yr 75), some (yi s), some (yi t), some (yi p), some (yi n), some (yi m), some (yi i), some (yi (p + (4 * i))), some (yi ((40 * s) + (p + (4 * i))))]) (st' := [yi (((40 * s) + (p + (4 * i))) + 1), yr 84, yi (B 84 ((40 * s) + (p + (4 * i)))), yr 75, yi m]) (M' := B) (N' := N) rfl ?_
            refine r_iald (n := 160) f_189_132 (by decide) (by decide) (by decide) (by omega) ?_
            refine r_run 5 (pc' := 141) (ls' := [some (yr 75), some (yi s), some (yi t), some (yi p), some (yi n), some (yi m), some (yi i), some (yi (p + (4 * i))), some (yi ((40 * s) + (p + (4 * i))))]) (st' := [yi (((40 * s) + (p + (4 * i))) + 2), yr 84, yi (B 84 (((40 * s) + (p + (4 * i))) + 1)), yi (B 84 ((40 * s) + (p + (4 * i)))), yr 75, yi m]) (M' := B) (N' := N) rfl ?_
            refine r_iald (n := 160) f_189_141 (by decide) (by decide) (by decide) (by omega) ?_
            refine r_run 5 (pc' := 150) (ls' := [some (yr 75), some (yi s), some (yi t), some (yi p), some (yi n), some (yi m), some (yi i), some (yi (p + (4 * i))), some (yi ((40 * s) + (p + (4 * i))))]) (st' := [yi (((40 * s) + (p + (4 * i))) + 3), yr 84, yi (B 84 (((40 * s) + (p + (4 * i))) + 2)), yi (B 84 (((40 * s) + (p + (4 * i))) + 1)), yi (B 84 ((40 * s) + (p + (4 * i)))), yr 75, yi m]) (M' := B) (N' := N) rfl ?_
            refine r_iald (n := 160) f_189_150 (by decide) (by decide) (by decide) (by omega) ?_
            refine r_virtual (mj := 136) (b := 75) (as := [yi (B 84 ((40 * s) + (p + (4 * i)))), yi (B 84 (((40 * s) + (p + (4 * i))) + 1)), yi (B 84 (((40 * s) + (p + (4 * i))) + 2)), yi (B 84 (((40 * s) + (p + (4 * i))) + 3))]) (rest := [yi m]) f_189_151 (by decide) rfl m_136 (by decide) (by decide) (by decide) rfl rfl (Nat.le_of_ble_eq_true rfl) (by omega) (m_say (by rw [hA0]; exact (hD _ (by omega) (by omega)).2) (by rw [hA1]; exact (hD _ (by omega) (by omega)).2) (by rw [hA2]; exact (hD _ (by omega) (by omega)).2) (by rw [hA3]; exact (hD _ (by omega) (by omega)).2) hS) ?_
            rintro _ B2 _ ⟨v, rfl, hv, rfl⟩
            rw [hA0, hA1, hA2, hA3] at hv
            refine r_if_lt (pc := 154) f_189_154 (by rcases hv with h | h | h <;> omega) (fun h154 => ?_) (fun h154 => ?_)
            · refine r_run 5 (pc' := 64) (ls' := [some (yr 75), some (yi s), some (yi t), some (yi p), some (yi n), some (yi (m + 0)), some (yi (i + 1)), some (yi (p + (4 * i))), some (yi ((40 * s) + (p + (4 * i))))]) (st' := []) (M' := B2) (N' := N) rfl ?_
              rcases hv with ⟨g1, g2, g3, rfl⟩ | ⟨g1, g2, g3, rfl⟩ | ⟨g1, g3, rfl⟩
              · omega
              · rw [mBy_no (by omega) (fun g => by have := g.2; omega)]
                have ih2 := ih (m := m) (l7 := some (yi (p + 4 * i))) (l8 := some (yi (40 * s + (p + 4 * i)))) (i := i + 1) (B := B) (by omega) (by omega) (by omega) hS h83 hD
                simpa only [Int.add_zero] using ih2
              · rw [mBy_no (by omega) (fun g => g1 g.1)]
                have ih2 := ih (m := m) (l7 := some (yi (p + 4 * i))) (l8 := some (yi (40 * s + (p + 4 * i)))) (i := i + 1) (B := B) (by omega) (by omega) (by omega) hS h83 hD
                simpa only [Int.add_zero] using ih2
            · refine r_run 6 (pc' := 64) (ls' := [some (yr 75), some (yi s), some (yi t), some (yi p), some (yi n), some (yi (m + 1)), some (yi (i + 1)), some (yi (p + (4 * i))), some (yi ((40 * s) + (p + (4 * i))))]) (st' := []) (M' := B2) (N' := N) rfl ?_
              rcases hv with ⟨g1, g2, g3, rfl⟩ | ⟨g1, g2, g3, rfl⟩ | ⟨g1, g3, rfl⟩
              · rw [mBy_yes (by omega) g1 g2]
                refine ih (l7 := some (yi (p + 4 * i))) (l8 := some (yi (40 * s + (p + 4 * i)))) (by omega) (by omega) (by omega) ?_ ((eqp.said 83 s (by omega) (by omega)).trans h83) (fun k k0 k1 => by rw [eqp.said 84 _ (by omega) (by omega)]; exact hD k k0 k1)
                unfold mSaid
                rw [yu_at]
                omega
              · omega
              · omega
          · refine r_run 1 (pc' := 104) (ls' := [some (yr 75), some (yi s), some (yi t), some (yi p), some (yi n), some (yi m), some (yi i), some (yi (p + (4 * i))), l8]) (st' := [yi (-12)]) (M' := B) (N' := N) rfl ?_
            refine r_iret m_189 rfl f_189_104 ?_
            exact ⟨_, rfl, by rw [mBy_out (by omega)], by rw [mBy_out (by omega)], rfl⟩
/-- memory of the reference, and the answer -/
def mByAll (s t p n : Int) (M : YM) : YM × Int := if s < 0 ∨ 3 < s ∨ t < 0 ∨ 2 < t ∨ n < 0 ∨ 10 < n then (M, -2) else if M 82 s = -1 then (M, -11) else if M 82 s ≠ t then (M, -13) else mBy (fun k => M 84 (40 * s + k)) (M 83 s) p n.toNat 0 M 0
theorem c_sayingsBy {S : XS} {M N : YM} {s t p n : Int} (hs : -2147483648 ≤ s ∧ s < 2147483648) (ht : -2147483648 ≤ t ∧ t < 2147483648) (hp : -2147483648 ≤ p ∧ p < 2147483648) (hn : -2147483648 ≤ n ∧ n < 2147483648) (hS : RS M M) (hH : RH M M) : rm S 4 88 [yr 0, yi s, yi t, yi p, yi n] M N (fun r M' N' => ∃ v : Int, some (yi v) = r ∧ v = (mByAll s t p n M).2 ∧ RS M' (mByAll s t p n M).1 ∧ eqo M M' ∧ N = N') := by
  refine ⟨xe_88, m_88, Nat.le_of_ble_eq_true rfl, ?_⟩
  have hE : 0 ≤ s → s < 4 → M (67 + 2 * s) 1 = M 82 s ∧ M (67 + 2 * s) 2 = M 83 s ∧ (-1 ≤ M 82 s ∧ M 82 s ≤ 2) ∧ (0 ≤ M 83 s ∧ M 83 s ≤ 40) := fun h0 h1 => by
    obtain ⟨e1, e2, e3, e4, -⟩ := hH s h0 h1
    exact ⟨e1, e2, e3, e4⟩
  refine r_run 1 (pc' := 1) (ls' := [some (yr 0), some (yi s), some (yi t), some (yi p), some (yi n), none, none, none, none]) (st' := [yi s]) (M' := M) (N' := N) rfl ?_
  refine r_static (mj := 93) (as := [yi s]) (rest := []) f_88_1 (by decide) rfl m_93 rfl rfl rfl (Nat.le_of_ble_eq_true rfl) (by omega) (c_isSheet (by omega)) ?_
  rintro _ _ _ ⟨v1, rfl, hv1, rfl, rfl⟩
  refine r_if_eq (pc := 4) f_88_4 (by omega) (fun h4 => ?_) (fun h4 => ?_)
  · refine r_run 1 (pc' := 29) (ls' := [some (yr 0), some (yi s), some (yi t), some (yi p), some (yi n), none, none, none, none]) (st' := [yi (-2)]) (M' := M) (N' := N) rfl ?_
    refine r_iret m_88 rfl f_88_29 ?_
    exact ⟨_, rfl, by unfold mByAll; rw [if_pos (by omega)], by unfold mByAll; rw [if_pos (by omega)]; exact hS, eqo.refl, rfl⟩
  · refine r_run 3 (pc' := 10) (ls' := [some (yr 0), some (yi s), some (yi t), some (yi p), some (yi n), none, none, none, none]) (st' := [yi 2, yi 0, yi t]) (M' := M) (N' := N) rfl ?_
    refine r_static (mj := 90) (as := [yi t, yi 0, yi 2]) (rest := []) f_88_10 (by decide) rfl m_90 rfl rfl rfl (Nat.le_of_ble_eq_true rfl) (by omega) (c_within (by omega) (by omega) (by omega)) ?_
    rintro _ _ _ ⟨v10, rfl, hv10, rfl, rfl⟩
    refine r_if_eq (pc := 13) f_88_13 (by omega) (fun h13 => ?_) (fun h13 => ?_)
    · refine r_run 1 (pc' := 29) (ls' := [some (yr 0), some (yi s), some (yi t), some (yi p), some (yi n), none, none, none, none]) (st' := [yi (-2)]) (M' := M) (N' := N) rfl ?_
      refine r_iret m_88 rfl f_88_29 ?_
      exact ⟨_, rfl, by unfold mByAll; rw [if_pos (by omega)], by unfold mByAll; rw [if_pos (by omega)]; exact hS, eqo.refl, rfl⟩
    · refine r_run 3 (pc' := 21) (ls' := [some (yr 0), some (yi s), some (yi t), some (yi p), some (yi n), none, none, none, none]) (st' := [yi 10, yi 0, yi n]) (M' := M) (N' := N) rfl ?_
      refine r_static (mj := 90) (as := [yi n, yi 0, yi 10]) (rest := []) f_88_21 (by decide) rfl m_90 rfl rfl rfl (Nat.le_of_ble_eq_true rfl) (by omega) (c_within (by omega) (by omega) (by omega)) ?_
      rintro _ _ _ ⟨v21, rfl, hv21, rfl, rfl⟩
      refine r_if_ne (pc := 24) f_88_24 (by omega) (fun h24 => ?_) (fun h24 => ?_)
      · refine r_run 3 (pc' := 35) (ls' := [some (yr 0), some (yi s), some (yi t), some (yi p), some (yi n), none, none, none, none]) (st' := [yi s, yr 32]) (M' := M) (N' := N) rfl ?_
        refine r_aald (r := 67 + 2 * s) (kd := 103) (n := 4) f_88_35 (by decide) (by decide) (by decide) (by decide) (by omega) (rf_sheet (by omega)) ?_
        refine r_run 2 (pc' := 40) (ls' := [some (yr 0), some (yi s), some (yi t), some (yi p), some (yi n), some (yr (67 + 2 * s)), none, none, none]) (st' := [yr (67 + 2 * s)]) (M' := M) (N' := N) rfl ?_
        refine r_getf (n := 3) 1 rfl f_88_40 (by decide) (show xFT[18]? = some (3, 1) from rfl) (by decide) (by omega) (yk_sheet (by omega)) ?_
        refine r_run 1 (pc' := 44) (ls' := [some (yr 0), some (yi s), some (yi t), some (yi p), some (yi n), some (yr (67 + 2 * s)), none, none, none]) (st' := [yi (-1), yi (M (67 + 2 * s) 1)]) (M' := M) (N' := N) rfl ?_
        refine r_icmp_ne (pc := 44) f_88_44 (by omega) (by omega) (fun h44 => ?_) (fun h44 => ?_)
        · refine r_run 1 (pc' := 52) (ls' := [some (yr 0), some (yi s), some (yi t), some (yi p), some (yi n), some (yr (67 + 2 * s)), none, none, none]) (st' := [yr (67 + 2 * s)]) (M' := M) (N' := N) rfl ?_
          refine r_getf (n := 3) 1 rfl f_88_52 (by decide) (show xFT[18]? = some (3, 1) from rfl) (by decide) (by omega) (yk_sheet (by omega)) ?_
          refine r_run 1 (pc' := 56) (ls' := [some (yr 0), some (yi s), some (yi t), some (yi p), some (yi n), some (yr (67 + 2 * s)), none, none, none]) (st' := [yi t, yi (M (67 + 2 * s) 1)]) (M' := M) (N' := N) rfl ?_
          refine r_icmp_eq (pc := 56) f_88_56 (by omega) (by omega) (fun h56 => ?_) (fun h56 => ?_)
          · refine r_run 4 (pc' := 68) (ls' := [some (yr 0), some (yi s), some (yi t), some (yi p), some (yi n), some (yr (67 + 2 * s)), some (yi 0), some (yi 0), none]) (st' := []) (M' := M) (N' := N) rfl ?_
            have e0 : 0 ≤ s := by omega
            have e1 : s < 4 := by omega
            have hD := (hH s e0 e1).2.2.2.2
            have h := c_by_loop (S := S) (d := 4) (s := s) (t := t) (p := p) (n := n) (z := M 83 s) (D := fun k => M 84 (40 * s + k)) (N := N) (Nat.le_refl _) (by omega) (by omega) (by omega) (by omega) (j := n.toNat) (i := 0) (m := 0) (A := M) (B := M) (l8 := none) (by omega) (by omega) (by omega) hS (hE e0 e1).2.1 hD
            refine r_post h ?_
            rintro _ _ _ ⟨v, rfl, g1, g2, g3, rfl⟩
            exact ⟨v, rfl, by unfold mByAll; rw [if_neg (by omega), if_neg (by omega), if_neg (by omega)]; exact g1, by unfold mByAll; rw [if_neg (by omega), if_neg (by omega), if_neg (by omega)]; exact g2, g3, rfl⟩
          · refine r_run 1 (pc' := 61) (ls' := [some (yr 0), some (yi s), some (yi t), some (yi p), some (yi n), some (yr (67 + 2 * s)), none, none, none]) (st' := [yi (-13)]) (M' := M) (N' := N) rfl ?_
            refine r_iret m_88 rfl f_88_61 ?_
            exact ⟨_, rfl, by unfold mByAll; rw [if_neg (by omega), if_neg (by omega), if_pos (by omega)], by unfold mByAll; rw [if_neg (by omega), if_neg (by omega), if_pos (by omega)]; exact hS, eqo.refl, rfl⟩
        · refine r_run 1 (pc' := 49) (ls' := [some (yr 0), some (yi s), some (yi t), some (yi p), some (yi n), some (yr (67 + 2 * s)), none, none, none]) (st' := [yi (-11)]) (M' := M) (N' := N) rfl ?_
          refine r_iret m_88 rfl f_88_49 ?_
          exact ⟨_, rfl, by unfold mByAll; rw [if_neg (by omega), if_pos (by omega)], by unfold mByAll; rw [if_neg (by omega), if_pos (by omega)]; exact hS, eqo.refl, rfl⟩
      · refine r_run 1 (pc' := 29) (ls' := [some (yr 0), some (yi s), some (yi t), some (yi p), some (yi n), none, none, none, none]) (st' := [yi (-2)]) (M' := M) (N' := N) rfl ?_
        refine r_iret m_88 rfl f_88_29 ?_
        exact ⟨_, rfl, by unfold mByAll; rw [if_pos (by omega)], by unfold mByAll; rw [if_pos (by omega)]; exact hS, eqo.refl, rfl⟩
theorem m_sayingsBy {S : XS} {M N : YM} {s t p n : Int} (hs : -2147483648 ≤ s ∧ s < 2147483648) (ht : -2147483648 ≤ t ∧ t < 2147483648) (hp : -2147483648 ≤ p ∧ p < 2147483648) (hn : -2147483648 ≤ n ∧ n < 2147483648) (hS : 0 ≤ M 75 0 ∧ M 75 0 ≤ 10) (hH : RH M M) : rm S 3 189 [yr 75, yi s, yi t, yi p, yi n] M N (fun r M' N' => ∃ v : Int, some (yi v) = r ∧ v = (mByAll s t p n M).2 ∧ (mByAll s t p n M).1 = M' ∧ N = N') := by
  refine ⟨xe_189, m_189, Nat.le_of_ble_eq_true rfl, ?_⟩
  have hE : 0 ≤ s → s < 4 → M (67 + 2 * s) 1 = M 82 s ∧ M (67 + 2 * s) 2 = M 83 s ∧ (-1 ≤ M 82 s ∧ M 82 s ≤ 2) ∧ (0 ≤ M 83 s ∧ M 83 s ≤ 40) := fun h0 h1 => by
    obtain ⟨e1, e2, e3, e4, -⟩ := hH s h0 h1
    exact ⟨e1, e2, e3, e4⟩
  refine r_run 3 (pc' := 3) (ls' := [some (yr 75), some (yi s), some (yi t), some (yi p), some (yi n), none, none, none, none]) (st' := [yi 3, yi 0, yi s]) (M' := M) (N' := N) rfl ?_
  refine r_static (mj := 112) (as := [yi s, yi 0, yi 3]) (rest := []) f_189_3 (by decide) rfl m_112 rfl rfl rfl (Nat.le_of_ble_eq_true rfl) (by omega) (m_in (by omega) (by omega) (by omega)) ?_
  rintro _ _ _ ⟨v3, rfl, hv3, rfl, rfl⟩
  refine r_if_eq (pc := 6) f_189_6 (by omega) (fun h6 => ?_) (fun h6 => ?_)
  · refine r_run 1 (pc' := 31) (ls' := [some (yr 75), some (yi s), some (yi t), some (yi p), some (yi n), none, none, none, none]) (st' := [yi (-2)]) (M' := M) (N' := N) rfl ?_
    refine r_iret m_189 rfl f_189_31 ?_
    exact ⟨_, rfl, by unfold mByAll; rw [if_pos (by omega)], by unfold mByAll; rw [if_pos (by omega)], rfl⟩
  · refine r_run 3 (pc' := 12) (ls' := [some (yr 75), some (yi s), some (yi t), some (yi p), some (yi n), none, none, none, none]) (st' := [yi 2, yi 0, yi t]) (M' := M) (N' := N) rfl ?_
    refine r_static (mj := 112) (as := [yi t, yi 0, yi 2]) (rest := []) f_189_12 (by decide) rfl m_112 rfl rfl rfl (Nat.le_of_ble_eq_true rfl) (by omega) (m_in (by omega) (by omega) (by omega)) ?_
    rintro _ _ _ ⟨v12, rfl, hv12, rfl, rfl⟩
    refine r_if_eq (pc := 15) f_189_15 (by omega) (fun h15 => ?_) (fun h15 => ?_)
    · refine r_run 1 (pc' := 31) (ls' := [some (yr 75), some (yi s), some (yi t), some (yi p), some (yi n), none, none, none, none]) (st' := [yi (-2)]) (M' := M) (N' := N) rfl ?_
      refine r_iret m_189 rfl f_189_31 ?_
      exact ⟨_, rfl, by unfold mByAll; rw [if_pos (by omega)], by unfold mByAll; rw [if_pos (by omega)], rfl⟩
    · refine r_run 3 (pc' := 23) (ls' := [some (yr 75), some (yi s), some (yi t), some (yi p), some (yi n), none, none, none, none]) (st' := [yi 10, yi 0, yi n]) (M' := M) (N' := N) rfl ?_
      refine r_static (mj := 112) (as := [yi n, yi 0, yi 10]) (rest := []) f_189_23 (by decide) rfl m_112 rfl rfl rfl (Nat.le_of_ble_eq_true rfl) (by omega) (m_in (by omega) (by omega) (by omega)) ?_
      rintro _ _ _ ⟨v23, rfl, hv23, rfl, rfl⟩
      refine r_if_ne (pc := 26) f_189_26 (by omega) (fun h26 => ?_) (fun h26 => ?_)
      · refine r_run 3 (pc' := 37) (ls' := [some (yr 75), some (yi s), some (yi t), some (yi p), some (yi n), none, none, none, none]) (st' := [yi s, yr 82]) (M' := M) (N' := N) rfl ?_
        refine r_iald (n := 4) f_189_37 (by decide) (by decide) (by decide) (by omega) ?_
        refine r_run 1 (pc' := 39) (ls' := [some (yr 75), some (yi s), some (yi t), some (yi p), some (yi n), none, none, none, none]) (st' := [yi (-1), yi (M 82 s)]) (M' := M) (N' := N) rfl ?_
        refine r_icmp_ne (pc := 39) f_189_39 (by omega) (by omega) (fun h39 => ?_) (fun h39 => ?_)
        · refine r_run 3 (pc' := 50) (ls' := [some (yr 75), some (yi s), some (yi t), some (yi p), some (yi n), none, none, none, none]) (st' := [yi s, yr 82]) (M' := M) (N' := N) rfl ?_
          refine r_iald (n := 4) f_189_50 (by decide) (by decide) (by decide) (by omega) ?_
          refine r_run 1 (pc' := 52) (ls' := [some (yr 75), some (yi s), some (yi t), some (yi p), some (yi n), none, none, none, none]) (st' := [yi t, yi (M 82 s)]) (M' := M) (N' := N) rfl ?_
          refine r_icmp_eq (pc := 52) f_189_52 (by omega) (by omega) (fun h52 => ?_) (fun h52 => ?_)
          · refine r_run 4 (pc' := 64) (ls' := [some (yr 75), some (yi s), some (yi t), some (yi p), some (yi n), some (yi 0), some (yi 0), none, none]) (st' := []) (M' := M) (N' := N) rfl ?_
            have e0 : 0 ≤ s := by omega
            have e1 : s < 4 := by omega
            have hD := fun k k0 k1 => (⟨rfl, ((hH s e0 e1).2.2.2.2 k k0 k1).2⟩ : M 84 (40 * s + k) = M 84 (40 * s + k) ∧ _)
            have h := m_by_loop (S := S) (d := 3) (s := s) (t := t) (p := p) (n := n) (z := M 83 s) (D := fun k => M 84 (40 * s + k)) (N := N) (Nat.le_refl _) (by omega) (by omega) (by omega) (by omega) (j := n.toNat) (i := 0) (m := 0) (B := M) (l7 := none) (l8 := none) (by omega) (by omega) (by omega) hS rfl hD
            refine r_post h ?_
            rintro _ _ _ ⟨v, rfl, g1, g2, rfl⟩
            exact ⟨v, rfl, by unfold mByAll; rw [if_neg (by omega), if_neg (by omega), if_neg (by omega)]; exact g1, by unfold mByAll; rw [if_neg (by omega), if_neg (by omega), if_neg (by omega)]; exact g2, rfl⟩
          · refine r_run 1 (pc' := 57) (ls' := [some (yr 75), some (yi s), some (yi t), some (yi p), some (yi n), none, none, none, none]) (st' := [yi (-13)]) (M' := M) (N' := N) rfl ?_
            refine r_iret m_189 rfl f_189_57 ?_
            exact ⟨_, rfl, by unfold mByAll; rw [if_neg (by omega), if_neg (by omega), if_pos (by omega)], by unfold mByAll; rw [if_neg (by omega), if_neg (by omega), if_pos (by omega)], rfl⟩
        · refine r_run 1 (pc' := 44) (ls' := [some (yr 75), some (yi s), some (yi t), some (yi p), some (yi n), none, none, none, none]) (st' := [yi (-11)]) (M' := M) (N' := N) rfl ?_
          refine r_iret m_189 rfl f_189_44 ?_
          exact ⟨_, rfl, by unfold mByAll; rw [if_neg (by omega), if_pos (by omega)], by unfold mByAll; rw [if_neg (by omega), if_pos (by omega)], rfl⟩
      · refine r_run 1 (pc' := 31) (ls' := [some (yr 75), some (yi s), some (yi t), some (yi p), some (yi n), none, none, none, none]) (st' := [yi (-2)]) (M' := M) (N' := N) rfl ?_
        refine r_iret m_189 rfl f_189_31 ?_
        exact ⟨_, rfl, by unfold mByAll; rw [if_pos (by omega)], by unfold mByAll; rw [if_pos (by omega)], rfl⟩
