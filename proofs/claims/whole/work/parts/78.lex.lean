/-! tokens -/
theorem mt_y {v : Int} {P : Prop} (h : (v = 1 ∧ P) ∨ (v = 0 ∧ ¬ P)) (g : v ≠ 0) : P := by
  rcases h with h | h
  · exact h.2
  · exact absurd h.1 g
theorem mt_n {v : Int} {P : Prop} (h : (v = 1 ∧ P) ∨ (v = 0 ∧ ¬ P)) (g : v = 0) : ¬ P := by
  rcases h with h | h
  · have := h.1; omega
  · exact h.2
noncomputable def pif (P : Prop) (a b : Int) : Int := @ite Int P (Classical.propDecidable P) a b
theorem pif_yes {P : Prop} {a b : Int} (h : P) : pif P a b = a := if_pos h
theorem pif_no {P : Prop} {a b : Int} (h : ¬ P) : pif P a b = b := if_neg h
def isB (x : Int) : Bool := decide (x = 32 ∨ x = 10)
def isL (x : Int) : Bool := decide (97 ≤ x ∧ x ≤ 122)
def isD (x : Int) : Bool := decide (48 ≤ x ∧ x ≤ 57)
theorem isB_yes {x : Int} (h : x = 32 ∨ x = 10) : isB x = true := decide_eq_true h
theorem isB_no {x : Int} (h : ¬ (x = 32 ∨ x = 10)) : isB x = false := decide_eq_false h
theorem isL_yes {x : Int} (h : 97 ≤ x ∧ x ≤ 122) : isL x = true := decide_eq_true h
theorem isL_no {x : Int} (h : ¬ (97 ≤ x ∧ x ≤ 122)) : isL x = false := decide_eq_false h
theorem isD_yes {x : Int} (h : 48 ≤ x ∧ x ≤ 57) : isD x = true := decide_eq_true h
theorem isD_no {x : Int} (h : ¬ (48 ≤ x ∧ x ≤ 57)) : isD x = false := decide_eq_false h
def scn (P : Int → Bool) (T : Int → Int) (n : Int) : Nat → Int → Int
  | 0, i => i
  | j + 1, i => if i < n ∧ P (T i) = true then scn P T n j (i + 1) else i
theorem scn_yes {P : Int → Bool} {T : Int → Int} {n : Int} {j : Nat} {i : Int} (h : i < n) (g : P (T i) = true) : scn P T n (j + 1) i = scn P T n j (i + 1) := if_pos ⟨h, g⟩
theorem scn_no {P : Int → Bool} {T : Int → Int} {n : Int} {j : Nat} {i : Int} (g : ¬ (i < n ∧ P (T i) = true)) : scn P T n j i = i := by
  cases j with
  | zero => rfl
  | succ j => exact if_neg g
theorem scn_in {P : Int → Bool} {T : Int → Int} {n : Int} {j : Nat} : ∀ {i : Int}, i ≤ scn P T n j i ∧ scn P T n j i ≤ i + j ∧ ∀ x, i ≤ x → x < scn P T n j i → P (T x) = true := by
  induction j with
  | zero => intro i; exact ⟨Int.le_refl _, by show i ≤ i + ((0 : Nat) : Int); omega, fun x h g => by have : x < i := g; omega⟩
  | succ j ih =>
    intro i
    by_cases h : i < n ∧ P (T i) = true
    · rw [scn_yes h.1 h.2]
      have a := @ih (i + 1)
      refine ⟨by omega, by omega, fun x h1 h2 => ?_⟩
      by_cases e : x = i
      · rw [e]; exact h.2
      · exact a.2.2 x (by omega) h2
    · rw [scn_no h]
      exact ⟨Int.le_refl _, by omega, fun x h1 h2 => by omega⟩
theorem scn_end {P : Int → Bool} {T : Int → Int} {n : Int} {j : Nat} : ∀ {i : Int}, n ≤ i + j → n ≤ scn P T n j i ∨ P (T (scn P T n j i)) = false := by
  induction j with
  | zero => intro i h; exact Or.inl (by show n ≤ i; omega)
  | succ j ih =>
    intro i h
    by_cases g : i < n ∧ P (T i) = true
    · rw [scn_yes g.1 g.2]; exact ih (by omega)
    · rw [scn_no g]
      by_cases c : i < n
      · exact Or.inr (Bool.eq_false_iff.mpr fun e => g ⟨c, e⟩)
      · exact Or.inl (by omega)
def scE (P : Int → Bool) (T : Int → Int) (n i : Int) : Int := scn P T n (n - i).toNat i
theorem scE_in {P : Int → Bool} {T : Int → Int} {n i : Int} (h : i ≤ n) : i ≤ scE P T n i ∧ scE P T n i ≤ n ∧ (∀ x, i ≤ x → x < scE P T n i → P (T x) = true) ∧ (scE P T n i = n ∨ P (T (scE P T n i)) = false) := by
  have a := @scn_in P T n (n - i).toNat i
  have b := @scn_end P T n (n - i).toNat i (by omega)
  unfold scE
  refine ⟨a.1, by omega, a.2.2, ?_⟩
  rcases b with b | b
  · exact Or.inl (by omega)
  · exact Or.inr b
theorem scn_congr {P : Int → Bool} {T T' : Int → Int} {n : Int} {j : Nat} : ∀ {i : Int}, 0 ≤ i → (∀ x, 0 ≤ x → x < n → T x = T' x) → scn P T n j i = scn P T' n j i := by
  induction j with
  | zero => intro i _ _; rfl
  | succ j ih =>
    intro i i0 h
    unfold scn
    by_cases c : i < n
    · rw [h i i0 c, ih (by omega) h]
    · rw [if_neg (fun g => c g.1), if_neg (fun g => c g.1)]
/-- a number's value -/
def nv (T : Int → Int) : Nat → Int → Int → Int
  | 0, _, a => a
  | j + 1, i, a => nv T j (i + 1) (10 * a + T i - 48)
theorem nv_congr {T T' : Int → Int} {j : Nat} : ∀ {i a : Int}, (∀ x, i ≤ x → x < i + j → T x = T' x) → nv T j i a = nv T' j i a := by
  induction j with
  | zero => intro i a _; rfl
  | succ j ih =>
    intro i a h
    unfold nv
    rw [h i (Int.le_refl _) (by omega)]
    exact ih (fun x x0 x1 => h x (by omega) (by omega))
/-- a word stands from s to e -/
def mtP (T : Int → Int) (s e : Int) (w : List Int) : Prop := e - s = w.length ∧ ∀ i : Int, 0 ≤ i → i < w.length → T (s + i) = w.getD i.toNat 0
noncomputable def wk (T : Int → Int) (s e : Int) : Int := pif (e - s = 1 ∧ T s - 97 < 6) 3 (pif (mtP T s e (sWd 10001)) 7 (pif (mtP T s e (sWd 10002)) 8 (pif (mtP T s e (sWd 10003)) 9 (pif (mtP T s e (sWd 10004)) 4 (pif (mtP T s e (sWd 10005)) 5 (pif (mtP T s e (sWd 10006)) 6 1))))))
theorem sWd_in {b : Int} (k : Nat) : 0 ≤ (sWd b).getD k 0 ∧ (sWd b).getD k 0 ≤ 255 := by
  have h : ∀ l : List Int, (∀ x ∈ l, 0 ≤ x ∧ x ≤ 255) → 0 ≤ l.getD k 0 ∧ l.getD k 0 ≤ 255 := fun l hl => by
    rw [List.getD_eq_getElem?_getD]
    rcases e : l[k]? with _ | x
    · exact ⟨by decide, by decide⟩
    · exact hl x (List.mem_of_getElem? e)
  apply h
  unfold sWd
  (repeat' split) <;> decide
def tB (T : Int → Int) (n p : Int) : Int := scE isB T n p
def eAt (T : Int → Int) (n b : Int) : Int := if n ≤ b then b else if isL (T b) = true then scE isL T n b else if isD (T b) = true then scE isD T n b else b + 1
noncomputable def kAt (T : Int → Int) (n b : Int) : Int := if n ≤ b then 0 else if isL (T b) = true then wk T b (scE isL T n b) else if isD (T b) = true then (if 4 < scE isD T n b - b then 1 else 2) else pif (isSg (T b)) (T b) 1
def vAt (T : Int → Int) (n b : Int) : Int := if isL (T b) = true then T b - 97 else nv T (scE isD T n b - b).toNat b 0
def tpOk (T : Int → Int) (n : Int) : Prop := (0 ≤ n ∧ n ≤ 160) ∧ ∀ k, 0 ≤ k → k < n → 0 ≤ T k ∧ T k ≤ 255
theorem c_isLetter {S : XS} {M N : YM} {x : Int} (hx : -2147483648 ≤ x ∧ x < 2147483648) : rm S 0 19 [yi x] M N (fun r M' N' => ∃ v : Int, some (yi v) = r ∧ ((v = 1 ∧ 97 ≤ x ∧ x ≤ 122) ∨ (v = 0 ∧ ¬ (97 ≤ x ∧ x ≤ 122))) ∧ M = M' ∧ N = N') := by
  refine ⟨xe_19, m_19, Nat.le_of_ble_eq_true rfl, ?_⟩
  refine r_run 2 (pc' := 3) (ls' := [some (yi x)]) (st' := [yi 97, yi x]) (M' := M) (N' := N) rfl ?_
  refine r_icmp_lt (pc := 3) f_19_3 (by omega) (by omega) (fun h3 => ?_) (fun h3 => ?_)
  · refine r_run 1 (pc' := 17) (ls' := [some (yi x)]) (st' := [yi 0]) (M' := M) (N' := N) rfl ?_
    refine r_zret m_19 rfl f_19_17 (by omega) ?_
    exact ⟨_, rfl, by omega, rfl, rfl⟩
  · refine r_run 2 (pc' := 9) (ls' := [some (yi x)]) (st' := [yi 122, yi x]) (M' := M) (N' := N) rfl ?_
    refine r_icmp_gt (pc := 9) f_19_9 (by omega) (by omega) (fun h9 => ?_) (fun h9 => ?_)
    · refine r_run 1 (pc' := 17) (ls' := [some (yi x)]) (st' := [yi 0]) (M' := M) (N' := N) rfl ?_
      refine r_zret m_19 rfl f_19_17 (by omega) ?_
      exact ⟨_, rfl, by omega, rfl, rfl⟩
    · refine r_run 2 (pc' := 17) (ls' := [some (yi x)]) (st' := [yi 1]) (M' := M) (N' := N) rfl ?_
      refine r_zret m_19 rfl f_19_17 (by omega) ?_
      exact ⟨_, rfl, by omega, rfl, rfl⟩
theorem c_isDigit {S : XS} {M N : YM} {x : Int} (hx : -2147483648 ≤ x ∧ x < 2147483648) : rm S 0 20 [yi x] M N (fun r M' N' => ∃ v : Int, some (yi v) = r ∧ ((v = 1 ∧ 48 ≤ x ∧ x ≤ 57) ∨ (v = 0 ∧ ¬ (48 ≤ x ∧ x ≤ 57))) ∧ M = M' ∧ N = N') := by
  refine ⟨xe_20, m_20, Nat.le_of_ble_eq_true rfl, ?_⟩
  refine r_run 2 (pc' := 3) (ls' := [some (yi x)]) (st' := [yi 48, yi x]) (M' := M) (N' := N) rfl ?_
  refine r_icmp_lt (pc := 3) f_20_3 (by omega) (by omega) (fun h3 => ?_) (fun h3 => ?_)
  · refine r_run 1 (pc' := 17) (ls' := [some (yi x)]) (st' := [yi 0]) (M' := M) (N' := N) rfl ?_
    refine r_zret m_20 rfl f_20_17 (by omega) ?_
    exact ⟨_, rfl, by omega, rfl, rfl⟩
  · refine r_run 2 (pc' := 9) (ls' := [some (yi x)]) (st' := [yi 57, yi x]) (M' := M) (N' := N) rfl ?_
    refine r_icmp_gt (pc := 9) f_20_9 (by omega) (by omega) (fun h9 => ?_) (fun h9 => ?_)
    · refine r_run 1 (pc' := 17) (ls' := [some (yi x)]) (st' := [yi 0]) (M' := M) (N' := N) rfl ?_
      refine r_zret m_20 rfl f_20_17 (by omega) ?_
      exact ⟨_, rfl, by omega, rfl, rfl⟩
    · refine r_run 2 (pc' := 17) (ls' := [some (yi x)]) (st' := [yi 1]) (M' := M) (N' := N) rfl ?_
      refine r_zret m_20 rfl f_20_17 (by omega) ?_
      exact ⟨_, rfl, by omega, rfl, rfl⟩
theorem sWd_len (b : Int) : (sWd b).length ≤ 7 := by
  unfold sWd
  (repeat' split) <;> decide
theorem c_inHand_l {S : XS} {d : Nat} {b n : Int} {M N : YM} (hd : 5 ≤ d) (hb : 10001 ≤ b ∧ b ≤ 10006) (ht : tpOk (M 28) n) (hs : 0 ≤ M 27 3) (hn : M 27 4 ≤ n) (he : M 27 4 - M 27 3 = (sWd b).length) {j : Nat} : ∀ {i : Int}, 0 ≤ i → i + j = (sWd b).length → (∀ x, 0 ≤ x → x < i → M 28 (M 27 3 + x) = (sWd b).getD x.toNat 0) → ry S d 18 20 [some (yr 27), some (yr b), some (yi i)] [] M N (fun r M' N' => ∃ v : Int, some (yi v) = r ∧ ((v = 1 ∧ mtP (M 28) (M 27 3) (M 27 4) (sWd b)) ∨ (v = 0 ∧ ¬ mtP (M 28) (M 27 3) (M 27 4) (sWd b))) ∧ M = M' ∧ N = N') := by
  induction j with
  | zero =>
    intro i h0 h1 hm
    have n160 := ht.1
    refine r_run 2 (pc' := 22) (ls' := [some (yr 27), some (yr b), some (yi i)]) (st' := [yr b, yi i]) (M' := M) (N' := N) rfl ?_
    refine r_vstring (mj := 192) (b := b) (as := []) (rest := [yi i]) f_18_22 (by decide) rfl m_192 rfl (by omega) rfl rfl (Nat.le_of_ble_eq_true rfl) (by omega) (j_length hb) ?_
    rintro _ _ _ ⟨v22, rfl, hv22, rfl, rfl⟩
    refine r_icmp_ge (pc := 25) f_18_25 (by omega) (by omega) (fun h25 => ?_) (fun h25 => ?_)
    · refine r_run 1 (pc' := 56) (ls' := [some (yr 27), some (yr b), some (yi i)]) (st' := [yi 1]) (M' := M) (N' := N) rfl ?_
      refine r_zret m_18 rfl f_18_56 (by omega) ?_
      exact ⟨_, rfl, Or.inl ⟨rfl, he, fun x x0 x1 => hm x x0 (by omega)⟩, rfl, rfl⟩
    · exfalso; omega
  | succ j ih =>
    intro i h0 h1 hm
    have n160 := ht.1
    have hT := ht.2 (M 27 3 + i) (by omega) (by omega)
    have hw := @sWd_in b i.toNat
    refine r_run 2 (pc' := 22) (ls' := [some (yr 27), some (yr b), some (yi i)]) (st' := [yr b, yi i]) (M' := M) (N' := N) rfl ?_
    refine r_vstring (mj := 192) (b := b) (as := []) (rest := [yi i]) f_18_22 (by decide) rfl m_192 rfl (by omega) rfl rfl (Nat.le_of_ble_eq_true rfl) (by omega) (j_length hb) ?_
    rintro _ _ _ ⟨v22, rfl, hv22, rfl, rfl⟩
    refine r_icmp_ge (pc := 25) f_18_25 (by omega) (by omega) (fun h25 => ?_) (fun h25 => ?_)
    · exfalso; omega
    · refine r_run 6 (pc' := 38) (ls' := [some (yr 27), some (yr b), some (yi i)]) (st' := [yi ((M 27 3) + i), yr 28]) (M' := M) (N' := N) rfl ?_
      refine r_iald (n := 160) f_18_38 (by decide) (by decide) (by decide) (by omega) ?_
      refine r_run 2 (pc' := 41) (ls' := [some (yr 27), some (yr b), some (yi i)]) (st' := [yi i, yr b, yi (M 28 ((M 27 3) + i))]) (M' := M) (N' := N) rfl ?_
      refine r_vstring (mj := 193) (b := b) (as := [yi i]) (rest := [yi (M 28 ((M 27 3) + i))]) f_18_41 (by decide) rfl m_193 rfl (by omega) rfl rfl (Nat.le_of_ble_eq_true rfl) (by omega) (j_charAt hb ⟨h0, by omega⟩) ?_
      rintro _ _ _ ⟨v41, rfl, hv41, rfl, rfl⟩
      refine r_icmp_eq (pc := 44) f_18_44 (by omega) (by omega) (fun h44 => ?_) (fun h44 => ?_)
      · refine r_run 2 (pc' := 20) (ls' := [some (yr 27), some (yr b), some (yi (i + 1))]) (st' := []) (M' := M) (N' := N) rfl ?_
        refine ih (by omega) (by omega) (fun x x0 x1 => ?_)
        by_cases hx : x = i
        · rw [hx]; omega
        · exact hm x x0 (by omega)
      · refine r_run 1 (pc' := 48) (ls' := [some (yr 27), some (yr b), some (yi i)]) (st' := [yi 0]) (M' := M) (N' := N) rfl ?_
        refine r_zret m_18 rfl f_18_48 (by omega) ?_
        exact ⟨_, rfl, Or.inr ⟨rfl, fun h => by have := h.2 i h0 (by omega); omega⟩, rfl, rfl⟩
theorem c_inHand {S : XS} {M N : YM} {b n : Int} (hb : 10001 ≤ b ∧ b ≤ 10006) (ht : tpOk (M 28) n) (hs : 0 ≤ M 27 3 ∧ M 27 3 ≤ M 27 4) (hn : M 27 4 ≤ n) : rm S 5 18 [yr 27, yr b] M N (fun r M' N' => ∃ v : Int, some (yi v) = r ∧ ((v = 1 ∧ mtP (M 28) (M 27 3) (M 27 4) (sWd b)) ∨ (v = 0 ∧ ¬ mtP (M 28) (M 27 3) (M 27 4) (sWd b))) ∧ M = M' ∧ N = N') := by
  refine ⟨xe_18, m_18, Nat.le_of_ble_eq_true rfl, ?_⟩
  refine r_run 6 (pc' := 10) (ls' := [some (yr 27), some (yr b), none]) (st' := [yr b, yi ((M 27 4) - (M 27 3))]) (M' := M) (N' := N) rfl ?_
  refine r_vstring (mj := 192) (b := b) (as := []) (rest := [yi ((M 27 4) - (M 27 3))]) f_18_10 (by decide) rfl m_192 rfl (by omega) rfl rfl (Nat.le_of_ble_eq_true rfl) (by omega) (j_length hb) ?_
  rintro _ _ _ ⟨v10, rfl, hv10, rfl, rfl⟩
  refine r_icmp_eq (pc := 13) f_18_13 (by have := ht.1; omega) (by have := sWd_len b; omega) (fun h13 => ?_) (fun h13 => ?_)
  · refine r_run 2 (pc' := 20) (ls' := [some (yr 27), some (yr b), some (yi 0)]) (st' := []) (M' := M) (N' := N) rfl ?_
    exact c_inHand_l (j := (sWd b).length) (by omega) hb ht hs.1 hn (by omega) (Int.le_refl 0) (by omega) (fun x x0 x1 => by omega)
  · refine r_run 1 (pc' := 17) (ls' := [some (yr 27), some (yr b), none]) (st' := [yi 0]) (M' := M) (N' := N) rfl ?_
    refine r_zret m_18 rfl f_18_17 (by omega) ?_
    exact ⟨_, rfl, Or.inr ⟨rfl, fun h => by have := h.1; omega⟩, rfl, rfl⟩
theorem c_word_l {S : XS} {d : Nat} {n : Int} {M N : YM} {Q : Option YV → YM → YM → Prop} (hd : 1 ≤ d) (ht : tpOk (M 28) n) (hn : M 27 1 = n) {j : Nat} : ∀ {i : Int}, 0 ≤ i → i + j = n → ry S d 16 39 [some (yr 27)] [] (yu M 27 4 (scn isL (M 28) n j i)) N Q → ry S d 16 0 [some (yr 27)] [] (yu M 27 4 i) N Q := by
  induction j with
  | zero =>
    intro i h0 h1 kk
    have n160 := ht.1
    refine r_run 4 (pc' := 8) (ls' := [some (yr 27)]) (st' := [yi (M 27 1), yi i]) (M' := (yu M 27 4 i)) (N' := N) rfl ?_
    refine r_icmp_ge (pc := 8) f_16_8 (by omega) (by omega) (fun h8 => ?_) (fun h8 => ?_)
    · rw [scn_no (by intro h; have h2 := h.1; omega)] at kk
      exact kk
    · exfalso; omega
  | succ j ih =>
    intro i h0 h1 kk
    have n160 := ht.1
    have hT := ht.2 i h0 (by omega)
    refine r_run 4 (pc' := 8) (ls' := [some (yr 27)]) (st' := [yi (M 27 1), yi i]) (M' := (yu M 27 4 i)) (N' := N) rfl ?_
    refine r_icmp_ge (pc := 8) f_16_8 (by omega) (by omega) (fun h8 => ?_) (fun h8 => ?_)
    · rw [scn_no (by intro h; have h2 := h.1; omega)] at kk
      exact kk
    · refine r_run 4 (pc' := 19) (ls' := [some (yr 27)]) (st' := [yi i, yr 28]) (M' := (yu M 27 4 i)) (N' := N) rfl ?_
      refine r_iald (n := 160) f_16_19 (by decide) (by decide) (by decide) (by omega) ?_
      refine r_static (mj := 19) (as := [yi (M 28 i)]) (rest := []) f_16_20 (by decide) rfl m_19 rfl rfl rfl (Nat.le_of_ble_eq_true rfl) (by omega) (c_isLetter (by omega)) ?_
      rintro _ _ _ ⟨v20, rfl, hv20, rfl, rfl⟩
      refine r_if_eq (pc := 23) f_16_23 (by omega) (fun h23 => ?_) (fun h23 => ?_)
      · rw [scn_no (by intro h; have h2 := h.2; rw [isL_no (by omega)] at h2; exact absurd h2 (by decide))] at kk
        exact kk
      · refine r_run 7 (pc' := 0) (ls' := [some (yr 27)]) (st' := []) (M' := (yu (yu M 27 4 i) 27 4 (i + 1))) (N' := N) rfl ?_
        rw [yu_yu]
        refine ih (by omega) (by omega) ?_
        rw [scn_yes (show i < n by omega) (isL_yes (by omega))] at kk
        exact kk
theorem c_takeWord {S : XS} {M N : YM} {n s : Int} (ht : tpOk (M 28) n) (hn : M 27 1 = n) (hs : 0 ≤ s) (hsn : s < n) (hs3 : M 27 3 = s) (hs4 : M 27 4 = s) (hl : isL (M 28 s) = true) : rm S 6 16 [yr 27] M N (fun r M' N' => none = r ∧ yu (yu (yu M 27 4 (scE isL (M 28) n s)) 27 6 (M 28 s - 97)) 27 5 (wk (M 28) s (scE isL (M 28) n s)) = M' ∧ N = N') := by
  refine ⟨xe_16, m_16, Nat.le_of_ble_eq_true rfl, ?_⟩
  have n160 := ht.1
  have hT := ht.2 s hs hsn
  have hl2 : 97 ≤ M 28 s ∧ M 28 s ≤ 122 := of_decide_eq_true hl
  have he := scE_in (P := isL) (T := M 28) (show s ≤ n by omega)
  have e0 : yu M 27 4 s = M := by rw [← hs4]; exact yu_self
  have k := @c_word_l S 6 n M N (fun r M' N' => none = r ∧ yu (yu (yu M 27 4 (scE isL (M 28) n s)) 27 6 (M 28 s - 97)) 27 5 (wk (M 28) s (scE isL (M 28) n s)) = M' ∧ N = N') (by omega) ht hn (n - s).toNat s hs (by omega)
  rw [e0] at k
  refine k ?_
  show ry S 6 16 39 [some (yr 27)] [] (yu M 27 4 (scE isL (M 28) n s)) N _
  generalize scE isL (M 28) n s = e at he ⊢
  refine r_run 5 (pc' := 48) (ls' := [some (yr 27)]) (st' := [yi (M 27 3), yr 28, yr 27]) (M' := (yu M 27 4 e)) (N' := N) rfl ?_
  refine r_iald (n := 160) f_16_48 (by decide) (by decide) (by decide) (by omega) ?_
  refine r_run 3 (pc' := 55) (ls' := [some (yr 27)]) (st' := []) (M' := (yu (yu M 27 4 e) 27 6 ((M 28 (M 27 3)) - 97))) (N' := N) rfl ?_
  generalize hM2 : (yu (yu M 27 4 e) 27 6 ((M 28 (M 27 3)) - 97)) = M2
  have g28 : M2 28 = M 28 := by rw [← hM2, yu_rn (by decide), yu_rn (by decide)]
  have g3 : M2 27 3 = s := by rw [← hM2, yu_ne (by decide), yu_ne (by decide), hs3]
  have g4 : M2 27 4 = e := by rw [← hM2, yu_ne (by decide), yu_at]
  have g6 : M2 27 6 = M 28 s - 97 := by rw [← hM2, yu_at, hs3]
  refine r_run 6 (pc' := 65) (ls' := [some (yr 27)]) (st' := [yi 1, yi ((M2 27 4) - (M2 27 3))]) (M' := M2) (N' := N) rfl ?_
  refine r_icmp_ne (pc := 65) f_16_65 (by omega) (by omega) (fun h65 => ?_) (fun h65 => ?_)
  · refine r_run 2 (pc' := 88) (ls' := [some (yr 27)]) (st' := [yr 10001, yr 27]) (M' := M2) (N' := N) rfl ?_
    refine r_virtual (mj := 18) (b := 27) (as := [yr 10001]) (rest := []) f_16_88 (by decide) rfl m_18 (by decide) (by decide) (by decide) rfl rfl (Nat.le_of_ble_eq_true rfl) (by omega) (c_inHand (n := n) (by omega) (by rw [g28]; exact ht) (by rw [g3, g4]; exact ⟨hs, by omega⟩) (by rw [g4]; omega)) ?_
    rintro _ _ _ ⟨v88, rfl, hv88, rfl, rfl⟩
    rw [g28, g3, g4] at hv88
    refine r_if_eq (pc := 91) f_16_91 (by omega) (fun h91 => ?_) (fun h91 => ?_)
    · refine r_run 2 (pc' := 106) (ls' := [some (yr 27)]) (st' := [yr 10002, yr 27]) (M' := M2) (N' := N) rfl ?_
      refine r_virtual (mj := 18) (b := 27) (as := [yr 10002]) (rest := []) f_16_106 (by decide) rfl m_18 (by decide) (by decide) (by decide) rfl rfl (Nat.le_of_ble_eq_true rfl) (by omega) (c_inHand (n := n) (by omega) (by rw [g28]; exact ht) (by rw [g3, g4]; exact ⟨hs, by omega⟩) (by rw [g4]; omega)) ?_
      rintro _ _ _ ⟨v106, rfl, hv106, rfl, rfl⟩
      rw [g28, g3, g4] at hv106
      refine r_if_eq (pc := 109) f_16_109 (by omega) (fun h109 => ?_) (fun h109 => ?_)
      · refine r_run 2 (pc' := 124) (ls' := [some (yr 27)]) (st' := [yr 10003, yr 27]) (M' := M2) (N' := N) rfl ?_
        refine r_virtual (mj := 18) (b := 27) (as := [yr 10003]) (rest := []) f_16_124 (by decide) rfl m_18 (by decide) (by decide) (by decide) rfl rfl (Nat.le_of_ble_eq_true rfl) (by omega) (c_inHand (n := n) (by omega) (by rw [g28]; exact ht) (by rw [g3, g4]; exact ⟨hs, by omega⟩) (by rw [g4]; omega)) ?_
        rintro _ _ _ ⟨v124, rfl, hv124, rfl, rfl⟩
        rw [g28, g3, g4] at hv124
        refine r_if_eq (pc := 127) f_16_127 (by omega) (fun h127 => ?_) (fun h127 => ?_)
        · refine r_run 2 (pc' := 142) (ls' := [some (yr 27)]) (st' := [yr 10004, yr 27]) (M' := M2) (N' := N) rfl ?_
          refine r_virtual (mj := 18) (b := 27) (as := [yr 10004]) (rest := []) f_16_142 (by decide) rfl m_18 (by decide) (by decide) (by decide) rfl rfl (Nat.le_of_ble_eq_true rfl) (by omega) (c_inHand (n := n) (by omega) (by rw [g28]; exact ht) (by rw [g3, g4]; exact ⟨hs, by omega⟩) (by rw [g4]; omega)) ?_
          rintro _ _ _ ⟨v142, rfl, hv142, rfl, rfl⟩
          rw [g28, g3, g4] at hv142
          refine r_if_eq (pc := 145) f_16_145 (by omega) (fun h145 => ?_) (fun h145 => ?_)
          · refine r_run 2 (pc' := 159) (ls' := [some (yr 27)]) (st' := [yr 10005, yr 27]) (M' := M2) (N' := N) rfl ?_
            refine r_virtual (mj := 18) (b := 27) (as := [yr 10005]) (rest := []) f_16_159 (by decide) rfl m_18 (by decide) (by decide) (by decide) rfl rfl (Nat.le_of_ble_eq_true rfl) (by omega) (c_inHand (n := n) (by omega) (by rw [g28]; exact ht) (by rw [g3, g4]; exact ⟨hs, by omega⟩) (by rw [g4]; omega)) ?_
            rintro _ _ _ ⟨v159, rfl, hv159, rfl, rfl⟩
            rw [g28, g3, g4] at hv159
            refine r_if_eq (pc := 162) f_16_162 (by omega) (fun h162 => ?_) (fun h162 => ?_)
            · refine r_run 3 (pc' := 177) (ls' := [some (yr 27)]) (st' := [yr 10006, yr 27, yr 27]) (M' := M2) (N' := N) rfl ?_
              refine r_virtual (mj := 18) (b := 27) (as := [yr 10006]) (rest := [yr 27]) f_16_177 (by decide) rfl m_18 (by decide) (by decide) (by decide) rfl rfl (Nat.le_of_ble_eq_true rfl) (by omega) (c_inHand (n := n) (by omega) (by rw [g28]; exact ht) (by rw [g3, g4]; exact ⟨hs, by omega⟩) (by rw [g4]; omega)) ?_
              rintro _ _ _ ⟨v177, rfl, hv177, rfl, rfl⟩
              rw [g28, g3, g4] at hv177
              refine r_if_eq (pc := 180) f_16_180 (by omega) (fun h180 => ?_) (fun h180 => ?_)
              · refine r_run 2 (pc' := 192) (ls' := [some (yr 27)]) (st' := []) (M' := (yu M2 27 5 1)) (N' := N) rfl ?_
                refine r_vret m_16 rfl f_16_192 ?_
                have hk : wk (M 28) s e = 1 := by unfold wk; rw [pif_no (by omega), pif_no (mt_n hv88 (by omega)), pif_no (mt_n hv106 (by omega)), pif_no (mt_n hv124 (by omega)), pif_no (mt_n hv142 (by omega)), pif_no (mt_n hv159 (by omega)), pif_no (mt_n hv177 (by omega))]
                rw [hk, ← hM2, hs3]
                exact ⟨rfl, rfl, rfl⟩
              · refine r_run 3 (pc' := 192) (ls' := [some (yr 27)]) (st' := []) (M' := (yu M2 27 5 6)) (N' := N) rfl ?_
                refine r_vret m_16 rfl f_16_192 ?_
                have hk : wk (M 28) s e = 6 := by unfold wk; rw [pif_no (by omega), pif_no (mt_n hv88 (by omega)), pif_no (mt_n hv106 (by omega)), pif_no (mt_n hv124 (by omega)), pif_no (mt_n hv142 (by omega)), pif_no (mt_n hv159 (by omega)), pif_yes (mt_y hv177 (by omega))]
                rw [hk, ← hM2, hs3]
                exact ⟨rfl, rfl, rfl⟩
            · refine r_run 4 (pc' := 192) (ls' := [some (yr 27)]) (st' := []) (M' := (yu M2 27 5 5)) (N' := N) rfl ?_
              refine r_vret m_16 rfl f_16_192 ?_
              have hk : wk (M 28) s e = 5 := by unfold wk; rw [pif_no (by omega), pif_no (mt_n hv88 (by omega)), pif_no (mt_n hv106 (by omega)), pif_no (mt_n hv124 (by omega)), pif_no (mt_n hv142 (by omega)), pif_yes (mt_y hv159 (by omega))]
              rw [hk, ← hM2, hs3]
              exact ⟨rfl, rfl, rfl⟩
          · refine r_run 4 (pc' := 192) (ls' := [some (yr 27)]) (st' := []) (M' := (yu M2 27 5 4)) (N' := N) rfl ?_
            refine r_vret m_16 rfl f_16_192 ?_
            have hk : wk (M 28) s e = 4 := by unfold wk; rw [pif_no (by omega), pif_no (mt_n hv88 (by omega)), pif_no (mt_n hv106 (by omega)), pif_no (mt_n hv124 (by omega)), pif_yes (mt_y hv142 (by omega))]
            rw [hk, ← hM2, hs3]
            exact ⟨rfl, rfl, rfl⟩
        · refine r_run 4 (pc' := 192) (ls' := [some (yr 27)]) (st' := []) (M' := (yu M2 27 5 9)) (N' := N) rfl ?_
          refine r_vret m_16 rfl f_16_192 ?_
          have hk : wk (M 28) s e = 9 := by unfold wk; rw [pif_no (by omega), pif_no (mt_n hv88 (by omega)), pif_no (mt_n hv106 (by omega)), pif_yes (mt_y hv124 (by omega))]
          rw [hk, ← hM2, hs3]
          exact ⟨rfl, rfl, rfl⟩
      · refine r_run 4 (pc' := 192) (ls' := [some (yr 27)]) (st' := []) (M' := (yu M2 27 5 8)) (N' := N) rfl ?_
        refine r_vret m_16 rfl f_16_192 ?_
        have hk : wk (M 28) s e = 8 := by unfold wk; rw [pif_no (by omega), pif_no (mt_n hv88 (by omega)), pif_yes (mt_y hv106 (by omega))]
        rw [hk, ← hM2, hs3]
        exact ⟨rfl, rfl, rfl⟩
    · refine r_run 4 (pc' := 192) (ls' := [some (yr 27)]) (st' := []) (M' := (yu M2 27 5 7)) (N' := N) rfl ?_
      refine r_vret m_16 rfl f_16_192 ?_
      have hk : wk (M 28) s e = 7 := by unfold wk; rw [pif_no (by omega), pif_yes (mt_y hv88 (by omega))]
      rw [hk, ← hM2, hs3]
      exact ⟨rfl, rfl, rfl⟩
  · refine r_run 3 (pc' := 74) (ls' := [some (yr 27)]) (st' := [yi 6, yi (M2 27 6)]) (M' := M2) (N' := N) rfl ?_
    refine r_icmp_ge (pc := 74) f_16_74 (by omega) (by omega) (fun h74 => ?_) (fun h74 => ?_)
    · refine r_run 2 (pc' := 88) (ls' := [some (yr 27)]) (st' := [yr 10001, yr 27]) (M' := M2) (N' := N) rfl ?_
      refine r_virtual (mj := 18) (b := 27) (as := [yr 10001]) (rest := []) f_16_88 (by decide) rfl m_18 (by decide) (by decide) (by decide) rfl rfl (Nat.le_of_ble_eq_true rfl) (by omega) (c_inHand (n := n) (by omega) (by rw [g28]; exact ht) (by rw [g3, g4]; exact ⟨hs, by omega⟩) (by rw [g4]; omega)) ?_
      rintro _ _ _ ⟨v88, rfl, hv88, rfl, rfl⟩
      rw [g28, g3, g4] at hv88
      refine r_if_eq (pc := 91) f_16_91 (by omega) (fun h91 => ?_) (fun h91 => ?_)
      · refine r_run 2 (pc' := 106) (ls' := [some (yr 27)]) (st' := [yr 10002, yr 27]) (M' := M2) (N' := N) rfl ?_
        refine r_virtual (mj := 18) (b := 27) (as := [yr 10002]) (rest := []) f_16_106 (by decide) rfl m_18 (by decide) (by decide) (by decide) rfl rfl (Nat.le_of_ble_eq_true rfl) (by omega) (c_inHand (n := n) (by omega) (by rw [g28]; exact ht) (by rw [g3, g4]; exact ⟨hs, by omega⟩) (by rw [g4]; omega)) ?_
        rintro _ _ _ ⟨v106, rfl, hv106, rfl, rfl⟩
        rw [g28, g3, g4] at hv106
        refine r_if_eq (pc := 109) f_16_109 (by omega) (fun h109 => ?_) (fun h109 => ?_)
        · refine r_run 2 (pc' := 124) (ls' := [some (yr 27)]) (st' := [yr 10003, yr 27]) (M' := M2) (N' := N) rfl ?_
          refine r_virtual (mj := 18) (b := 27) (as := [yr 10003]) (rest := []) f_16_124 (by decide) rfl m_18 (by decide) (by decide) (by decide) rfl rfl (Nat.le_of_ble_eq_true rfl) (by omega) (c_inHand (n := n) (by omega) (by rw [g28]; exact ht) (by rw [g3, g4]; exact ⟨hs, by omega⟩) (by rw [g4]; omega)) ?_
          rintro _ _ _ ⟨v124, rfl, hv124, rfl, rfl⟩
          rw [g28, g3, g4] at hv124
          refine r_if_eq (pc := 127) f_16_127 (by omega) (fun h127 => ?_) (fun h127 => ?_)
          · refine r_run 2 (pc' := 142) (ls' := [some (yr 27)]) (st' := [yr 10004, yr 27]) (M' := M2) (N' := N) rfl ?_
            refine r_virtual (mj := 18) (b := 27) (as := [yr 10004]) (rest := []) f_16_142 (by decide) rfl m_18 (by decide) (by decide) (by decide) rfl rfl (Nat.le_of_ble_eq_true rfl) (by omega) (c_inHand (n := n) (by omega) (by rw [g28]; exact ht) (by rw [g3, g4]; exact ⟨hs, by omega⟩) (by rw [g4]; omega)) ?_
            rintro _ _ _ ⟨v142, rfl, hv142, rfl, rfl⟩
            rw [g28, g3, g4] at hv142
            refine r_if_eq (pc := 145) f_16_145 (by omega) (fun h145 => ?_) (fun h145 => ?_)
            · refine r_run 2 (pc' := 159) (ls' := [some (yr 27)]) (st' := [yr 10005, yr 27]) (M' := M2) (N' := N) rfl ?_
              refine r_virtual (mj := 18) (b := 27) (as := [yr 10005]) (rest := []) f_16_159 (by decide) rfl m_18 (by decide) (by decide) (by decide) rfl rfl (Nat.le_of_ble_eq_true rfl) (by omega) (c_inHand (n := n) (by omega) (by rw [g28]; exact ht) (by rw [g3, g4]; exact ⟨hs, by omega⟩) (by rw [g4]; omega)) ?_
              rintro _ _ _ ⟨v159, rfl, hv159, rfl, rfl⟩
              rw [g28, g3, g4] at hv159
              refine r_if_eq (pc := 162) f_16_162 (by omega) (fun h162 => ?_) (fun h162 => ?_)
              · refine r_run 3 (pc' := 177) (ls' := [some (yr 27)]) (st' := [yr 10006, yr 27, yr 27]) (M' := M2) (N' := N) rfl ?_
                refine r_virtual (mj := 18) (b := 27) (as := [yr 10006]) (rest := [yr 27]) f_16_177 (by decide) rfl m_18 (by decide) (by decide) (by decide) rfl rfl (Nat.le_of_ble_eq_true rfl) (by omega) (c_inHand (n := n) (by omega) (by rw [g28]; exact ht) (by rw [g3, g4]; exact ⟨hs, by omega⟩) (by rw [g4]; omega)) ?_
                rintro _ _ _ ⟨v177, rfl, hv177, rfl, rfl⟩
                rw [g28, g3, g4] at hv177
                refine r_if_eq (pc := 180) f_16_180 (by omega) (fun h180 => ?_) (fun h180 => ?_)
                · refine r_run 2 (pc' := 192) (ls' := [some (yr 27)]) (st' := []) (M' := (yu M2 27 5 1)) (N' := N) rfl ?_
                  refine r_vret m_16 rfl f_16_192 ?_
                  have hk : wk (M 28) s e = 1 := by unfold wk; rw [pif_no (by omega), pif_no (mt_n hv88 (by omega)), pif_no (mt_n hv106 (by omega)), pif_no (mt_n hv124 (by omega)), pif_no (mt_n hv142 (by omega)), pif_no (mt_n hv159 (by omega)), pif_no (mt_n hv177 (by omega))]
                  rw [hk, ← hM2, hs3]
                  exact ⟨rfl, rfl, rfl⟩
                · refine r_run 3 (pc' := 192) (ls' := [some (yr 27)]) (st' := []) (M' := (yu M2 27 5 6)) (N' := N) rfl ?_
                  refine r_vret m_16 rfl f_16_192 ?_
                  have hk : wk (M 28) s e = 6 := by unfold wk; rw [pif_no (by omega), pif_no (mt_n hv88 (by omega)), pif_no (mt_n hv106 (by omega)), pif_no (mt_n hv124 (by omega)), pif_no (mt_n hv142 (by omega)), pif_no (mt_n hv159 (by omega)), pif_yes (mt_y hv177 (by omega))]
                  rw [hk, ← hM2, hs3]
                  exact ⟨rfl, rfl, rfl⟩
              · refine r_run 4 (pc' := 192) (ls' := [some (yr 27)]) (st' := []) (M' := (yu M2 27 5 5)) (N' := N) rfl ?_
                refine r_vret m_16 rfl f_16_192 ?_
                have hk : wk (M 28) s e = 5 := by unfold wk; rw [pif_no (by omega), pif_no (mt_n hv88 (by omega)), pif_no (mt_n hv106 (by omega)), pif_no (mt_n hv124 (by omega)), pif_no (mt_n hv142 (by omega)), pif_yes (mt_y hv159 (by omega))]
                rw [hk, ← hM2, hs3]
                exact ⟨rfl, rfl, rfl⟩
            · refine r_run 4 (pc' := 192) (ls' := [some (yr 27)]) (st' := []) (M' := (yu M2 27 5 4)) (N' := N) rfl ?_
              refine r_vret m_16 rfl f_16_192 ?_
              have hk : wk (M 28) s e = 4 := by unfold wk; rw [pif_no (by omega), pif_no (mt_n hv88 (by omega)), pif_no (mt_n hv106 (by omega)), pif_no (mt_n hv124 (by omega)), pif_yes (mt_y hv142 (by omega))]
              rw [hk, ← hM2, hs3]
              exact ⟨rfl, rfl, rfl⟩
          · refine r_run 4 (pc' := 192) (ls' := [some (yr 27)]) (st' := []) (M' := (yu M2 27 5 9)) (N' := N) rfl ?_
            refine r_vret m_16 rfl f_16_192 ?_
            have hk : wk (M 28) s e = 9 := by unfold wk; rw [pif_no (by omega), pif_no (mt_n hv88 (by omega)), pif_no (mt_n hv106 (by omega)), pif_yes (mt_y hv124 (by omega))]
            rw [hk, ← hM2, hs3]
            exact ⟨rfl, rfl, rfl⟩
        · refine r_run 4 (pc' := 192) (ls' := [some (yr 27)]) (st' := []) (M' := (yu M2 27 5 8)) (N' := N) rfl ?_
          refine r_vret m_16 rfl f_16_192 ?_
          have hk : wk (M 28) s e = 8 := by unfold wk; rw [pif_no (by omega), pif_no (mt_n hv88 (by omega)), pif_yes (mt_y hv106 (by omega))]
          rw [hk, ← hM2, hs3]
          exact ⟨rfl, rfl, rfl⟩
      · refine r_run 4 (pc' := 192) (ls' := [some (yr 27)]) (st' := []) (M' := (yu M2 27 5 7)) (N' := N) rfl ?_
        refine r_vret m_16 rfl f_16_192 ?_
        have hk : wk (M 28) s e = 7 := by unfold wk; rw [pif_no (by omega), pif_yes (mt_y hv88 (by omega))]
        rw [hk, ← hM2, hs3]
        exact ⟨rfl, rfl, rfl⟩
    · refine r_run 4 (pc' := 192) (ls' := [some (yr 27)]) (st' := []) (M' := (yu M2 27 5 3)) (N' := N) rfl ?_
      refine r_vret m_16 rfl f_16_192 ?_
      have hk : wk (M 28) s e = 3 := by unfold wk; rw [pif_yes ⟨by omega, by omega⟩]
      rw [hk, ← hM2, hs3]
      exact ⟨rfl, rfl, rfl⟩
