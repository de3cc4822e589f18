/-! tokens by number -/
def pz (T : Int → Int) (n : Int) : Nat → Int
  | 0 => 0
  | i + 1 => eAt T n (tB T n (pz T n i))
def tb (T : Int → Int) (n : Int) (i : Nat) : Int := tB T n (pz T n i)
noncomputable def tkK (T : Int → Int) (n : Int) (i : Nat) : Int := kAt T n (tb T n i)
noncomputable def tkV (T : Int → Int) (n : Int) (i : Nat) : Int := if tkK T n i = 2 then 100000 + vAt T n (tb T n i) else if tkK T n i = 3 then vAt T n (tb T n i) else 0
theorem scE_gt {P : Int → Bool} {T : Int → Int} {n i : Int} (h : i < n) (g : P (T i) = true) : i < scE P T n i := by
  have a := scE_in (P := P) (T := T) (show i ≤ n by omega)
  rcases a.2.2.2 with b | b
  · omega
  · by_cases e : scE P T n i = i
    · rw [e, g] at b; exact absurd b (by decide)
    · omega
theorem wk_in (T : Int → Int) (s e : Int) : (wk T s e = 3 ∧ e - s = 1 ∧ T s - 97 < 6) ∨ (wk T s e = 1 ∨ (4 ≤ wk T s e ∧ wk T s e ≤ 9)) := by
  unfold wk
  by_cases c : e - s = 1 ∧ T s - 97 < 6
  · rw [pif_yes c]; exact Or.inl ⟨rfl, c⟩
  · rw [pif_no c]
    refine Or.inr ?_
    unfold pif
    (repeat' split) <;> omega
theorem kAt_in {T : Int → Int} {n b : Int} (ht : tpOk T n) (h0 : 0 ≤ b) : 0 ≤ kAt T n b ∧ kAt T n b ≤ 255 := by
  unfold kAt
  split
  · omega
  · split
    · have := wk_in T b (scE isL T n b); omega
    · split
      · split <;> omega
      · unfold pif
        have := ht.2 b h0 (by omega)
        split <;> omega
theorem kAt_zero {T : Int → Int} {n b : Int} (h : b < n) : kAt T n b ≠ 0 := by
  unfold kAt
  rw [if_neg (by omega)]
  split
  · have := wk_in T b (scE isL T n b); omega
  · split
    · split <;> omega
    · by_cases g : isSg (T b)
      · rw [pif_yes g]; unfold isSg at g; omega
      · rw [pif_no g]; decide
theorem kAt_end {T : Int → Int} {n b : Int} (h : n ≤ b) : kAt T n b = 0 := if_pos h
theorem eAt_in {T : Int → Int} {n b : Int} (h : b ≤ n) : b ≤ eAt T n b ∧ eAt T n b ≤ n ∧ (b < n → b < eAt T n b) := by
  unfold eAt
  split
  · omega
  · split
    · rename_i g
      have a := scE_in (P := isL) (T := T) h
      have b := scE_gt (P := isL) (T := T) (n := n) (by omega) g
      omega
    · split
      · rename_i g
        have a := scE_in (P := isD) (T := T) h
        have b := scE_gt (P := isD) (T := T) (n := n) (by omega) g
        omega
      · omega
theorem pz_in {T : Int → Int} {n : Int} (hn : 0 ≤ n) (i : Nat) : 0 ≤ pz T n i ∧ pz T n i ≤ n := by
  induction i with
  | zero => exact ⟨Int.le_refl _, hn⟩
  | succ i ih =>
    have a := scE_in (P := isB) (T := T) ih.2
    have b := @eAt_in T n (tB T n (pz T n i)) a.2.1
    have c : pz T n i ≤ tB T n (pz T n i) := a.1
    exact ⟨by show 0 ≤ eAt T n (tB T n (pz T n i)); omega, b.2.1⟩
theorem tb_in {T : Int → Int} {n : Int} (hn : 0 ≤ n) (i : Nat) : pz T n i ≤ tb T n i ∧ tb T n i ≤ n := by
  have a := scE_in (P := isB) (T := T) (pz_in (T := T) hn i).2
  exact ⟨a.1, a.2.1⟩
theorem pz_ge {T : Int → Int} {n : Int} (hn : 0 ≤ n) {i : Nat} : tb T n i < n → (i : Int) ≤ pz T n i := by
  induction i with
  | zero => intro _; exact Int.le_refl _
  | succ i ih =>
    intro h
    have a := tb_in (T := T) hn i
    have a1 := tb_in (T := T) hn (i + 1)
    have b := @eAt_in T n (tb T n i) a.2
    have e : pz T n (i + 1) = eAt T n (tb T n i) := rfl
    have c : tb T n i < n := by omega
    have d := ih c
    omega
theorem nv_in {T : Int → Int} {j : Nat} (hj : j ≤ 4) {b : Int} (h : ∀ x, b ≤ x → x < b + j → 48 ≤ T x ∧ T x ≤ 57) : 0 ≤ nv T j b 0 ∧ nv T j b 0 ≤ 9999 := by
  have h0 := h b (Int.le_refl _)
  have h1 := h (b + 1) (by omega)
  have h2 := h (b + 1 + 1) (by omega)
  have h3 := h (b + 1 + 1 + 1) (by omega)
  rcases (show j = 0 ∨ j = 1 ∨ j = 2 ∨ j = 3 ∨ j = 4 by omega) with rfl | rfl | rfl | rfl | rfl
  · show 0 ≤ (0 : Int) ∧ (0 : Int) ≤ 9999; decide
  · have := h0 (by omega)
    show 0 ≤ 10 * 0 + T b - 48 ∧ 10 * 0 + T b - 48 ≤ 9999
    omega
  · have := h0 (by omega); have := h1 (by omega)
    show 0 ≤ 10 * (10 * 0 + T b - 48) + T (b + 1) - 48 ∧ 10 * (10 * 0 + T b - 48) + T (b + 1) - 48 ≤ 9999
    omega
  · have := h0 (by omega); have := h1 (by omega); have := h2 (by omega)
    show 0 ≤ 10 * (10 * (10 * 0 + T b - 48) + T (b + 1) - 48) + T (b + 1 + 1) - 48 ∧ 10 * (10 * (10 * 0 + T b - 48) + T (b + 1) - 48) + T (b + 1 + 1) - 48 ≤ 9999
    omega
  · have := h0 (by omega); have := h1 (by omega); have := h2 (by omega); have := h3 (by omega)
    show 0 ≤ 10 * (10 * (10 * (10 * 0 + T b - 48) + T (b + 1) - 48) + T (b + 1 + 1) - 48) + T (b + 1 + 1 + 1) - 48 ∧ 10 * (10 * (10 * (10 * 0 + T b - 48) + T (b + 1) - 48) + T (b + 1 + 1) - 48) + T (b + 1 + 1 + 1) - 48 ≤ 9999
    omega
theorem vAt_in {T : Int → Int} {n b : Int} (ht : tpOk T n) (h0 : 0 ≤ b) : (kAt T n b = 2 → 0 ≤ vAt T n b ∧ vAt T n b ≤ 9999) ∧ (kAt T n b = 3 → 0 ≤ vAt T n b ∧ vAt T n b ≤ 5) := by
  by_cases hb : n ≤ b
  · rw [kAt_end hb]; exact ⟨fun h => by omega, fun h => by omega⟩
  · have hT := ht.2 b h0 (by omega)
    unfold kAt vAt
    rw [if_neg hb]
    by_cases c : isL (T b) = true
    · rw [if_pos c, if_pos c]
      have w := wk_in T b (scE isL T n b)
      have l : 97 ≤ T b ∧ T b ≤ 122 := of_decide_eq_true c
      exact ⟨fun h => by omega, fun h => by omega⟩
    · rw [if_neg c, if_neg c]
      by_cases d : isD (T b) = true
      · rw [if_pos d]
        have a := scE_in (P := isD) (T := T) (show b ≤ n by omega)
        refine ⟨fun h => ?_, fun h => ?_⟩
        · have g : ¬ 4 < scE isD T n b - b := fun g => by rw [if_pos g] at h; exact absurd h (by decide)
          exact nv_in (by omega) fun x x0 x1 => of_decide_eq_true (a.2.2.1 x x0 (by omega))
        · exfalso; split at h <;> omega
      · rw [if_neg d]
        refine ⟨fun h => ?_, fun h => ?_⟩
        · exfalso
          by_cases g : isSg (T b)
          · rw [pif_yes g] at h; unfold isSg at g; omega
          · rw [pif_no g] at h; exact absurd h (by decide)
        · exfalso
          by_cases g : isSg (T b)
          · rw [pif_yes g] at h; unfold isSg at g; omega
          · rw [pif_no g] at h; exact absurd h (by decide)
theorem tkK_in {T : Int → Int} {n : Int} (ht : tpOk T n) (i : Nat) : 0 ≤ tkK T n i ∧ tkK T n i ≤ 255 := by
  have a := pz_in (T := T) ht.1.1 i
  have b := tb_in (T := T) ht.1.1 i
  exact kAt_in ht (by omega)
theorem tk_ok {T : Int → Int} {n : Int} (ht : tpOk T n) : tkOk (tkK T n) (tkV T n) := by
  refine ⟨fun i h => ?_, fun i h => ?_⟩
  · have b := tb_in (T := T) ht.1.1 i
    have c : tb T n i < n := by
      by_cases g : tb T n i < n
      · exact g
      · exact absurd (kAt_end (by omega)) h
    have d := pz_ge ht.1.1 c
    have e := ht.1.2
    omega
  · have a := pz_in (T := T) ht.1.1 i
    have b := tb_in (T := T) ht.1.1 i
    have v := vAt_in (b := tb T n i) ht (by omega)
    unfold tkV
    rcases h with h | h
    · rw [if_pos h]; have := v.1 h; omega
    · rw [if_neg (by omega), if_pos h]; have := v.2 h; omega
theorem tEnc_tk {T : Int → Int} {n : Int} (ht : tpOk T n) (i : Nat) : (tkK T n i = 2 → tEnc (tkV T n i) = vAt T n (tb T n i)) ∧ (tkK T n i = 3 → tEnc (tkV T n i) = 10000 + vAt T n (tb T n i)) := by
  have v := (tk_ok ht).2 i
  unfold tkV at v ⊢
  refine ⟨fun h => ?_, fun h => ?_⟩
  · rw [if_pos h] at v ⊢
    have := v (Or.inl h)
    have a := pz_in (T := T) ht.1.1 i
    have b := tb_in (T := T) ht.1.1 i
    have w := (vAt_in (b := tb T n i) ht (by omega)).1 h
    unfold tEnc
    rw [if_pos (by omega)]
    omega
  · rw [if_neg (by omega), if_pos h]
    have a := pz_in (T := T) ht.1.1 i
    have b := tb_in (T := T) ht.1.1 i
    have w := (vAt_in (b := tb T n i) ht (by omega)).2 h
    unfold tEnc
    rw [if_neg (by omega), if_pos (by omega)]
/-- the class's reader: token i in hand; the draft -/
def cSt (T : Int → Int) (n : Int) (M : YM) (i : Nat) : Prop := M 28 = T ∧ M 27 1 = n ∧ M 27 3 = tb T n i ∧ M 27 4 = pz T n (i + 1) ∧ M 27 5 = tkK T n i ∧ (tkK T n i = 2 ∨ tkK T n i = 3 → M 27 6 = vAt T n (tb T n i))
def drf (M : YM) (c : List Int) : Prop := M 29 1 = c.length ∧ crep (M 30) 0 (c.map tEnc)
def fr3 (M M' : YM) : Prop := (∀ c, c ≠ 27 → c ≠ 29 → c ≠ 30 → M' c = M c) ∧ M' 29 3 = M 29 3
theorem fr3.refl {M : YM} : fr3 M M := ⟨fun _ _ _ _ => rfl, rfl⟩
theorem fr3.trans {A B C : YM} (h : fr3 A B) (g : fr3 B C) : fr3 A C := ⟨fun c h1 h2 h3 => (g.1 c h1 h2 h3).trans (h.1 c h1 h2 h3), g.2.trans h.2⟩
theorem cSt.fr {T : Int → Int} {n : Int} {M M' : YM} {i : Nat} (h : cSt T n M i) (g8 : M' 28 = M 28) (g : ∀ k, k ≠ 7 → M' 27 k = M 27 k) : cSt T n M' i := by
  unfold cSt
  rw [g8, g 1 (by decide), g 3 (by decide), g 4 (by decide), g 5 (by decide), g 6 (by decide)]
  exact h
theorem drf.fr {M M' : YM} {c : List Int} (h : drf M c) (g9 : M' 29 1 = M 29 1) (g : M' 30 = M 30) : drf M' c := by
  unfold drf
  rw [g9, g]
  exact h
theorem c_stepX {S : XS} {M N : YM} {T : Int → Int} {n : Int} (ht : tpOk T n) {i : Nat} (h8 : M 28 = T) (h1 : M 27 1 = n) (h4 : M 27 4 = pz T n i) : rm S 7 15 [yr 27] M N (fun r M' N' => none = r ∧ (cSt T n M' i ∧ (∀ c, c ≠ 27 → M' c = M c) ∧ M' 27 7 = M 27 7) ∧ N = N') := by
  refine rm_post (c_step (n := n) (by rw [h8]; exact ht) h1 (pz_in (T := T) ht.1.1 i) h4 (b := tb T n i) (by rw [h8]; rfl)) ?_
  rintro _ M' _ ⟨rfl, ⟨g0, g1, g3, g4, g5, g6⟩, rfl⟩
  rw [h8] at g4 g5 g6
  exact ⟨rfl, ⟨⟨by rw [g0 28 (by decide)]; exact h8, by rw [g1 1 (by decide)]; exact h1, g3, g4, g5, g6⟩, g0, g1 7 (by decide)⟩, rfl⟩
/-- of the tape's bytes alone -/
theorem wk_congr {T T' : Int → Int} {s e : Int} (hs : s < e) (h : ∀ x, s ≤ x → x < e → T x = T' x) : wk T s e = wk T' s e := by
  have m : ∀ w, mtP T s e w = mtP T' s e w := fun w => propext ⟨fun g => ⟨g.1, fun i i0 i1 => by rw [← h (s + i) (by omega) (by have := g.1; omega)]; exact g.2 i i0 i1⟩, fun g => ⟨g.1, fun i i0 i1 => by rw [h (s + i) (by omega) (by have := g.1; omega)]; exact g.2 i i0 i1⟩⟩
  unfold wk
  rw [m, m, m, m, m, m, h s (Int.le_refl _) hs]
theorem scE_congr {P : Int → Bool} {T T' : Int → Int} {n i : Int} (i0 : 0 ≤ i) (h : ∀ x, 0 ≤ x → x < n → T x = T' x) : scE P T n i = scE P T' n i := scn_congr i0 h
theorem at_congr {T T' : Int → Int} {n b : Int} (b0 : 0 ≤ b) (h : ∀ x, 0 ≤ x → x < n → T x = T' x) : eAt T n b = eAt T' n b ∧ kAt T n b = kAt T' n b ∧ (b < n → vAt T n b = vAt T' n b) := by
  by_cases c : n ≤ b
  · exact ⟨by unfold eAt; rw [if_pos c, if_pos c], by rw [kAt_end c, kAt_end c], fun g => by omega⟩
  · have hb := h b b0 (by omega)
    have l := scE_in (P := isL) (T := T') (show b ≤ n by omega)
    have d := scE_in (P := isD) (T := T') (show b ≤ n by omega)
    refine ⟨?_, ?_, fun _ => ?_⟩
    · unfold eAt
      rw [hb, scE_congr (P := isL) b0 h, scE_congr (P := isD) b0 h]
    · unfold kAt
      rw [hb, scE_congr (P := isL) b0 h, scE_congr (P := isD) b0 h]
      by_cases g : isL (T' b) = true
      · rw [if_neg c, if_neg c, if_pos g, if_pos g]
        have gt := scE_gt (P := isL) (T := T') (n := n) (by omega) g
        exact wk_congr gt fun x x0 x1 => h x (by omega) (by omega)
      · rw [if_neg c, if_neg c, if_neg g, if_neg g]
    · unfold vAt
      rw [hb, scE_congr (P := isD) b0 h]
      by_cases g : isL (T' b) = true
      · rw [if_pos g, if_pos g]
      · rw [if_neg g, if_neg g]
        exact nv_congr fun x x0 x1 => h x (by omega) (by omega)
theorem lex_congr {T T' : Int → Int} {n : Int} (hn : 0 ≤ n) (h : ∀ x, 0 ≤ x → x < n → T x = T' x) : (∀ i, tb T n i = tb T' n i) ∧ tkK T n = tkK T' n ∧ tkV T n = tkV T' n := by
  have p : ∀ i, pz T n i = pz T' n i := by
    intro i
    induction i with
    | zero => rfl
    | succ i ih =>
      have a := pz_in (T := T') hn i
      have b := tb_in (T := T') hn i
      show eAt T n (scE isB T n (pz T n i)) = eAt T' n (tb T' n i)
      rw [ih, scE_congr a.1 h]
      exact (at_congr (b := tb T' n i) (by omega) h).1
  have t : ∀ i, tb T n i = tb T' n i := fun i => by
    have a := pz_in (T := T') hn i
    show scE isB T n (pz T n i) = scE isB T' n (pz T' n i)
    rw [p, scE_congr a.1 h]
  have k : tkK T n = tkK T' n := funext fun i => by
    have a := pz_in (T := T') hn i
    have b := tb_in (T := T') hn i
    show kAt T n (tb T n i) = kAt T' n (tb T' n i)
    rw [t]
    exact (at_congr (b := tb T' n i) (by omega) h).2.1
  refine ⟨t, k, funext fun i => ?_⟩
  have a := pz_in (T := T') hn i
  have b := tb_in (T := T') hn i
  unfold tkV
  rw [k, t]
  by_cases c : tb T' n i < n
  · rw [(at_congr (b := tb T' n i) (by omega) h).2.2 c]
  · have z : tkK T' n i = 0 := kAt_end (by omega)
    rw [z, if_neg (by decide), if_neg (by decide), if_neg (by decide), if_neg (by decide)]
