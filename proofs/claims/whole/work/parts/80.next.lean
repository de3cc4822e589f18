/-! the reference's tokens -/
def mWd (k : Nat) : List Int := [sWd 10001, sWd 10002, sWd 10003, [97], [98], [99], [100], [101], [102], sWd 10004, sWd 10005, sWd 10006].getD k []
theorem xw_fin : ∀ k : Fin 12, ∀ c : Fin 8, (xwords.getD (8 * k.val + c.val) 0 = if c.val < (mWd k.val).length then (mWd k.val).getD c.val 0 else 32) ∧ (c.val < (mWd k.val).length → 97 ≤ (mWd k.val).getD c.val 0) ∧ 1 ≤ (mWd k.val).length ∧ (mWd k.val).length ≤ 7 := by decide +kernel
def lkP (T : Int → Int) (s e k : Int) : Prop := e - s ≤ 8 ∧ ∀ c, 0 ≤ c → c < 8 → xwords.getD (8 * k + c).toNat 0 = if s + c < e then T (s + c) else 32
theorem lkP_iff {T : Int → Int} {s e k : Int} (hk : 0 ≤ k ∧ k < 12) (hl : ∀ x, s ≤ x → x < e → isL (T x) = true) : lkP T s e k ↔ mtP T s e (mWd k.toNat) := by
  have f : ∀ c : Int, 0 ≤ c → c < 8 → (xwords.getD (8 * k + c).toNat 0 = if c < (mWd k.toNat).length then (mWd k.toNat).getD c.toNat 0 else 32) ∧ (c < (mWd k.toNat).length → 97 ≤ (mWd k.toNat).getD c.toNat 0) ∧ 1 ≤ (mWd k.toNat).length ∧ (mWd k.toNat).length ≤ 7 := fun c c0 c1 => by
    have g := xw_fin ⟨k.toNat, by omega⟩ ⟨c.toNat, by omega⟩
    dsimp only at g
    rw [show 8 * k.toNat + c.toNat = (8 * k + c).toNat by omega] at g
    refine ⟨?_, fun h => g.2.1 (by omega), g.2.2⟩
    rw [g.1]
    by_cases h : c.toNat < (mWd k.toNat).length
    · rw [if_pos h, if_pos (by omega)]
    · rw [if_neg h, if_neg (by omega)]
  have f0 := (f 0 (by omega) (by omega)).2.2
  generalize mWd k.toNat = w at f f0
  constructor
  · rintro ⟨h1, h2⟩
    have a := h2 w.length (by omega) (by omega)
    rw [(f w.length (by omega) (by omega)).1, if_neg (by omega)] at a
    have b := h2 (w.length - 1) (by omega) (by omega)
    rw [(f (w.length - 1) (by omega) (by omega)).1, if_pos (by omega)] at b
    have c := (f (w.length - 1) (by omega) (by omega)).2.1 (by omega)
    have e1 : s + (w.length - 1) < e := by
      by_cases g : s + ((w.length : Int) - 1) < e
      · exact g
      · rw [if_neg g] at b; omega
    have e2 : e ≤ s + w.length := by
      by_cases g : s + (w.length : Int) < e
      · rw [if_pos g] at a
        have := of_decide_eq_true (hl (s + w.length) (by omega) g)
        omega
      · omega
    refine ⟨by omega, fun i i0 i1 => ?_⟩
    have d := h2 i i0 (by omega)
    rw [(f i i0 (by omega)).1, if_pos i1, if_pos (by omega)] at d
    exact d.symm
  · rintro ⟨h1, h2⟩
    refine ⟨by omega, fun c c0 c1 => ?_⟩
    rw [(f c c0 c1).1]
    by_cases g : c < w.length
    · rw [if_pos g, if_pos (by omega), h2 c c0 g]
    · rw [if_neg g, if_neg (by omega)]
def wfP (T : Int → Int) (s e v : Int) : Prop := 0 ≤ v ∧ v ≤ 12 ∧ (v < 12 → mtP T s e (mWd v.toNat)) ∧ ∀ x, 0 ≤ x → x < v → ¬ mtP T s e (mWd x.toNat)
def mTok (k : Int) : Int := if k = 1 then -1 else if k = 2 then 1 else if k = 3 then 2 else if 7 ≤ k ∧ k ≤ 9 then 3 else k
/-- what the word's number tells -/
theorem wf_wk {T : Int → Int} {s e v : Int} (h : wfP T s e v) (hs : s < e) (hl : ∀ x, s ≤ x → x < e → isL (T x) = true) :
    (if v < 3 then 3 else if v < 9 then 2 else if v = 12 then -1 else 4 + v - 9) = mTok (wk T s e) ∧ (wk T s e = 3 → (if v < 3 then v else v - 3) = T s - 97) ∧ (7 ≤ wk T s e ∧ wk T s e ≤ 9 → (if v < 3 then v else v - 3) = wk T s e - 7) ∧ wk T s e ≠ 2 := by
  obtain ⟨v0, v1, h1, h2⟩ := h
  have lT := of_decide_eq_true (hl s (Int.le_refl _) hs)
  have one : ∀ i : Int, 0 ≤ i → i < 6 → e - s = 1 → T s = 97 + i → mtP T s e (mWd (3 + i).toNat) := fun i i0 i1 g1 g2 => by
    have z : ∀ x, x = 97 + i → mtP T s e [x] := fun x hx => ⟨g1, fun j j0 j1 => by
      have j1 : j < 1 := j1
      have e0 : j = 0 := by omega
      rw [e0, Int.add_zero, g2]; exact hx.symm⟩
    rcases (show i = 0 ∨ i = 1 ∨ i = 2 ∨ i = 3 ∨ i = 4 ∨ i = 5 by omega) with rfl | rfl | rfl | rfl | rfl | rfl <;> exact z _ rfl
  have inv : ∀ i : Int, 0 ≤ i → i < 6 → mtP T s e (mWd (3 + i).toNat) → e - s = 1 ∧ T s = 97 + i := fun i i0 i1 g => by
    have z : ∀ x, x = 97 + i → mtP T s e [x] → e - s = 1 ∧ T s = 97 + i := fun x hx g => by
      have g1 : e - s = 1 := g.1
      have g2 : T (s + 0) = x := g.2 0 (by omega) (by show (0 : Int) < 1; decide)
      rw [Int.add_zero] at g2
      exact ⟨g1, by omega⟩
    rcases (show i = 0 ∨ i = 1 ∨ i = 2 ∨ i = 3 ∨ i = 4 ∨ i = 5 by omega) with rfl | rfl | rfl | rfl | rfl | rfl <;> exact z _ rfl g
  by_cases c1 : e - s = 1 ∧ T s - 97 < 6
  · have hv : v = 3 + (T s - 97) := by
      have a := one (T s - 97) (by omega) c1.2 c1.1 (by omega)
      by_cases g : v < 3 + (T s - 97)
      · exfalso
        by_cases g3 : v < 3
        · have b := (h1 (by omega)).1
          rcases (show v = 0 ∨ v = 1 ∨ v = 2 by omega) with rfl | rfl | rfl
          · have b : e - s = 7 := b; omega
          · have b : e - s = 5 := b; omega
          · have b : e - s = 5 := b; omega
        · have b := inv (v - 3) (by omega) (by omega) (by rw [show 3 + (v - 3) = v by omega]; exact h1 (by omega))
          omega
      · by_cases g2 : 3 + (T s - 97) < v
        · exact absurd a (h2 _ (by omega) g2)
        · omega
    have hw : wk T s e = 3 := by unfold wk; exact pif_yes c1
    rw [hw]
    refine ⟨?_, fun _ => ?_, fun g => by omega, by decide⟩
    · rw [if_neg (by omega), if_pos (by omega)]; rfl
    · rw [if_neg (by omega)]; omega
  · have n36 : v < 3 ∨ 9 ≤ v := by
      by_cases g : v < 3 ∨ 9 ≤ v
      · exact g
      · exfalso
        have b := inv (v - 3) (by omega) (by omega) (by rw [show 3 + (v - 3) = v by omega]; exact h1 (by omega))
        exact c1 ⟨b.1, by omega⟩
    have m0 : v ≠ 0 → ¬ mtP T s e (sWd 10001) := fun g => h2 0 (by omega) (by omega)
    have m1 : v ≠ 0 → v ≠ 1 → ¬ mtP T s e (sWd 10002) := fun g g1 => h2 1 (by omega) (by omega)
    have m2 : v ≠ 0 → v ≠ 1 → v ≠ 2 → ¬ mtP T s e (sWd 10003) := fun g g1 g2 => h2 2 (by omega) (by omega)
    have m9 : 9 < v → ¬ mtP T s e (sWd 10004) := fun g => h2 9 (by omega) g
    have m10 : 10 < v → ¬ mtP T s e (sWd 10005) := fun g => h2 10 (by omega) g
    have m11 : 11 < v → ¬ mtP T s e (sWd 10006) := fun g => h2 11 (by omega) g
    rcases (show v = 0 ∨ v = 1 ∨ v = 2 ∨ v = 9 ∨ v = 10 ∨ v = 11 ∨ v = 12 by omega) with rfl | rfl | rfl | rfl | rfl | rfl | rfl
    · have hw : wk T s e = 7 := by unfold wk; rw [pif_no c1, pif_yes (show mtP T s e (sWd 10001) from h1 (by decide))]
      rw [hw]; exact ⟨rfl, fun g => by omega, fun _ => rfl, by decide⟩
    · have hw : wk T s e = 8 := by unfold wk; rw [pif_no c1, pif_no (m0 (by decide)), pif_yes (show mtP T s e (sWd 10002) from h1 (by decide))]
      rw [hw]; exact ⟨rfl, fun g => by omega, fun _ => rfl, by decide⟩
    · have hw : wk T s e = 9 := by unfold wk; rw [pif_no c1, pif_no (m0 (by decide)), pif_no (m1 (by decide) (by decide)), pif_yes (show mtP T s e (sWd 10003) from h1 (by decide))]
      rw [hw]; exact ⟨rfl, fun g => by omega, fun _ => rfl, by decide⟩
    · have hw : wk T s e = 4 := by unfold wk; rw [pif_no c1, pif_no (m0 (by decide)), pif_no (m1 (by decide) (by decide)), pif_no (m2 (by decide) (by decide) (by decide)), pif_yes (show mtP T s e (sWd 10004) from h1 (by decide))]
      rw [hw]; exact ⟨rfl, fun g => by omega, fun g => by omega, by decide⟩
    · have hw : wk T s e = 5 := by unfold wk; rw [pif_no c1, pif_no (m0 (by decide)), pif_no (m1 (by decide) (by decide)), pif_no (m2 (by decide) (by decide) (by decide)), pif_no (m9 (by decide)), pif_yes (show mtP T s e (sWd 10005) from h1 (by decide))]
      rw [hw]; exact ⟨rfl, fun g => by omega, fun g => by omega, by decide⟩
    · have hw : wk T s e = 6 := by unfold wk; rw [pif_no c1, pif_no (m0 (by decide)), pif_no (m1 (by decide) (by decide)), pif_no (m2 (by decide) (by decide) (by decide)), pif_no (m9 (by decide)), pif_no (m10 (by decide)), pif_yes (show mtP T s e (sWd 10006) from h1 (by decide))]
      rw [hw]; exact ⟨rfl, fun g => by omega, fun g => by omega, by decide⟩
    · have hw : wk T s e = 1 := by unfold wk; rw [pif_no c1, pif_no (m0 (by decide)), pif_no (m1 (by decide) (by decide)), pif_no (m2 (by decide) (by decide) (by decide)), pif_no (m9 (by decide)), pif_no (m10 (by decide)), pif_no (m11 (by decide))]
      rw [hw]; exact ⟨rfl, fun g => by omega, fun g => by omega, by decide⟩
def mv (T : Int → Int) : Nat → Int → Int → Int → Int
  | 0, _, _, a => a
  | j + 1, x, i, a => mv T j (x + 1) (i + 1) (if x < 4 then 10 * a + T i - 48 else 0)
theorem mv_nv {T : Int → Int} {j : Nat} : ∀ {x i a : Int}, x + j ≤ 4 → mv T j x i a = nv T j i a := by
  induction j with
  | zero => intro x i a _; rfl
  | succ j ih =>
    intro x i a h
    unfold mv nv
    rw [if_pos (by omega)]
    exact ih (by omega)
theorem mv_step {T : Int → Int} {y x i a : Int} (h : i < y) : mv T (y - i).toNat x i a = mv T (y - (i + 1)).toNat (x + 1) (i + 1) (if x < 4 then 10 * a + T i - 48 else 0) := by
  rw [show (y - i).toNat = (y - (i + 1)).toNat + 1 by omega]
  rfl
theorem xw_in (k : Nat) : 0 ≤ xwords.getD k 0 ∧ xwords.getD k 0 ≤ 255 := by
  rw [List.getD_eq_getElem?_getD]
  rcases e : xwords[k]? with _ | x
  · exact ⟨by decide, by decide⟩
  · have h : ∀ x ∈ xwords, 0 ≤ x ∧ x ≤ 255 := by decide
    exact h x (List.mem_of_getElem? e)
theorem m_wf_in {S : XS} {d : Nat} {s e k n : Int} {M N : YM} {Q : Option YV → YM → YM → Prop} (ht : tpOk (M 78) n) (hW : RW M) (hs : 0 ≤ s ∧ s < e) (he : e ≤ n) (hk : 0 ≤ k ∧ k < 12) {j : Nat} : ∀ {c l : Int}, 0 ≤ c → c + j = 8 → ((l = 1 ∧ e - s ≤ 8 ∧ ∀ x, 0 ≤ x → x < c → xwords.getD (8 * k + x).toNat 0 = if s + x < e then M 78 (s + x) else 32) ∨ (l = 0 ∧ ¬ lkP (M 78) s e k)) → (∀ l' c', (l' = 1 ∧ lkP (M 78) s e k) ∨ (l' = 0 ∧ ¬ lkP (M 78) s e k) → ry S d 122 88 [some (yr 75), some (yi s), some (yi e), some (yi k), some (yi l'), some (yi c')] [] M N Q) → ry S d 122 26 [some (yr 75), some (yi s), some (yi e), some (yi k), some (yi l), some (yi c)] [] M N Q := by
  induction j with
  | zero =>
    intro c l h0 h1 hI kk
    have n160 := ht.1
    refine r_run 2 (pc' := 30) (ls' := [some (yr 75), some (yi s), some (yi e), some (yi k), some (yi l), some (yi c)]) (st' := [yi 8, yi c]) (M' := M) (N' := N) rfl ?_
    refine r_icmp_ge (pc := 30) f_122_30 (by omega) (by omega) (fun h30 => ?_) (fun h30 => ?_)
    · have hE : (l = 1 ∧ lkP (M 78) s e k) ∨ (l = 0 ∧ ¬ lkP (M 78) s e k) := by
        rcases hI with h | h
        · exact Or.inl ⟨h.1, h.2.1, fun x x0 x1 => h.2.2 x x0 (by omega)⟩
        · exact Or.inr h
      exact kk l c hE
    · exfalso; omega
  | succ j ih =>
    intro c l h0 h1 hI kk
    have n160 := ht.1
    refine r_run 2 (pc' := 30) (ls' := [some (yr 75), some (yi s), some (yi e), some (yi k), some (yi l), some (yi c)]) (st' := [yi 8, yi c]) (M' := M) (N' := N) rfl ?_
    refine r_icmp_ge (pc := 30) f_122_30 (by omega) (by omega) (fun h30 => ?_) (fun h30 => ?_)
    · have hE : (l = 1 ∧ lkP (M 78) s e k) ∨ (l = 0 ∧ ¬ lkP (M 78) s e k) := by
        rcases hI with h | h
        · exact Or.inl ⟨h.1, h.2.1, fun x x0 x1 => h.2.2 x x0 (by omega)⟩
        · exact Or.inr h
      exact kk l c hE
    · refine r_run 1 (pc' := 35) (ls' := [some (yr 75), some (yi s), some (yi e), some (yi k), some (yi l), some (yi c)]) (st' := [yi l]) (M' := M) (N' := N) rfl ?_
      refine r_if_eq (pc := 35) f_122_35 (by rcases hI with h | h <;> omega) (fun h35 => ?_) (fun h35 => ?_)
      · have hE : (l = 1 ∧ lkP (M 78) s e k) ∨ (l = 0 ∧ ¬ lkP (M 78) s e k) := by
          rcases hI with h | h
          · exfalso; omega
          · exact Or.inr h
        exact kk l c hE
      · have hl : e - s ≤ 8 ∧ ∀ x, 0 ≤ x → x < c → xwords.getD (8 * k + x).toNat 0 = if s + x < e then M 78 (s + x) else 32 := by
          rcases hI with h | h
          · exact h.2
          · exfalso; omega
        have hx : M 86 (8 * k + c) = xwords.getD (8 * k + c).toNat 0 := by
          have := hW (8 * k + c).toNat (by omega)
          rwa [show (((8 * k + c).toNat : Nat) : Int) = 8 * k + c by omega] at this
        have hxi := xw_in (8 * k + c).toNat
        refine r_run 7 (pc' := 49) (ls' := [some (yr 75), some (yi s), some (yi e), some (yi k), some (yi l), some (yi c)]) (st' := [yi ((8 * k) + c), yr 86]) (M' := M) (N' := N) rfl ?_
        refine r_iald (n := 96) f_122_49 (by decide) (by decide) (by decide) (by omega) ?_
        refine r_run 4 (pc' := 55) (ls' := [some (yr 75), some (yi s), some (yi e), some (yi k), some (yi l), some (yi c)]) (st' := [yi e, yi (s + c), yi (M 86 ((8 * k) + c))]) (M' := M) (N' := N) rfl ?_
        refine r_icmp_ge (pc := 55) f_122_55 (by omega) (by omega) (fun h55 => ?_) (fun h55 => ?_)
        · refine r_run 1 (pc' := 72) (ls' := [some (yr 75), some (yi s), some (yi e), some (yi k), some (yi l), some (yi c)]) (st' := [yi 32, yi (M 86 ((8 * k) + c))]) (M' := M) (N' := N) rfl ?_
          have hTc := fun g : s + c < e => ht.2 (s + c) (by omega) (by omega)
          refine r_icmp_ne (pc := 72) f_122_72 (by omega) (by omega) (fun h72 => ?_) (fun h72 => ?_)
          · refine r_run 4 (pc' := 26) (ls' := [some (yr 75), some (yi s), some (yi e), some (yi k), some (yi 0), some (yi (c + 1))]) (st' := []) (M' := M) (N' := N) rfl ?_
            refine ih (by omega) (by omega) (Or.inr ⟨rfl, fun g => ?_⟩) kk
            have g2 := g.2 c h0 (by omega)
            rw [if_neg (show ¬ s + c < e by omega), ← hx] at g2
            omega
          · refine r_run 5 (pc' := 26) (ls' := [some (yr 75), some (yi s), some (yi e), some (yi k), some (yi 1), some (yi (c + 1))]) (st' := []) (M' := M) (N' := N) rfl ?_
            refine ih (by omega) (by omega) (Or.inl ⟨rfl, hl.1, fun x x0 x1 => ?_⟩) kk
            by_cases g : x = c
            · rw [g, if_neg (show ¬ s + c < e by omega), ← hx]; omega
            · exact hl.2 x x0 (by omega)
        · refine r_run 5 (pc' := 66) (ls' := [some (yr 75), some (yi s), some (yi e), some (yi k), some (yi l), some (yi c)]) (st' := [yi (s + c), yr 78, yi (M 86 ((8 * k) + c))]) (M' := M) (N' := N) rfl ?_
          refine r_iald (n := 160) f_122_66 (by decide) (by decide) (by decide) (by omega) ?_
          refine r_run 1 (pc' := 72) (ls' := [some (yr 75), some (yi s), some (yi e), some (yi k), some (yi l), some (yi c)]) (st' := [yi (M 78 (s + c)), yi (M 86 ((8 * k) + c))]) (M' := M) (N' := N) rfl ?_
          have hTc := fun g : s + c < e => ht.2 (s + c) (by omega) (by omega)
          refine r_icmp_ne (pc := 72) f_122_72 (by omega) (by omega) (fun h72 => ?_) (fun h72 => ?_)
          · refine r_run 4 (pc' := 26) (ls' := [some (yr 75), some (yi s), some (yi e), some (yi k), some (yi 0), some (yi (c + 1))]) (st' := []) (M' := M) (N' := N) rfl ?_
            refine ih (by omega) (by omega) (Or.inr ⟨rfl, fun g => ?_⟩) kk
            have g2 := g.2 c h0 (by omega)
            rw [if_pos (show s + c < e by omega), ← hx] at g2
            omega
          · refine r_run 5 (pc' := 26) (ls' := [some (yr 75), some (yi s), some (yi e), some (yi k), some (yi 1), some (yi (c + 1))]) (st' := []) (M' := M) (N' := N) rfl ?_
            refine ih (by omega) (by omega) (Or.inl ⟨rfl, hl.1, fun x x0 x1 => ?_⟩) kk
            by_cases g : x = c
            · rw [g, if_pos (show s + c < e by omega), ← hx]; omega
            · exact hl.2 x x0 (by omega)
theorem m_wf_l {S : XS} {d : Nat} {s e n : Int} {M N : YM} (ht : tpOk (M 78) n) (hW : RW M) (hs : 0 ≤ s ∧ s < e) (he : e ≤ n) (hL : ∀ x, s ≤ x → x < e → isL (M 78 x) = true) {j : Nat} : ∀ {k : Int} {l4 l5 : Option YV}, 0 ≤ k → k + j = 12 → (∀ x, 0 ≤ x → x < k → ¬ mtP (M 78) s e (mWd x.toNat)) → ry S d 122 2 [some (yr 75), some (yi s), some (yi e), some (yi k), l4, l5] [] M N (fun r M' N' => ∃ v : Int, some (yi v) = r ∧ wfP (M 78) s e v ∧ M = M' ∧ N = N') := by
  induction j with
  | zero =>
    intro k l4 l5 h0 h1 hx
    have n160 := ht.1
    refine r_run 2 (pc' := 5) (ls' := [some (yr 75), some (yi s), some (yi e), some (yi k), l4, l5]) (st' := [yi 12, yi k]) (M' := M) (N' := N) rfl ?_
    refine r_icmp_ge (pc := 5) f_122_5 (by omega) (by omega) (fun h5 => ?_) (fun h5 => ?_)
    · refine r_run 1 (pc' := 103) (ls' := [some (yr 75), some (yi s), some (yi e), some (yi k), l4, l5]) (st' := [yi 12]) (M' := M) (N' := N) rfl ?_
      refine r_iret m_122 rfl f_122_103 ?_
      exact ⟨12, rfl, ⟨by omega, by omega, fun g => by omega, fun x x0 x1 => hx x x0 (by omega)⟩, rfl, rfl⟩
    · exfalso; omega
  | succ j ih =>
    intro k l4 l5 h0 h1 hx
    have n160 := ht.1
    refine r_run 2 (pc' := 5) (ls' := [some (yr 75), some (yi s), some (yi e), some (yi k), l4, l5]) (st' := [yi 12, yi k]) (M' := M) (N' := N) rfl ?_
    refine r_icmp_ge (pc := 5) f_122_5 (by omega) (by omega) (fun h5 => ?_) (fun h5 => ?_)
    · exfalso; omega
    · refine r_run 4 (pc' := 13) (ls' := [some (yr 75), some (yi s), some (yi e), some (yi k), l4, l5]) (st' := [yi 8, yi (e - s)]) (M' := M) (N' := N) rfl ?_
      refine r_icmp_gt (pc := 13) f_122_13 (by omega) (by omega) (fun h13 => ?_) (fun h13 => ?_)
      · refine r_run 4 (pc' := 26) (ls' := [some (yr 75), some (yi s), some (yi e), some (yi k), some (yi 0), some (yi 0)]) (st' := []) (M' := M) (N' := N) rfl ?_
        have hk : 0 ≤ k ∧ k < 12 := by omega
        refine m_wf_in (j := 8) ht hW hs he hk (Int.le_refl 0) rfl (Or.inr ⟨rfl, fun g => by have := g.1; omega⟩) fun l' c' hl' => ?_
        refine r_run 1 (pc' := 90) (ls' := [some (yr 75), some (yi s), some (yi e), some (yi k), some (yi l'), some (yi c')]) (st' := [yi l']) (M' := M) (N' := N) rfl ?_
        refine r_if_eq (pc := 90) f_122_90 (by rcases hl' with h | h <;> omega) (fun h90 => ?_) (fun h90 => ?_)
        · refine r_run 2 (pc' := 2) (ls' := [some (yr 75), some (yi s), some (yi e), some (yi (k + 1)), some (yi l'), some (yi c')]) (st' := []) (M' := M) (N' := N) rfl ?_
          refine ih (l4 := some (yi l')) (l5 := some (yi c')) (by omega) (by omega) (fun x x0 x1 => ?_)
          by_cases g : x = k
          · rw [g]
            intro m
            rcases hl' with h | h
            · omega
            · exact h.2 ((lkP_iff hk hL).mpr m)
          · exact hx x x0 (by omega)
        · refine r_run 1 (pc' := 94) (ls' := [some (yr 75), some (yi s), some (yi e), some (yi k), some (yi l'), some (yi c')]) (st' := [yi k]) (M' := M) (N' := N) rfl ?_
          refine r_iret m_122 rfl f_122_94 ?_
          exact ⟨k, rfl, ⟨h0, by omega, fun _ => (lkP_iff hk hL).mp (by rcases hl' with h | h; exact h.2; omega), hx⟩, rfl, rfl⟩
      · refine r_run 5 (pc' := 26) (ls' := [some (yr 75), some (yi s), some (yi e), some (yi k), some (yi 1), some (yi 0)]) (st' := []) (M' := M) (N' := N) rfl ?_
        have hk : 0 ≤ k ∧ k < 12 := by omega
        refine m_wf_in (j := 8) ht hW hs he hk (Int.le_refl 0) rfl (Or.inl ⟨rfl, by omega, fun x x0 x1 => by omega⟩) fun l' c' hl' => ?_
        refine r_run 1 (pc' := 90) (ls' := [some (yr 75), some (yi s), some (yi e), some (yi k), some (yi l'), some (yi c')]) (st' := [yi l']) (M' := M) (N' := N) rfl ?_
        refine r_if_eq (pc := 90) f_122_90 (by rcases hl' with h | h <;> omega) (fun h90 => ?_) (fun h90 => ?_)
        · refine r_run 2 (pc' := 2) (ls' := [some (yr 75), some (yi s), some (yi e), some (yi (k + 1)), some (yi l'), some (yi c')]) (st' := []) (M' := M) (N' := N) rfl ?_
          refine ih (l4 := some (yi l')) (l5 := some (yi c')) (by omega) (by omega) (fun x x0 x1 => ?_)
          by_cases g : x = k
          · rw [g]
            intro m
            rcases hl' with h | h
            · omega
            · exact h.2 ((lkP_iff hk hL).mpr m)
          · exact hx x x0 (by omega)
        · refine r_run 1 (pc' := 94) (ls' := [some (yr 75), some (yi s), some (yi e), some (yi k), some (yi l'), some (yi c')]) (st' := [yi k]) (M' := M) (N' := N) rfl ?_
          refine r_iret m_122 rfl f_122_94 ?_
          exact ⟨k, rfl, ⟨h0, by omega, fun _ => (lkP_iff hk hL).mp (by rcases hl' with h | h; exact h.2; omega), hx⟩, rfl, rfl⟩
theorem m_wordFrom {S : XS} {M N : YM} {s e n : Int} (ht : tpOk (M 78) n) (hW : RW M) (hs : 0 ≤ s ∧ s < e) (he : e ≤ n) (hL : ∀ x, s ≤ x → x < e → isL (M 78 x) = true) : rm S 0 122 [yr 75, yi s, yi e] M N (fun r M' N' => ∃ v : Int, some (yi v) = r ∧ wfP (M 78) s e v ∧ M = M' ∧ N = N') := by
  refine ⟨xe_122, m_122, Nat.le_of_ble_eq_true rfl, ?_⟩
  refine r_run 2 (pc' := 2) (ls' := [some (yr 75), some (yi s), some (yi e), some (yi 0), none, none]) (st' := []) (M' := M) (N' := N) rfl ?_
  exact m_wf_l (j := 12) ht hW hs he hL (Int.le_refl 0) rfl (fun x x0 x1 => by omega)
