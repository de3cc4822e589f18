/-! whether all can be, and the table, told of both memories alike -/
def spY (B E L sk : Int → Int) (n : Int) : Prop := spK B E L sk n (spO B E L sk n)
theorem spY_of {B E L sk : Int → Int} {n : Int} {O : Int → Int → Int} (h : spK B E L sk n O) : spY B E L sk n := Classical.epsilon_spec (p := spK B E L sk n) ⟨O, h⟩
theorem spY_no {B E L sk : Int → Int} {n : Int} (h : ¬ spC B E L sk n) : ¬ spY B E L sk n := fun g => h ⟨_, g.1, g.2.1⟩
theorem spY_congr {B B' E E' L sk sk' : Int → Int} {n : Int} (hB : ∀ q, in6 q → B q = B' q) (hE : ∀ q, in6 q → E q = E' q) (hs : ∀ k, 0 ≤ k → k < n → sk k = sk' k) : spY B E L sk n = spY B' E' L sk' n := by
  unfold spY
  rw [spO_congr hB hE hs]
  unfold spK
  rw [cst_iff hB hE hs]
def mO (M : YM) (s : Int) : Int := M 76 (5 * s + 1)
def mF (M : YM) (s : Int) : Int := sFrom (M 76 (5 * s)) (M 76 (5 * s + 4)) (M 76 (5 * s + 2)) (M 76 (5 * s + 3)) (M 75 4)
def mU (M : YM) (s : Int) : Int := sUpTo (M 76 (5 * s)) (M 76 (5 * s + 4)) (M 76 (5 * s + 2)) (M 76 (5 * s + 3)) (M 75 4)
/-- what sayings leave, some left out -/
def lB (M : YM) (w : Int) : Int → Int := lvB (mO M) (mF M) (bit w) (M 75 0).toNat 0 (fun _ => 0)
def lE (M : YM) (w : Int) : Int → Int := lvE (mO M) (mU M) (bit w) (M 75 0).toNat 0 (fun _ => 999)
def sk0 : Int → Int := fun _ => 0
theorem RS.csy {M : YM} (h : RS M M) : cSy M (mO M) (mF M) (mU M) (M 75 0) := by
  obtain ⟨h1, h2, h3, h4, h5⟩ := h
  refine ⟨h1, by rw [h3]; exact h4, fun s s0 s1 => ?_⟩
  obtain ⟨⟨e0, e1, e2, e3, e4⟩, g, o⟩ := h5 s s0 s1
  rw [e0, e1, e2, e3, e4, h3]
  exact ⟨g, rfl, o, rfl, rfl, sFrom_in g h4, sUpTo_in g h4⟩
theorem RS.msy {M : YM} (h : RS M M) : mSy M (mO M) (mF M) (mU M) (M 75 0) := by
  obtain ⟨h1, h2, h3, h4, h5⟩ := h
  refine ⟨rfl, h4, fun s s0 s1 => ?_⟩
  obtain ⟨-, g, o⟩ := h5 s s0 s1
  exact ⟨g, rfl, o, rfl, rfl, sFrom_in g h4, sUpTo_in g h4⟩
theorem RL.ok {M : YM} (h : RL M M) : lkOk (M 77) (M 75 2) := fun k k0 k1 => by
  have h2 := h.2.1
  obtain ⟨-, e1, e2, e3⟩ := h.2.2 k k0 (by omega)
  omega
theorem RL.clk {M : YM} (h : RL M M) : cLk M (M 77) (M 75 2) := fun k k0 k1 => (h.2.2 k k0 (by have := h.2.1; omega)).1
/-- of the reference's cells alone: sayings, links, the year -/
def eqs (M M' : YM) : Prop := M' 75 0 = M 75 0 ∧ M' 75 2 = M 75 2 ∧ M' 75 4 = M 75 4 ∧ M' 76 = M 76 ∧ M' 77 = M 77
theorem eqs.refl {M : YM} : eqs M M := ⟨rfl, rfl, rfl, rfl, rfl⟩
theorem eqs.trans {A B C : YM} (h : eqs A B) (g : eqs B C) : eqs A C := ⟨g.1.trans h.1, g.2.1.trans h.2.1, g.2.2.1.trans h.2.2.1, g.2.2.2.1.trans h.2.2.2.1, g.2.2.2.2.trans h.2.2.2.2⟩
theorem eqs.of {M M' : YM} (h : ∀ c, c = 75 ∨ c = 76 ∨ c = 77 → M' c = M c) : eqs M M' := by
  refine ⟨?_, ?_, ?_, h 76 (by omega), h 77 (by omega)⟩ <;> rw [h 75 (by omega)]
theorem eqs.eO {M M' : YM} (h : eqs M M') : mO M' = mO M := by
  funext s
  unfold mO
  rw [h.2.2.2.1]
theorem eqs.eF {M M' : YM} (h : eqs M M') : mF M' = mF M := by
  funext s
  unfold mF
  rw [h.2.2.2.1, h.2.2.1]
theorem eqs.eU {M M' : YM} (h : eqs M M') : mU M' = mU M := by
  funext s
  unfold mU
  rw [h.2.2.2.1, h.2.2.1]
theorem eqs.eB {M M' : YM} (h : eqs M M') : lB M' = lB M := by
  funext w
  unfold lB
  rw [h.eO, h.eF, h.1]
theorem eqs.eE {M M' : YM} (h : eqs M M') : lE M' = lE M := by
  funext w
  unfold lE
  rw [h.eO, h.eU, h.1]
theorem lB_in {M : YM} (h : RS M M) (w : Int) : ∀ q, in6 q → in9 (lB M w q) := lvB_in (fun s s0 s1 => (h.msy.2.2 s s0 s1).2.2.2.2.2.1) (Int.le_refl 0) (by have := h.2.1; omega) (fun q hq => ⟨by decide, by decide⟩)
theorem lE_in {M : YM} (h : RS M M) (w : Int) : ∀ q, in6 q → in9 (lE M w q) := lvE_in (fun s s0 s1 => (h.msy.2.2 s s0 s1).2.2.2.2.2.2) (Int.le_refl 0) (by have := h.2.1; omega) (fun q hq => ⟨by decide, by decide⟩)
/-- the class's rows tell the table -/
def cAt (M : YM) (O : Int → Int → Int) : Prop := (∀ q, in6 q → M 36 q = -O q 6 ∧ M 37 q = O 6 q ∧ 0 ≤ -O q 6 ∧ -O q 6 ≤ O 6 q ∧ O 6 q ≤ 999) ∧ (∀ i, 0 ≤ i → i < 36 → -50000000 ≤ M 38 i ∧ M 38 i ≤ 9999) ∧ ∀ a b, in6 a → in6 b → imin (M 38 (6 * a + b)) (M 37 b - M 36 a) = O a b
def mAt (M : YM) (O : Int → Int → Int) : Prop := (∀ a b, 0 ≤ a → a < 7 → 0 ≤ b → b < 7 → M 92 (7 * a + b) = O a b) ∧ (∀ q, in6 q → 0 ≤ -O q 6 ∧ -O q 6 ≤ O 6 q ∧ O 6 q ≤ 999) ∧ ∀ i, 0 ≤ i → i < 49 → -300000000 ≤ M 92 i ∧ M 92 i ≤ 9999
/-- links are tied -/
def tied (M : YM) (L sk : Int → Int) (n : Int) : Prop := tieOk L sk n (M 38) (M 33 5) ∧ (∀ i, 0 ≤ i → i < 36 → -50000000 ≤ M 38 i ∧ M 38 i ≤ 9999) ∧ (M 33 5 = 0 ∨ M 33 5 = 1)
theorem tied.fr {M M' : YM} {L sk : Int → Int} {n : Int} (h : tied M L sk n) (g : M' 38 = M 38) (g5 : M' 33 5 = M 33 5) : tied M' L sk n := by
  unfold tied
  rw [g, g5]
  exact h
theorem c_cutK {S : XS} {M N : YM} {B E L sk : Int → Int} {n : Int} (hb : ∀ q, in6 q → M 34 q = B q ∧ M 35 q = E q ∧ (0 ≤ B q ∧ B q ≤ 1001) ∧ (-2 ≤ E q ∧ E q ≤ 999)) (hL : lkOk L n) (hT : tied M L sk n) : rm S 1 38 [yr 33] M N (fun r M' N' => ∃ v : Int, some (yi v) = r ∧ ((∀ c, c ≠ 36 → c ≠ 37 → M' c = M c) ∧ ((v = 1 ∧ spY B E L sk n ∧ cAt M' (spO B E L sk n)) ∨ (v = 0 ∧ ¬ spY B E L sk n))) ∧ N = N') := by
  refine rm_post (c_cut ⟨fun q hq => ?_, hT.2.1⟩ hT.2.2) ?_
  · obtain ⟨h1, h2, h3, h4⟩ := hb q hq
    rw [h1, h2]; exact ⟨h3, h4⟩
  rintro _ _ _ ⟨⟨v, rfl, hv⟩, ⟨Lo, Hi, rfl, hLH⟩, rfl⟩
  have eB : ∀ i, 0 ≤ i → i < 6 → M 34 i = B i := fun i i0 i1 => (hb i ⟨i0, by omega⟩).1
  have eE : ∀ i, 0 ≤ i → i < 6 → M 35 i = E i := fun i i0 i1 => (hb i ⟨i0, by omega⟩).2.1
  have cB : ∀ q, in6 q → M 34 q = B q := fun q hq => (hb q hq).1
  have cE : ∀ q, in6 q → M 35 q = E q := fun q hq => (hb q hq).2.1
  refine ⟨v, rfl, ⟨fun c h1 h2 => by rw [yrow_ne h2, yrow_ne h1], ?_⟩, rfl⟩
  have hm := sp_main (B := M 34) (E := M 35) (L := L) (sk := sk) (D := M 38) (Lo := Lo) (Hi := Hi) (n := n) (v := v) (v5 := M 33 5) hL (fun q hq => by rw [cB q hq]; exact (hb q hq).2.2.1.1) (fun q hq => by rw [cE q hq]; exact (hb q hq).2.2.2.2) hT.1 hLH hv
  have e1 := spO_congr (L := L) (n := n) cB cE (fun k _ _ => rfl : ∀ k, 0 ≤ k → k < n → sk k = sk k)
  have e2 := spY_congr (L := L) (n := n) cB cE (fun k _ _ => rfl : ∀ k, 0 ≤ k → k < n → sk k = sk k)
  rcases hm with ⟨hv1, O, hK, h3, h4⟩ | ⟨hv1, hN⟩
  · refine Or.inl ⟨hv1, by rw [← e2]; exact spY_of hK, ?_, ?_, ?_⟩
    · intro q hq
      rw [yrow_ne (show (36 : Int) ≠ 37 by decide), yrow_at, yrow_at, ← e1, ← spO_eq hK hq.1 (by omega) (by omega) (by omega), ← spO_eq hK (by omega) (by omega) hq.1 (by omega)]
      have g := spK_in hK hq
      rw [cB q hq, cE q hq] at g
      have k := hb q hq
      exact ⟨(h3 q hq).1, (h3 q hq).2, by omega, g.2.1, by omega⟩
    · rw [yrow_ne (show (38 : Int) ≠ 37 by decide), yrow_ne (show (38 : Int) ≠ 36 by decide)]
      exact hT.2.1
    · intro a b ha hb'
      rw [yrow_ne (show (36 : Int) ≠ 37 by decide), yrow_at, yrow_at, yrow_ne (show (38 : Int) ≠ 37 by decide), yrow_ne (show (38 : Int) ≠ 36 by decide), ← e1, ← spO_eq hK ha.1 (by omega) hb'.1 (by omega)]
      exact h4 a b ha hb'
  · exact Or.inr ⟨hv1, by rw [← e2]; exact spY_no hN⟩
theorem c_canW {S : XS} {M N : YM} {w : Int} {sk : Int → Int} (hS : RS M M) (hL : RL M M) (hT : tied M (M 77) sk (M 75 2)) : rm S 3 98 [yr 0, yi w] M N (fun r M' N' => ∃ v : Int, some (yi v) = r ∧ ((∀ c, c < 34 ∨ 37 < c → M' c = M c) ∧ (∀ q, in6 q → M' 34 q = lB M w q ∧ M' 35 q = lE M w q) ∧ ((v = 1 ∧ spY (lB M w) (lE M w) (M 77) sk (M 75 2) ∧ cAt M' (spO (lB M w) (lE M w) (M 77) sk (M 75 2))) ∨ (v = 0 ∧ ¬ spY (lB M w) (lE M w) (M 77) sk (M 75 2)))) ∧ N = N') := by
  refine ⟨xe_98, m_98, Nat.le_of_ble_eq_true rfl, ?_⟩
  have g1 := hS.2.1
  refine r_run 5 (pc' := 9) (ls' := [some (yr 0), some (yi w)]) (st' := [yi w, yr 1, yr 33]) (M' := M) (N' := N) rfl ?_
  refine r_virtual (mj := 34) (b := 33) (as := [yr 1, yi w]) (rest := []) f_98_9 (by decide) rfl m_34 (by decide) (by decide) (by decide) rfl rfl (Nat.le_of_ble_eq_true rfl) (by omega) (c_leave (w := w) (by omega) (by omega) hS.csy) ?_
  rintro _ M2 _ ⟨rfl, ⟨B, E, hM2, hB, hE⟩, rfl⟩
  have k34 : M2 34 = B := by rw [← hM2, yrow_ne (by decide), yrow_at]
  have k35 : M2 35 = E := by rw [← hM2, yrow_at]
  have f2 : ∀ c, c ≠ 34 → c ≠ 35 → M2 c = M c := fun c h1 h2 => by rw [← hM2, yrow_ne h2, yrow_ne h1]
  refine r_run 2 (pc' := 16) (ls' := [some (yr 0), some (yi w)]) (st' := [yr 33]) (M' := M2) (N' := N) rfl ?_
  refine r_virtual (mj := 38) (b := 33) (as := []) (rest := []) f_98_16 (by decide) rfl m_38 (by decide) (by decide) (by decide) rfl rfl (Nat.le_of_ble_eq_true rfl) (by omega) (c_cutK (B := lB M w) (E := lE M w) (L := M 77) (sk := sk) (n := M 75 2) (fun q hq => ⟨by rw [k34]; exact hB q hq, by rw [k35]; exact hE q hq, by have := lB_in hS w q hq; omega, by have := lE_in hS w q hq; omega⟩) hL.ok (hT.fr (f2 38 (by decide) (by decide)) (by rw [f2 33 (by decide) (by decide)]))) ?_
  rintro _ M3 _ ⟨v, rfl, ⟨f3, hv⟩, rfl⟩
  refine r_zret m_98 rfl f_98_19 (by omega) ?_
  exact ⟨v, rfl, ⟨fun c hc => by rw [f3 c (by omega) (by omega), f2 c (by omega) (by omega)], fun q hq => ⟨by rw [f3 34 (by decide) (by decide), k34]; exact hB q hq, by rw [f3 35 (by decide) (by decide), k35]; exact hE q hq⟩, hv⟩, rfl⟩
theorem sk_none {n : Int} : ∀ k, 0 ≤ k → k < n → (fun k : Int => if k = -1 then (1 : Int) else 0) k = sk0 k := fun k h0 _ => if_neg (by omega)
theorem tieOk_congr {L sk sk' R : Int → Int} {n v : Int} (h : ∀ k, 0 ≤ k → k < n → sk k = sk' k) (g : tieOk L sk n R v) : tieOk L sk' n R v := by
  have e : ∀ X, lkC L sk n X = lkC L sk' n X := fun X => propext ⟨lkC_congr h, lkC_congr (fun k k0 k1 => (h k k0 k1).symm)⟩
  unfold tieOk at g ⊢
  simp only [e] at g
  exact g
/-- whether all can be now; the table -/
def nY (M : YM) : Prop := spY (lB M 0) (lE M 0) (M 77) sk0 (M 75 2)
noncomputable def nT (M : YM) : Int → Int → Int := spO (lB M 0) (lE M 0) (M 77) sk0 (M 75 2)
theorem eqs.eY {M M' : YM} (h : eqs M M') : nY M' = nY M := by
  unfold nY
  rw [h.eB, h.eE, h.2.1, h.2.2.2.2]
theorem eqs.eT {M M' : YM} (h : eqs M M') : nT M' = nT M := by
  unfold nT
  rw [h.eB, h.eE, h.2.1, h.2.2.2.2]
def csP (M M' : YM) (v : Int) : Prop := (∀ c, c < 33 ∨ 38 < c → M' c = M c) ∧ tied M' (M 77) sk0 (M 75 2) ∧ (∀ q, in6 q → M' 34 q = lB M 0 q ∧ M' 35 q = lE M 0 q) ∧ ((v = 1 ∧ nY M ∧ cAt M' (nT M)) ∨ (v = 0 ∧ ¬ nY M))
def mcP (M M' : YM) (v : Int) : Prop := (∀ c, c < 90 ∨ 92 < c → M' c = M c) ∧ (∀ q, in6 q → M' 90 q = lB M 0 q ∧ M' 91 q = lE M 0 q) ∧ ((v = 1 ∧ nY M ∧ mAt M' (nT M)) ∨ (v = 0 ∧ ¬ nY M))
theorem RS.row {M M' : YM} (h : RS M M) (g : ∀ c, c < 33 ∨ (38 < c ∧ c < 87) → M' c = M c) : RS M' M' := h.fr (fun c k hc => by rw [g c (by omega)]) (fun c k hc => by rw [g c (by omega)])
theorem RL.row {M M' : YM} (h : RL M M) (g : ∀ c, c < 33 ∨ (38 < c ∧ c < 87) → M' c = M c) : RL M' M' := h.fr (fun c k hc => by rw [g c (by omega)]) (fun c k hc => by rw [g c (by omega)])
theorem c_cutSpans {S : XS} {M N : YM} (hS : RS M M) (hL : RL M M) : rm S 5 97 [yr 0] M N (fun r M' N' => ∃ v : Int, some (yi v) = r ∧ csP M M' v ∧ N = N') := by
  refine ⟨xe_97, m_97, Nat.le_of_ble_eq_true rfl, ?_⟩
  have g2 := hL.1
  have g3 := hL.2.1
  refine r_run 8 (pc' := 16) (ls' := [some (yr 0)]) (st' := [yi (-1), yi (M 1 2), yr 25, yr 33]) (M' := M) (N' := N) rfl ?_
  refine r_virtual (mj := 35) (b := 33) (as := [yr 25, yi (M 1 2), yi (-1)]) (rest := []) f_97_16 (by decide) rfl m_35 (by decide) (by decide) (by decide) rfl rfl (Nat.le_of_ble_eq_true rfl) (by omega) (c_tie (L := M 77) (sk := fun k => if k = -1 then 1 else 0) (by omega) (by omega) (by rw [g2]; exact hL.ok) (fun k => rfl) (by rw [g2]; exact hL.clk)) ?_
  rintro _ M2 _ ⟨rfl, ⟨R, v5, hM2, hT, hR, hv5⟩, rfl⟩
  have f2 : ∀ c, c ≠ 33 → c ≠ 38 → M2 c = M c := fun c h1 h2 => by
    rw [← hM2, yu_row, yrow_ne h1, yrow_ne h2]
  have k38 : M2 38 = R := by rw [← hM2, yu_row, yrow_ne (by decide), yrow_at]
  have k5 : M2 33 5 = v5 := by rw [← hM2, yu_at]
  have hT2 : tied M2 (M2 77) sk0 (M2 75 2) := by
    rw [f2 77 (by decide) (by decide), f2 75 (by decide) (by decide)]
    unfold tied
    rw [k38, k5]
    rw [g2] at hT
    exact ⟨tieOk_congr sk_none hT, hR, hv5⟩
  have hS2 : RS M2 M2 := hS.row (fun c hc => f2 c (by omega) (by omega))
  have hL2 : RL M2 M2 := hL.row (fun c hc => f2 c (by omega) (by omega))
  have hq : eqs M M2 := eqs.of fun c hc => f2 c (by omega) (by omega)
  refine r_run 2 (pc' := 21) (ls' := [some (yr 0)]) (st' := [yi 0, yr 0]) (M' := M2) (N' := N) rfl ?_
  refine r_virtual (mj := 98) (b := 0) (as := [yi 0]) (rest := []) f_97_21 (by decide) rfl m_98 (by decide) (by decide) (by decide) rfl rfl (Nat.le_of_ble_eq_true rfl) (by omega) (c_canW (w := 0) (sk := sk0) hS2 hL2 hT2) ?_
  rintro _ M3 _ ⟨v, rfl, ⟨f3, hBE, hv⟩, rfl⟩
  refine r_zret m_97 rfl f_97_24 (by omega) ?_
  refine ⟨v, rfl, ⟨fun c hc => by rw [f3 c (by omega), f2 c (by omega) (by omega)], ?_, ?_, ?_⟩, rfl⟩
  · rw [← f2 77 (by decide) (by decide), ← f2 75 (by decide) (by decide)]
    exact hT2.fr (f3 38 (by decide)) (by rw [f3 33 (by decide)])
  · rw [← hq.eB, ← hq.eE]; exact hBE
  · rw [← hq.eY, ← hq.eT]; exact hv
theorem m_canBeK {S : XS} {M N : YM} {B E : Int → Int} {w : Int} (hb : ∀ q, in6 q → M 90 q = B q ∧ M 91 q = E q ∧ (0 ≤ B q ∧ B q ≤ 1001) ∧ (-2 ≤ E q ∧ E q ≤ 999)) (hL : RL M M) : rm S 1 147 [yr 75, yi w] M N (fun r M' N' => ∃ v : Int, some (yi v) = r ∧ ((∀ c, c ≠ 92 → M' c = M c) ∧ ((v = 1 ∧ spY B E (M 77) (bit w) (M 75 2) ∧ mAt M' (spO B E (M 77) (bit w) (M 75 2))) ∨ (v = 0 ∧ ¬ spY B E (M 77) (bit w) (M 75 2)))) ∧ N = N') := by
  refine rm_post (m_canBe (n := M 75 2) rfl hL.2.1.1 hL.2.1.2 hL.ok (fun q hq => ?_)) ?_
  · obtain ⟨h1, h2, h3, h4⟩ := hb q hq
    rw [h1, h2]; exact ⟨h3, h4⟩
  rintro _ _ _ ⟨v, rfl, ⟨R, rfl, hv, hR⟩, rfl⟩
  have cB : ∀ q, in6 q → M 90 q = B q := fun q hq => (hb q hq).1
  have cE : ∀ q, in6 q → M 91 q = E q := fun q hq => (hb q hq).2.1
  have e1 := spO_congr (L := M 77) (n := M 75 2) cB cE (fun k _ _ => rfl : ∀ k, 0 ≤ k → k < M 75 2 → bit w k = bit w k)
  have e2 := spY_congr (L := M 77) (n := M 75 2) cB cE (fun k _ _ => rfl : ∀ k, 0 ≤ k → k < M 75 2 → bit w k = bit w k)
  refine ⟨v, rfl, ⟨fun c h1 => yrow_ne h1, ?_⟩, rfl⟩
  rcases hv with ⟨hv, hK⟩ | ⟨hv, hN⟩
  · refine Or.inl ⟨hv, by rw [← e2]; exact spY_of hK, ?_, ?_, ?_⟩
    · intro a b a0 a1 b0 b1
      rw [yrow_at, ← e1, ← spO_eq hK a0 a1 b0 b1]
    · intro q hq
      rw [← e1, ← spO_eq hK hq.1 (by omega) (by omega) (by omega), ← spO_eq hK (by omega) (by omega) hq.1 (by omega)]
      have g := spK_in hK hq
      rw [cB q hq, cE q hq] at g
      have k := hb q hq
      omega
    · rw [yrow_at]; exact hR
  · exact Or.inr ⟨hv, by rw [← e2]; exact spY_no hN⟩
theorem m_canNow {S : XS} {M N : YM} (hS : RS M M) (hL : RL M M) : rm S 3 148 [yr 75] M N (fun r M' N' => ∃ v : Int, some (yi v) = r ∧ mcP M M' v ∧ N = N') := by
  refine ⟨xe_148, m_148, Nat.le_of_ble_eq_true rfl, ?_⟩
  have g1 := hS.2.1
  have g2 := hL.2.1
  refine r_run 2 (pc' := 2) (ls' := [some (yr 75)]) (st' := [yi 0, yr 75]) (M' := M) (N' := N) rfl ?_
  refine r_virtual (mj := 145) (b := 75) (as := [yi 0]) (rest := []) f_148_2 (by decide) rfl m_145 (by decide) (by decide) (by decide) rfl rfl (Nat.le_of_ble_eq_true rfl) (by omega) (m_leaves (w := 0) (by omega) (by omega) hS.msy) ?_
  rintro _ M2 _ ⟨rfl, ⟨B, E, hM2, hB, hE⟩, rfl⟩
  have k34 : M2 90 = B := by rw [← hM2, yrow_ne (by decide), yrow_at]
  have k35 : M2 91 = E := by rw [← hM2, yrow_at]
  have f2 : ∀ c, c ≠ 90 → c ≠ 91 → M2 c = M c := fun c h1 h2 => by rw [← hM2, yrow_ne h2, yrow_ne h1]
  have hL2 : RL M2 M2 := hL.row (fun c hc => f2 c (by omega) (by omega))
  refine r_run 2 (pc' := 7) (ls' := [some (yr 75)]) (st' := [yi 0, yr 75]) (M' := M2) (N' := N) rfl ?_
  refine r_virtual (mj := 147) (b := 75) (as := [yi 0]) (rest := []) f_148_7 (by decide) rfl m_147 (by decide) (by decide) (by decide) rfl rfl (Nat.le_of_ble_eq_true rfl) (by omega) (m_canBeK (B := lB M 0) (E := lE M 0) (w := 0) (fun q hq => ⟨by rw [k34]; exact hB q hq, by rw [k35]; exact hE q hq, by have := lB_in hS 0 q hq; omega, by have := lE_in hS 0 q hq; omega⟩) hL2) ?_
  rintro _ M3 _ ⟨v, rfl, ⟨f3, hv⟩, rfl⟩
  refine r_zret m_148 rfl f_148_10 (by omega) ?_
  rw [f2 77 (by decide) (by decide), f2 75 (by decide) (by decide)] at hv
  have e1 := spO_congr (B := lB M 0) (E := lE M 0) (L := M 77) (n := M 75 2) (fun q _ => rfl) (fun q _ => rfl) (fun k k0 k1 => bit_zero ⟨k0, by omega⟩ : ∀ k, 0 ≤ k → k < M 75 2 → bit 0 k = sk0 k)
  have e2 := spY_congr (B := lB M 0) (E := lE M 0) (L := M 77) (n := M 75 2) (fun q _ => rfl) (fun q _ => rfl) (fun k k0 k1 => bit_zero ⟨k0, by omega⟩ : ∀ k, 0 ≤ k → k < M 75 2 → bit 0 k = sk0 k)
  rw [e1, e2] at hv
  exact ⟨v, rfl, ⟨fun c hc => by rw [f3 c (by omega), f2 c (by omega) (by omega)], fun q hq => ⟨by rw [f3 90 (by decide), k34]; exact hB q hq, by rw [f3 91 (by decide), k35]; exact hE q hq⟩, hv⟩, rfl⟩
