/-! a whole row of the memory; links, tied -/
def yrow (M : YM) (c : Int) (R : Int → Int) : YM := fun c' k => if c' = c then R k else M c' k
theorem yrow_at {M : YM} {c : Int} {R : Int → Int} : yrow M c R c = R := by
  funext k
  unfold yrow
  rw [if_pos rfl]
theorem yrow_ne {M : YM} {c c' : Int} {R : Int → Int} (h : c' ≠ c) : yrow M c R c' = M c' := by
  funext k
  unfold yrow
  rw [if_neg h]
theorem yrow_row {M : YM} {c : Int} {R R' : Int → Int} : yrow (yrow M c R) c R' = yrow M c R' := by
  funext c' k
  unfold yrow
  split <;> rfl
theorem yrow_self {M : YM} {c : Int} : yrow M c (M c) = M := by
  funext c' k
  unfold yrow
  split
  · rename_i h; rw [h]
  · rfl
theorem yu_row {M : YM} {c k v : Int} : yu M c k v = yrow M c (up (M c) k v) := by
  funext c' k'
  unfold yu yrow up
  by_cases h : c' = c
  · subst h
    by_cases g : k' = k
    · rw [if_pos ⟨rfl, g⟩, if_pos rfl, if_pos g]
    · rw [if_neg (fun q => g q.2), if_pos rfl, if_neg g]
  · rw [if_neg (fun q => h q.1), if_neg h]
theorem yrow_comm {M : YM} {c c' : Int} {R R' : Int → Int} (h : c ≠ c') : yrow (yrow M c R) c' R' = yrow (yrow M c' R') c R := by
  funext x k
  unfold yrow
  by_cases g : x = c
  · rw [if_neg (by omega), if_pos g, if_pos g]
  · rw [if_neg g, if_neg g]
theorem up_self {R : Int → Int} {k : Int} : up R k (R k) = R := by
  funext j
  unfold up
  split
  · rename_i h; rw [h]
  · rfl
/-- links of row L, those told by sk left out -/
def lkC (L sk : Int → Int) (n : Int) (X : Int → Int → Int) : Prop := ∀ k, 0 ≤ k → k < n → sk k = 0 → X (L (4 * k)) (L (4 * k + 1)) ≤ L (4 * k + 3) ∧ X (L (4 * k + 1)) (L (4 * k)) ≤ -L (4 * k + 2)
def lkOk (L : Int → Int) (n : Int) : Prop := ∀ k, 0 ≤ k → k < n → (0 ≤ L (4 * k) ∧ L (4 * k) ≤ 5) ∧ (0 ≤ L (4 * k + 1) ∧ L (4 * k + 1) ≤ 5) ∧ (-999 ≤ L (4 * k + 2) ∧ L (4 * k + 2) ≤ 999) ∧ (-999 ≤ L (4 * k + 3) ∧ L (4 * k + 3) ≤ 999)
theorem lkC_congr {L sk sk' : Int → Int} {n : Int} {X : Int → Int → Int} (h : ∀ k, 0 ≤ k → k < n → sk k = sk' k) : lkC L sk n X → lkC L sk' n X := fun g k k0 k1 k2 => g k k0 k1 (by rw [h k k0 k1]; exact k2)
def lk16 (L : Int → Int) (k : Int) (R : Int → Int) : Int → Int := up (up R (6 * L (4 * k) + L (4 * k + 1)) (imin (R (6 * L (4 * k) + L (4 * k + 1))) (L (4 * k + 3)))) (6 * L (4 * k + 1) + L (4 * k)) (imin (up R (6 * L (4 * k) + L (4 * k + 1)) (imin (R (6 * L (4 * k) + L (4 * k + 1))) (L (4 * k + 3))) (6 * L (4 * k + 1) + L (4 * k))) (-L (4 * k + 2)))
def lkF6 (L sk : Int → Int) : Nat → Int → (Int → Int) → Int → Int
  | 0, _, R => R
  | j + 1, k, R => lkF6 L sk j (k + 1) (if sk k = 0 then lk16 L k R else R)
theorem lkF6_yes {L sk : Int → Int} {j : Nat} {k : Int} {R : Int → Int} (h : sk k = 0) : lkF6 L sk (j + 1) k R = lkF6 L sk j (k + 1) (lk16 L k R) := by
  rw [lkF6, if_pos h]
theorem lkF6_no {L sk : Int → Int} {j : Nat} {k : Int} {R : Int → Int} (h : ¬ sk k = 0) : lkF6 L sk (j + 1) k R = lkF6 L sk j (k + 1) R := by
  rw [lkF6, if_neg h]
theorem upmin_le {R : Int → Int} {p v k : Int} : up R p (imin (R p) v) k ≤ R k := by
  unfold up
  split
  · rename_i h; rw [h]; exact imin_le1 _ _
  · exact Int.le_refl _
theorem upmin_v {R : Int → Int} {p v : Int} : up R p (imin (R p) v) p ≤ v := by
  rw [up_at]; exact imin_le2 _ _
theorem upmin_ge {R : Int → Int} {p v k w : Int} (h : w ≤ R k) (g : k = p → w ≤ v) : w ≤ up R p (imin (R p) v) k := by
  unfold up
  split
  · rename_i e; rw [e] at h; exact imin_ge h (g e)
  · exact h
theorem lk16_le {L : Int → Int} {k : Int} {R : Int → Int} {j : Int} : lk16 L k R j ≤ R j := Int.le_trans upmin_le upmin_le
theorem lkF6_le {L sk : Int → Int} {j : Nat} : ∀ {k : Int} {R : Int → Int} {i : Int}, lkF6 L sk j k R i ≤ R i := by
  induction j with
  | zero => intro k R i; exact Int.le_refl _
  | succ j ih =>
    intro k R i
    by_cases h : sk k = 0
    · rw [lkF6_yes h]; exact Int.le_trans ih lk16_le
    · rw [lkF6_no h]; exact ih
theorem lkF6_ge {L sk : Int → Int} {n B : Int} (hL : lkOk L n) (hB : B ≤ -999) {j : Nat} : ∀ {k : Int} {R : Int → Int}, 0 ≤ k → k + j ≤ n → (∀ i, 0 ≤ i → i < 36 → B ≤ R i) → ∀ i, 0 ≤ i → i < 36 → B ≤ lkF6 L sk j k R i := by
  induction j with
  | zero => intro k R _ _ h; exact h
  | succ j ih =>
    intro k R h0 h1 h
    have l := hL k h0 (by omega)
    by_cases g : sk k = 0
    · rw [lkF6_yes g]
      exact ih (by omega) (by omega) fun i i0 i1 => upmin_ge (upmin_ge (h i i0 i1) (fun _ => by omega)) (fun _ => by omega)
    · rw [lkF6_no g]; exact ih (by omega) (by omega) h
theorem lkF6_sound {L sk : Int → Int} {n : Int} {X : Int → Int → Int} (hL : lkOk L n) (hX : lkC L sk n X) {j : Nat} : ∀ {k : Int} {R : Int → Int}, 0 ≤ k → k + j ≤ n → (∀ a b, 0 ≤ a → a < 6 → 0 ≤ b → b < 6 → X a b ≤ R (6 * a + b)) → ∀ a b, 0 ≤ a → a < 6 → 0 ≤ b → b < 6 → X a b ≤ lkF6 L sk j k R (6 * a + b) := by
  induction j with
  | zero => intro k R _ _ h; exact h
  | succ j ih =>
    intro k R h0 h1 h
    have l := hL k h0 (by omega)
    by_cases g : sk k = 0
    · have x := hX k h0 (by omega) g
      rw [lkF6_yes g]
      refine ih (by omega) (by omega) fun a b a0 a1 b0 b1 => upmin_ge (upmin_ge (h a b a0 a1 b0 b1) (fun e => ?_)) (fun e => ?_)
      · have ea : a = L (4 * k) := by omega
        have eb : b = L (4 * k + 1) := by omega
        rw [ea, eb]; exact x.1
      · have ea : a = L (4 * k + 1) := by omega
        have eb : b = L (4 * k) := by omega
        rw [ea, eb]; exact x.2
    · rw [lkF6_no g]; exact ih (by omega) (by omega) h
theorem lkF6_has {L sk : Int → Int} {j : Nat} : ∀ {k : Int} {R : Int → Int}, ∀ i, k ≤ i → i < k + j → sk i = 0 → lkF6 L sk j k R (6 * L (4 * i) + L (4 * i + 1)) ≤ L (4 * i + 3) ∧ lkF6 L sk j k R (6 * L (4 * i + 1) + L (4 * i)) ≤ -L (4 * i + 2) := by
  induction j with
  | zero => intro k R i i0 i1; omega
  | succ j ih =>
    intro k R i i0 i1 hi
    by_cases hc : i = k
    · subst hc
      rw [lkF6_yes hi]
      exact ⟨Int.le_trans lkF6_le (Int.le_trans upmin_le upmin_v), Int.le_trans lkF6_le upmin_v⟩
    · by_cases g : sk k = 0
      · rw [lkF6_yes g]; exact ih i (by omega) (by omega) hi
      · rw [lkF6_no g]; exact ih i (by omega) (by omega) hi
def lk17 (L : Int → Int) (k : Int) (R : Int → Int) : Int → Int := up (up R (7 * L (4 * k) + L (4 * k + 1)) (imin (R (7 * L (4 * k) + L (4 * k + 1))) (L (4 * k + 3)))) (7 * L (4 * k + 1) + L (4 * k)) (imin (up R (7 * L (4 * k) + L (4 * k + 1)) (imin (R (7 * L (4 * k) + L (4 * k + 1))) (L (4 * k + 3))) (7 * L (4 * k + 1) + L (4 * k))) (-L (4 * k + 2)))
def lkF7 (L sk : Int → Int) : Nat → Int → (Int → Int) → Int → Int
  | 0, _, R => R
  | j + 1, k, R => lkF7 L sk j (k + 1) (if sk k = 0 then lk17 L k R else R)
theorem lkF7_yes {L sk : Int → Int} {j : Nat} {k : Int} {R : Int → Int} (h : sk k = 0) : lkF7 L sk (j + 1) k R = lkF7 L sk j (k + 1) (lk17 L k R) := by
  rw [lkF7, if_pos h]
theorem lkF7_no {L sk : Int → Int} {j : Nat} {k : Int} {R : Int → Int} (h : ¬ sk k = 0) : lkF7 L sk (j + 1) k R = lkF7 L sk j (k + 1) R := by
  rw [lkF7, if_neg h]
theorem lk17_le {L : Int → Int} {k : Int} {R : Int → Int} {j : Int} : lk17 L k R j ≤ R j := Int.le_trans upmin_le upmin_le
theorem lkF7_le {L sk : Int → Int} {j : Nat} : ∀ {k : Int} {R : Int → Int} {i : Int}, lkF7 L sk j k R i ≤ R i := by
  induction j with
  | zero => intro k R i; exact Int.le_refl _
  | succ j ih =>
    intro k R i
    by_cases h : sk k = 0
    · rw [lkF7_yes h]; exact Int.le_trans ih lk17_le
    · rw [lkF7_no h]; exact ih
theorem lkF7_ge {L sk : Int → Int} {n B : Int} (hL : lkOk L n) (hB : B ≤ -999) {j : Nat} : ∀ {k : Int} {R : Int → Int}, 0 ≤ k → k + j ≤ n → (∀ i, 0 ≤ i → i < 49 → B ≤ R i) → ∀ i, 0 ≤ i → i < 49 → B ≤ lkF7 L sk j k R i := by
  induction j with
  | zero => intro k R _ _ h; exact h
  | succ j ih =>
    intro k R h0 h1 h
    have l := hL k h0 (by omega)
    by_cases g : sk k = 0
    · rw [lkF7_yes g]
      exact ih (by omega) (by omega) fun i i0 i1 => upmin_ge (upmin_ge (h i i0 i1) (fun _ => by omega)) (fun _ => by omega)
    · rw [lkF7_no g]; exact ih (by omega) (by omega) h
theorem lkF7_sound {L sk : Int → Int} {n : Int} {X : Int → Int → Int} (hL : lkOk L n) (hX : lkC L sk n X) {j : Nat} : ∀ {k : Int} {R : Int → Int}, 0 ≤ k → k + j ≤ n → (∀ a b, 0 ≤ a → a < 7 → 0 ≤ b → b < 7 → X a b ≤ R (7 * a + b)) → ∀ a b, 0 ≤ a → a < 7 → 0 ≤ b → b < 7 → X a b ≤ lkF7 L sk j k R (7 * a + b) := by
  induction j with
  | zero => intro k R _ _ h; exact h
  | succ j ih =>
    intro k R h0 h1 h
    have l := hL k h0 (by omega)
    by_cases g : sk k = 0
    · have x := hX k h0 (by omega) g
      rw [lkF7_yes g]
      refine ih (by omega) (by omega) fun a b a0 a1 b0 b1 => upmin_ge (upmin_ge (h a b a0 a1 b0 b1) (fun e => ?_)) (fun e => ?_)
      · have ea : a = L (4 * k) := by omega
        have eb : b = L (4 * k + 1) := by omega
        rw [ea, eb]; exact x.1
      · have ea : a = L (4 * k + 1) := by omega
        have eb : b = L (4 * k) := by omega
        rw [ea, eb]; exact x.2
    · rw [lkF7_no g]; exact ih (by omega) (by omega) h
theorem lkF7_has {L sk : Int → Int} {j : Nat} : ∀ {k : Int} {R : Int → Int}, ∀ i, k ≤ i → i < k + j → sk i = 0 → lkF7 L sk j k R (7 * L (4 * i) + L (4 * i + 1)) ≤ L (4 * i + 3) ∧ lkF7 L sk j k R (7 * L (4 * i + 1) + L (4 * i)) ≤ -L (4 * i + 2) := by
  induction j with
  | zero => intro k R i i0 i1; omega
  | succ j ih =>
    intro k R i i0 i1 hi
    by_cases hc : i = k
    · subst hc
      rw [lkF7_yes hi]
      exact ⟨Int.le_trans lkF7_le (Int.le_trans upmin_le upmin_v), Int.le_trans lkF7_le upmin_v⟩
    · by_cases g : sk k = 0
      · rw [lkF7_yes g]; exact ih i (by omega) (by omega) hi
      · rw [lkF7_no g]; exact ih i (by omega) (by omega) hi
theorem c_shorten {S : XS} {M N : YM} {p v : Int} (hp : 0 ≤ p ∧ p < 36) (hr : -2147483648 ≤ M 38 p ∧ M 38 p < 2147483648) (hv : -2147483648 ≤ v ∧ v < 2147483648) : rm S 1 37 [yr 33, yi p, yi v] M N (fun r M' N' => none = r ∧ yrow M 38 (up (M 38) p (imin (M 38 p) v)) = M' ∧ N = N') := by
  refine ⟨xe_37, m_37, Nat.le_of_ble_eq_true rfl, ?_⟩
  refine r_run 6 (pc' := 10) (ls' := [some (yr 33), some (yi p), some (yi v)]) (st' := [yi p, yr 38, yi p, yr 38]) (M' := M) (N' := N) rfl ?_
  refine r_iald (n := 36) f_37_10 (by decide) (by decide) (by decide) (by omega) ?_
  refine r_run 1 (pc' := 12) (ls' := [some (yr 33), some (yi p), some (yi v)]) (st' := [yi v, yi (M 38 p), yi p, yr 38]) (M' := M) (N' := N) rfl ?_
  refine r_min f_37_12 (by omega) (by omega) (Nat.le_of_ble_eq_true rfl) (by omega) (fun v12 hv12 => ?_)
  refine r_iast (n := 36) f_37_15 (by decide) (by decide) (by decide) (by omega) ?_
  refine r_vret m_37 rfl f_37_16 ?_
  exact ⟨rfl, by rw [yu_row, imin_eq hv12], rfl⟩
theorem c_sab_in {S : XS} {d : Nat} {y L a : Int} {N : YM} {Q : Option YV → YM → YM → Prop} (hd : 3 ≤ d) (hy : 0 ≤ y ∧ y < 6) (hL : 0 ≤ L ∧ L ≤ 50000000) (ha : 0 ≤ a ∧ a < 6) {j : Nat} : ∀ {b : Int} {M : YM}, 0 ≤ b → b + j = 6 → gb6 y L (6 * a + b) (M 38) → ry S d 36 55 [some (yr 33), some (yi y), some (yi a), some (yi 6)] [] (yrow M 38 (fwR6 y j (6 * a + b) (M 38))) N Q → ry S d 36 10 [some (yr 33), some (yi y), some (yi a), some (yi b)] [] M N Q := by
  induction j with
  | zero =>
    intro b M h0 h1 hg kk
    have k2 : ry S d 36 55 [some (yr 33), some (yi y), some (yi a), some (yi 6)] [] M N Q := by
      have e : yrow M 38 (fwR6 y 0 (6 * a + b) (M 38)) = M := yrow_self
      rw [e] at kk
      exact kk
    refine r_run 2 (pc' := 13) (ls' := [some (yr 33), some (yi y), some (yi a), some (yi b)]) (st' := [yi 6, yi b]) (M' := M) (N' := N) rfl ?_
    refine r_icmp_ge (pc := 13) f_36_13 (by omega) (by omega) (fun h13 => ?_) (fun h13 => ?_)
    · have hb : b = 6 := by omega
      subst hb
      exact k2
    · exfalso; omega
  | succ j ih =>
    intro b M h0 h1 hg kk
    obtain ⟨g1, g2, g3, g4⟩ := id hg
    have s0 := g4 (6 * a + b) (by omega) (by omega)
    have s1 := g4 (6 * a + y) (by omega) (by omega)
    have s2 := g4 (6 * y + b) (by omega) (by omega)
    refine r_run 2 (pc' := 13) (ls' := [some (yr 33), some (yi y), some (yi a), some (yi b)]) (st' := [yi 6, yi b]) (M' := M) (N' := N) rfl ?_
    refine r_icmp_ge (pc := 13) f_36_13 (by omega) (by omega) (fun h13 => ?_) (fun h13 => ?_)
    · exfalso; omega
    · refine r_run 13 (pc' := 33) (ls' := [some (yr 33), some (yi y), some (yi a), some (yi b)]) (st' := [yi ((a * 6) + y), yr 38, yi ((a * 6) + b), yr 33]) (M' := M) (N' := N) rfl ?_
      refine r_iald (n := 36) f_36_33 (by decide) (by decide) (by decide) (by omega) ?_
      refine r_run 7 (pc' := 44) (ls' := [some (yr 33), some (yi y), some (yi a), some (yi b)]) (st' := [yi ((y * 6) + b), yr 38, yi (M 38 ((a * 6) + y)), yi ((a * 6) + b), yr 33]) (M' := M) (N' := N) rfl ?_
      refine r_iald (n := 36) f_36_44 (by decide) (by decide) (by decide) (by omega) ?_
      refine r_run 1 (pc' := 46) (ls' := [some (yr 33), some (yi y), some (yi a), some (yi b)]) (st' := [yi ((M 38 ((a * 6) + y)) + (M 38 ((y * 6) + b))), yi ((a * 6) + b), yr 33]) (M' := M) (N' := N) rfl ?_
      refine r_virtual (mj := 37) (b := 33) (as := [yi ((a * 6) + b), yi ((M 38 ((a * 6) + y)) + (M 38 ((y * 6) + b)))]) (rest := []) f_36_46 (by decide) rfl m_37 (by decide) (by decide) (by decide) rfl rfl (Nat.le_of_ble_eq_true rfl) (by omega) (c_shorten (by omega) (by rw [show a * 6 + b = 6 * a + b by omega]; omega) (by rw [show a * 6 + y = 6 * a + y by omega, show y * 6 + b = 6 * y + b by omega]; omega)) ?_
      rintro _ M2 _ ⟨rfl, hM2, rfl⟩
      refine r_run 2 (pc' := 10) (ls' := [some (yr 33), some (yi y), some (yi a), some (yi (b + 1))]) (st' := []) (M' := M2) (N' := N) rfl ?_
      have e : M2 = yrow M 38 (up (M 38) (6 * a + b) (fwv6 y (M 38) (6 * a + b))) := by
        rw [← hM2]
        unfold fwv6
        rw [show (6 * a + b) / 6 = a by omega, show (6 * a + b) % 6 = b by omega, show a * 6 + b = 6 * a + b by omega, show a * 6 + y = 6 * a + y by omega, show y * 6 + b = 6 * y + b by omega]
      rw [e]
      refine ih (by omega) (by omega) ?_ ?_
      · rw [yrow_at, show 6 * a + (b + 1) = 6 * a + b + 1 by omega]
        exact gb6_step hy hL.1 (by omega) hg
      · rw [yrow_at, yrow_row, show 6 * a + (b + 1) = 6 * a + b + 1 by omega]
        exact kk
theorem gb6_run {y L : Int} {j : Nat} (hy : 0 ≤ y ∧ y < 6) (hL : 0 ≤ L) : ∀ {p : Int} {R : Int → Int}, 0 ≤ p → p + j ≤ 36 → gb6 y L p R → gb6 y L (p + j) (fwR6 y j p R) := by
  induction j with
  | zero => intro p R _ _ h; rw [show p + ((0 : Nat) : Int) = p by omega]; exact h
  | succ j ih =>
    intro p R h0 h1 h
    have := ih (by omega) (by omega) (gb6_step hy hL ⟨h0, by omega⟩ h)
    rw [show p + 1 + (j : Int) = p + ((j + 1 : Nat) : Int) by omega] at this
    exact this
theorem c_sab_out {S : XS} {d : Nat} {y L : Int} {N : YM} (hd : 3 ≤ d) (hy : 0 ≤ y ∧ y < 6) (hL : 0 ≤ L ∧ L ≤ 50000000) {j : Nat} : ∀ {a : Int} {M : YM} {l3 : Option YV}, 0 ≤ a → a + j = 6 → gb6 y L (6 * a) (M 38) → ry S d 36 2 [some (yr 33), some (yi y), some (yi a), l3] [] M N (fun r M' N' => none = r ∧ yrow M 38 (fwR6 y (6 * j) (6 * a) (M 38)) = M' ∧ N = N') := by
  induction j with
  | zero =>
    intro a M l3 h0 h1 hg
    refine r_run 2 (pc' := 5) (ls' := [some (yr 33), some (yi y), some (yi a), l3]) (st' := [yi 6, yi a]) (M' := M) (N' := N) rfl ?_
    refine r_icmp_ge (pc := 5) f_36_5 (by omega) (by omega) (fun h5 => ?_) (fun h5 => ?_)
    · refine r_vret m_36 rfl f_36_61 ?_
      exact ⟨rfl, yrow_self, rfl⟩
    · refine r_run 2 (pc' := 10) (ls' := [some (yr 33), some (yi y), some (yi a), some (yi 0)]) (st' := []) (M' := M) (N' := N) rfl ?_
      exfalso; omega
  | succ j ih =>
    intro a M l3 h0 h1 hg
    refine r_run 2 (pc' := 5) (ls' := [some (yr 33), some (yi y), some (yi a), l3]) (st' := [yi 6, yi a]) (M' := M) (N' := N) rfl ?_
    refine r_icmp_ge (pc := 5) f_36_5 (by omega) (by omega) (fun h5 => ?_) (fun h5 => ?_)
    · exfalso; omega
    · refine r_run 2 (pc' := 10) (ls' := [some (yr 33), some (yi y), some (yi a), some (yi 0)]) (st' := []) (M' := M) (N' := N) rfl ?_
      refine c_sab_in (j := 6) hd hy hL (by omega) (by omega) (by omega) (by rw [Int.add_zero]; exact hg) ?_
      refine r_run 2 (pc' := 2) (ls' := [some (yr 33), some (yi y), some (yi (a + 1)), some (yi 6)]) (st' := []) (M' := yrow M 38 (fwR6 y 6 (6 * a + 0) (M 38))) (N' := N) rfl ?_
      have hg2 := gb6_run (j := 6) hy hL.1 (show 0 ≤ 6 * a by omega) (by omega) hg
      refine r_post (ih (l3 := some (yi 6)) (by omega) (by omega) (by rw [yrow_at, Int.add_zero, show 6 * (a + 1) = 6 * a + ((6 : Nat) : Int) by omega]; exact hg2)) ?_
      rintro _ _ _ ⟨rfl, rfl, rfl⟩
      refine ⟨rfl, ?_, rfl⟩
      rw [yrow_at, yrow_row, Int.add_zero, show 6 * (j + 1) = 6 + 6 * j by omega, fwR6_app, show 6 * (a + 1) = 6 * a + ((6 : Nat) : Int) by omega]
theorem c_sab {S : XS} {M N : YM} {y L : Int} (hy : 0 ≤ y ∧ y < 6) (hL : 0 ≤ L ∧ L ≤ 50000000) (hr : ∀ j, 0 ≤ j → j < 36 → -L ≤ M 38 j ∧ M 38 j ≤ 9999) : rm S 3 36 [yr 33, yi y] M N (fun r M' N' => none = r ∧ yrow M 38 (fwR6 y 36 0 (M 38)) = M' ∧ N = N') := by
  refine ⟨xe_36, m_36, Nat.le_of_ble_eq_true rfl, ?_⟩
  refine r_run 2 (pc' := 2) (ls' := [some (yr 33), some (yi y), some (yi 0), none]) (st' := []) (M' := M) (N' := N) rfl ?_
  exact c_sab_out (j := 6) (Nat.le_refl _) hy hL (Int.le_refl 0) rfl (gb6_start hy hL.1 hr)
