/-! reckonings: the least, the most of 64 ways -/
def corner (O : Int → Int → Int) (w q : Int) : Int := if bit w q = 0 then -O q 6 else O 6 q
def rmn (f : Int → Int) : Nat → Int → Int → Int
  | 0, _, a => a
  | j + 1, w, a => rmn f j (w + 1) (imin a (f w))
def rmx (f : Int → Int) : Nat → Int → Int → Int
  | 0, _, a => a
  | j + 1, w, a => rmx f j (w + 1) (imax a (f w))
theorem rmn_le {f : Int → Int} {j : Nat} : ∀ {w a : Int}, rmn f j w a ≤ a ∧ ∀ i, w ≤ i → i < w + j → rmn f j w a ≤ f i := by
  induction j with
  | zero => intro w a; exact ⟨Int.le_refl _, fun i i0 i1 => by omega⟩
  | succ j ih =>
    intro w a
    have h := @ih (w + 1) (imin a (f w))
    refine ⟨Int.le_trans h.1 (imin_le1 _ _), fun i i0 i1 => ?_⟩
    by_cases e : i = w
    · rw [e]; exact Int.le_trans h.1 (imin_le2 _ _)
    · exact h.2 i (by omega) (by omega)
theorem rmn_is {f : Int → Int} {j : Nat} : ∀ {w a : Int}, rmn f j w a = a ∨ ∃ i, w ≤ i ∧ i < w + j ∧ rmn f j w a = f i := by
  induction j with
  | zero => intro w a; exact Or.inl rfl
  | succ j ih =>
    intro w a
    rcases @ih (w + 1) (imin a (f w)) with h | ⟨i, i0, i1, h⟩
    · have h' : rmn f (j + 1) w a = imin a (f w) := h
      rw [h']
      unfold imin
      split
      · exact Or.inr ⟨w, Int.le_refl _, by omega, rfl⟩
      · exact Or.inl rfl
    · exact Or.inr ⟨i, by omega, by omega, h⟩
theorem rmx_ge {f : Int → Int} {j : Nat} : ∀ {w a : Int}, a ≤ rmx f j w a ∧ ∀ i, w ≤ i → i < w + j → f i ≤ rmx f j w a := by
  induction j with
  | zero => intro w a; exact ⟨Int.le_refl _, fun i i0 i1 => by omega⟩
  | succ j ih =>
    intro w a
    have h := @ih (w + 1) (imax a (f w))
    refine ⟨Int.le_trans (imax_ge1 _ _) h.1, fun i i0 i1 => ?_⟩
    by_cases e : i = w
    · rw [e]; exact Int.le_trans (imax_ge2 _ _) h.1
    · exact h.2 i (by omega) (by omega)
theorem rmx_is {f : Int → Int} {j : Nat} : ∀ {w a : Int}, rmx f j w a = a ∨ ∃ i, w ≤ i ∧ i < w + j ∧ rmx f j w a = f i := by
  induction j with
  | zero => intro w a; exact Or.inl rfl
  | succ j ih =>
    intro w a
    rcases @ih (w + 1) (imax a (f w)) with h | ⟨i, i0, i1, h⟩
    · have h' : rmx f (j + 1) w a = imax a (f w) := h
      rw [h']
      unfold imax
      split
      · exact Or.inr ⟨w, Int.le_refl _, by omega, rfl⟩
      · exact Or.inl rfl
    · exact Or.inr ⟨i, by omega, by omega, h⟩
/-- the class's: ways with what isn't named left out -/
def cmn (f g : Int → Int) : Nat → Int → Int → Int
  | 0, _, a => a
  | j + 1, w, a => cmn f g j (w + 1) (if g w = 0 then imin a (f w) else a)
def cmx (f g : Int → Int) : Nat → Int → Int → Int
  | 0, _, a => a
  | j + 1, w, a => cmx f g j (w + 1) (if g w = 0 then imax a (f w) else a)
theorem cmn_le {f g : Int → Int} {j : Nat} : ∀ {w a : Int}, cmn f g j w a ≤ a ∧ ∀ i, w ≤ i → i < w + j → g i = 0 → cmn f g j w a ≤ f i := by
  induction j with
  | zero => intro w a; exact ⟨Int.le_refl _, fun i i0 i1 => by omega⟩
  | succ j ih =>
    intro w a
    have h := @ih (w + 1) (if g w = 0 then imin a (f w) else a)
    have h0 : (if g w = 0 then imin a (f w) else a) ≤ a := by
      split
      · exact imin_le1 _ _
      · exact Int.le_refl _
    refine ⟨Int.le_trans h.1 h0, fun i i0 i1 i2 => ?_⟩
    by_cases e : i = w
    · rw [e] at i2 ⊢
      refine Int.le_trans h.1 ?_
      rw [if_pos i2]; exact imin_le2 _ _
    · exact h.2 i (by omega) (by omega) i2
theorem cmn_is {f g : Int → Int} {j : Nat} : ∀ {w a : Int}, cmn f g j w a = a ∨ ∃ i, w ≤ i ∧ i < w + j ∧ cmn f g j w a = f i := by
  induction j with
  | zero => intro w a; exact Or.inl rfl
  | succ j ih =>
    intro w a
    rcases @ih (w + 1) (if g w = 0 then imin a (f w) else a) with h | ⟨i, i0, i1, h⟩
    · have h' : cmn f g (j + 1) w a = if g w = 0 then imin a (f w) else a := h
      rw [h']
      split
      · unfold imin
        split
        · exact Or.inr ⟨w, Int.le_refl _, by omega, rfl⟩
        · exact Or.inl rfl
      · exact Or.inl rfl
    · exact Or.inr ⟨i, by omega, by omega, h⟩
theorem cmx_ge {f g : Int → Int} {j : Nat} : ∀ {w a : Int}, a ≤ cmx f g j w a ∧ ∀ i, w ≤ i → i < w + j → g i = 0 → f i ≤ cmx f g j w a := by
  induction j with
  | zero => intro w a; exact ⟨Int.le_refl _, fun i i0 i1 => by omega⟩
  | succ j ih =>
    intro w a
    have h := @ih (w + 1) (if g w = 0 then imax a (f w) else a)
    have h0 : a ≤ (if g w = 0 then imax a (f w) else a) := by
      split
      · exact imax_ge1 _ _
      · exact Int.le_refl _
    refine ⟨Int.le_trans h0 h.1, fun i i0 i1 i2 => ?_⟩
    by_cases e : i = w
    · rw [e] at i2 ⊢
      refine Int.le_trans ?_ h.1
      rw [if_pos i2]; exact imax_ge2 _ _
    · exact h.2 i (by omega) (by omega) i2
theorem cmx_is {f g : Int → Int} {j : Nat} : ∀ {w a : Int}, cmx f g j w a = a ∨ ∃ i, w ≤ i ∧ i < w + j ∧ cmx f g j w a = f i := by
  induction j with
  | zero => intro w a; exact Or.inl rfl
  | succ j ih =>
    intro w a
    rcases @ih (w + 1) (if g w = 0 then imax a (f w) else a) with h | ⟨i, i0, i1, h⟩
    · have h' : cmx f g (j + 1) w a = if g w = 0 then imax a (f w) else a := h
      rw [h']
      split
      · unfold imax
        split
        · exact Or.inr ⟨w, Int.le_refl _, by omega, rfl⟩
        · exact Or.inl rfl
      · exact Or.inl rfl
    · exact Or.inr ⟨i, by omega, by omega, h⟩
theorem cmn_eq {f g : Int → Int} (hw : ∀ w, 0 ≤ w → w < 64 → ∃ v, 0 ≤ v ∧ v < 64 ∧ g v = 0 ∧ f v = f w) : cmn f g 63 1 (f 0) = rmn f 63 1 (f 0) ∧ cmx f g 63 1 (f 0) = rmx f 63 1 (f 0) := by
  have a1 := @cmn_le f g 63 1 (f 0)
  have a2 := @rmn_le f 63 1 (f 0)
  have b1 := @cmx_ge f g 63 1 (f 0)
  have b2 := @rmx_ge f 63 1 (f 0)
  have r2 : ∀ i, 0 ≤ i → i < 64 → rmn f 63 1 (f 0) ≤ f i := fun i i0 i1 => by
    by_cases e : i = 0
    · rw [e]; exact a2.1
    · exact a2.2 i (by omega) (by omega)
  have s2 : ∀ i, 0 ≤ i → i < 64 → f i ≤ rmx f 63 1 (f 0) := fun i i0 i1 => by
    by_cases e : i = 0
    · rw [e]; exact b2.1
    · exact b2.2 i (by omega) (by omega)
  have r1 : ∀ i, 0 ≤ i → i < 64 → cmn f g 63 1 (f 0) ≤ f i := fun i i0 i1 => by
    obtain ⟨v, v0, v1, v2, v3⟩ := hw i i0 i1
    rw [← v3]
    by_cases e : v = 0
    · rw [e]; exact a1.1
    · exact a1.2 v (by omega) (by omega) v2
  have s1 : ∀ i, 0 ≤ i → i < 64 → f i ≤ cmx f g 63 1 (f 0) := fun i i0 i1 => by
    obtain ⟨v, v0, v1, v2, v3⟩ := hw i i0 i1
    rw [← v3]
    by_cases e : v = 0
    · rw [e]; exact b1.1
    · exact b1.2 v (by omega) (by omega) v2
  constructor
  · refine Int.le_antisymm ?_ ?_
    · rcases @rmn_is f 63 1 (f 0) with e | ⟨i, i0, i1, e⟩
      · rw [e]; exact r1 0 (by omega) (by omega)
      · rw [e]; exact r1 i (by omega) (by omega)
    · rcases @cmn_is f g 63 1 (f 0) with e | ⟨i, i0, i1, e⟩
      · rw [e]; exact r2 0 (by omega) (by omega)
      · rw [e]; exact r2 i (by omega) (by omega)
  · refine Int.le_antisymm ?_ ?_
    · rcases @cmx_is f g 63 1 (f 0) with e | ⟨i, i0, i1, e⟩
      · rw [e]; exact s2 0 (by omega) (by omega)
      · rw [e]; exact s2 i (by omega) (by omega)
    · rcases @rmx_is f 63 1 (f 0) with e | ⟨i, i0, i1, e⟩
      · rw [e]; exact s1 0 (by omega) (by omega)
      · rw [e]; exact s1 i (by omega) (by omega)
def gN (nm w : Int) : Int := (Int32.ofInt w &&& Int32.ofInt (Int32.ofInt nm ^^^ Int32.ofInt (-1)).toInt).toInt
set_option maxRecDepth 1000000 in
theorem gN_fin : ∀ nm : Fin 64, ∀ w : Fin 64, gN (nm.val : Int) 0 = 0 ∧ 0 ≤ band (w.val : Int) (nm.val : Int) ∧ band (w.val : Int) (nm.val : Int) < 64 ∧ gN (nm.val : Int) (band (w.val : Int) (nm.val : Int)) = 0 := by decide +kernel
set_option maxRecDepth 1000000 in
theorem bit_fin : ∀ q : Fin 6, ∀ nm : Fin 64, ∀ w : Fin 64, (nm.val : Int) / 2 ^ q.val % 2 = 1 → bit (band (w.val : Int) (nm.val : Int)) (q.val : Int) = bit (w.val : Int) (q.val : Int) := by decide +kernel
theorem gN_all {nm : Int} (h : 0 ≤ nm ∧ nm < 64) : gN nm 0 = 0 ∧ ∀ w, 0 ≤ w → w < 64 → (0 ≤ band w nm ∧ band w nm < 64 ∧ gN nm (band w nm) = 0) ∧ ∀ q, in6 q → nm / 2 ^ q.toNat % 2 = 1 → bit (band w nm) q = bit w q := by
  have e : ((nm.toNat : Nat) : Int) = nm := by omega
  refine ⟨?_, fun w w0 w1 => ?_⟩
  · have := (gN_fin ⟨nm.toNat, by omega⟩ ⟨0, by omega⟩).1
    rw [show (((⟨nm.toNat, by omega⟩ : Fin 64).val : Nat) : Int) = nm from e] at this
    exact this
  · have ew : ((w.toNat : Nat) : Int) = w := by omega
    have g := (gN_fin ⟨nm.toNat, by omega⟩ ⟨w.toNat, by omega⟩).2
    rw [show (((⟨nm.toNat, by omega⟩ : Fin 64).val : Nat) : Int) = nm from e, show (((⟨w.toNat, by omega⟩ : Fin 64).val : Nat) : Int) = w from ew] at g
    refine ⟨g, fun q hq hn => ?_⟩
    have eq' : ((q.toNat : Nat) : Int) = q := by omega
    have k := bit_fin ⟨q.toNat, by omega⟩ ⟨nm.toNat, by omega⟩ ⟨w.toNat, by omega⟩
    rw [show (((⟨nm.toNat, by omega⟩ : Fin 64).val : Nat) : Int) = nm from e, show (((⟨w.toNat, by omega⟩ : Fin 64).val : Nat) : Int) = w from ew, show (((⟨q.toNat, by omega⟩ : Fin 6).val : Nat) : Int) = q from eq'] at k
    exact k hn
/-- numbers of spans -/
def oIn (O : Int → Int → Int) : Prop := ∀ q, in6 q → 0 ≤ -O q 6 ∧ -O q 6 ≤ O 6 q ∧ O 6 q ≤ 999
theorem corner_in {O : Int → Int → Int} (h : oIn O) (w : Int) : ∀ q, in6 q → in9 (corner O w q) := fun q hq => by
  have := h q hq
  unfold corner
  split <;> omega
def rF (M : YM) (t : Int) (O : Int → Int → Int) (w : Int) : Int := txT M t 0 (corner O w)
def rLo (M : YM) (t : Int) (O : Int → Int → Int) : Int := rmn (rF M t O) 63 1 (rF M t O 0)
def rHi (M : YM) (t : Int) (O : Int → Int → Int) : Int := rmx (rF M t O) 63 1 (rF M t O 0)
theorem rF_in {M : YM} (h : RT M M) {t : Int} (ht : 0 ≤ t ∧ t < M 75 9) {O : Int → Int → Int} (hO : oIn O) (w : Int) : -2147483648 ≤ rF M t O w ∧ rF M t O w < 2147483648 := txT_in h ht (by omega) (fun q hq => by have := corner_in hO w q hq; omega)
theorem eqx.eR {M M' : YM} (h : eqx M M') : rF M' = rF M := by
  funext t O w
  unfold rF
  rw [h.eT]
theorem rF_named {M : YM} (h : RT M M) {t : Int} (ht : 0 ≤ t ∧ t < M 75 9) {O : Int → Int → Int} {w : Int} (hw : 0 ≤ w ∧ w < 64) : rF M t O (band w (M (49 + 3 * t) 3)) = rF M t O w := by
  have q := h.parts ht (show 0 ≤ (0 : Int) ∧ (0 : Int) < 3 by omega)
  obtain ⟨q0, q1, g, hn, hm⟩ := h.2.2.2.2 t ht.1 ht.2
  have g' : ∀ k, 0 ≤ k → k < M 80 (4 * t + 3) → tVal (M 79 (200 * t + k)) := fun k k0 k1 => (g k k0 k1).2
  have m' : ∀ k, 0 ≤ k → k < M 80 (4 * t + 1) → M 79 (200 * t + k) ≤ 5 → M (49 + 3 * t) 3 / 2 ^ (M 79 (200 * t + k)).toNat % 2 = 1 := hm
  refine evR_congr (fun _ _ _ => rfl) (fun i i0 i1 i2 => ?_) (Int.le_refl 0) q.1 (fun i i0 i1 => by omega)
  rw [show 4 * t + ((0 : Int) + 1) = 4 * t + 1 by omega] at q i1
  have v := g' i (by omega) (by omega)
  have m := m' i (by omega) (by omega) (by omega)
  unfold corner
  rw [((gN_all hn).2 w hw.1 hw.2).2 _ ⟨by omega, by omega⟩ m]
theorem rLo_eq {M : YM} (h : RT M M) {t : Int} (ht : 0 ≤ t ∧ t < M 75 9) {O : Int → Int → Int} : cmn (rF M t O) (gN (M (49 + 3 * t) 3)) 63 1 (rF M t O 0) = rLo M t O ∧ cmx (rF M t O) (gN (M (49 + 3 * t) 3)) 63 1 (rF M t O 0) = rHi M t O := by
  have hn := (h.2.2.2.2 t ht.1 ht.2).2.2.2.1
  have g := gN_all hn
  exact cmn_eq (fun w w0 w1 => ⟨_, ((g.2 w w0 w1).1).1, ((g.2 w w0 w1).1).2.1, ((g.2 w w0 w1).1).2.2, rF_named h ht ⟨w0, w1⟩⟩)
theorem rLo_in {M : YM} (h : RT M M) {t : Int} (ht : 0 ≤ t ∧ t < M 75 9) {O : Int → Int → Int} (hO : oIn O) : -2147483648 ≤ rLo M t O ∧ rLo M t O ≤ rHi M t O ∧ rHi M t O < 2147483648 := by
  have a := rF_in h ht hO
  have b := @rmn_le (rF M t O) 63 1 (rF M t O 0)
  have c := @rmx_ge (rF M t O) 63 1 (rF M t O 0)
  refine ⟨?_, Int.le_trans b.1 c.1, ?_⟩
  · unfold rLo
    rcases @rmn_is (rF M t O) 63 1 (rF M t O 0) with e | ⟨i, -, -, e⟩ <;> rw [e] <;> exact (a _).1
  · unfold rHi
    rcases @rmx_is (rF M t O) 63 1 (rF M t O 0) with e | ⟨i, -, -, e⟩ <;> rw [e] <;> exact (a _).2
theorem eqx.eL {M M' : YM} (h : eqx M M') : rLo M' = rLo M ∧ rHi M' = rHi M := by
  constructor <;> funext t O
  · unfold rLo; rw [h.eR]
  · unfold rHi; rw [h.eR]
theorem cAt.o {M : YM} {O : Int → Int → Int} (h : cAt M O) : oIn O := fun q hq => (h.1 q hq).2.2
theorem mAt.o {M : YM} {O : Int → Int → Int} (h : mAt M O) : oIn O := h.2.1
theorem cAt.fr {M M' : YM} {O : Int → Int → Int} (h : cAt M O) (g : ∀ c, c = 36 ∨ c = 37 ∨ c = 38 → M' c = M c) : cAt M' O := by
  unfold cAt
  rw [g 36 (by omega), g 37 (by omega), g 38 (by omega)]
  exact h
theorem mAt.fr {M M' : YM} {O : Int → Int → Int} (h : mAt M O) (g : M' 92 = M 92) : mAt M' O := by
  unfold mAt
  rw [g]
  exact h
theorem c_corner_l {S : XS} {d : Nat} {w : Int} {O : Int → Int → Int} {N : YM} {j : Nat} : ∀ {q : Int} {M : YM}, 0 ≤ q → q + j = 6 → cAt M O → ry S d 100 2 [some (yr 0), some (yi w), some (yi q)] [] M N (fun r M' N' => none = r ∧ ((∀ c, c ≠ 39 → M' c = M c) ∧ (∀ i, 0 ≤ i → i < q → M' 39 i = M 39 i) ∧ ∀ i, q ≤ i → i < 6 → M' 39 i = corner O w i) ∧ N = N') := by
  induction j with
  | zero =>
    intro q M h0 h1 hA
    refine r_run 2 (pc' := 5) (ls' := [some (yr 0), some (yi w), some (yi q)]) (st' := [yi 6, yi q]) (M' := M) (N' := N) rfl ?_
    refine r_icmp_ge (pc := 5) f_100_5 (by omega) (by omega) (fun h5 => ?_) (fun h5 => ?_)
    · refine r_vret m_100 rfl f_100_49 ?_
      exact ⟨rfl, ⟨fun c hc => rfl, fun i i0 i1 => rfl, fun i i0 i1 => by omega⟩, rfl⟩
    · exfalso; omega
  | succ j ih =>
    intro q M h0 h1 hA
    have ha := hA.1 q ⟨h0, by omega⟩
    refine r_run 2 (pc' := 5) (ls' := [some (yr 0), some (yi w), some (yi q)]) (st' := [yi 6, yi q]) (M' := M) (N' := N) rfl ?_
    refine r_icmp_ge (pc := 5) f_100_5 (by omega) (by omega) (fun h5 => ?_) (fun h5 => ?_)
    · exfalso; omega
    · refine r_run 8 (pc' := 18) (ls' := [some (yr 0), some (yi w), some (yi q)]) (st' := [yi ((Int32.ofInt ((Int32.ofInt w >>> (Int32.ofInt q &&& 31)).toInt) &&& Int32.ofInt 1).toInt), yi q, yr 39]) (M' := M) (N' := N) rfl ?_
      refine r_if_ne (pc := 18) f_100_18 ⟨Int32.le_toInt _, Int32.toInt_lt _⟩ (fun h18 => ?_) (fun h18 => ?_)
      · refine r_run 4 (pc' := 41) (ls' := [some (yr 0), some (yi w), some (yi q)]) (st' := [yi q, yr 37, yi q, yr 39]) (M' := M) (N' := N) rfl ?_
        refine r_iald (n := 6) f_100_41 (by decide) (by decide) (by decide) (by omega) ?_
        refine r_iast (n := 6) f_100_42 (by decide) (by decide) (by decide) (by omega) ?_
        refine r_run 2 (pc' := 2) (ls' := [some (yr 0), some (yi w), some (yi (q + 1))]) (st' := []) (M' := (yu M 39 q (M 37 q))) (N' := N) rfl ?_
        have hc : corner O w q = M 37 q := by
          unfold corner
          rw [if_neg (show ¬ bit w q = 0 from h18)]; omega
        rw [yu_row, ← hc]
        refine r_post (ih (by omega) (by omega) (hA.fr fun c hc => yrow_ne (by omega))) ?_
        rintro _ M' _ ⟨rfl, ⟨f1, f2, f3⟩, rfl⟩
        refine ⟨rfl, ⟨fun c hc => by rw [f1 c hc, yrow_ne hc], fun i i0 i1 => ?_, fun i i0 i1 => ?_⟩, rfl⟩
        · rw [f2 i i0 (by omega), yrow_at, up_ne (by omega)]
        · by_cases hi : i = q
          · rw [hi, f2 q h0 (by omega), yrow_at, up_at]
          · exact f3 i (by omega) i1
      · refine r_run 4 (pc' := 29) (ls' := [some (yr 0), some (yi w), some (yi q)]) (st' := [yi q, yr 36, yi q, yr 39]) (M' := M) (N' := N) rfl ?_
        refine r_iald (n := 6) f_100_29 (by decide) (by decide) (by decide) (by omega) ?_
        refine r_run 1 (pc' := 42) (ls' := [some (yr 0), some (yi w), some (yi q)]) (st' := [yi (M 36 q), yi q, yr 39]) (M' := M) (N' := N) rfl ?_
        refine r_iast (n := 6) f_100_42 (by decide) (by decide) (by decide) (by omega) ?_
        refine r_run 2 (pc' := 2) (ls' := [some (yr 0), some (yi w), some (yi (q + 1))]) (st' := []) (M' := (yu M 39 q (M 36 q))) (N' := N) rfl ?_
        have hc : corner O w q = M 36 q := by
          unfold corner
          rw [if_pos (show bit w q = 0 from h18)]; omega
        rw [yu_row, ← hc]
        refine r_post (ih (by omega) (by omega) (hA.fr fun c hc => yrow_ne (by omega))) ?_
        rintro _ M' _ ⟨rfl, ⟨f1, f2, f3⟩, rfl⟩
        refine ⟨rfl, ⟨fun c hc => by rw [f1 c hc, yrow_ne hc], fun i i0 i1 => ?_, fun i i0 i1 => ?_⟩, rfl⟩
        · rw [f2 i i0 (by omega), yrow_at, up_ne (by omega)]
        · by_cases hi : i = q
          · rw [hi, f2 q h0 (by omega), yrow_at, up_at]
          · exact f3 i (by omega) i1
theorem c_corner {S : XS} {M N : YM} {w : Int} {O : Int → Int → Int} (hA : cAt M O) : rm S 0 100 [yr 0, yi w] M N (fun r M' N' => none = r ∧ ((∀ c, c ≠ 39 → M' c = M c) ∧ ∀ i, in6 i → M' 39 i = corner O w i) ∧ N = N') := by
  refine ⟨xe_100, m_100, Nat.le_of_ble_eq_true rfl, ?_⟩
  refine r_run 2 (pc' := 2) (ls' := [some (yr 0), some (yi w), some (yi 0)]) (st' := []) (M' := M) (N' := N) rfl ?_
  refine r_post (c_corner_l (j := 6) (Int.le_refl 0) rfl hA) ?_
  rintro _ M' _ ⟨rfl, ⟨f1, -, f3⟩, rfl⟩
  exact ⟨rfl, ⟨f1, fun i hi => f3 i hi.1 (by omega)⟩, rfl⟩
/-- a width, reckoned: what changes -/
def wFr (M M' : YM) : Prop := (∀ c, c ≠ 0 → c ≠ 39 → c ≠ 40 → M' c = M c) ∧ ∀ k, k ≠ 11 → k ≠ 12 → M' 0 k = M 0 k
theorem wFr.refl {M : YM} : wFr M M := ⟨fun _ _ _ _ => rfl, fun _ _ _ => rfl⟩
theorem wFr.trans {A B C : YM} (h : wFr A B) (g : wFr B C) : wFr A C := ⟨fun c h1 h2 h3 => (g.1 c h1 h2 h3).trans (h.1 c h1 h2 h3), fun k h1 h2 => (g.2 k h1 h2).trans (h.2 k h1 h2)⟩
theorem wFr.eqn {M M' : YM} (h : wFr M M') : eqn M M' := fun c k hs => by
  unfold sc at hs
  by_cases e : c = 0
  · rw [e]; exact h.2 k (by omega) (by omega)
  · rw [h.1 c e (by omega) (by omega)]
theorem c_width_l {S : XS} {d : Nat} {t : Int} {O : Int → Int → Int} {N : YM} (hd : 4 ≤ d) {j : Nat} : ∀ {w : Int} {M : YM} {l3 : Option YV}, 0 ≤ w → w + j = 64 → Rel M → (0 ≤ t ∧ t < M 75 9) → cAt M O → (-2147483648 ≤ M 0 11 ∧ M 0 11 < 2147483648) → (-2147483648 ≤ M 0 12 ∧ M 0 12 < 2147483648) → ry S d 99 32 [some (yr 0), some (yr (49 + 3 * t)), some (yi w), l3] [] M N (fun r M' N' => some (yj (M' 0 12 - M' 0 11)) = r ∧ (M' 0 11 = cmn (rF M t O) (gN (M (49 + 3 * t) 3)) j w (M 0 11) ∧ M' 0 12 = cmx (rF M t O) (gN (M (49 + 3 * t) 3)) j w (M 0 12) ∧ wFr M M') ∧ N = N') := by
  induction j with
  | zero =>
    intro w M l3 h0 h1 R ht hA h11 h12
    have t6 := R.t.2.1
    refine r_run 2 (pc' := 35) (ls' := [some (yr 0), some (yr (49 + 3 * t)), some (yi w), l3]) (st' := [yi 64, yi w]) (M' := M) (N' := N) rfl ?_
    refine r_icmp_ge (pc := 35) f_99_35 (by omega) (by omega) (fun h35 => ?_) (fun h35 => ?_)
    · refine r_run 2 (pc' := 102) (ls' := [some (yr 0), some (yr (49 + 3 * t)), some (yi w), l3]) (st' := [yi (M 0 12)]) (M' := M) (N' := N) rfl ?_
      refine r_i2l f_99_102 (by omega) ?_
      refine r_run 2 (pc' := 107) (ls' := [some (yr 0), some (yr (49 + 3 * t)), some (yi w), l3]) (st' := [yi (M 0 11), yj (M 0 12)]) (M' := M) (N' := N) rfl ?_
      refine r_i2l f_99_107 (by omega) ?_
      refine r_run 1 (pc' := 109) (ls' := [some (yr 0), some (yr (49 + 3 * t)), some (yi w), l3]) (st' := [yj ((M 0 12) - (M 0 11))]) (M' := M) (N' := N) rfl ?_
      refine r_lret m_99 rfl f_99_109 ?_
      exact ⟨rfl, ⟨rfl, rfl, wFr.refl⟩, rfl⟩
    · exfalso; omega
  | succ j ih =>
    intro w M l3 h0 h1 R ht hA h11 h12
    have t6 := R.t.2.1
    refine r_run 2 (pc' := 35) (ls' := [some (yr 0), some (yr (49 + 3 * t)), some (yi w), l3]) (st' := [yi 64, yi w]) (M' := M) (N' := N) rfl ?_
    refine r_icmp_ge (pc := 35) f_99_35 (by omega) (by omega) (fun h35 => ?_) (fun h35 => ?_)
    · exfalso; omega
    · refine r_run 2 (pc' := 40) (ls' := [some (yr 0), some (yr (49 + 3 * t)), some (yi w), l3]) (st' := [yr (49 + 3 * t), yi w]) (M' := M) (N' := N) rfl ?_
      refine r_getf (n := 4) 3 rfl f_99_40 (by decide) (show xFT[29]? = some (5, 3) from rfl) (by decide) (by omega) (yk_text (by omega)) ?_
      refine r_run 3 (pc' := 46) (ls' := [some (yr 0), some (yr (49 + 3 * t)), some (yi w), l3]) (st' := [yi ((Int32.ofInt w &&& Int32.ofInt ((Int32.ofInt (M (49 + 3 * t) 3) ^^^ Int32.ofInt (-1)).toInt)).toInt)]) (M' := M) (N' := N) rfl ?_
      refine r_if_ne (pc := 46) f_99_46 ⟨Int32.le_toInt _, Int32.toInt_lt _⟩ (fun h46 => ?_) (fun h46 => ?_)
      · refine r_run 2 (pc' := 32) (ls' := [some (yr 0), some (yr (49 + 3 * t)), some (yi (w + 1)), l3]) (st' := []) (M' := M) (N' := N) rfl ?_
        have hg : ¬ gN (M (49 + 3 * t) 3) w = 0 := h46
        refine r_post (ih (by omega) (by omega) R ht hA h11 h12) ?_
        rintro _ M' _ ⟨rfl, ⟨e1, e2, e3⟩, rfl⟩
        refine ⟨rfl, ⟨?_, ?_, e3⟩, rfl⟩
        · rw [e1]
          show cmn _ _ _ _ _ = cmn _ _ j (w + 1) (if gN (M (49 + 3 * t) 3) w = 0 then _ else _)
          rw [if_neg hg]
        · rw [e2]
          show cmx _ _ _ _ _ = cmx _ _ j (w + 1) (if gN (M (49 + 3 * t) 3) w = 0 then _ else _)
          rw [if_neg hg]
      · refine r_run 2 (pc' := 51) (ls' := [some (yr 0), some (yr (49 + 3 * t)), some (yi w), l3]) (st' := [yi w, yr 0]) (M' := M) (N' := N) rfl ?_
        refine r_virtual (mj := 100) (b := 0) (as := [yi w]) (rest := []) f_99_51 (by decide) rfl m_100 (by decide) (by decide) (by decide) rfl rfl (Nat.le_of_ble_eq_true rfl) (by omega) (c_corner (w := w) hA) ?_
        rintro _ M2 _ ⟨rfl, ⟨f2, k39⟩, rfl⟩
        have q2 : wFr M M2 := ⟨fun c h1 h2 h3 => f2 c h2, fun k _ _ => by rw [f2 0 (by decide)]⟩
        have R2 := R.congr q2.eqn
        have b9 : M2 75 9 = M 75 9 := by rw [f2 75 (by decide)]
        have n39 : ∀ q, in6 q → -2147483648 ≤ M2 39 q ∧ M2 39 q < 2147483648 := fun q hq => by have := corner_in hA.o w q hq; rw [k39 q hq]; omega
        refine r_run 6 (pc' := 64) (ls' := [some (yr 0), some (yr (49 + 3 * t)), some (yi w), l3]) (st' := [yr 40, yr 39, yi 0, yr (49 + 3 * t)]) (M' := M2) (N' := N) rfl ?_
        refine r_virtual (mj := 46) (b := 49 + 3 * t) (as := [yi 0, yr 39, yr 40]) (rest := []) f_99_64 (by decide) rfl m_46 (by decide) (by omega) (by rw [(yk_text (by omega))]; rfl) rfl rfl (Nat.le_of_ble_eq_true rfl) (by omega) (c_tellR1 (t := t) R2.t ⟨ht.1, by rw [b9]; exact ht.2⟩ (by omega) n39) ?_
        rintro _ M3 _ ⟨v, rfl, ⟨hv, f3⟩, rfl⟩
        have hv2 : v = rF M t O w := by
          rw [hv, txT_congr R2.t ⟨ht.1, by rw [b9]; exact ht.2⟩ (by omega) k39]
          exact congrFun (congrFun (congrFun q2.eqn.eqx.eT _) _) _
        have hvr := rF_in R.t ht hA.o w
        rw [← hv2] at hvr
        have q3 : wFr M M3 := q2.trans ⟨fun c h1 h2 h3 => f3 c h3, fun k _ _ => by rw [f3 0 (by decide)]⟩
        have k11 : M3 0 11 = M 0 11 := by rw [f3 0 (by decide), f2 0 (by decide)]
        have k12 : M3 0 12 = M 0 12 := by rw [f3 0 (by decide), f2 0 (by decide)]
        refine r_run 5 (pc' := 74) (ls' := [some (yr 0), some (yr (49 + 3 * t)), some (yi w), some (yi v)]) (st' := [yi v, yi (M3 0 11), yr 0]) (M' := M3) (N' := N) rfl ?_
        refine r_min f_99_74 (by omega) (by omega) (Nat.le_of_ble_eq_true rfl) (by omega) (fun v74 hv74 => ?_)
        refine r_run 5 (pc' := 86) (ls' := [some (yr 0), some (yr (49 + 3 * t)), some (yi w), some (yi v)]) (st' := [yi v, yi (M3 0 12), yr 0]) (M' := (yu M3 0 11 v74)) (N' := N) rfl ?_
        refine r_max f_99_86 (by omega) (by omega) (Nat.le_of_ble_eq_true rfl) (by omega) (fun v86 hv86 => ?_)
        refine r_run 3 (pc' := 32) (ls' := [some (yr 0), some (yr (49 + 3 * t)), some (yi (w + 1)), some (yi v)]) (st' := []) (M' := (yu (yu M3 0 11 v74) 0 12 v86)) (N' := N) rfl ?_
        have hg : gN (M (49 + 3 * t) 3) w = 0 := h46
        have e74 := imin_eq hv74
        have e86 := imax_eq hv86
        rw [k11, hv2] at e74
        rw [k12, hv2] at e86
        have q4 : wFr M (yu (yu M3 0 11 v74) 0 12 v86) := q3.trans ⟨fun c h1 h2 h3 => by rw [yu_rn h1, yu_rn h1], fun k h1 h2 => by rw [yu_ne (by omega), yu_ne (by omega)]⟩
        have b4 : (yu (yu M3 0 11 v74) 0 12 v86) 75 9 = M 75 9 := by rw [q4.1 75 (by decide) (by decide) (by decide)]
        have b3 : (yu (yu M3 0 11 v74) 0 12 v86) (49 + 3 * t) 3 = M (49 + 3 * t) 3 := by rw [q4.1 _ (by omega) (by omega) (by omega)]
        have x11 : (yu (yu M3 0 11 v74) 0 12 v86) 0 11 = v74 := by rw [yu_ne (by omega), yu_at]
        have x12 : (yu (yu M3 0 11 v74) 0 12 v86) 0 12 = v86 := yu_at
        refine r_post (ih (l3 := some (yi v)) (by omega) (by omega) (R.congr q4.eqn) ⟨ht.1, by rw [b4]; exact ht.2⟩ (hA.fr fun c hc => q4.1 c (by omega) (by omega) (by omega)) (by rw [x11]; omega) (by rw [x12]; omega)) ?_
        rintro _ M' _ ⟨rfl, ⟨e1, e2, e3⟩, rfl⟩
        rw [x11, b3, q4.eqn.eqx.eR, e74] at e1
        rw [x12, b3, q4.eqn.eqx.eR, e86] at e2
        refine ⟨rfl, ⟨?_, ?_, q4.trans e3⟩, rfl⟩
        · rw [e1]
          show cmn _ _ _ _ _ = cmn _ _ j (w + 1) (if gN (M (49 + 3 * t) 3) w = 0 then _ else _)
          rw [if_pos hg]
        · rw [e2]
          show cmx _ _ _ _ _ = cmx _ _ j (w + 1) (if gN (M (49 + 3 * t) 3) w = 0 then _ else _)
          rw [if_pos hg]
theorem c_width {S : XS} {M N : YM} {t : Int} {O : Int → Int → Int} (R : Rel M) (ht : 0 ≤ t ∧ t < M 75 9) (hA : cAt M O) : rm S 4 99 [yr 0, yr (49 + 3 * t)] M N (fun r M' N' => ∃ v : Int, some (yj v) = r ∧ (v = rHi M t O - rLo M t O ∧ M' 0 11 = rLo M t O ∧ M' 0 12 = rHi M t O ∧ wFr M M') ∧ N = N') := by
  refine ⟨xe_99, m_99, Nat.le_of_ble_eq_true rfl, ?_⟩
  have t6 := R.t.2.1
  refine r_run 2 (pc' := 2) (ls' := [some (yr 0), some (yr (49 + 3 * t)), none, none]) (st' := [yi 0, yr 0]) (M' := M) (N' := N) rfl ?_
  refine r_virtual (mj := 100) (b := 0) (as := [yi 0]) (rest := []) f_99_2 (by decide) rfl m_100 (by decide) (by decide) (by decide) rfl rfl (Nat.le_of_ble_eq_true rfl) (by omega) (c_corner (w := 0) hA) ?_
  rintro _ M2 _ ⟨rfl, ⟨f2, k39⟩, rfl⟩
  have q2 : wFr M M2 := ⟨fun c h1 h2 h3 => f2 c h2, fun k _ _ => by rw [f2 0 (by decide)]⟩
  have R2 := R.congr q2.eqn
  have b9 : M2 75 9 = M 75 9 := by rw [f2 75 (by decide)]
  have n39 : ∀ q, in6 q → -2147483648 ≤ M2 39 q ∧ M2 39 q < 2147483648 := fun q hq => by have := corner_in hA.o 0 q hq; rw [k39 q hq]; omega
  refine r_run 7 (pc' := 16) (ls' := [some (yr 0), some (yr (49 + 3 * t)), none, none]) (st' := [yr 40, yr 39, yi 0, yr (49 + 3 * t), yr 0]) (M' := M2) (N' := N) rfl ?_
  refine r_virtual (mj := 46) (b := 49 + 3 * t) (as := [yi 0, yr 39, yr 40]) (rest := [yr 0]) f_99_16 (by decide) rfl m_46 (by decide) (by omega) (by rw [(yk_text (by omega))]; rfl) rfl rfl (Nat.le_of_ble_eq_true rfl) (by omega) (c_tellR1 (t := t) R2.t ⟨ht.1, by rw [b9]; exact ht.2⟩ (by omega) n39) ?_
  rintro _ M3 _ ⟨v, rfl, ⟨hv, f3⟩, rfl⟩
  have hv2 : v = rF M t O 0 := by
    rw [hv, txT_congr R2.t ⟨ht.1, by rw [b9]; exact ht.2⟩ (by omega) k39]
    exact congrFun (congrFun (congrFun q2.eqn.eqx.eT _) _) _
  have hvr := rF_in R.t ht hA.o 0
  rw [← hv2] at hvr
  have q3 : wFr M M3 := q2.trans ⟨fun c h1 h2 h3 => f3 c h3, fun k _ _ => by rw [f3 0 (by decide)]⟩
  refine r_run 7 (pc' := 32) (ls' := [some (yr 0), some (yr (49 + 3 * t)), some (yi 1), none]) (st' := []) (M' := (yu (yu M3 0 11 v) 0 12 v)) (N' := N) rfl ?_
  have q4 : wFr M (yu (yu M3 0 11 v) 0 12 v) := q3.trans ⟨fun c h1 h2 h3 => by rw [yu_rn h1, yu_rn h1], fun k h1 h2 => by rw [yu_ne (by omega), yu_ne (by omega)]⟩
  have b4 : (yu (yu M3 0 11 v) 0 12 v) 75 9 = M 75 9 := by rw [q4.1 75 (by decide) (by decide) (by decide)]
  have b3 : (yu (yu M3 0 11 v) 0 12 v) (49 + 3 * t) 3 = M (49 + 3 * t) 3 := by rw [q4.1 _ (by omega) (by omega) (by omega)]
  have x11 : (yu (yu M3 0 11 v) 0 12 v) 0 11 = v := by rw [yu_ne (by omega), yu_at]
  have x12 : (yu (yu M3 0 11 v) 0 12 v) 0 12 = v := yu_at
  refine r_post (c_width_l (O := O) (t := t) (j := 63) (Nat.le_refl _) (by omega) rfl (R.congr q4.eqn) ⟨ht.1, by rw [b4]; exact ht.2⟩ (hA.fr fun c hc => q4.1 c (by omega) (by omega) (by omega)) (by rw [x11]; omega) (by rw [x12]; omega)) ?_
  rintro _ M' _ ⟨rfl, ⟨e1, e2, e3⟩, rfl⟩
  rw [x11, b3, q4.eqn.eqx.eR, hv2, (rLo_eq R.t ht (O := O)).1] at e1
  rw [x12, b3, q4.eqn.eqx.eR, hv2, (rLo_eq R.t ht (O := O)).2] at e2
  exact ⟨_, rfl, ⟨by rw [e1, e2], e1, e2, q4.trans e3⟩, rfl⟩
