/-! the fewest that must be wrong, links that can't be -/
def bus (x y : Int) : Int := (((Int32.ofInt x).toUInt32 >>> ((Int32.ofInt y).toUInt32 &&& Int32.toUInt32 31)).toInt32).toInt
def band (a b : Int) : Int := (Int32.ofInt a &&& Int32.ofInt b).toInt
theorem r_iushr {S : XS} {d mi pc rs wp : Nat} {ls : YL} {st : List YV} {M N : YM} {Q : Option YV → YM → YM → Prop} {x y : Int} (hi : xi mi pc = some (.iushr, rs, wp)) (k : ry S d mi (pc + 1) ls (.inl (bus x y) :: st) M N Q) : ry S d mi pc ls (.inl y :: .inl x :: st) M N Q := by
  refine ry_step hi rfl (fun kd => ?_) k
  simp only [xs1, List.map_cons, yv]
  unfold bus
  rw [Int32.ofInt_toInt]
  rfl
def bc1 (x : Int) : Int := x - band (bus x 1) 1431655765
def bc2 (x : Int) : Int := band x 858993459 + band (bus x 2) 858993459
def bc3 (x : Int) : Int := band (x + bus x 4) 252645135
def bcE (x : Int) : Int := band (bc3 (bc2 (bc1 x)) + bus (bc3 (bc2 (bc1 x))) 8 + bus (bc3 (bc2 (bc1 x)) + bus (bc3 (bc2 (bc1 x))) 8) 16) 63
def onF (x : Int) : Nat → Int → Int → Int
  | 0, _, a => a
  | j + 1, k, a => onF x j (k + 1) (a + bit x k)
set_option maxRecDepth 100000 in
theorem bcE_fin : ∀ i : Fin 1024, bcE (i.val : Int) = onF (i.val : Int) 12 0 0 ∧ 0 ≤ onF (i.val : Int) 12 0 0 ∧ onF (i.val : Int) 12 0 0 ≤ 10 := by decide +kernel
theorem bcE_eq {w : Int} (h : 0 ≤ w ∧ w < 1024) : bcE w = onF w 12 0 0 ∧ 0 ≤ onF w 12 0 0 ∧ onF w 12 0 0 ≤ 10 := by
  have := bcE_fin ⟨w.toNat, by omega⟩
  rw [show ((w.toNat : Nat) : Int) = w by omega] at this
  exact this
theorem bsh_in {n : Int} (h : 0 ≤ n ∧ n ≤ 10) : 1 ≤ bsh n ∧ bsh n ≤ 1024 := by
  rcases (show n = 0 ∨ n = 1 ∨ n = 2 ∨ n = 3 ∨ n = 4 ∨ n = 5 ∨ n = 6 ∨ n = 7 ∨ n = 8 ∨ n = 9 ∨ n = 10 by omega) with rfl | rfl | rfl | rfl | rfl | rfl | rfl | rfl | rfl | rfl | rfl <;> decide
set_option maxRecDepth 100000 in
theorem bit_bsh_fin : ∀ k : Fin 8, ∀ i : Fin 8, bit (bsh (k.val : Int)) (i.val : Int) = if (i.val : Int) = (k.val : Int) then 1 else 0 := by decide +kernel
theorem bit_bsh {k i : Int} (hk : 0 ≤ k ∧ k < 8) (hi : 0 ≤ i ∧ i < 8) : bit (bsh k) i = if i = k then 1 else 0 := by
  have := bit_bsh_fin ⟨k.toNat, by omega⟩ ⟨i.toNat, by omega⟩
  rw [show ((k.toNat : Nat) : Int) = k by omega, show ((i.toNat : Nat) : Int) = i by omega] at this
  exact this
theorem j_bitCount {S : XS} {M N : YM} {x : Int} : rm S 0 205 [yi x] M N (fun r M' N' => ∃ v : Int, some (yi v) = r ∧ (v = bcE x) ∧ M = M' ∧ N = N') := by
  refine ⟨xe_205, m_205, Nat.le_of_ble_eq_true rfl, ?_⟩
  refine r_run 3 (pc' := 3) (ls' := [some (yi x)]) (st' := [yi 1, yi x, yi x]) (M' := M) (N' := N) rfl ?_
  refine r_iushr (show xi 205 3 = some (.iushr, 0, 0) from rfl) ?_
  refine r_run 9 (pc' := 17) (ls' := [some (yi (x - ((Int32.ofInt (bus x 1) &&& Int32.ofInt 1431655765).toInt)))]) (st' := [yi 2, yi (x - ((Int32.ofInt (bus x 1) &&& Int32.ofInt 1431655765).toInt)), yi ((Int32.ofInt (x - ((Int32.ofInt (bus x 1) &&& Int32.ofInt 1431655765).toInt)) &&& Int32.ofInt 858993459).toInt)]) (M' := M) (N' := N) rfl ?_
  refine r_iushr (show xi 205 17 = some (.iushr, 0, 0) from rfl) ?_
  refine r_run 7 (pc' := 27) (ls' := [some (yi (((Int32.ofInt (x - ((Int32.ofInt (bus x 1) &&& Int32.ofInt 1431655765).toInt)) &&& Int32.ofInt 858993459).toInt) + ((Int32.ofInt (bus (x - ((Int32.ofInt (bus x 1) &&& Int32.ofInt 1431655765).toInt)) 2) &&& Int32.ofInt 858993459).toInt)))]) (st' := [yi 4, yi (((Int32.ofInt (x - ((Int32.ofInt (bus x 1) &&& Int32.ofInt 1431655765).toInt)) &&& Int32.ofInt 858993459).toInt) + ((Int32.ofInt (bus (x - ((Int32.ofInt (bus x 1) &&& Int32.ofInt 1431655765).toInt)) 2) &&& Int32.ofInt 858993459).toInt)), yi (((Int32.ofInt (x - ((Int32.ofInt (bus x 1) &&& Int32.ofInt 1431655765).toInt)) &&& Int32.ofInt 858993459).toInt) + ((Int32.ofInt (bus (x - ((Int32.ofInt (bus x 1) &&& Int32.ofInt 1431655765).toInt)) 2) &&& Int32.ofInt 858993459).toInt))]) (M' := M) (N' := N) rfl ?_
  refine r_iushr (show xi 205 27 = some (.iushr, 0, 0) from rfl) ?_
  refine r_run 7 (pc' := 38) (ls' := [some (yi ((Int32.ofInt ((((Int32.ofInt (x - ((Int32.ofInt (bus x 1) &&& Int32.ofInt 1431655765).toInt)) &&& Int32.ofInt 858993459).toInt) + ((Int32.ofInt (bus (x - ((Int32.ofInt (bus x 1) &&& Int32.ofInt 1431655765).toInt)) 2) &&& Int32.ofInt 858993459).toInt)) + (bus (((Int32.ofInt (x - ((Int32.ofInt (bus x 1) &&& Int32.ofInt 1431655765).toInt)) &&& Int32.ofInt 858993459).toInt) + ((Int32.ofInt (bus (x - ((Int32.ofInt (bus x 1) &&& Int32.ofInt 1431655765).toInt)) 2) &&& Int32.ofInt 858993459).toInt)) 4)) &&& Int32.ofInt 252645135).toInt))]) (st' := [yi 8, yi ((Int32.ofInt ((((Int32.ofInt (x - ((Int32.ofInt (bus x 1) &&& Int32.ofInt 1431655765).toInt)) &&& Int32.ofInt 858993459).toInt) + ((Int32.ofInt (bus (x - ((Int32.ofInt (bus x 1) &&& Int32.ofInt 1431655765).toInt)) 2) &&& Int32.ofInt 858993459).toInt)) + (bus (((Int32.ofInt (x - ((Int32.ofInt (bus x 1) &&& Int32.ofInt 1431655765).toInt)) &&& Int32.ofInt 858993459).toInt) + ((Int32.ofInt (bus (x - ((Int32.ofInt (bus x 1) &&& Int32.ofInt 1431655765).toInt)) 2) &&& Int32.ofInt 858993459).toInt)) 4)) &&& Int32.ofInt 252645135).toInt), yi ((Int32.ofInt ((((Int32.ofInt (x - ((Int32.ofInt (bus x 1) &&& Int32.ofInt 1431655765).toInt)) &&& Int32.ofInt 858993459).toInt) + ((Int32.ofInt (bus (x - ((Int32.ofInt (bus x 1) &&& Int32.ofInt 1431655765).toInt)) 2) &&& Int32.ofInt 858993459).toInt)) + (bus (((Int32.ofInt (x - ((Int32.ofInt (bus x 1) &&& Int32.ofInt 1431655765).toInt)) &&& Int32.ofInt 858993459).toInt) + ((Int32.ofInt (bus (x - ((Int32.ofInt (bus x 1) &&& Int32.ofInt 1431655765).toInt)) 2) &&& Int32.ofInt 858993459).toInt)) 4)) &&& Int32.ofInt 252645135).toInt)]) (M' := M) (N' := N) rfl ?_
  refine r_iushr (show xi 205 38 = some (.iushr, 0, 0) from rfl) ?_
  refine r_run 5 (pc' := 45) (ls' := [some (yi (((Int32.ofInt ((((Int32.ofInt (x - ((Int32.ofInt (bus x 1) &&& Int32.ofInt 1431655765).toInt)) &&& Int32.ofInt 858993459).toInt) + ((Int32.ofInt (bus (x - ((Int32.ofInt (bus x 1) &&& Int32.ofInt 1431655765).toInt)) 2) &&& Int32.ofInt 858993459).toInt)) + (bus (((Int32.ofInt (x - ((Int32.ofInt (bus x 1) &&& Int32.ofInt 1431655765).toInt)) &&& Int32.ofInt 858993459).toInt) + ((Int32.ofInt (bus (x - ((Int32.ofInt (bus x 1) &&& Int32.ofInt 1431655765).toInt)) 2) &&& Int32.ofInt 858993459).toInt)) 4)) &&& Int32.ofInt 252645135).toInt) + (bus ((Int32.ofInt ((((Int32.ofInt (x - ((Int32.ofInt (bus x 1) &&& Int32.ofInt 1431655765).toInt)) &&& Int32.ofInt 858993459).toInt) + ((Int32.ofInt (bus (x - ((Int32.ofInt (bus x 1) &&& Int32.ofInt 1431655765).toInt)) 2) &&& Int32.ofInt 858993459).toInt)) + (bus (((Int32.ofInt (x - ((Int32.ofInt (bus x 1) &&& Int32.ofInt 1431655765).toInt)) &&& Int32.ofInt 858993459).toInt) + ((Int32.ofInt (bus (x - ((Int32.ofInt (bus x 1) &&& Int32.ofInt 1431655765).toInt)) 2) &&& Int32.ofInt 858993459).toInt)) 4)) &&& Int32.ofInt 252645135).toInt) 8)))]) (st' := [yi 16, yi (((Int32.ofInt ((((Int32.ofInt (x - ((Int32.ofInt (bus x 1) &&& Int32.ofInt 1431655765).toInt)) &&& Int32.ofInt 858993459).toInt) + ((Int32.ofInt (bus (x - ((Int32.ofInt (bus x 1) &&& Int32.ofInt 1431655765).toInt)) 2) &&& Int32.ofInt 858993459).toInt)) + (bus (((Int32.ofInt (x - ((Int32.ofInt (bus x 1) &&& Int32.ofInt 1431655765).toInt)) &&& Int32.ofInt 858993459).toInt) + ((Int32.ofInt (bus (x - ((Int32.ofInt (bus x 1) &&& Int32.ofInt 1431655765).toInt)) 2) &&& Int32.ofInt 858993459).toInt)) 4)) &&& Int32.ofInt 252645135).toInt) + (bus ((Int32.ofInt ((((Int32.ofInt (x - ((Int32.ofInt (bus x 1) &&& Int32.ofInt 1431655765).toInt)) &&& Int32.ofInt 858993459).toInt) + ((Int32.ofInt (bus (x - ((Int32.ofInt (bus x 1) &&& Int32.ofInt 1431655765).toInt)) 2) &&& Int32.ofInt 858993459).toInt)) + (bus (((Int32.ofInt (x - ((Int32.ofInt (bus x 1) &&& Int32.ofInt 1431655765).toInt)) &&& Int32.ofInt 858993459).toInt) + ((Int32.ofInt (bus (x - ((Int32.ofInt (bus x 1) &&& Int32.ofInt 1431655765).toInt)) 2) &&& Int32.ofInt 858993459).toInt)) 4)) &&& Int32.ofInt 252645135).toInt) 8)), yi (((Int32.ofInt ((((Int32.ofInt (x - ((Int32.ofInt (bus x 1) &&& Int32.ofInt 1431655765).toInt)) &&& Int32.ofInt 858993459).toInt) + ((Int32.ofInt (bus (x - ((Int32.ofInt (bus x 1) &&& Int32.ofInt 1431655765).toInt)) 2) &&& Int32.ofInt 858993459).toInt)) + (bus (((Int32.ofInt (x - ((Int32.ofInt (bus x 1) &&& Int32.ofInt 1431655765).toInt)) &&& Int32.ofInt 858993459).toInt) + ((Int32.ofInt (bus (x - ((Int32.ofInt (bus x 1) &&& Int32.ofInt 1431655765).toInt)) 2) &&& Int32.ofInt 858993459).toInt)) 4)) &&& Int32.ofInt 252645135).toInt) + (bus ((Int32.ofInt ((((Int32.ofInt (x - ((Int32.ofInt (bus x 1) &&& Int32.ofInt 1431655765).toInt)) &&& Int32.ofInt 858993459).toInt) + ((Int32.ofInt (bus (x - ((Int32.ofInt (bus x 1) &&& Int32.ofInt 1431655765).toInt)) 2) &&& Int32.ofInt 858993459).toInt)) + (bus (((Int32.ofInt (x - ((Int32.ofInt (bus x 1) &&& Int32.ofInt 1431655765).toInt)) &&& Int32.ofInt 858993459).toInt) + ((Int32.ofInt (bus (x - ((Int32.ofInt (bus x 1) &&& Int32.ofInt 1431655765).toInt)) 2) &&& Int32.ofInt 858993459).toInt)) 4)) &&& Int32.ofInt 252645135).toInt) 8))]) (M' := M) (N' := N) rfl ?_
  refine r_iushr (show xi 205 45 = some (.iushr, 0, 0) from rfl) ?_
  refine r_run 5 (pc' := 52) (ls' := [some (yi ((((Int32.ofInt ((((Int32.ofInt (x - ((Int32.ofInt (bus x 1) &&& Int32.ofInt 1431655765).toInt)) &&& Int32.ofInt 858993459).toInt) + ((Int32.ofInt (bus (x - ((Int32.ofInt (bus x 1) &&& Int32.ofInt 1431655765).toInt)) 2) &&& Int32.ofInt 858993459).toInt)) + (bus (((Int32.ofInt (x - ((Int32.ofInt (bus x 1) &&& Int32.ofInt 1431655765).toInt)) &&& Int32.ofInt 858993459).toInt) + ((Int32.ofInt (bus (x - ((Int32.ofInt (bus x 1) &&& Int32.ofInt 1431655765).toInt)) 2) &&& Int32.ofInt 858993459).toInt)) 4)) &&& Int32.ofInt 252645135).toInt) + (bus ((Int32.ofInt ((((Int32.ofInt (x - ((Int32.ofInt (bus x 1) &&& Int32.ofInt 1431655765).toInt)) &&& Int32.ofInt 858993459).toInt) + ((Int32.ofInt (bus (x - ((Int32.ofInt (bus x 1) &&& Int32.ofInt 1431655765).toInt)) 2) &&& Int32.ofInt 858993459).toInt)) + (bus (((Int32.ofInt (x - ((Int32.ofInt (bus x 1) &&& Int32.ofInt 1431655765).toInt)) &&& Int32.ofInt 858993459).toInt) + ((Int32.ofInt (bus (x - ((Int32.ofInt (bus x 1) &&& Int32.ofInt 1431655765).toInt)) 2) &&& Int32.ofInt 858993459).toInt)) 4)) &&& Int32.ofInt 252645135).toInt) 8)) + (bus (((Int32.ofInt ((((Int32.ofInt (x - ((Int32.ofInt (bus x 1) &&& Int32.ofInt 1431655765).toInt)) &&& Int32.ofInt 858993459).toInt) + ((Int32.ofInt (bus (x - ((Int32.ofInt (bus x 1) &&& Int32.ofInt 1431655765).toInt)) 2) &&& Int32.ofInt 858993459).toInt)) + (bus (((Int32.ofInt (x - ((Int32.ofInt (bus x 1) &&& Int32.ofInt 1431655765).toInt)) &&& Int32.ofInt 858993459).toInt) + ((Int32.ofInt (bus (x - ((Int32.ofInt (bus x 1) &&& Int32.ofInt 1431655765).toInt)) 2) &&& Int32.ofInt 858993459).toInt)) 4)) &&& Int32.ofInt 252645135).toInt) + (bus ((Int32.ofInt ((((Int32.ofInt (x - ((Int32.ofInt (bus x 1) &&& Int32.ofInt 1431655765).toInt)) &&& Int32.ofInt 858993459).toInt) + ((Int32.ofInt (bus (x - ((Int32.ofInt (bus x 1) &&& Int32.ofInt 1431655765).toInt)) 2) &&& Int32.ofInt 858993459).toInt)) + (bus (((Int32.ofInt (x - ((Int32.ofInt (bus x 1) &&& Int32.ofInt 1431655765).toInt)) &&& Int32.ofInt 858993459).toInt) + ((Int32.ofInt (bus (x - ((Int32.ofInt (bus x 1) &&& Int32.ofInt 1431655765).toInt)) 2) &&& Int32.ofInt 858993459).toInt)) 4)) &&& Int32.ofInt 252645135).toInt) 8)) 16)))]) (st' := [yi ((Int32.ofInt ((((Int32.ofInt ((((Int32.ofInt (x - ((Int32.ofInt (bus x 1) &&& Int32.ofInt 1431655765).toInt)) &&& Int32.ofInt 858993459).toInt) + ((Int32.ofInt (bus (x - ((Int32.ofInt (bus x 1) &&& Int32.ofInt 1431655765).toInt)) 2) &&& Int32.ofInt 858993459).toInt)) + (bus (((Int32.ofInt (x - ((Int32.ofInt (bus x 1) &&& Int32.ofInt 1431655765).toInt)) &&& Int32.ofInt 858993459).toInt) + ((Int32.ofInt (bus (x - ((Int32.ofInt (bus x 1) &&& Int32.ofInt 1431655765).toInt)) 2) &&& Int32.ofInt 858993459).toInt)) 4)) &&& Int32.ofInt 252645135).toInt) + (bus ((Int32.ofInt ((((Int32.ofInt (x - ((Int32.ofInt (bus x 1) &&& Int32.ofInt 1431655765).toInt)) &&& Int32.ofInt 858993459).toInt) + ((Int32.ofInt (bus (x - ((Int32.ofInt (bus x 1) &&& Int32.ofInt 1431655765).toInt)) 2) &&& Int32.ofInt 858993459).toInt)) + (bus (((Int32.ofInt (x - ((Int32.ofInt (bus x 1) &&& Int32.ofInt 1431655765).toInt)) &&& Int32.ofInt 858993459).toInt) + ((Int32.ofInt (bus (x - ((Int32.ofInt (bus x 1) &&& Int32.ofInt 1431655765).toInt)) 2) &&& Int32.ofInt 858993459).toInt)) 4)) &&& Int32.ofInt 252645135).toInt) 8)) + (bus (((Int32.ofInt ((((Int32.ofInt (x - ((Int32.ofInt (bus x 1) &&& Int32.ofInt 1431655765).toInt)) &&& Int32.ofInt 858993459).toInt) + ((Int32.ofInt (bus (x - ((Int32.ofInt (bus x 1) &&& Int32.ofInt 1431655765).toInt)) 2) &&& Int32.ofInt 858993459).toInt)) + (bus (((Int32.ofInt (x - ((Int32.ofInt (bus x 1) &&& Int32.ofInt 1431655765).toInt)) &&& Int32.ofInt 858993459).toInt) + ((Int32.ofInt (bus (x - ((Int32.ofInt (bus x 1) &&& Int32.ofInt 1431655765).toInt)) 2) &&& Int32.ofInt 858993459).toInt)) 4)) &&& Int32.ofInt 252645135).toInt) + (bus ((Int32.ofInt ((((Int32.ofInt (x - ((Int32.ofInt (bus x 1) &&& Int32.ofInt 1431655765).toInt)) &&& Int32.ofInt 858993459).toInt) + ((Int32.ofInt (bus (x - ((Int32.ofInt (bus x 1) &&& Int32.ofInt 1431655765).toInt)) 2) &&& Int32.ofInt 858993459).toInt)) + (bus (((Int32.ofInt (x - ((Int32.ofInt (bus x 1) &&& Int32.ofInt 1431655765).toInt)) &&& Int32.ofInt 858993459).toInt) + ((Int32.ofInt (bus (x - ((Int32.ofInt (bus x 1) &&& Int32.ofInt 1431655765).toInt)) 2) &&& Int32.ofInt 858993459).toInt)) 4)) &&& Int32.ofInt 252645135).toInt) 8)) 16)) &&& Int32.ofInt 63).toInt)]) (M' := M) (N' := N) rfl ?_
  refine r_iret m_205 rfl f_205_52 ?_
  exact ⟨_, rfl, rfl, rfl, rfl⟩
theorem m_ones_l {S : XS} {d : Nat} {x : Int} {M N : YM} {j : Nat} : ∀ {k a : Int}, 0 ≤ k → k + j = 12 → ry S d 117 4 [some (yi x), some (yi a), some (yi k)] [] M N (fun r M' N' => some (yi (onF x j k a)) = r ∧ M = M' ∧ N = N') := by
  induction j with
  | zero =>
    intro k a h0 h1
    refine r_run 2 (pc' := 7) (ls' := [some (yi x), some (yi a), some (yi k)]) (st' := [yi 12, yi k]) (M' := M) (N' := N) rfl ?_
    refine r_icmp_ge (pc := 7) f_117_7 (by omega) (by omega) (fun h7 => ?_) (fun h7 => ?_)
    · refine r_run 1 (pc' := 25) (ls' := [some (yi x), some (yi a), some (yi k)]) (st' := [yi a]) (M' := M) (N' := N) rfl ?_
      refine r_iret m_117 rfl f_117_25 ?_
      exact ⟨rfl, rfl, rfl⟩
    · exfalso; omega
  | succ j ih =>
    intro k a h0 h1
    refine r_run 2 (pc' := 7) (ls' := [some (yi x), some (yi a), some (yi k)]) (st' := [yi 12, yi k]) (M' := M) (N' := N) rfl ?_
    refine r_icmp_ge (pc := 7) f_117_7 (by omega) (by omega) (fun h7 => ?_) (fun h7 => ?_)
    · exfalso; omega
    · refine r_run 10 (pc' := 4) (ls' := [some (yi x), some (yi (a + ((Int32.ofInt ((Int32.ofInt x >>> (Int32.ofInt k &&& 31)).toInt) &&& Int32.ofInt 1).toInt))), some (yi (k + 1))]) (st' := []) (M' := M) (N' := N) rfl ?_
      exact ih (by omega) (by omega)
theorem m_ones {S : XS} {M N : YM} {x : Int} : rm S 0 117 [yi x] M N (fun r M' N' => ∃ v : Int, some (yi v) = r ∧ (v = onF x 12 0 0) ∧ M = M' ∧ N = N') := by
  refine ⟨xe_117, m_117, Nat.le_of_ble_eq_true rfl, ?_⟩
  refine r_run 4 (pc' := 4) (ls' := [some (yi x), some (yi 0), some (yi 0)]) (st' := []) (M' := M) (N' := N) rfl ?_
  refine r_post (m_ones_l (j := 12) (Int.le_refl 0) rfl) ?_
  rintro _ _ _ ⟨rfl, rfl, rfl⟩
  exact ⟨_, rfl, rfl, rfl, rfl⟩
noncomputable def wV (M : YM) (w : Int) : Int := @ite Int (spY (lB M w) (lE M w) (M 77) sk0 (M 75 2)) (Classical.propDecidable _) 1 0
theorem wV_of {M : YM} {w v : Int} {P : Prop} (h : (v = 1 ∧ spY (lB M w) (lE M w) (M 77) sk0 (M 75 2) ∧ P) ∨ (v = 0 ∧ ¬ spY (lB M w) (lE M w) (M 77) sk0 (M 75 2))) : v = wV M w ∧ (v = 0 ∨ v = 1) := by
  rcases h with ⟨a, b, -⟩ | ⟨a, b⟩
  · exact ⟨by rw [a]; exact (if_pos b).symm, Or.inr a⟩
  · exact ⟨by rw [a]; exact (if_neg b).symm, Or.inl a⟩
theorem eqs.eW {M M' : YM} (h : eqs M M') : wV M' = wV M := by
  funext w
  unfold wV
  rw [h.eB, h.eE, h.2.1, h.2.2.2.2]
def wrF (ok : Int → Int) : Nat → Int → Int → Int
  | 0, _, b => b
  | j + 1, w, b => wrF ok j (w + 1) (if (b = -1 ∨ onF w 12 0 0 < onF b 12 0 0) ∧ ok w = 1 then w else b)
theorem wrF_yes {ok : Int → Int} {j : Nat} {w b : Int} (h : (b = -1 ∨ onF w 12 0 0 < onF b 12 0 0) ∧ ok w = 1) : wrF ok (j + 1) w b = wrF ok j (w + 1) w := by rw [wrF, if_pos h]
theorem wrF_no {ok : Int → Int} {j : Nat} {w b : Int} (h : ¬ ((b = -1 ∨ onF w 12 0 0 < onF b 12 0 0) ∧ ok w = 1)) : wrF ok (j + 1) w b = wrF ok j (w + 1) b := by rw [wrF, if_neg h]
noncomputable def fWrong (x : Int) (M : YM) : Int := if x < 0 ∨ 1 < x then -2 else if wrF (wV M) (bsh (M 75 0)).toNat 0 (-1) = -1 then -1 else if x = 0 then onF (wrF (wV M) (bsh (M 75 0)).toNat 0 (-1)) 12 0 0 else wrF (wV M) (bsh (M 75 0)).toNat 0 (-1)
theorem fWrong_eq {x : Int} {M M' : YM} (e : eqs M M') : fWrong x M' = fWrong x M := by
  unfold fWrong
  rw [e.eW, e.1]
/-- the fewest, told of which -/
def few (b : Int) : Int := if b = -1 then 11 else onF b 12 0 0
theorem c_wrong_l {S : XS} {d : Nat} {x t : Int} {A N : YM} (hd : 4 ≤ d) (ht : t = bsh (A 75 0)) (ht2 : t ≤ 1024) (hx : 0 ≤ x ∧ x ≤ 1) {j : Nat} : ∀ {w b : Int} {M : YM} {l5 : Option YV}, 0 ≤ w → w + j = t → (-1 ≤ b ∧ b < 1024) → Rel M → eqn A M → tied M (M 77) sk0 (M 75 2) → ry S d 66 39 [some (yr 0), some (yi x), some (yi (few b)), some (yi b), some (yi w), l5] [] M N (fun r M' N' => ∃ v : Int, some (yi v) = r ∧ v = (fun B : Int => (if B = -1 then -1 else if x = 0 then onF B 12 0 0 else B)) (wrF (wV A) j w b) ∧ eqn A M') := by
  induction j with
  | zero =>
    intro w b M l5 h0 h1 hb R hq hT
    have eb : (Int32.ofInt 1 <<< (Int32.ofInt (M 1 1) &&& 31)).toInt = t := by
      rw [ht, ← hq.eqs.1, ← R.s.1]
      rfl
    have fb : 0 ≤ few b ∧ few b ≤ 11 := by
      unfold few
      split
      · decide
      · have := (bcE_eq (w := b) ⟨by omega, hb.2⟩).2
        omega
    refine r_run 6 (pc' := 50) (ls' := [some (yr 0), some (yi x), some (yi (few b)), some (yi b), some (yi w), l5]) (st' := [yi ((Int32.ofInt 1 <<< (Int32.ofInt (M 1 1) &&& 31)).toInt), yi w]) (M' := M) (N' := N) rfl ?_
    refine r_icmp_ge (pc := 50) f_66_50 (by omega) ⟨Int32.le_toInt _, Int32.toInt_lt _⟩ (fun h50 => ?_) (fun h50 => ?_)
    · refine r_run 2 (pc' := 89) (ls' := [some (yr 0), some (yi x), some (yi (few b)), some (yi b), some (yi w), l5]) (st' := [yi (-1), yi b]) (M' := M) (N' := N) rfl ?_
      refine r_icmp_ne (pc := 89) f_66_89 (by omega) (by omega) (fun h89 => ?_) (fun h89 => ?_)
      · refine r_run 1 (pc' := 97) (ls' := [some (yr 0), some (yi x), some (yi (few b)), some (yi b), some (yi w), l5]) (st' := [yi x]) (M' := M) (N' := N) rfl ?_
        refine r_if_ne (pc := 97) f_66_97 (by omega) (fun h97 => ?_) (fun h97 => ?_)
        · refine r_run 1 (pc' := 105) (ls' := [some (yr 0), some (yi x), some (yi (few b)), some (yi b), some (yi w), l5]) (st' := [yi b]) (M' := M) (N' := N) rfl ?_
          refine r_iret m_66 rfl f_66_105 ?_
          exact ⟨_, rfl, by show _ = if b = -1 then _ else if x = 0 then _ else _; rw [if_neg (by omega), if_neg (by omega)]; rfl, hq⟩
        · refine r_run 2 (pc' := 105) (ls' := [some (yr 0), some (yi x), some (yi (few b)), some (yi b), some (yi w), l5]) (st' := [yi (few b)]) (M' := M) (N' := N) rfl ?_
          refine r_iret m_66 rfl f_66_105 ?_
          exact ⟨_, rfl, by show _ = if b = -1 then _ else if x = 0 then _ else _; rw [if_neg (by omega), if_pos (by omega)]; unfold few; rw [if_neg (by omega)]; rfl, hq⟩
      · refine r_run 2 (pc' := 105) (ls' := [some (yr 0), some (yi x), some (yi (few b)), some (yi b), some (yi w), l5]) (st' := [yi (-1)]) (M' := M) (N' := N) rfl ?_
        refine r_iret m_66 rfl f_66_105 ?_
        exact ⟨_, rfl, by show _ = if b = -1 then _ else _; rw [if_pos (by omega)], hq⟩
    · exfalso; omega
  | succ j ih =>
    intro w b M l5 h0 h1 hb R hq hT
    have eb : (Int32.ofInt 1 <<< (Int32.ofInt (M 1 1) &&& 31)).toInt = t := by
      rw [ht, ← hq.eqs.1, ← R.s.1]
      rfl
    have fb : 0 ≤ few b ∧ few b ≤ 11 := by
      unfold few
      split
      · decide
      · have := (bcE_eq (w := b) ⟨by omega, hb.2⟩).2
        omega
    refine r_run 6 (pc' := 50) (ls' := [some (yr 0), some (yi x), some (yi (few b)), some (yi b), some (yi w), l5]) (st' := [yi ((Int32.ofInt 1 <<< (Int32.ofInt (M 1 1) &&& 31)).toInt), yi w]) (M' := M) (N' := N) rfl ?_
    refine r_icmp_ge (pc := 50) f_66_50 (by omega) ⟨Int32.le_toInt _, Int32.toInt_lt _⟩ (fun h50 => ?_) (fun h50 => ?_)
    · exfalso; omega
    · refine r_run 1 (pc' := 55) (ls' := [some (yr 0), some (yi x), some (yi (few b)), some (yi b), some (yi w), l5]) (st' := [yi w]) (M' := M) (N' := N) rfl ?_
      refine r_static (mj := 205) (as := [yi w]) (rest := []) f_66_55 (by decide) rfl m_205 rfl rfl rfl (Nat.le_of_ble_eq_true rfl) (by omega) (j_bitCount) ?_
      rintro _ _ _ ⟨v55, rfl, hv55, rfl, rfl⟩
      rw [(bcE_eq (w := w) ⟨h0, by omega⟩).1] at hv55
      have hc := (bcE_eq (w := w) ⟨h0, by omega⟩).2
      refine r_run 3 (pc' := 63) (ls' := [some (yr 0), some (yi x), some (yi (few b)), some (yi b), some (yi w), some (yi v55)]) (st' := [yi (few b), yi v55]) (M' := M) (N' := N) rfl ?_
      refine r_icmp_ge (pc := 63) f_66_63 (by omega) (by omega) (fun h63 => ?_) (fun h63 => ?_)
      · refine r_run 2 (pc' := 39) (ls' := [some (yr 0), some (yi x), some (yi (few b)), some (yi b), some (yi (w + 1)), some (yi v55)]) (st' := []) (M' := M) (N' := N) rfl ?_
        rw [wrF_no (by unfold few at h63; split at h63 <;> omega)]
        exact ih (l5 := some (yi v55)) (by omega) (by omega) (by omega) R hq hT
      · refine r_run 2 (pc' := 69) (ls' := [some (yr 0), some (yi x), some (yi (few b)), some (yi b), some (yi w), some (yi v55)]) (st' := [yi w, yr 0]) (M' := M) (N' := N) rfl ?_
        refine r_virtual (mj := 98) (b := 0) (as := [yi w]) (rest := []) f_66_69 (by decide) rfl m_98 (by decide) (by decide) (by decide) rfl rfl (Nat.le_of_ble_eq_true rfl) (by omega) (c_canW (w := w) (sk := sk0) R.s R.l hT) ?_
        rintro _ M2 _ ⟨v, rfl, ⟨f3, -, hv⟩, rfl⟩
        obtain ⟨hv1, hv2⟩ := wV_of hv
        rw [hq.eqs.eW] at hv1
        have q2 : eqn M M2 := eqn.of fun c hc => f3 c (by omega)
        have T2 : tied M2 (M2 77) sk0 (M2 75 2) := by
          rw [f3 77 (by decide), f3 75 (by decide)]
          exact hT.fr (f3 38 (by decide)) (by rw [f3 33 (by decide)])
        refine r_if_eq (pc := 72) f_66_72 (by omega) (fun h72 => ?_) (fun h72 => ?_)
        · refine r_run 2 (pc' := 39) (ls' := [some (yr 0), some (yi x), some (yi (few b)), some (yi b), some (yi (w + 1)), some (yi v55)]) (st' := []) (M' := M2) (N' := N) rfl ?_
          rw [wrF_no (by omega)]
          exact ih (l5 := some (yi v55)) (by omega) (by omega) (by omega) (R.congr q2) (hq.trans q2) T2
        · refine r_run 6 (pc' := 39) (ls' := [some (yr 0), some (yi x), some (yi v55), some (yi w), some (yi (w + 1)), some (yi v55)]) (st' := []) (M' := M2) (N' := N) rfl ?_
          have hf : v55 = few w := by unfold few; rw [if_neg (by omega)]; omega
          rw [wrF_yes (by unfold few at h63; split at h63 <;> omega), hf]
          exact ih (l5 := some (yi (few w))) (by omega) (by omega) (by omega) (R.congr q2) (hq.trans q2) T2
theorem c_wrong {S : XS} {M N : YM} {x : Int} (hqx : -2147483648 ≤ x ∧ x < 2147483648) (R : Rel M) : rm S 5 66 [yr 0, yi x] M N (fun r M' _ => ∃ v : Int, some (yi v) = r ∧ v = fWrong x M ∧ eqn M M') := by
  refine ⟨xe_66, m_66, Nat.le_of_ble_eq_true rfl, ?_⟩
  have g2 := R.l.1
  have g3 := R.l.2.1
  refine r_run 3 (pc' := 3) (ls' := [some (yr 0), some (yi x), none, none, none, none]) (st' := [yi 1, yi 0, yi x]) (M' := M) (N' := N) rfl ?_
  refine r_static (mj := 90) (as := [yi x, yi 0, yi 1]) (rest := []) f_66_3 (by decide) rfl m_90 rfl rfl rfl (Nat.le_of_ble_eq_true rfl) (by omega) (c_within (by omega) (by omega) (by omega)) ?_
  rintro _ _ _ ⟨v3, rfl, hv3, rfl, rfl⟩
  refine r_if_ne (pc := 6) f_66_6 (by omega) (fun h6 => ?_) (fun h6 => ?_)
  · refine r_run 12 (pc' := 33) (ls' := [some (yr 0), some (yi x), some (yi 11), some (yi (-1)), none, none]) (st' := [yi (-1), yi (M 1 2), yr 25, yr 33]) (M' := M) (N' := N) rfl ?_
    refine r_virtual (mj := 35) (b := 33) (as := [yr 25, yi (M 1 2), yi (-1)]) (rest := []) f_66_33 (by decide) rfl m_35 (by decide) (by decide) (by decide) rfl rfl (Nat.le_of_ble_eq_true rfl) (by omega) (c_tie (L := M 77) (sk := fun k => if k = -1 then 1 else 0) (by omega) (by omega) (by rw [g2]; exact R.l.ok) (fun k => rfl) (by rw [g2]; exact R.l.clk)) ?_
    rintro _ M2 _ ⟨rfl, ⟨R', v5, hM2, hT, hR, hv5⟩, rfl⟩
    have f2 : ∀ c, c ≠ 33 → c ≠ 38 → M2 c = M c := fun c h1 h2 => by
      rw [← hM2, yu_row, yrow_ne h1, yrow_ne h2]
    have k38 : M2 38 = R' := by rw [← hM2, yu_row, yrow_ne (by decide), yrow_at]
    have k5 : M2 33 5 = v5 := by rw [← hM2, yu_at]
    have hT2 : tied M2 (M2 77) sk0 (M2 75 2) := by
      rw [f2 77 (by decide) (by decide), f2 75 (by decide) (by decide)]
      unfold tied
      rw [k38, k5]
      rw [g2] at hT
      exact ⟨tieOk_congr sk_none hT, hR, hv5⟩
    have q2 : eqn M M2 := eqn.of fun c hc => f2 c (by omega) (by omega)
    refine r_run 2 (pc' := 39) (ls' := [some (yr 0), some (yi x), some (yi 11), some (yi (-1)), some (yi 0), none]) (st' := []) (M' := M2) (N' := N) rfl ?_
    have hb := bsh_in R.s.2.1
    refine r_post (c_wrong_l (A := M) (t := bsh (M 75 0)) (b := -1) (j := (bsh (M 75 0)).toNat) (l5 := none) (by omega) rfl hb.2 (by omega) (Int.le_refl 0) (by omega) (by omega) (R.congr q2) q2 hT2) ?_
    rintro _ _ _ ⟨v, rfl, hv, hq⟩
    refine ⟨v, rfl, ?_, hq⟩
    unfold fWrong
    rw [if_neg (by omega)]
    exact hv
  · refine r_run 1 (pc' := 11) (ls' := [some (yr 0), some (yi x), none, none, none, none]) (st' := [yi (-2)]) (M' := M) (N' := N) rfl ?_
    refine r_iret m_66 rfl f_66_11 ?_
    exact ⟨_, rfl, by unfold fWrong; rw [if_pos (by omega)], eqn.refl⟩
theorem m_wrong_l {S : XS} {d : Nat} {x t : Int} {A N : YM} (hd : 4 ≤ d) (ht : t = bsh (A 75 0)) (ht2 : t ≤ 1024) (hx : 0 ≤ x ∧ x ≤ 1) {j : Nat} : ∀ {w b : Int} {M : YM}, 0 ≤ w → w + j = t → (-1 ≤ b ∧ b < 1024) → Rel M → eqn A M → ry S d 156 16 [some (yr 75), some (yi x), some (yi b), some (yi w)] [] M N (fun r M' N' => ∃ v : Int, some (yi v) = r ∧ v = (fun B : Int => (if B = -1 then -1 else if x = 0 then onF B 12 0 0 else B)) (wrF (wV A) j w b) ∧ eqn A M') := by
  induction j with
  | zero =>
    intro w b M h0 h1 hb R hq
    have eb : (Int32.ofInt 1 <<< (Int32.ofInt (M 75 0) &&& 31)).toInt = t := by
      rw [ht, ← hq.eqs.1]
      rfl
    refine r_run 5 (pc' := 23) (ls' := [some (yr 75), some (yi x), some (yi b), some (yi w)]) (st' := [yi ((Int32.ofInt 1 <<< (Int32.ofInt (M 75 0) &&& 31)).toInt), yi w]) (M' := M) (N' := N) rfl ?_
    refine r_icmp_ge (pc := 23) f_156_23 (by omega) ⟨Int32.le_toInt _, Int32.toInt_lt _⟩ (fun h23 => ?_) (fun h23 => ?_)
    · refine r_run 2 (pc' := 69) (ls' := [some (yr 75), some (yi x), some (yi b), some (yi w)]) (st' := [yi 1, yi x]) (M' := M) (N' := N) rfl ?_
      refine r_icmp_eq (pc := 69) f_156_69 (by omega) (by omega) (fun h69 => ?_) (fun h69 => ?_)
      · refine r_run 2 (pc' := 85) (ls' := [some (yr 75), some (yi x), some (yi b), some (yi w)]) (st' := [yi b]) (M' := M) (N' := N) rfl ?_
        refine r_iret m_156 rfl f_156_85 ?_
        exact ⟨_, rfl, by show _ = if b = -1 then _ else if x = 0 then _ else _; split; omega; rw [if_neg (by omega)]; rfl, hq⟩
      · refine r_run 2 (pc' := 74) (ls' := [some (yr 75), some (yi x), some (yi b), some (yi w)]) (st' := [yi (-1), yi b]) (M' := M) (N' := N) rfl ?_
        refine r_icmp_ne (pc := 74) f_156_74 (by omega) (by omega) (fun h74 => ?_) (fun h74 => ?_)
        · refine r_run 1 (pc' := 82) (ls' := [some (yr 75), some (yi x), some (yi b), some (yi w)]) (st' := [yi b]) (M' := M) (N' := N) rfl ?_
          refine r_static (mj := 117) (as := [yi b]) (rest := []) f_156_82 (by decide) rfl m_117 rfl rfl rfl (Nat.le_of_ble_eq_true rfl) (by omega) (m_ones ) ?_
          rintro _ _ _ ⟨v82, rfl, hv82, rfl, rfl⟩
          refine r_iret m_156 rfl f_156_85 ?_
          exact ⟨_, rfl, by show _ = if b = -1 then _ else if x = 0 then _ else _; rw [if_neg (by omega), if_pos (by omega)]; exact hv82, hq⟩
        · refine r_run 2 (pc' := 85) (ls' := [some (yr 75), some (yi x), some (yi b), some (yi w)]) (st' := [yi b]) (M' := M) (N' := N) rfl ?_
          refine r_iret m_156 rfl f_156_85 ?_
          exact ⟨_, rfl, by show _ = if b = -1 then _ else _; rw [if_pos (by omega)]; omega, hq⟩
    · exfalso; omega
  | succ j ih =>
    intro w b M h0 h1 hb R hq
    have eb : (Int32.ofInt 1 <<< (Int32.ofInt (M 75 0) &&& 31)).toInt = t := by
      rw [ht, ← hq.eqs.1]
      rfl
    refine r_run 5 (pc' := 23) (ls' := [some (yr 75), some (yi x), some (yi b), some (yi w)]) (st' := [yi ((Int32.ofInt 1 <<< (Int32.ofInt (M 75 0) &&& 31)).toInt), yi w]) (M' := M) (N' := N) rfl ?_
    refine r_icmp_ge (pc := 23) f_156_23 (by omega) ⟨Int32.le_toInt _, Int32.toInt_lt _⟩ (fun h23 => ?_) (fun h23 => ?_)
    · exfalso; omega
    · refine r_run 2 (pc' := 28) (ls' := [some (yr 75), some (yi x), some (yi b), some (yi w)]) (st' := [yi (-1), yi b]) (M' := M) (N' := N) rfl ?_
      refine r_icmp_eq (pc := 28) f_156_28 (by omega) (by omega) (fun h28 => ?_) (fun h28 => ?_)
      · refine r_run 2 (pc' := 44) (ls' := [some (yr 75), some (yi x), some (yi b), some (yi w)]) (st' := [yi w, yr 75]) (M' := M) (N' := N) rfl ?_
        refine r_virtual (mj := 145) (b := 75) (as := [yi w]) (rest := []) f_156_44 (by decide) rfl m_145 (by decide) (by decide) (by decide) rfl rfl (Nat.le_of_ble_eq_true rfl) (by omega) (m_leaves (w := w) (by have := R.s.2.1; omega) (by have := R.s.2.1; omega) R.s.msy) ?_
        rintro _ M2 _ ⟨rfl, ⟨B, E, hM2, hB, hE⟩, rfl⟩
        have k34 : M2 90 = B := by rw [← hM2, yrow_ne (by decide), yrow_at]
        have k35 : M2 91 = E := by rw [← hM2, yrow_at]
        have f2 : ∀ c, c ≠ 90 → c ≠ 91 → M2 c = M c := fun c h1 h2 => by rw [← hM2, yrow_ne h2, yrow_ne h1]
        have q1 : eqn M M2 := eqn.of fun c hc => f2 c (by omega) (by omega)
        refine r_run 2 (pc' := 49) (ls' := [some (yr 75), some (yi x), some (yi b), some (yi w)]) (st' := [yi 0, yr 75]) (M' := M2) (N' := N) rfl ?_
        refine r_virtual (mj := 147) (b := 75) (as := [yi 0]) (rest := []) f_156_49 (by decide) rfl m_147 (by decide) (by decide) (by decide) rfl rfl (Nat.le_of_ble_eq_true rfl) (by omega) (m_canBeK (B := lB M w) (E := lE M w) (w := 0) (fun q hq => ⟨by rw [k34]; exact hB q hq, by rw [k35]; exact hE q hq, by have := lB_in R.s w q hq; omega, by have := lE_in R.s w q hq; omega⟩) (R.congr q1).l) ?_
        rintro _ M3 _ ⟨v, rfl, ⟨f3, hv⟩, rfl⟩
        rw [f2 77 (by decide) (by decide), f2 75 (by decide) (by decide)] at hv
        have e1 := spO_congr (B := lB M w) (E := lE M w) (L := M 77) (n := M 75 2) (fun q _ => rfl) (fun q _ => rfl) (fun k k0 k1 => bit_zero ⟨k0, by have := R.l.2.1; omega⟩ : ∀ k, 0 ≤ k → k < M 75 2 → bit 0 k = sk0 k)
        have e2 := spY_congr (B := lB M w) (E := lE M w) (L := M 77) (n := M 75 2) (fun q _ => rfl) (fun q _ => rfl) (fun k k0 k1 => bit_zero ⟨k0, by have := R.l.2.1; omega⟩ : ∀ k, 0 ≤ k → k < M 75 2 → bit 0 k = sk0 k)
        rw [e1, e2] at hv
        obtain ⟨hv1, hv2⟩ := wV_of hv
        rw [hq.eqs.eW] at hv1
        have q2 : eqn M M3 := eqn.of fun c hc => by rw [f3 c (by omega), f2 c (by omega) (by omega)]
        refine r_if_eq (pc := 52) f_156_52 (by omega) (fun h52 => ?_) (fun h52 => ?_)
        · refine r_run 4 (pc' := 16) (ls' := [some (yr 75), some (yi x), some (yi b), some (yi (w + 1))]) (st' := []) (M' := M3) (N' := N) rfl ?_
          rw [wrF_no (by omega)]
          exact ih (by omega) (by omega) (by omega) (R.congr q2) (hq.trans q2)
        · refine r_run 5 (pc' := 16) (ls' := [some (yr 75), some (yi x), some (yi w), some (yi (w + 1))]) (st' := []) (M' := M3) (N' := N) rfl ?_
          rw [wrF_yes (by omega)]
          exact ih (by omega) (by omega) (by omega) (R.congr q2) (hq.trans q2)
      · refine r_run 1 (pc' := 32) (ls' := [some (yr 75), some (yi x), some (yi b), some (yi w)]) (st' := [yi w]) (M' := M) (N' := N) rfl ?_
        refine r_static (mj := 117) (as := [yi w]) (rest := []) f_156_32 (by decide) rfl m_117 rfl rfl rfl (Nat.le_of_ble_eq_true rfl) (by omega) (m_ones) ?_
        rintro _ _ _ ⟨v32, rfl, hv32, rfl, rfl⟩
        have hc32 := (bcE_eq (w := w) ⟨by omega, by omega⟩).2
        refine r_run 1 (pc' := 36) (ls' := [some (yr 75), some (yi x), some (yi b), some (yi w)]) (st' := [yi b, yi v32]) (M' := M) (N' := N) rfl ?_
        refine r_static (mj := 117) (as := [yi b]) (rest := [yi v32]) f_156_36 (by decide) rfl m_117 rfl rfl rfl (Nat.le_of_ble_eq_true rfl) (by omega) (m_ones) ?_
        rintro _ _ _ ⟨v36, rfl, hv36, rfl, rfl⟩
        have hc36 := (bcE_eq (w := b) ⟨by omega, by omega⟩).2
        refine r_icmp_ge (pc := 39) f_156_39 (by omega) (by omega) (fun h39 => ?_) (fun h39 => ?_)
        · refine r_run 2 (pc' := 16) (ls' := [some (yr 75), some (yi x), some (yi b), some (yi (w + 1))]) (st' := []) (M' := M) (N' := N) rfl ?_
          rw [wrF_no (by omega)]
          exact ih (by omega) (by omega) (by omega) R hq
        · refine r_run 2 (pc' := 44) (ls' := [some (yr 75), some (yi x), some (yi b), some (yi w)]) (st' := [yi w, yr 75]) (M' := M) (N' := N) rfl ?_
          refine r_virtual (mj := 145) (b := 75) (as := [yi w]) (rest := []) f_156_44 (by decide) rfl m_145 (by decide) (by decide) (by decide) rfl rfl (Nat.le_of_ble_eq_true rfl) (by omega) (m_leaves (w := w) (by have := R.s.2.1; omega) (by have := R.s.2.1; omega) R.s.msy) ?_
          rintro _ M2 _ ⟨rfl, ⟨B, E, hM2, hB, hE⟩, rfl⟩
          have k34 : M2 90 = B := by rw [← hM2, yrow_ne (by decide), yrow_at]
          have k35 : M2 91 = E := by rw [← hM2, yrow_at]
          have f2 : ∀ c, c ≠ 90 → c ≠ 91 → M2 c = M c := fun c h1 h2 => by rw [← hM2, yrow_ne h2, yrow_ne h1]
          have q1 : eqn M M2 := eqn.of fun c hc => f2 c (by omega) (by omega)
          refine r_run 2 (pc' := 49) (ls' := [some (yr 75), some (yi x), some (yi b), some (yi w)]) (st' := [yi 0, yr 75]) (M' := M2) (N' := N) rfl ?_
          refine r_virtual (mj := 147) (b := 75) (as := [yi 0]) (rest := []) f_156_49 (by decide) rfl m_147 (by decide) (by decide) (by decide) rfl rfl (Nat.le_of_ble_eq_true rfl) (by omega) (m_canBeK (B := lB M w) (E := lE M w) (w := 0) (fun q hq => ⟨by rw [k34]; exact hB q hq, by rw [k35]; exact hE q hq, by have := lB_in R.s w q hq; omega, by have := lE_in R.s w q hq; omega⟩) (R.congr q1).l) ?_
          rintro _ M3 _ ⟨v, rfl, ⟨f3, hv⟩, rfl⟩
          rw [f2 77 (by decide) (by decide), f2 75 (by decide) (by decide)] at hv
          have e1 := spO_congr (B := lB M w) (E := lE M w) (L := M 77) (n := M 75 2) (fun q _ => rfl) (fun q _ => rfl) (fun k k0 k1 => bit_zero ⟨k0, by have := R.l.2.1; omega⟩ : ∀ k, 0 ≤ k → k < M 75 2 → bit 0 k = sk0 k)
          have e2 := spY_congr (B := lB M w) (E := lE M w) (L := M 77) (n := M 75 2) (fun q _ => rfl) (fun q _ => rfl) (fun k k0 k1 => bit_zero ⟨k0, by have := R.l.2.1; omega⟩ : ∀ k, 0 ≤ k → k < M 75 2 → bit 0 k = sk0 k)
          rw [e1, e2] at hv
          obtain ⟨hv1, hv2⟩ := wV_of hv
          rw [hq.eqs.eW] at hv1
          have q2 : eqn M M3 := eqn.of fun c hc => by rw [f3 c (by omega), f2 c (by omega) (by omega)]
          refine r_if_eq (pc := 52) f_156_52 (by omega) (fun h52 => ?_) (fun h52 => ?_)
          · refine r_run 4 (pc' := 16) (ls' := [some (yr 75), some (yi x), some (yi b), some (yi (w + 1))]) (st' := []) (M' := M3) (N' := N) rfl ?_
            rw [wrF_no (by omega)]
            exact ih (by omega) (by omega) (by omega) (R.congr q2) (hq.trans q2)
          · refine r_run 5 (pc' := 16) (ls' := [some (yr 75), some (yi x), some (yi w), some (yi (w + 1))]) (st' := []) (M' := M3) (N' := N) rfl ?_
            rw [wrF_yes (by omega)]
            exact ih (by omega) (by omega) (by omega) (R.congr q2) (hq.trans q2)
theorem m_wrong {S : XS} {M N : YM} {x : Int} (hqx : -2147483648 ≤ x ∧ x < 2147483648) (R : Rel M) : rm S 4 156 [yr 75, yi x] M N (fun r M' _ => ∃ v : Int, some (yi v) = r ∧ v = fWrong x M ∧ eqn M M') := by
  refine ⟨xe_156, m_156, Nat.le_of_ble_eq_true rfl, ?_⟩
  refine r_run 3 (pc' := 3) (ls' := [some (yr 75), some (yi x), none, none]) (st' := [yi 1, yi 0, yi x]) (M' := M) (N' := N) rfl ?_
  refine r_static (mj := 112) (as := [yi x, yi 0, yi 1]) (rest := []) f_156_3 (by decide) rfl m_112 rfl rfl rfl (Nat.le_of_ble_eq_true rfl) (by omega) (m_in (by omega) (by omega) (by omega)) ?_
  rintro _ _ _ ⟨v3, rfl, hv3, rfl, rfl⟩
  refine r_if_ne (pc := 6) f_156_6 (by omega) (fun h6 => ?_) (fun h6 => ?_)
  · refine r_run 4 (pc' := 16) (ls' := [some (yr 75), some (yi x), some (yi (-1)), some (yi 0)]) (st' := []) (M' := M) (N' := N) rfl ?_
    have hb := bsh_in R.s.2.1
    refine r_post (m_wrong_l (A := M) (t := bsh (M 75 0)) (b := -1) (j := (bsh (M 75 0)).toNat) (by omega) rfl hb.2 (by omega) (Int.le_refl 0) (by omega) (by omega) R eqn.refl) ?_
    rintro _ _ _ ⟨v, rfl, hv, hq⟩
    refine ⟨v, rfl, ?_, hq⟩
    unfold fWrong
    rw [if_neg (by omega)]
    exact hv
  · refine r_run 1 (pc' := 11) (ls' := [some (yr 75), some (yi x), none, none]) (st' := [yi (-2)]) (M' := M) (N' := N) rfl ?_
    refine r_iret m_156 rfl f_156_11 ?_
    exact ⟨_, rfl, by unfold fWrong; rw [if_pos (by omega)], eqn.refl⟩
theorem p_wrong {S : XS} {M N : YM} {x : Int} (hqx : -2147483648 ≤ x ∧ x < 2147483648) (R : Rel M) : pri S 66 156 [yi x] M N := pri_q (fWrong x) (rm_deep (by decide) (c_wrong hqx R)) (fun M N R => rm_deep (by decide) (m_wrong hqx R)) (fun M' _ e => fWrong_eq e.eqs) R
noncomputable def blV (M : YM) (k : Int) : Int := @ite Int (spY (lB M 0) (lE M 0) (M 77) (fun i => if i = k then 1 else 0) (M 75 2)) (Classical.propDecidable _) 0 1
theorem blV_of {M : YM} {k v : Int} {P : Prop} (h : (v = 1 ∧ spY (lB M 0) (lE M 0) (M 77) (fun i => if i = k then 1 else 0) (M 75 2) ∧ P) ∨ (v = 0 ∧ ¬ spY (lB M 0) (lE M 0) (M 77) (fun i => if i = k then 1 else 0) (M 75 2))) : (v = 1 ∧ blV M k = 0) ∨ (v = 0 ∧ blV M k = 1) := by
  rcases h with ⟨a, b, -⟩ | ⟨a, b⟩
  · exact Or.inl ⟨a, if_pos b⟩
  · exact Or.inr ⟨a, if_neg b⟩
theorem eqs.eBl {M M' : YM} (h : eqs M M') : blV M' = blV M := by
  funext k
  unfold blV
  rw [h.eB, h.eE, h.2.1, h.2.2.2.2]
noncomputable def fBlame (M : YM) : Int := if nV M = 1 then 0 else bitsR (blV M) (M 75 2).toNat 0 0
theorem fBlame_eq {M M' : YM} (e : eqs M M') : fBlame M' = fBlame M := by
  unfold fBlame
  rw [e.eV, e.eBl, e.2.1]
theorem c_blame_l {S : XS} {d : Nat} {n : Int} {A N : YM} (hd : 5 ≤ d) (hn : n = A 75 2) {j : Nat} : ∀ {k a : Int} {M : YM}, 0 ≤ k → k + j = n → (-2147483648 ≤ a ∧ a < 2147483648) → Rel M → eqn A M → (∀ q, in6 q → M 34 q = lB M 0 q ∧ M 35 q = lE M 0 q) → ry S d 67 13 [some (yr 0), some (yi a), some (yi k)] [] M N (fun r M' N' => ∃ v : Int, some (yi v) = r ∧ v = bitsR (blV A) j k a ∧ eqn A M') := by
  induction j with
  | zero =>
    intro k a M h0 h1 ha R hq hBE
    have g2 := R.l.1
    have g3 := R.l.2.1
    have g4 := hq.eqs.2.1
    refine r_run 4 (pc' := 21) (ls' := [some (yr 0), some (yi a), some (yi k)]) (st' := [yi (M 1 2), yi k]) (M' := M) (N' := N) rfl ?_
    refine r_icmp_ge (pc := 21) f_67_21 (by omega) (by omega) (fun h21 => ?_) (fun h21 => ?_)
    · refine r_run 1 (pc' := 66) (ls' := [some (yr 0), some (yi a), some (yi k)]) (st' := [yi a]) (M' := M) (N' := N) rfl ?_
      refine r_iret m_67 rfl f_67_66 ?_
      exact ⟨_, rfl, rfl, hq⟩
    · exfalso; omega
  | succ j ih =>
    intro k a M h0 h1 ha R hq hBE
    have g2 := R.l.1
    have g3 := R.l.2.1
    have g4 := hq.eqs.2.1
    refine r_run 4 (pc' := 21) (ls' := [some (yr 0), some (yi a), some (yi k)]) (st' := [yi (M 1 2), yi k]) (M' := M) (N' := N) rfl ?_
    refine r_icmp_ge (pc := 21) f_67_21 (by omega) (by omega) (fun h21 => ?_) (fun h21 => ?_)
    · exfalso; omega
    · refine r_run 8 (pc' := 40) (ls' := [some (yr 0), some (yi a), some (yi k)]) (st' := [yi k, yi (M 1 2), yr 25, yr 33]) (M' := M) (N' := N) rfl ?_
      refine r_virtual (mj := 35) (b := 33) (as := [yr 25, yi (M 1 2), yi k]) (rest := []) f_67_40 (by decide) rfl m_35 (by decide) (by decide) (by decide) rfl rfl (Nat.le_of_ble_eq_true rfl) (by omega) (c_tie (L := M 77) (sk := fun i => if i = k then 1 else 0) (by omega) (by omega) (by rw [g2]; exact R.l.ok) (fun k => rfl) (by rw [g2]; exact R.l.clk)) ?_
      rintro _ M2 _ ⟨rfl, ⟨R', v5, hM2, hT, hR, hv5⟩, rfl⟩
      have f2 : ∀ c, c ≠ 33 → c ≠ 38 → M2 c = M c := fun c h1 h2 => by
        rw [← hM2, yu_row, yrow_ne h1, yrow_ne h2]
      have k38 : M2 38 = R' := by rw [← hM2, yu_row, yrow_ne (by decide), yrow_at]
      have k5 : M2 33 5 = v5 := by rw [← hM2, yu_at]
      have hT2 : tied M2 (M 77) (fun i => if i = k then 1 else 0) (M 75 2) := by
        unfold tied
        rw [k38, k5]
        rw [g2] at hT
        exact ⟨hT, hR, hv5⟩
      have q2 : eqn M M2 := eqn.of fun c hc => f2 c (by omega) (by omega)
      refine r_run 2 (pc' := 47) (ls' := [some (yr 0), some (yi a), some (yi k)]) (st' := [yr 33]) (M' := M2) (N' := N) rfl ?_
      refine r_virtual (mj := 38) (b := 33) (as := []) (rest := []) f_67_47 (by decide) rfl m_38 (by decide) (by decide) (by decide) rfl rfl (Nat.le_of_ble_eq_true rfl) (by omega) (c_cutK (B := lB M 0) (E := lE M 0) (L := M 77) (sk := fun i => if i = k then 1 else 0) (n := M 75 2) (fun q hq => ⟨by rw [f2 34 (by decide) (by decide)]; exact (hBE q hq).1, by rw [f2 35 (by decide) (by decide)]; exact (hBE q hq).2, by have := lB_in R.s 0 q hq; omega, by have := lE_in R.s 0 q hq; omega⟩) R.l.ok hT2) ?_
      rintro _ M3 _ ⟨v, rfl, ⟨f3, hv⟩, rfl⟩
      have hb := blV_of hv
      rw [hq.eqs.eBl] at hb
      have q3 : eqn M M3 := eqn.of fun c hc => by rw [f3 c (by omega) (by omega), f2 c (by omega) (by omega)]
      have b3 : ∀ q, in6 q → M3 34 q = lB M3 0 q ∧ M3 35 q = lE M3 0 q := fun q hq => by
        rw [q3.eqs.eB, q3.eqs.eE, f3 34 (by decide) (by decide), f3 35 (by decide) (by decide), f2 34 (by decide) (by decide), f2 35 (by decide) (by decide)]
        exact hBE q hq
      refine r_if_eq (pc := 50) f_67_50 (by omega) (fun h50 => ?_) (fun h50 => ?_)
      · refine r_run 2 (pc' := 13) (ls' := [some (yr 0), some (yi a), some (yi (k + 1))]) (st' := []) (M' := M3) (N' := N) rfl ?_
        rw [bitsR_no (show ¬ blV A k = 0 by omega)]
        exact ih (by omega) (by omega) ha (R.congr q3) (hq.trans q3) b3
      · refine r_run 8 (pc' := 13) (ls' := [some (yr 0), some (yi ((Int32.ofInt a ||| Int32.ofInt ((Int32.ofInt 1 <<< (Int32.ofInt k &&& 31)).toInt)).toInt)), some (yi (k + 1))]) (st' := []) (M' := M3) (N' := N) rfl ?_
        rw [bitsR_yes (show blV A k = 0 by omega)]
        exact ih (by omega) (by omega) (bor_in _ _) (R.congr q3) (hq.trans q3) b3
theorem c_blame {S : XS} {M N : YM} (R : Rel M) : rm S 6 67 [yr 0] M N (fun r M' _ => ∃ v : Int, some (yi v) = r ∧ v = fBlame M ∧ eqn M M') := by
  refine ⟨xe_67, m_67, Nat.le_of_ble_eq_true rfl, ?_⟩
  refine r_run 1 (pc' := 1) (ls' := [some (yr 0), none, none]) (st' := [yr 0]) (M' := M) (N' := N) rfl ?_
  refine r_virtual (mj := 97) (b := 0) (as := []) (rest := []) f_67_1 (by decide) rfl m_97 (by decide) (by decide) (by decide) rfl rfl (Nat.le_of_ble_eq_true rfl) (by omega) (c_can1 R) ?_
  rintro _ M2 _ ⟨v, rfl, ⟨hv, hv01, hat, hBE, hfr, R2, hq, hT⟩, rfl⟩
  refine r_if_eq (pc := 4) f_67_4 (by omega) (fun h4 => ?_) (fun h4 => ?_)
  · refine r_run 4 (pc' := 13) (ls' := [some (yr 0), some (yi 0), some (yi 0)]) (st' := []) (M' := M2) (N' := N) rfl ?_
    refine r_post (c_blame_l (A := M) (j := (M 75 2).toNat) (by omega) rfl (Int.le_refl 0) (by have := R.l.2.1; omega) (by decide) R2 hq (fun q hq' => by rw [hq.eqs.eB, hq.eqs.eE]; exact hBE q hq')) ?_
    rintro _ _ _ ⟨v', rfl, hv', hq'⟩
    exact ⟨v', rfl, by unfold fBlame; rw [if_neg (by omega)]; exact hv', hq'⟩
  · refine r_run 1 (pc' := 8) (ls' := [some (yr 0), none, none]) (st' := [yi 0]) (M' := M2) (N' := N) rfl ?_
    refine r_iret m_67 rfl f_67_8 ?_
    exact ⟨_, rfl, by unfold fBlame; rw [if_pos (by omega)], hq⟩
theorem m_blame_l {S : XS} {d : Nat} {n : Int} {A N : YM} (hd : 2 ≤ d) (hn : n = A 75 2) {j : Nat} : ∀ {k a : Int} {M : YM}, 0 ≤ k → k + j = n → (-2147483648 ≤ a ∧ a < 2147483648) → Rel M → eqn A M → (∀ q, in6 q → M 90 q = lB M 0 q ∧ M 91 q = lE M 0 q) → ry S d 157 9 [some (yr 75), some (yi a), some (yi 0), some (yi k)] [] M N (fun r M' N' => ∃ v : Int, some (yi v) = r ∧ v = bitsR (blV A) j k a ∧ eqn A M') := by
  induction j with
  | zero =>
    intro k a M h0 h1 ha R hq hBE
    have g3 := R.l.2.1
    have g4 := hq.eqs.2.1
    refine r_run 3 (pc' := 14) (ls' := [some (yr 75), some (yi a), some (yi 0), some (yi k)]) (st' := [yi (M 75 2), yi k]) (M' := M) (N' := N) rfl ?_
    refine r_icmp_ge (pc := 14) f_157_14 (by omega) (by omega) (fun h14 => ?_) (fun h14 => ?_)
    · refine r_run 1 (pc' := 48) (ls' := [some (yr 75), some (yi a), some (yi 0), some (yi k)]) (st' := [yi a]) (M' := M) (N' := N) rfl ?_
      refine r_iret m_157 rfl f_157_48 ?_
      exact ⟨_, rfl, rfl, hq⟩
    · exfalso; omega
  | succ j ih =>
    intro k a M h0 h1 ha R hq hBE
    have g3 := R.l.2.1
    have g4 := hq.eqs.2.1
    refine r_run 3 (pc' := 14) (ls' := [some (yr 75), some (yi a), some (yi 0), some (yi k)]) (st' := [yi (M 75 2), yi k]) (M' := M) (N' := N) rfl ?_
    refine r_icmp_ge (pc := 14) f_157_14 (by omega) (by omega) (fun h14 => ?_) (fun h14 => ?_)
    · exfalso; omega
    · refine r_run 1 (pc' := 18) (ls' := [some (yr 75), some (yi a), some (yi 0), some (yi k)]) (st' := [yi 0]) (M' := M) (N' := N) rfl ?_
      refine r_if_ne (pc := 18) f_157_18 (by omega) (fun h18 => ?_) (fun h18 => ?_)
      · exact absurd h18 (by decide)
      · refine r_run 5 (pc' := 26) (ls' := [some (yr 75), some (yi a), some (yi 0), some (yi k)]) (st' := [yi ((Int32.ofInt 1 <<< (Int32.ofInt k &&& 31)).toInt), yr 75, yi a]) (M' := M) (N' := N) rfl ?_
        refine r_virtual (mj := 147) (b := 75) (as := [yi ((Int32.ofInt 1 <<< (Int32.ofInt k &&& 31)).toInt)]) (rest := [yi a]) f_157_26 (by decide) rfl m_147 (by decide) (by decide) (by decide) rfl rfl (Nat.le_of_ble_eq_true rfl) (by omega) (m_canBeK (B := lB M 0) (E := lE M 0) (w := bsh k) (fun q hq => ⟨(hBE q hq).1, (hBE q hq).2, by have := lB_in R.s 0 q hq; omega, by have := lE_in R.s 0 q hq; omega⟩) R.l) ?_
        rintro _ M3 _ ⟨v, rfl, ⟨f3, hv⟩, rfl⟩
        have e1 := spO_congr (B := lB M 0) (E := lE M 0) (L := M 77) (n := M 75 2) (fun q _ => rfl) (fun q _ => rfl) (fun i i0 i1 => bit_bsh ⟨h0, by omega⟩ ⟨i0, by omega⟩ : ∀ i, 0 ≤ i → i < M 75 2 → bit (bsh k) i = (fun i => if i = k then 1 else 0) i)
        have e2 := spY_congr (B := lB M 0) (E := lE M 0) (L := M 77) (n := M 75 2) (fun q _ => rfl) (fun q _ => rfl) (fun i i0 i1 => bit_bsh ⟨h0, by omega⟩ ⟨i0, by omega⟩ : ∀ i, 0 ≤ i → i < M 75 2 → bit (bsh k) i = (fun i => if i = k then 1 else 0) i)
        rw [e1, e2] at hv
        have hb := blV_of hv
        rw [hq.eqs.eBl] at hb
        have q3 : eqn M M3 := eqn.of fun c hc => f3 c (by omega)
        have b3 : ∀ q, in6 q → M3 90 q = lB M3 0 q ∧ M3 91 q = lE M3 0 q := fun q hq => by
          rw [q3.eqs.eB, q3.eqs.eE, f3 90 (by decide), f3 91 (by decide)]
          exact hBE q hq
        refine r_if_eq (pc := 29) f_157_29 (by omega) (fun h29 => ?_) (fun h29 => ?_)
        · refine r_run 5 (pc' := 9) (ls' := [some (yr 75), some (yi ((Int32.ofInt a ||| Int32.ofInt 0).toInt)), some (yi 0), some (yi (k + 1))]) (st' := []) (M' := M3) (N' := N) rfl ?_
          rw [bitsR_no (show ¬ blV A k = 0 by omega)]
          refine r_loc 1 (b := a) rfl (bor_zero ha) ?_
          exact ih (by omega) (by omega) ha (R.congr q3) (hq.trans q3) b3
        · refine r_run 8 (pc' := 9) (ls' := [some (yr 75), some (yi ((Int32.ofInt a ||| Int32.ofInt ((Int32.ofInt 1 <<< (Int32.ofInt k &&& 31)).toInt)).toInt)), some (yi 0), some (yi (k + 1))]) (st' := []) (M' := M3) (N' := N) rfl ?_
          rw [bitsR_yes (show blV A k = 0 by omega)]
          exact ih (by omega) (by omega) (bor_in _ _) (R.congr q3) (hq.trans q3) b3
theorem m_blame {S : XS} {M N : YM} (R : Rel M) : rm S 4 157 [yr 75] M N (fun r M' _ => ∃ v : Int, some (yi v) = r ∧ v = fBlame M ∧ eqn M M') := by
  refine ⟨xe_157, m_157, Nat.le_of_ble_eq_true rfl, ?_⟩
  refine r_run 3 (pc' := 3) (ls' := [some (yr 75), some (yi 0), none, none]) (st' := [yr 75]) (M' := M) (N' := N) rfl ?_
  refine r_virtual (mj := 148) (b := 75) (as := []) (rest := []) f_157_3 (by decide) rfl m_148 (by decide) (by decide) (by decide) rfl rfl (Nat.le_of_ble_eq_true rfl) (by omega) (m_can1 R) ?_
  rintro _ M2 _ ⟨v, rfl, ⟨hv, hv01, hat, hBE, hfr, R2, hq⟩, rfl⟩
  refine r_run 3 (pc' := 9) (ls' := [some (yr 75), some (yi 0), some (yi v), some (yi 0)]) (st' := []) (M' := M2) (N' := N) rfl ?_
  rcases hv01 with h01 | h01
  · subst h01
    refine r_post (m_blame_l (A := M) (j := (M 75 2).toNat) (by omega) rfl (Int.le_refl 0) (by have := R.l.2.1; omega) (by decide) R2 hq (fun q hq' => by rw [hq.eqs.eB, hq.eqs.eE]; exact hBE q hq')) ?_
    rintro _ _ _ ⟨v', rfl, hv', hq'⟩
    exact ⟨v', rfl, by unfold fBlame; rw [if_neg (by omega)]; exact hv', hq'⟩
  · have g3 := R2.l.2.1
    refine r_run 3 (pc' := 14) (ls' := [some (yr 75), some (yi 0), some (yi v), some (yi 0)]) (st' := [yi (M2 75 2), yi 0]) (M' := M2) (N' := N) rfl ?_
    refine r_icmp_ge (pc := 14) f_157_14 (by omega) (by omega) (fun h14 => ?_) (fun h14 => ?_)
    · refine r_run 1 (pc' := 48) (ls' := [some (yr 75), some (yi 0), some (yi v), some (yi 0)]) (st' := [yi 0]) (M' := M2) (N' := N) rfl ?_
      refine r_iret m_157 rfl f_157_48 ?_
      exact ⟨_, rfl, by unfold fBlame; rw [if_pos (by omega)], hq⟩
    · refine r_run 1 (pc' := 18) (ls' := [some (yr 75), some (yi 0), some (yi v), some (yi 0)]) (st' := [yi v]) (M' := M2) (N' := N) rfl ?_
      refine r_if_ne (pc := 18) f_157_18 (by omega) (fun h18 => ?_) (fun h18 => ?_)
      · refine r_run 1 (pc' := 48) (ls' := [some (yr 75), some (yi 0), some (yi v), some (yi 0)]) (st' := [yi 0]) (M' := M2) (N' := N) rfl ?_
        refine r_iret m_157 rfl f_157_48 ?_
        exact ⟨_, rfl, by unfold fBlame; rw [if_pos (by omega)], hq⟩
      · exfalso; omega
theorem p_blame {S : XS} {M N : YM}  (R : Rel M) : pri S 67 157 [] M N := pri_q fBlame (rm_deep (by decide) (c_blame  R)) (fun M N R => rm_deep (by decide) (m_blame  R)) (fun M' _ e => fBlame_eq e.eqs) R
