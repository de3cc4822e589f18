/-! the law: every call answers alike -/
section LS
variable {S : XS} {d mi pc rs wp : Nat} {ls : YL} {st : List YV} {M N : YM} {Q : Option YV → YM → YM → Prop}
theorem r_eqs {a : Int} {off : Int} (hi : xi mi pc = some (.if_icmp .eq off, rs, wp)) (k : ry S d mi (xgo pc off) ls st M N Q) : ry S d mi pc ls (.inl a :: .inl a :: st) M N Q := by
  have hx : xcond .eq (Int32.ofInt a) (Int32.ofInt a) = true := decide_eq_true rfl
  exact ry_step hi rfl (fun kd => by simp only [xs1, List.map_cons, yv, hx, if_true]) k
theorem r_lcs {a : Int} (hi : xi mi pc = some (.lcmp, rs, wp)) (k : ry S d mi (pc + 1) ls (.inl 0 :: st) M N Q) : ry S d mi pc ls (.inr (.inl a) :: .inr (.inl a) :: st) M N Q := by
  have hx : lg_cmp (Int64.ofInt a) (Int64.ofInt a) = Int32.ofInt 0 := by
    unfold lg_cmp
    rw [if_neg (by rw [gt_iff_lt, Int64.lt_iff_toInt_lt]; omega), if_pos rfl]
    decide
  exact ry_step hi rfl (fun kd => by simp only [xs1, List.map_cons, yv, hx]) k
end LS
theorem sw_fin : ∀ n : Fin 38, (n.val : Int) = 0 ∨ (n.val : Int) = 1 ∨ (n.val : Int) = 2 ∨ (n.val : Int) = 3 ∨ (n.val : Int) = 4 ∨ (n.val : Int) = 5 ∨ (n.val : Int) = 6 ∨ (n.val : Int) = 7 ∨ (n.val : Int) = 8 ∨ (n.val : Int) = 9 ∨ (n.val : Int) = 10 ∨ (n.val : Int) = 11 ∨ (n.val : Int) = 12 ∨ (n.val : Int) = 13 ∨ (n.val : Int) = 14 ∨ (n.val : Int) = 15 ∨ (n.val : Int) = 16 ∨ (n.val : Int) = 17 ∨ (n.val : Int) = 18 ∨ (n.val : Int) = 19 ∨ (n.val : Int) = 20 ∨ (n.val : Int) = 21 ∨ (n.val : Int) = 22 ∨ (n.val : Int) = 23 ∨ (n.val : Int) = 24 ∨ (n.val : Int) = 25 ∨ (n.val : Int) = 26 ∨ (n.val : Int) = 27 ∨ (n.val : Int) = 28 ∨ (n.val : Int) = 29 ∨ (n.val : Int) = 30 ∨ (n.val : Int) = 31 ∨ (n.val : Int) = 32 ∨ (n.val : Int) = 33 ∨ (n.val : Int) = 34 ∨ (n.val : Int) = 35 ∨ (n.val : Int) = 36 ∨ (n.val : Int) = 37 := by decide
theorem sw_38 {a : Int} (h : ¬ (a < 0 ∨ 37 < a)) : a = 0 ∨ a = 1 ∨ a = 2 ∨ a = 3 ∨ a = 4 ∨ a = 5 ∨ a = 6 ∨ a = 7 ∨ a = 8 ∨ a = 9 ∨ a = 10 ∨ a = 11 ∨ a = 12 ∨ a = 13 ∨ a = 14 ∨ a = 15 ∨ a = 16 ∨ a = 17 ∨ a = 18 ∨ a = 19 ∨ a = 20 ∨ a = 21 ∨ a = 22 ∨ a = 23 ∨ a = 24 ∨ a = 25 ∨ a = 26 ∨ a = 27 ∨ a = 28 ∨ a = 29 ∨ a = 30 ∨ a = 31 ∨ a = 32 ∨ a = 33 ∨ a = 34 ∨ a = 35 ∨ a = 36 ∨ a = 37 := by
  have g := sw_fin ⟨a.toNat, by omega⟩
  dsimp only at g
  rw [show ((a.toNat : Nat) : Int) = a by omega] at g
  exact g
set_option maxRecDepth 1000000 in
theorem law_c0 {S : XS} {i : Int} {M N : YM} {Q : Option YV → YM → YM → Prop} (hS : S.1 < 100000) (hi : 0 ≤ i ∧ i + 7 ≤ S.1) (R : Rel M) (kk : ∀ M' N', Rel M' → ry S 80 0 1444 [some (yr 40000), some (yr 0), some (yr 75), some (yi i)] [] M' N' Q) : ry S 80 0 200 [some (yr 40000), some (yr 0), some (yr 75), some (yi i)] [] M N Q := by
  refine r_run 5 (pc' := 205) (ls' := [some (yr 40000), some (yr 0), some (yr 75), some (yi i)]) (st' := [yi (i + 1), yr 40000, yr 0]) (M' := M) (N' := N) rfl ?_
  refine r_iscr f_0_205 (by omega) hS ?_
  refine r_virtual (mj := 52) (b := 0) (as := [yi ((S.2 (i + 1).toNat).toInt)]) (rest := []) f_0_206 (by decide) rfl m_52 (by decide) (by decide) (by decide) rfl rfl (Nat.le_of_ble_eq_true rfl) (by omega) (p_count ⟨Int32.le_toInt _, Int32.toInt_lt _⟩ R) ?_
  rintro _ M1 N1 ⟨v, rfl, hm⟩
  refine r_run 5 (pc' := 214) (ls' := [some (yr 40000), some (yr 0), some (yr 75), some (yi i)]) (st' := [yi (i + 1), yr 40000, yr 75, yi v]) (M' := M1) (N' := N1) rfl ?_
  refine r_iscr f_0_214 (by omega) hS ?_
  refine r_virtual (mj := 118) (b := 75) (as := [yi ((S.2 (i + 1).toNat).toInt)]) (rest := [yi v]) f_0_215 (by decide) rfl m_118 (by decide) (by decide) (by decide) rfl rfl (Nat.le_of_ble_eq_true rfl) (by omega) (hm) ?_
  rintro _ M2 N2 ⟨rfl, R2⟩
  exact r_eqs f_0_218 (kk _ _ R2)
set_option maxRecDepth 1000000 in
theorem law_c1 {S : XS} {i : Int} {M N : YM} {Q : Option YV → YM → YM → Prop} (hS : S.1 < 100000) (hi : 0 ≤ i ∧ i + 7 ≤ S.1) (R : Rel M) (kk : ∀ M' N', Rel M' → ry S 80 0 1444 [some (yr 40000), some (yr 0), some (yr 75), some (yi i)] [] M' N' Q) : ry S 80 0 223 [some (yr 40000), some (yr 0), some (yr 75), some (yi i)] [] M N Q := by
  refine r_run 5 (pc' := 228) (ls' := [some (yr 40000), some (yr 0), some (yr 75), some (yi i)]) (st' := [yi (i + 1), yr 40000, yr 0]) (M' := M) (N' := N) rfl ?_
  refine r_iscr f_0_228 (by omega) hS ?_
  refine r_virtual (mj := 53) (b := 0) (as := [yi ((S.2 (i + 1).toNat).toInt)]) (rest := []) f_0_229 (by decide) rfl m_53 (by decide) (by decide) (by decide) rfl rfl (Nat.le_of_ble_eq_true rfl) (by omega) (p_set ⟨Int32.le_toInt _, Int32.toInt_lt _⟩ R) ?_
  rintro _ M1 N1 ⟨v, rfl, hm⟩
  refine r_run 5 (pc' := 237) (ls' := [some (yr 40000), some (yr 0), some (yr 75), some (yi i)]) (st' := [yi (i + 1), yr 40000, yr 75, yi v]) (M' := M1) (N' := N1) rfl ?_
  refine r_iscr f_0_237 (by omega) hS ?_
  refine r_virtual (mj := 119) (b := 75) (as := [yi ((S.2 (i + 1).toNat).toInt)]) (rest := [yi v]) f_0_238 (by decide) rfl m_119 (by decide) (by decide) (by decide) rfl rfl (Nat.le_of_ble_eq_true rfl) (by omega) (hm) ?_
  rintro _ M2 N2 ⟨rfl, R2⟩
  exact r_eqs f_0_241 (kk _ _ R2)
set_option maxRecDepth 1000000 in
theorem law_c2 {S : XS} {i : Int} {M N : YM} {Q : Option YV → YM → YM → Prop} (hS : S.1 < 100000) (hi : 0 ≤ i ∧ i + 7 ≤ S.1) (R : Rel M) (kk : ∀ M' N', Rel M' → ry S 80 0 1444 [some (yr 40000), some (yr 0), some (yr 75), some (yi i)] [] M' N' Q) : ry S 80 0 246 [some (yr 40000), some (yr 0), some (yr 75), some (yi i)] [] M N Q := by
  refine r_run 5 (pc' := 251) (ls' := [some (yr 40000), some (yr 0), some (yr 75), some (yi i)]) (st' := [yi (i + 1), yr 40000, yr 0]) (M' := M) (N' := N) rfl ?_
  refine r_iscr f_0_251 (by omega) hS ?_
  refine r_run 4 (pc' := 256) (ls' := [some (yr 40000), some (yr 0), some (yr 75), some (yi i)]) (st' := [yi (i + 2), yr 40000, yi ((S.2 (i + 1).toNat).toInt), yr 0]) (M' := M) (N' := N) rfl ?_
  refine r_iscr f_0_256 (by omega) hS ?_
  refine r_run 4 (pc' := 261) (ls' := [some (yr 40000), some (yr 0), some (yr 75), some (yi i)]) (st' := [yi (i + 3), yr 40000, yi ((S.2 (i + 2).toNat).toInt), yi ((S.2 (i + 1).toNat).toInt), yr 0]) (M' := M) (N' := N) rfl ?_
  refine r_iscr f_0_261 (by omega) hS ?_
  refine r_run 4 (pc' := 266) (ls' := [some (yr 40000), some (yr 0), some (yr 75), some (yi i)]) (st' := [yi (i + 4), yr 40000, yi ((S.2 (i + 3).toNat).toInt), yi ((S.2 (i + 2).toNat).toInt), yi ((S.2 (i + 1).toNat).toInt), yr 0]) (M' := M) (N' := N) rfl ?_
  refine r_iscr f_0_266 (by omega) hS ?_
  refine r_run 4 (pc' := 271) (ls' := [some (yr 40000), some (yr 0), some (yr 75), some (yi i)]) (st' := [yi (i + 5), yr 40000, yi ((S.2 (i + 4).toNat).toInt), yi ((S.2 (i + 3).toNat).toInt), yi ((S.2 (i + 2).toNat).toInt), yi ((S.2 (i + 1).toNat).toInt), yr 0]) (M' := M) (N' := N) rfl ?_
  refine r_iscr f_0_271 (by omega) hS ?_
  refine r_run 4 (pc' := 277) (ls' := [some (yr 40000), some (yr 0), some (yr 75), some (yi i)]) (st' := [yi (i + 6), yr 40000, yi ((S.2 (i + 5).toNat).toInt), yi ((S.2 (i + 4).toNat).toInt), yi ((S.2 (i + 3).toNat).toInt), yi ((S.2 (i + 2).toNat).toInt), yi ((S.2 (i + 1).toNat).toInt), yr 0]) (M' := M) (N' := N) rfl ?_
  refine r_iscr f_0_277 (by omega) hS ?_
  refine r_virtual (mj := 54) (b := 0) (as := [yi ((S.2 (i + 1).toNat).toInt), yi ((S.2 (i + 2).toNat).toInt), yi ((S.2 (i + 3).toNat).toInt), yi ((S.2 (i + 4).toNat).toInt), yi ((S.2 (i + 5).toNat).toInt), yi ((S.2 (i + 6).toNat).toInt)]) (rest := []) f_0_278 (by decide) rfl m_54 (by decide) (by decide) (by decide) rfl rfl (Nat.le_of_ble_eq_true rfl) (by omega) (p_feed ⟨Int32.le_toInt _, Int32.toInt_lt _⟩ ⟨Int32.le_toInt _, Int32.toInt_lt _⟩ ⟨Int32.le_toInt _, Int32.toInt_lt _⟩ ⟨Int32.le_toInt _, Int32.toInt_lt _⟩ ⟨Int32.le_toInt _, Int32.toInt_lt _⟩ ⟨Int32.le_toInt _, Int32.toInt_lt _⟩ R) ?_
  rintro _ M1 N1 ⟨v, rfl, hm⟩
  refine r_run 5 (pc' := 286) (ls' := [some (yr 40000), some (yr 0), some (yr 75), some (yi i)]) (st' := [yi (i + 1), yr 40000, yr 75, yi v]) (M' := M1) (N' := N1) rfl ?_
  refine r_iscr f_0_286 (by omega) hS ?_
  refine r_run 4 (pc' := 291) (ls' := [some (yr 40000), some (yr 0), some (yr 75), some (yi i)]) (st' := [yi (i + 2), yr 40000, yi ((S.2 (i + 1).toNat).toInt), yr 75, yi v]) (M' := M1) (N' := N1) rfl ?_
  refine r_iscr f_0_291 (by omega) hS ?_
  refine r_run 4 (pc' := 296) (ls' := [some (yr 40000), some (yr 0), some (yr 75), some (yi i)]) (st' := [yi (i + 3), yr 40000, yi ((S.2 (i + 2).toNat).toInt), yi ((S.2 (i + 1).toNat).toInt), yr 75, yi v]) (M' := M1) (N' := N1) rfl ?_
  refine r_iscr f_0_296 (by omega) hS ?_
  refine r_run 4 (pc' := 301) (ls' := [some (yr 40000), some (yr 0), some (yr 75), some (yi i)]) (st' := [yi (i + 4), yr 40000, yi ((S.2 (i + 3).toNat).toInt), yi ((S.2 (i + 2).toNat).toInt), yi ((S.2 (i + 1).toNat).toInt), yr 75, yi v]) (M' := M1) (N' := N1) rfl ?_
  refine r_iscr f_0_301 (by omega) hS ?_
  refine r_run 4 (pc' := 306) (ls' := [some (yr 40000), some (yr 0), some (yr 75), some (yi i)]) (st' := [yi (i + 5), yr 40000, yi ((S.2 (i + 4).toNat).toInt), yi ((S.2 (i + 3).toNat).toInt), yi ((S.2 (i + 2).toNat).toInt), yi ((S.2 (i + 1).toNat).toInt), yr 75, yi v]) (M' := M1) (N' := N1) rfl ?_
  refine r_iscr f_0_306 (by omega) hS ?_
  refine r_run 4 (pc' := 312) (ls' := [some (yr 40000), some (yr 0), some (yr 75), some (yi i)]) (st' := [yi (i + 6), yr 40000, yi ((S.2 (i + 5).toNat).toInt), yi ((S.2 (i + 4).toNat).toInt), yi ((S.2 (i + 3).toNat).toInt), yi ((S.2 (i + 2).toNat).toInt), yi ((S.2 (i + 1).toNat).toInt), yr 75, yi v]) (M' := M1) (N' := N1) rfl ?_
  refine r_iscr f_0_312 (by omega) hS ?_
  refine r_virtual (mj := 121) (b := 75) (as := [yi ((S.2 (i + 1).toNat).toInt), yi ((S.2 (i + 2).toNat).toInt), yi ((S.2 (i + 3).toNat).toInt), yi ((S.2 (i + 4).toNat).toInt), yi ((S.2 (i + 5).toNat).toInt), yi ((S.2 (i + 6).toNat).toInt)]) (rest := [yi v]) f_0_313 (by decide) rfl m_121 (by decide) (by decide) (by decide) rfl rfl (Nat.le_of_ble_eq_true rfl) (by omega) (hm) ?_
  rintro _ M2 N2 ⟨rfl, R2⟩
  exact r_eqs f_0_316 (kk _ _ R2)
set_option maxRecDepth 1000000 in
theorem law_c3 {S : XS} {i : Int} {M N : YM} {Q : Option YV → YM → YM → Prop} (hS : S.1 < 100000) (hi : 0 ≤ i ∧ i + 7 ≤ S.1) (R : Rel M) (kk : ∀ M' N', Rel M' → ry S 80 0 1444 [some (yr 40000), some (yr 0), some (yr 75), some (yi i)] [] M' N' Q) : ry S 80 0 321 [some (yr 40000), some (yr 0), some (yr 75), some (yi i)] [] M N Q := by
  refine r_run 1 (pc' := 322) (ls' := [some (yr 40000), some (yr 0), some (yr 75), some (yi i)]) (st' := [yr 0]) (M' := M) (N' := N) rfl ?_
  refine r_virtual (mj := 55) (b := 0) (as := []) (rest := []) f_0_322 (by decide) rfl m_55 (by decide) (by decide) (by decide) rfl rfl (Nat.le_of_ble_eq_true rfl) (by omega) (p_text  R) ?_
  rintro _ M1 N1 ⟨v, rfl, hm⟩
  refine r_run 1 (pc' := 326) (ls' := [some (yr 40000), some (yr 0), some (yr 75), some (yi i)]) (st' := [yr 75, yi v]) (M' := M1) (N' := N1) rfl ?_
  refine r_virtual (mj := 132) (b := 75) (as := []) (rest := [yi v]) f_0_326 (by decide) rfl m_132 (by decide) (by decide) (by decide) rfl rfl (Nat.le_of_ble_eq_true rfl) (by omega) (hm) ?_
  rintro _ M2 N2 ⟨rfl, R2⟩
  exact r_eqs f_0_329 (kk _ _ R2)
set_option maxRecDepth 1000000 in
theorem law_c4 {S : XS} {i : Int} {M N : YM} {Q : Option YV → YM → YM → Prop} (hS : S.1 < 100000) (hi : 0 ≤ i ∧ i + 7 ≤ S.1) (R : Rel M) (kk : ∀ M' N', Rel M' → ry S 80 0 1444 [some (yr 40000), some (yr 0), some (yr 75), some (yi i)] [] M' N' Q) : ry S 80 0 334 [some (yr 40000), some (yr 0), some (yr 75), some (yi i)] [] M N Q := by
  refine r_run 5 (pc' := 339) (ls' := [some (yr 40000), some (yr 0), some (yr 75), some (yi i)]) (st' := [yi (i + 1), yr 40000, yr 0]) (M' := M) (N' := N) rfl ?_
  refine r_iscr f_0_339 (by omega) hS ?_
  refine r_virtual (mj := 56) (b := 0) (as := [yi ((S.2 (i + 1).toNat).toInt)]) (rest := []) f_0_340 (by decide) rfl m_56 (by decide) (by decide) (by decide) rfl rfl (Nat.le_of_ble_eq_true rfl) (by omega) (p_force ⟨Int32.le_toInt _, Int32.toInt_lt _⟩ R) ?_
  rintro _ M1 N1 ⟨v, rfl, hm⟩
  refine r_run 5 (pc' := 348) (ls' := [some (yr 40000), some (yr 0), some (yr 75), some (yi i)]) (st' := [yi (i + 1), yr 40000, yr 75, yi v]) (M' := M1) (N' := N1) rfl ?_
  refine r_iscr f_0_348 (by omega) hS ?_
  refine r_virtual (mj := 135) (b := 75) (as := [yi ((S.2 (i + 1).toNat).toInt)]) (rest := [yi v]) f_0_349 (by decide) rfl m_135 (by decide) (by decide) (by decide) rfl rfl (Nat.le_of_ble_eq_true rfl) (by omega) (hm) ?_
  rintro _ M2 N2 ⟨rfl, R2⟩
  exact r_eqs f_0_352 (kk _ _ R2)
set_option maxRecDepth 1000000 in
theorem law_c5 {S : XS} {i : Int} {M N : YM} {Q : Option YV → YM → YM → Prop} (hS : S.1 < 100000) (hi : 0 ≤ i ∧ i + 7 ≤ S.1) (R : Rel M) (kk : ∀ M' N', Rel M' → ry S 80 0 1444 [some (yr 40000), some (yr 0), some (yr 75), some (yi i)] [] M' N' Q) : ry S 80 0 357 [some (yr 40000), some (yr 0), some (yr 75), some (yi i)] [] M N Q := by
  refine r_run 5 (pc' := 362) (ls' := [some (yr 40000), some (yr 0), some (yr 75), some (yi i)]) (st' := [yi (i + 1), yr 40000, yr 0]) (M' := M) (N' := N) rfl ?_
  refine r_iscr f_0_362 (by omega) hS ?_
  refine r_run 4 (pc' := 367) (ls' := [some (yr 40000), some (yr 0), some (yr 75), some (yi i)]) (st' := [yi (i + 2), yr 40000, yi ((S.2 (i + 1).toNat).toInt), yr 0]) (M' := M) (N' := N) rfl ?_
  refine r_iscr f_0_367 (by omega) hS ?_
  refine r_run 4 (pc' := 372) (ls' := [some (yr 40000), some (yr 0), some (yr 75), some (yi i)]) (st' := [yi (i + 3), yr 40000, yi ((S.2 (i + 2).toNat).toInt), yi ((S.2 (i + 1).toNat).toInt), yr 0]) (M' := M) (N' := N) rfl ?_
  refine r_iscr f_0_372 (by omega) hS ?_
  refine r_run 4 (pc' := 377) (ls' := [some (yr 40000), some (yr 0), some (yr 75), some (yi i)]) (st' := [yi (i + 4), yr 40000, yi ((S.2 (i + 3).toNat).toInt), yi ((S.2 (i + 2).toNat).toInt), yi ((S.2 (i + 1).toNat).toInt), yr 0]) (M' := M) (N' := N) rfl ?_
  refine r_iscr f_0_377 (by omega) hS ?_
  refine r_virtual (mj := 57) (b := 0) (as := [yi ((S.2 (i + 1).toNat).toInt), yi ((S.2 (i + 2).toNat).toInt), yi ((S.2 (i + 3).toNat).toInt), yi ((S.2 (i + 4).toNat).toInt)]) (rest := []) f_0_378 (by decide) rfl m_57 (by decide) (by decide) (by decide) rfl rfl (Nat.le_of_ble_eq_true rfl) (by omega) (p_say ⟨Int32.le_toInt _, Int32.toInt_lt _⟩ ⟨Int32.le_toInt _, Int32.toInt_lt _⟩ ⟨Int32.le_toInt _, Int32.toInt_lt _⟩ ⟨Int32.le_toInt _, Int32.toInt_lt _⟩ R) ?_
  rintro _ M1 N1 ⟨v, rfl, hm⟩
  refine r_run 5 (pc' := 386) (ls' := [some (yr 40000), some (yr 0), some (yr 75), some (yi i)]) (st' := [yi (i + 1), yr 40000, yr 75, yi v]) (M' := M1) (N' := N1) rfl ?_
  refine r_iscr f_0_386 (by omega) hS ?_
  refine r_run 4 (pc' := 391) (ls' := [some (yr 40000), some (yr 0), some (yr 75), some (yi i)]) (st' := [yi (i + 2), yr 40000, yi ((S.2 (i + 1).toNat).toInt), yr 75, yi v]) (M' := M1) (N' := N1) rfl ?_
  refine r_iscr f_0_391 (by omega) hS ?_
  refine r_run 4 (pc' := 396) (ls' := [some (yr 40000), some (yr 0), some (yr 75), some (yi i)]) (st' := [yi (i + 3), yr 40000, yi ((S.2 (i + 2).toNat).toInt), yi ((S.2 (i + 1).toNat).toInt), yr 75, yi v]) (M' := M1) (N' := N1) rfl ?_
  refine r_iscr f_0_396 (by omega) hS ?_
  refine r_run 4 (pc' := 401) (ls' := [some (yr 40000), some (yr 0), some (yr 75), some (yi i)]) (st' := [yi (i + 4), yr 40000, yi ((S.2 (i + 3).toNat).toInt), yi ((S.2 (i + 2).toNat).toInt), yi ((S.2 (i + 1).toNat).toInt), yr 75, yi v]) (M' := M1) (N' := N1) rfl ?_
  refine r_iscr f_0_401 (by omega) hS ?_
  refine r_virtual (mj := 136) (b := 75) (as := [yi ((S.2 (i + 1).toNat).toInt), yi ((S.2 (i + 2).toNat).toInt), yi ((S.2 (i + 3).toNat).toInt), yi ((S.2 (i + 4).toNat).toInt)]) (rest := [yi v]) f_0_402 (by decide) rfl m_136 (by decide) (by decide) (by decide) rfl rfl (Nat.le_of_ble_eq_true rfl) (by omega) (hm) ?_
  rintro _ M2 N2 ⟨rfl, R2⟩
  exact r_eqs f_0_405 (kk _ _ R2)
set_option maxRecDepth 1000000 in
theorem law_c6 {S : XS} {i : Int} {M N : YM} {Q : Option YV → YM → YM → Prop} (hS : S.1 < 100000) (hi : 0 ≤ i ∧ i + 7 ≤ S.1) (R : Rel M) (kk : ∀ M' N', Rel M' → ry S 80 0 1444 [some (yr 40000), some (yr 0), some (yr 75), some (yi i)] [] M' N' Q) : ry S 80 0 410 [some (yr 40000), some (yr 0), some (yr 75), some (yi i)] [] M N Q := by
  refine r_run 1 (pc' := 411) (ls' := [some (yr 40000), some (yr 0), some (yr 75), some (yi i)]) (st' := [yr 0]) (M' := M) (N' := N) rfl ?_
  refine r_virtual (mj := 58) (b := 0) (as := []) (rest := []) f_0_411 (by decide) rfl m_58 (by decide) (by decide) (by decide) rfl rfl (Nat.le_of_ble_eq_true rfl) (by omega) (p_unsay  R) ?_
  rintro _ M1 N1 ⟨v, rfl, hm⟩
  refine r_run 1 (pc' := 415) (ls' := [some (yr 40000), some (yr 0), some (yr 75), some (yi i)]) (st' := [yr 75, yi v]) (M' := M1) (N' := N1) rfl ?_
  refine r_virtual (mj := 137) (b := 75) (as := []) (rest := [yi v]) f_0_415 (by decide) rfl m_137 (by decide) (by decide) (by decide) rfl rfl (Nat.le_of_ble_eq_true rfl) (by omega) (hm) ?_
  rintro _ M2 N2 ⟨rfl, R2⟩
  exact r_eqs f_0_418 (kk _ _ R2)
set_option maxRecDepth 1000000 in
theorem law_c7 {S : XS} {i : Int} {M N : YM} {Q : Option YV → YM → YM → Prop} (hS : S.1 < 100000) (hi : 0 ≤ i ∧ i + 7 ≤ S.1) (R : Rel M) (kk : ∀ M' N', Rel M' → ry S 80 0 1444 [some (yr 40000), some (yr 0), some (yr 75), some (yi i)] [] M' N' Q) : ry S 80 0 423 [some (yr 40000), some (yr 0), some (yr 75), some (yi i)] [] M N Q := by
  refine r_run 5 (pc' := 428) (ls' := [some (yr 40000), some (yr 0), some (yr 75), some (yi i)]) (st' := [yi (i + 1), yr 40000, yr 0]) (M' := M) (N' := N) rfl ?_
  refine r_iscr f_0_428 (by omega) hS ?_
  refine r_run 4 (pc' := 433) (ls' := [some (yr 40000), some (yr 0), some (yr 75), some (yi i)]) (st' := [yi (i + 2), yr 40000, yi ((S.2 (i + 1).toNat).toInt), yr 0]) (M' := M) (N' := N) rfl ?_
  refine r_iscr f_0_433 (by omega) hS ?_
  refine r_virtual (mj := 59) (b := 0) (as := [yi ((S.2 (i + 1).toNat).toInt), yi ((S.2 (i + 2).toNat).toInt)]) (rest := []) f_0_434 (by decide) rfl m_59 (by decide) (by decide) (by decide) rfl rfl (Nat.le_of_ble_eq_true rfl) (by omega) (p_told ⟨Int32.le_toInt _, Int32.toInt_lt _⟩ ⟨Int32.le_toInt _, Int32.toInt_lt _⟩ R) ?_
  rintro _ M1 N1 ⟨v, rfl, hm⟩
  refine r_run 5 (pc' := 442) (ls' := [some (yr 40000), some (yr 0), some (yr 75), some (yi i)]) (st' := [yi (i + 1), yr 40000, yr 75, yi v]) (M' := M1) (N' := N1) rfl ?_
  refine r_iscr f_0_442 (by omega) hS ?_
  refine r_run 4 (pc' := 447) (ls' := [some (yr 40000), some (yr 0), some (yr 75), some (yi i)]) (st' := [yi (i + 2), yr 40000, yi ((S.2 (i + 1).toNat).toInt), yr 75, yi v]) (M' := M1) (N' := N1) rfl ?_
  refine r_iscr f_0_447 (by omega) hS ?_
  refine r_virtual (mj := 142) (b := 75) (as := [yi ((S.2 (i + 1).toNat).toInt), yi ((S.2 (i + 2).toNat).toInt)]) (rest := [yi v]) f_0_448 (by decide) rfl m_142 (by decide) (by decide) (by decide) rfl rfl (Nat.le_of_ble_eq_true rfl) (by omega) (hm) ?_
  rintro _ M2 N2 ⟨rfl, R2⟩
  exact r_eqs f_0_451 (kk _ _ R2)
set_option maxRecDepth 1000000 in
theorem law_c8 {S : XS} {i : Int} {M N : YM} {Q : Option YV → YM → YM → Prop} (hS : S.1 < 100000) (hi : 0 ≤ i ∧ i + 7 ≤ S.1) (R : Rel M) (kk : ∀ M' N', Rel M' → ry S 80 0 1444 [some (yr 40000), some (yr 0), some (yr 75), some (yi i)] [] M' N' Q) : ry S 80 0 456 [some (yr 40000), some (yr 0), some (yr 75), some (yi i)] [] M N Q := by
  refine r_run 5 (pc' := 461) (ls' := [some (yr 40000), some (yr 0), some (yr 75), some (yi i)]) (st' := [yi (i + 1), yr 40000, yr 0]) (M' := M) (N' := N) rfl ?_
  refine r_iscr f_0_461 (by omega) hS ?_
  refine r_run 4 (pc' := 466) (ls' := [some (yr 40000), some (yr 0), some (yr 75), some (yi i)]) (st' := [yi (i + 2), yr 40000, yi ((S.2 (i + 1).toNat).toInt), yr 0]) (M' := M) (N' := N) rfl ?_
  refine r_iscr f_0_466 (by omega) hS ?_
  refine r_run 4 (pc' := 471) (ls' := [some (yr 40000), some (yr 0), some (yr 75), some (yi i)]) (st' := [yi (i + 3), yr 40000, yi ((S.2 (i + 2).toNat).toInt), yi ((S.2 (i + 1).toNat).toInt), yr 0]) (M' := M) (N' := N) rfl ?_
  refine r_iscr f_0_471 (by omega) hS ?_
  refine r_run 4 (pc' := 476) (ls' := [some (yr 40000), some (yr 0), some (yr 75), some (yi i)]) (st' := [yi (i + 4), yr 40000, yi ((S.2 (i + 3).toNat).toInt), yi ((S.2 (i + 2).toNat).toInt), yi ((S.2 (i + 1).toNat).toInt), yr 0]) (M' := M) (N' := N) rfl ?_
  refine r_iscr f_0_476 (by omega) hS ?_
  refine r_virtual (mj := 60) (b := 0) (as := [yi ((S.2 (i + 1).toNat).toInt), yi ((S.2 (i + 2).toNat).toInt), yi ((S.2 (i + 3).toNat).toInt), yi ((S.2 (i + 4).toNat).toInt)]) (rest := []) f_0_477 (by decide) rfl m_60 (by decide) (by decide) (by decide) rfl rfl (Nat.le_of_ble_eq_true rfl) (by omega) (p_link ⟨Int32.le_toInt _, Int32.toInt_lt _⟩ ⟨Int32.le_toInt _, Int32.toInt_lt _⟩ ⟨Int32.le_toInt _, Int32.toInt_lt _⟩ ⟨Int32.le_toInt _, Int32.toInt_lt _⟩ R) ?_
  rintro _ M1 N1 ⟨v, rfl, hm⟩
  refine r_run 5 (pc' := 485) (ls' := [some (yr 40000), some (yr 0), some (yr 75), some (yi i)]) (st' := [yi (i + 1), yr 40000, yr 75, yi v]) (M' := M1) (N' := N1) rfl ?_
  refine r_iscr f_0_485 (by omega) hS ?_
  refine r_run 4 (pc' := 490) (ls' := [some (yr 40000), some (yr 0), some (yr 75), some (yi i)]) (st' := [yi (i + 2), yr 40000, yi ((S.2 (i + 1).toNat).toInt), yr 75, yi v]) (M' := M1) (N' := N1) rfl ?_
  refine r_iscr f_0_490 (by omega) hS ?_
  refine r_run 4 (pc' := 495) (ls' := [some (yr 40000), some (yr 0), some (yr 75), some (yi i)]) (st' := [yi (i + 3), yr 40000, yi ((S.2 (i + 2).toNat).toInt), yi ((S.2 (i + 1).toNat).toInt), yr 75, yi v]) (M' := M1) (N' := N1) rfl ?_
  refine r_iscr f_0_495 (by omega) hS ?_
  refine r_run 4 (pc' := 500) (ls' := [some (yr 40000), some (yr 0), some (yr 75), some (yi i)]) (st' := [yi (i + 4), yr 40000, yi ((S.2 (i + 3).toNat).toInt), yi ((S.2 (i + 2).toNat).toInt), yi ((S.2 (i + 1).toNat).toInt), yr 75, yi v]) (M' := M1) (N' := N1) rfl ?_
  refine r_iscr f_0_500 (by omega) hS ?_
  refine r_virtual (mj := 143) (b := 75) (as := [yi ((S.2 (i + 1).toNat).toInt), yi ((S.2 (i + 2).toNat).toInt), yi ((S.2 (i + 3).toNat).toInt), yi ((S.2 (i + 4).toNat).toInt)]) (rest := [yi v]) f_0_501 (by decide) rfl m_143 (by decide) (by decide) (by decide) rfl rfl (Nat.le_of_ble_eq_true rfl) (by omega) (hm) ?_
  rintro _ M2 N2 ⟨rfl, R2⟩
  exact r_eqs f_0_504 (kk _ _ R2)
set_option maxRecDepth 1000000 in
theorem law_c9 {S : XS} {i : Int} {M N : YM} {Q : Option YV → YM → YM → Prop} (hS : S.1 < 100000) (hi : 0 ≤ i ∧ i + 7 ≤ S.1) (R : Rel M) (kk : ∀ M' N', Rel M' → ry S 80 0 1444 [some (yr 40000), some (yr 0), some (yr 75), some (yi i)] [] M' N' Q) : ry S 80 0 509 [some (yr 40000), some (yr 0), some (yr 75), some (yi i)] [] M N Q := by
  refine r_run 5 (pc' := 514) (ls' := [some (yr 40000), some (yr 0), some (yr 75), some (yi i)]) (st' := [yi (i + 1), yr 40000, yr 0]) (M' := M) (N' := N) rfl ?_
  refine r_iscr f_0_514 (by omega) hS ?_
  refine r_run 4 (pc' := 519) (ls' := [some (yr 40000), some (yr 0), some (yr 75), some (yi i)]) (st' := [yi (i + 2), yr 40000, yi ((S.2 (i + 1).toNat).toInt), yr 0]) (M' := M) (N' := N) rfl ?_
  refine r_iscr f_0_519 (by omega) hS ?_
  refine r_virtual (mj := 61) (b := 0) (as := [yi ((S.2 (i + 1).toNat).toInt), yi ((S.2 (i + 2).toNat).toInt)]) (rest := []) f_0_520 (by decide) rfl m_61 (by decide) (by decide) (by decide) rfl rfl (Nat.le_of_ble_eq_true rfl) (by omega) (p_linkTold ⟨Int32.le_toInt _, Int32.toInt_lt _⟩ ⟨Int32.le_toInt _, Int32.toInt_lt _⟩ R) ?_
  rintro _ M1 N1 ⟨v, rfl, hm⟩
  refine r_run 5 (pc' := 528) (ls' := [some (yr 40000), some (yr 0), some (yr 75), some (yi i)]) (st' := [yi (i + 1), yr 40000, yr 75, yi v]) (M' := M1) (N' := N1) rfl ?_
  refine r_iscr f_0_528 (by omega) hS ?_
  refine r_run 4 (pc' := 533) (ls' := [some (yr 40000), some (yr 0), some (yr 75), some (yi i)]) (st' := [yi (i + 2), yr 40000, yi ((S.2 (i + 1).toNat).toInt), yr 75, yi v]) (M' := M1) (N' := N1) rfl ?_
  refine r_iscr f_0_533 (by omega) hS ?_
  refine r_virtual (mj := 144) (b := 75) (as := [yi ((S.2 (i + 1).toNat).toInt), yi ((S.2 (i + 2).toNat).toInt)]) (rest := [yi v]) f_0_534 (by decide) rfl m_144 (by decide) (by decide) (by decide) rfl rfl (Nat.le_of_ble_eq_true rfl) (by omega) (hm) ?_
  rintro _ M2 N2 ⟨rfl, R2⟩
  exact r_eqs f_0_537 (kk _ _ R2)
set_option maxRecDepth 1000000 in
theorem law_c10 {S : XS} {i : Int} {M N : YM} {Q : Option YV → YM → YM → Prop} (hS : S.1 < 100000) (hi : 0 ≤ i ∧ i + 7 ≤ S.1) (R : Rel M) (kk : ∀ M' N', Rel M' → ry S 80 0 1444 [some (yr 40000), some (yr 0), some (yr 75), some (yi i)] [] M' N' Q) : ry S 80 0 542 [some (yr 40000), some (yr 0), some (yr 75), some (yi i)] [] M N Q := by
  refine r_run 1 (pc' := 543) (ls' := [some (yr 40000), some (yr 0), some (yr 75), some (yi i)]) (st' := [yr 0]) (M' := M) (N' := N) rfl ?_
  refine r_virtual (mj := 62) (b := 0) (as := []) (rest := []) f_0_543 (by decide) rfl m_62 (by decide) (by decide) (by decide) rfl rfl (Nat.le_of_ble_eq_true rfl) (by omega) (p_can  R) ?_
  rintro _ M1 N1 ⟨v, rfl, hm⟩
  refine r_run 1 (pc' := 547) (ls' := [some (yr 40000), some (yr 0), some (yr 75), some (yi i)]) (st' := [yr 75, yi v]) (M' := M1) (N' := N1) rfl ?_
  refine r_virtual (mj := 151) (b := 75) (as := []) (rest := [yi v]) f_0_547 (by decide) rfl m_151 (by decide) (by decide) (by decide) rfl rfl (Nat.le_of_ble_eq_true rfl) (by omega) (hm) ?_
  rintro _ M2 N2 ⟨rfl, R2⟩
  exact r_eqs f_0_550 (kk _ _ R2)
set_option maxRecDepth 1000000 in
theorem law_c11 {S : XS} {i : Int} {M N : YM} {Q : Option YV → YM → YM → Prop} (hS : S.1 < 100000) (hi : 0 ≤ i ∧ i + 7 ≤ S.1) (R : Rel M) (kk : ∀ M' N', Rel M' → ry S 80 0 1444 [some (yr 40000), some (yr 0), some (yr 75), some (yi i)] [] M' N' Q) : ry S 80 0 555 [some (yr 40000), some (yr 0), some (yr 75), some (yi i)] [] M N Q := by
  refine r_run 5 (pc' := 560) (ls' := [some (yr 40000), some (yr 0), some (yr 75), some (yi i)]) (st' := [yi (i + 1), yr 40000, yr 0]) (M' := M) (N' := N) rfl ?_
  refine r_iscr f_0_560 (by omega) hS ?_
  refine r_run 4 (pc' := 565) (ls' := [some (yr 40000), some (yr 0), some (yr 75), some (yi i)]) (st' := [yi (i + 2), yr 40000, yi ((S.2 (i + 1).toNat).toInt), yr 0]) (M' := M) (N' := N) rfl ?_
  refine r_iscr f_0_565 (by omega) hS ?_
  refine r_virtual (mj := 63) (b := 0) (as := [yi ((S.2 (i + 1).toNat).toInt), yi ((S.2 (i + 2).toNat).toInt)]) (rest := []) f_0_566 (by decide) rfl m_63 (by decide) (by decide) (by decide) rfl rfl (Nat.le_of_ble_eq_true rfl) (by omega) (p_span ⟨Int32.le_toInt _, Int32.toInt_lt _⟩ ⟨Int32.le_toInt _, Int32.toInt_lt _⟩ R) ?_
  rintro _ M1 N1 ⟨v, rfl, hm⟩
  refine r_run 5 (pc' := 574) (ls' := [some (yr 40000), some (yr 0), some (yr 75), some (yi i)]) (st' := [yi (i + 1), yr 40000, yr 75, yi v]) (M' := M1) (N' := N1) rfl ?_
  refine r_iscr f_0_574 (by omega) hS ?_
  refine r_run 4 (pc' := 579) (ls' := [some (yr 40000), some (yr 0), some (yr 75), some (yi i)]) (st' := [yi (i + 2), yr 40000, yi ((S.2 (i + 1).toNat).toInt), yr 75, yi v]) (M' := M1) (N' := N1) rfl ?_
  refine r_iscr f_0_579 (by omega) hS ?_
  refine r_virtual (mj := 152) (b := 75) (as := [yi ((S.2 (i + 1).toNat).toInt), yi ((S.2 (i + 2).toNat).toInt)]) (rest := [yi v]) f_0_580 (by decide) rfl m_152 (by decide) (by decide) (by decide) rfl rfl (Nat.le_of_ble_eq_true rfl) (by omega) (hm) ?_
  rintro _ M2 N2 ⟨rfl, R2⟩
  exact r_eqs f_0_583 (kk _ _ R2)
set_option maxRecDepth 1000000 in
theorem law_c12 {S : XS} {i : Int} {M N : YM} {Q : Option YV → YM → YM → Prop} (hS : S.1 < 100000) (hi : 0 ≤ i ∧ i + 7 ≤ S.1) (R : Rel M) (kk : ∀ M' N', Rel M' → ry S 80 0 1444 [some (yr 40000), some (yr 0), some (yr 75), some (yi i)] [] M' N' Q) : ry S 80 0 588 [some (yr 40000), some (yr 0), some (yr 75), some (yi i)] [] M N Q := by
  refine r_run 5 (pc' := 593) (ls' := [some (yr 40000), some (yr 0), some (yr 75), some (yi i)]) (st' := [yi (i + 1), yr 40000, yr 0]) (M' := M) (N' := N) rfl ?_
  refine r_iscr f_0_593 (by omega) hS ?_
  refine r_run 4 (pc' := 598) (ls' := [some (yr 40000), some (yr 0), some (yr 75), some (yi i)]) (st' := [yi (i + 2), yr 40000, yi ((S.2 (i + 1).toNat).toInt), yr 0]) (M' := M) (N' := N) rfl ?_
  refine r_iscr f_0_598 (by omega) hS ?_
  refine r_run 4 (pc' := 603) (ls' := [some (yr 40000), some (yr 0), some (yr 75), some (yi i)]) (st' := [yi (i + 3), yr 40000, yi ((S.2 (i + 2).toNat).toInt), yi ((S.2 (i + 1).toNat).toInt), yr 0]) (M' := M) (N' := N) rfl ?_
  refine r_iscr f_0_603 (by omega) hS ?_
  refine r_virtual (mj := 64) (b := 0) (as := [yi ((S.2 (i + 1).toNat).toInt), yi ((S.2 (i + 2).toNat).toInt), yi ((S.2 (i + 3).toNat).toInt)]) (rest := []) f_0_604 (by decide) rfl m_64 (by decide) (by decide) (by decide) rfl rfl (Nat.le_of_ble_eq_true rfl) (by omega) (p_apart ⟨Int32.le_toInt _, Int32.toInt_lt _⟩ ⟨Int32.le_toInt _, Int32.toInt_lt _⟩ ⟨Int32.le_toInt _, Int32.toInt_lt _⟩ R) ?_
  rintro _ M1 N1 ⟨v, rfl, hm⟩
  refine r_run 5 (pc' := 612) (ls' := [some (yr 40000), some (yr 0), some (yr 75), some (yi i)]) (st' := [yi (i + 1), yr 40000, yr 75, yi v]) (M' := M1) (N' := N1) rfl ?_
  refine r_iscr f_0_612 (by omega) hS ?_
  refine r_run 4 (pc' := 617) (ls' := [some (yr 40000), some (yr 0), some (yr 75), some (yi i)]) (st' := [yi (i + 2), yr 40000, yi ((S.2 (i + 1).toNat).toInt), yr 75, yi v]) (M' := M1) (N' := N1) rfl ?_
  refine r_iscr f_0_617 (by omega) hS ?_
  refine r_run 4 (pc' := 622) (ls' := [some (yr 40000), some (yr 0), some (yr 75), some (yi i)]) (st' := [yi (i + 3), yr 40000, yi ((S.2 (i + 2).toNat).toInt), yi ((S.2 (i + 1).toNat).toInt), yr 75, yi v]) (M' := M1) (N' := N1) rfl ?_
  refine r_iscr f_0_622 (by omega) hS ?_
  refine r_virtual (mj := 153) (b := 75) (as := [yi ((S.2 (i + 1).toNat).toInt), yi ((S.2 (i + 2).toNat).toInt), yi ((S.2 (i + 3).toNat).toInt)]) (rest := [yi v]) f_0_623 (by decide) rfl m_153 (by decide) (by decide) (by decide) rfl rfl (Nat.le_of_ble_eq_true rfl) (by omega) (hm) ?_
  rintro _ M2 N2 ⟨rfl, R2⟩
  exact r_eqs f_0_626 (kk _ _ R2)
set_option maxRecDepth 1000000 in
theorem law_c13 {S : XS} {i : Int} {M N : YM} {Q : Option YV → YM → YM → Prop} (hS : S.1 < 100000) (hi : 0 ≤ i ∧ i + 7 ≤ S.1) (R : Rel M) (kk : ∀ M' N', Rel M' → ry S 80 0 1444 [some (yr 40000), some (yr 0), some (yr 75), some (yi i)] [] M' N' Q) : ry S 80 0 631 [some (yr 40000), some (yr 0), some (yr 75), some (yi i)] [] M N Q := by
  refine r_run 5 (pc' := 636) (ls' := [some (yr 40000), some (yr 0), some (yr 75), some (yi i)]) (st' := [yi (i + 1), yr 40000, yr 0]) (M' := M) (N' := N) rfl ?_
  refine r_iscr f_0_636 (by omega) hS ?_
  refine r_virtual (mj := 65) (b := 0) (as := [yi ((S.2 (i + 1).toNat).toInt)]) (rest := []) f_0_637 (by decide) rfl m_65 (by decide) (by decide) (by decide) rfl rfl (Nat.le_of_ble_eq_true rfl) (by omega) (p_clashes ⟨Int32.le_toInt _, Int32.toInt_lt _⟩ R) ?_
  rintro _ M1 N1 ⟨v, rfl, hm⟩
  refine r_run 5 (pc' := 645) (ls' := [some (yr 40000), some (yr 0), some (yr 75), some (yi i)]) (st' := [yi (i + 1), yr 40000, yr 75, yi v]) (M' := M1) (N' := N1) rfl ?_
  refine r_iscr f_0_645 (by omega) hS ?_
  refine r_virtual (mj := 155) (b := 75) (as := [yi ((S.2 (i + 1).toNat).toInt)]) (rest := [yi v]) f_0_646 (by decide) rfl m_155 (by decide) (by decide) (by decide) rfl rfl (Nat.le_of_ble_eq_true rfl) (by omega) (hm) ?_
  rintro _ M2 N2 ⟨rfl, R2⟩
  exact r_eqs f_0_649 (kk _ _ R2)
set_option maxRecDepth 1000000 in
theorem law_c14 {S : XS} {i : Int} {M N : YM} {Q : Option YV → YM → YM → Prop} (hS : S.1 < 100000) (hi : 0 ≤ i ∧ i + 7 ≤ S.1) (R : Rel M) (kk : ∀ M' N', Rel M' → ry S 80 0 1444 [some (yr 40000), some (yr 0), some (yr 75), some (yi i)] [] M' N' Q) : ry S 80 0 654 [some (yr 40000), some (yr 0), some (yr 75), some (yi i)] [] M N Q := by
  refine r_run 5 (pc' := 659) (ls' := [some (yr 40000), some (yr 0), some (yr 75), some (yi i)]) (st' := [yi (i + 1), yr 40000, yr 0]) (M' := M) (N' := N) rfl ?_
  refine r_iscr f_0_659 (by omega) hS ?_
  refine r_virtual (mj := 66) (b := 0) (as := [yi ((S.2 (i + 1).toNat).toInt)]) (rest := []) f_0_660 (by decide) rfl m_66 (by decide) (by decide) (by decide) rfl rfl (Nat.le_of_ble_eq_true rfl) (by omega) (p_wrong ⟨Int32.le_toInt _, Int32.toInt_lt _⟩ R) ?_
  rintro _ M1 N1 ⟨v, rfl, hm⟩
  refine r_run 5 (pc' := 668) (ls' := [some (yr 40000), some (yr 0), some (yr 75), some (yi i)]) (st' := [yi (i + 1), yr 40000, yr 75, yi v]) (M' := M1) (N' := N1) rfl ?_
  refine r_iscr f_0_668 (by omega) hS ?_
  refine r_virtual (mj := 156) (b := 75) (as := [yi ((S.2 (i + 1).toNat).toInt)]) (rest := [yi v]) f_0_669 (by decide) rfl m_156 (by decide) (by decide) (by decide) rfl rfl (Nat.le_of_ble_eq_true rfl) (by omega) (hm) ?_
  rintro _ M2 N2 ⟨rfl, R2⟩
  exact r_eqs f_0_672 (kk _ _ R2)
set_option maxRecDepth 1000000 in
theorem law_c15 {S : XS} {i : Int} {M N : YM} {Q : Option YV → YM → YM → Prop} (hS : S.1 < 100000) (hi : 0 ≤ i ∧ i + 7 ≤ S.1) (R : Rel M) (kk : ∀ M' N', Rel M' → ry S 80 0 1444 [some (yr 40000), some (yr 0), some (yr 75), some (yi i)] [] M' N' Q) : ry S 80 0 677 [some (yr 40000), some (yr 0), some (yr 75), some (yi i)] [] M N Q := by
  refine r_run 1 (pc' := 678) (ls' := [some (yr 40000), some (yr 0), some (yr 75), some (yi i)]) (st' := [yr 0]) (M' := M) (N' := N) rfl ?_
  refine r_virtual (mj := 67) (b := 0) (as := []) (rest := []) f_0_678 (by decide) rfl m_67 (by decide) (by decide) (by decide) rfl rfl (Nat.le_of_ble_eq_true rfl) (by omega) (p_blame  R) ?_
  rintro _ M1 N1 ⟨v, rfl, hm⟩
  refine r_run 1 (pc' := 682) (ls' := [some (yr 40000), some (yr 0), some (yr 75), some (yi i)]) (st' := [yr 75, yi v]) (M' := M1) (N' := N1) rfl ?_
  refine r_virtual (mj := 157) (b := 75) (as := []) (rest := [yi v]) f_0_682 (by decide) rfl m_157 (by decide) (by decide) (by decide) rfl rfl (Nat.le_of_ble_eq_true rfl) (by omega) (hm) ?_
  rintro _ M2 N2 ⟨rfl, R2⟩
  exact r_eqs f_0_685 (kk _ _ R2)
set_option maxRecDepth 1000000 in
theorem law_c16 {S : XS} {i : Int} {M N : YM} {Q : Option YV → YM → YM → Prop} (hS : S.1 < 100000) (hi : 0 ≤ i ∧ i + 7 ≤ S.1) (R : Rel M) (kk : ∀ M' N', Rel M' → ry S 80 0 1444 [some (yr 40000), some (yr 0), some (yr 75), some (yi i)] [] M' N' Q) : ry S 80 0 690 [some (yr 40000), some (yr 0), some (yr 75), some (yi i)] [] M N Q := by
  refine r_run 5 (pc' := 695) (ls' := [some (yr 40000), some (yr 0), some (yr 75), some (yi i)]) (st' := [yi (i + 1), yr 40000, yr 0]) (M' := M) (N' := N) rfl ?_
  refine r_iscr f_0_695 (by omega) hS ?_
  refine r_run 4 (pc' := 700) (ls' := [some (yr 40000), some (yr 0), some (yr 75), some (yi i)]) (st' := [yi (i + 2), yr 40000, yi ((S.2 (i + 1).toNat).toInt), yr 0]) (M' := M) (N' := N) rfl ?_
  refine r_iscr f_0_700 (by omega) hS ?_
  refine r_virtual (mj := 68) (b := 0) (as := [yi ((S.2 (i + 1).toNat).toInt), yi ((S.2 (i + 2).toNat).toInt)]) (rest := []) f_0_701 (by decide) rfl m_68 (by decide) (by decide) (by decide) rfl rfl (Nat.le_of_ble_eq_true rfl) (by omega) (p_between ⟨Int32.le_toInt _, Int32.toInt_lt _⟩ ⟨Int32.le_toInt _, Int32.toInt_lt _⟩ R) ?_
  rintro _ M1 N1 ⟨v, rfl, hm⟩
  refine r_run 5 (pc' := 709) (ls' := [some (yr 40000), some (yr 0), some (yr 75), some (yi i)]) (st' := [yi (i + 1), yr 40000, yr 75, yj v]) (M' := M1) (N' := N1) rfl ?_
  refine r_iscr f_0_709 (by omega) hS ?_
  refine r_run 4 (pc' := 714) (ls' := [some (yr 40000), some (yr 0), some (yr 75), some (yi i)]) (st' := [yi (i + 2), yr 40000, yi ((S.2 (i + 1).toNat).toInt), yr 75, yj v]) (M' := M1) (N' := N1) rfl ?_
  refine r_iscr f_0_714 (by omega) hS ?_
  refine r_virtual (mj := 161) (b := 75) (as := [yi ((S.2 (i + 1).toNat).toInt), yi ((S.2 (i + 2).toNat).toInt)]) (rest := [yj v]) f_0_715 (by decide) rfl m_161 (by decide) (by decide) (by decide) rfl rfl (Nat.le_of_ble_eq_true rfl) (by omega) (hm) ?_
  rintro _ M2 N2 ⟨rfl, R2⟩
  refine r_lcs f_0_718 ?_
  exact r_if_eq (pc := 719) f_0_719 (by decide) (fun _ => kk _ _ R2) (fun h => absurd rfl h)
set_option maxRecDepth 1000000 in
theorem law_c17 {S : XS} {i : Int} {M N : YM} {Q : Option YV → YM → YM → Prop} (hS : S.1 < 100000) (hi : 0 ≤ i ∧ i + 7 ≤ S.1) (R : Rel M) (kk : ∀ M' N', Rel M' → ry S 80 0 1444 [some (yr 40000), some (yr 0), some (yr 75), some (yi i)] [] M' N' Q) : ry S 80 0 724 [some (yr 40000), some (yr 0), some (yr 75), some (yi i)] [] M N Q := by
  refine r_run 1 (pc' := 725) (ls' := [some (yr 40000), some (yr 0), some (yr 75), some (yi i)]) (st' := [yr 0]) (M' := M) (N' := N) rfl ?_
  refine r_virtual (mj := 69) (b := 0) (as := []) (rest := []) f_0_725 (by decide) rfl m_69 (by decide) (by decide) (by decide) rfl rfl (Nat.le_of_ble_eq_true rfl) (by omega) (p_inch  R) ?_
  rintro _ M1 N1 ⟨v, rfl, hm⟩
  refine r_run 1 (pc' := 729) (ls' := [some (yr 40000), some (yr 0), some (yr 75), some (yi i)]) (st' := [yr 75, yi v]) (M' := M1) (N' := N1) rfl ?_
  refine r_virtual (mj := 163) (b := 75) (as := []) (rest := [yi v]) f_0_729 (by decide) rfl m_163 (by decide) (by decide) (by decide) rfl rfl (Nat.le_of_ble_eq_true rfl) (by omega) (hm) ?_
  rintro _ M2 N2 ⟨rfl, R2⟩
  exact r_eqs f_0_732 (kk _ _ R2)
set_option maxRecDepth 1000000 in
theorem law_c18 {S : XS} {i : Int} {M N : YM} {Q : Option YV → YM → YM → Prop} (hS : S.1 < 100000) (hi : 0 ≤ i ∧ i + 7 ≤ S.1) (R : Rel M) (kk : ∀ M' N', Rel M' → ry S 80 0 1444 [some (yr 40000), some (yr 0), some (yr 75), some (yi i)] [] M' N' Q) : ry S 80 0 737 [some (yr 40000), some (yr 0), some (yr 75), some (yi i)] [] M N Q := by
  refine r_run 5 (pc' := 742) (ls' := [some (yr 40000), some (yr 0), some (yr 75), some (yi i)]) (st' := [yi (i + 1), yr 40000, yr 0]) (M' := M) (N' := N) rfl ?_
  refine r_iscr f_0_742 (by omega) hS ?_
  refine r_run 4 (pc' := 747) (ls' := [some (yr 40000), some (yr 0), some (yr 75), some (yi i)]) (st' := [yi (i + 2), yr 40000, yi ((S.2 (i + 1).toNat).toInt), yr 0]) (M' := M) (N' := N) rfl ?_
  refine r_iscr f_0_747 (by omega) hS ?_
  refine r_run 4 (pc' := 752) (ls' := [some (yr 40000), some (yr 0), some (yr 75), some (yi i)]) (st' := [yi (i + 3), yr 40000, yi ((S.2 (i + 2).toNat).toInt), yi ((S.2 (i + 1).toNat).toInt), yr 0]) (M' := M) (N' := N) rfl ?_
  refine r_iscr f_0_752 (by omega) hS ?_
  refine r_virtual (mj := 70) (b := 0) (as := [yi ((S.2 (i + 1).toNat).toInt), yi ((S.2 (i + 2).toNat).toInt), yi ((S.2 (i + 3).toNat).toInt)]) (rest := []) f_0_753 (by decide) rfl m_70 (by decide) (by decide) (by decide) rfl rfl (Nat.le_of_ble_eq_true rfl) (by omega) (p_buy ⟨Int32.le_toInt _, Int32.toInt_lt _⟩ ⟨Int32.le_toInt _, Int32.toInt_lt _⟩ ⟨Int32.le_toInt _, Int32.toInt_lt _⟩ R) ?_
  rintro _ M1 N1 ⟨v, rfl, hm⟩
  refine r_run 5 (pc' := 761) (ls' := [some (yr 40000), some (yr 0), some (yr 75), some (yi i)]) (st' := [yi (i + 1), yr 40000, yr 75, yj v]) (M' := M1) (N' := N1) rfl ?_
  refine r_iscr f_0_761 (by omega) hS ?_
  refine r_run 4 (pc' := 766) (ls' := [some (yr 40000), some (yr 0), some (yr 75), some (yi i)]) (st' := [yi (i + 2), yr 40000, yi ((S.2 (i + 1).toNat).toInt), yr 75, yj v]) (M' := M1) (N' := N1) rfl ?_
  refine r_iscr f_0_766 (by omega) hS ?_
  refine r_run 4 (pc' := 771) (ls' := [some (yr 40000), some (yr 0), some (yr 75), some (yi i)]) (st' := [yi (i + 3), yr 40000, yi ((S.2 (i + 2).toNat).toInt), yi ((S.2 (i + 1).toNat).toInt), yr 75, yj v]) (M' := M1) (N' := N1) rfl ?_
  refine r_iscr f_0_771 (by omega) hS ?_
  refine r_virtual (mj := 167) (b := 75) (as := [yi ((S.2 (i + 1).toNat).toInt), yi ((S.2 (i + 2).toNat).toInt), yi ((S.2 (i + 3).toNat).toInt)]) (rest := [yj v]) f_0_772 (by decide) rfl m_167 (by decide) (by decide) (by decide) rfl rfl (Nat.le_of_ble_eq_true rfl) (by omega) (hm) ?_
  rintro _ M2 N2 ⟨rfl, R2⟩
  refine r_lcs f_0_775 ?_
  exact r_if_eq (pc := 776) f_0_776 (by decide) (fun _ => kk _ _ R2) (fun h => absurd rfl h)
set_option maxRecDepth 1000000 in
theorem law_c19 {S : XS} {i : Int} {M N : YM} {Q : Option YV → YM → YM → Prop} (hS : S.1 < 100000) (hi : 0 ≤ i ∧ i + 7 ≤ S.1) (R : Rel M) (kk : ∀ M' N', Rel M' → ry S 80 0 1444 [some (yr 40000), some (yr 0), some (yr 75), some (yi i)] [] M' N' Q) : ry S 80 0 781 [some (yr 40000), some (yr 0), some (yr 75), some (yi i)] [] M N Q := by
  refine r_run 5 (pc' := 786) (ls' := [some (yr 40000), some (yr 0), some (yr 75), some (yi i)]) (st' := [yi (i + 1), yr 40000, yr 0]) (M' := M) (N' := N) rfl ?_
  refine r_iscr f_0_786 (by omega) hS ?_
  refine r_run 4 (pc' := 791) (ls' := [some (yr 40000), some (yr 0), some (yr 75), some (yi i)]) (st' := [yi (i + 2), yr 40000, yi ((S.2 (i + 1).toNat).toInt), yr 0]) (M' := M) (N' := N) rfl ?_
  refine r_iscr f_0_791 (by omega) hS ?_
  refine r_virtual (mj := 71) (b := 0) (as := [yi ((S.2 (i + 1).toNat).toInt), yi ((S.2 (i + 2).toNat).toInt)]) (rest := []) f_0_792 (by decide) rfl m_71 (by decide) (by decide) (by decide) rfl rfl (Nat.le_of_ble_eq_true rfl) (by omega) (p_worth ⟨Int32.le_toInt _, Int32.toInt_lt _⟩ ⟨Int32.le_toInt _, Int32.toInt_lt _⟩ R) ?_
  rintro _ M1 N1 ⟨v, rfl, hm⟩
  refine r_run 5 (pc' := 800) (ls' := [some (yr 40000), some (yr 0), some (yr 75), some (yi i)]) (st' := [yi (i + 1), yr 40000, yr 75, yj v]) (M' := M1) (N' := N1) rfl ?_
  refine r_iscr f_0_800 (by omega) hS ?_
  refine r_run 4 (pc' := 805) (ls' := [some (yr 40000), some (yr 0), some (yr 75), some (yi i)]) (st' := [yi (i + 2), yr 40000, yi ((S.2 (i + 1).toNat).toInt), yr 75, yj v]) (M' := M1) (N' := N1) rfl ?_
  refine r_iscr f_0_805 (by omega) hS ?_
  refine r_virtual (mj := 168) (b := 75) (as := [yi ((S.2 (i + 1).toNat).toInt), yi ((S.2 (i + 2).toNat).toInt)]) (rest := [yj v]) f_0_806 (by decide) rfl m_168 (by decide) (by decide) (by decide) rfl rfl (Nat.le_of_ble_eq_true rfl) (by omega) (hm) ?_
  rintro _ M2 N2 ⟨rfl, R2⟩
  refine r_lcs f_0_809 ?_
  exact r_if_eq (pc := 810) f_0_810 (by decide) (fun _ => kk _ _ R2) (fun h => absurd rfl h)
set_option maxRecDepth 1000000 in
theorem law_c20 {S : XS} {i : Int} {M N : YM} {Q : Option YV → YM → YM → Prop} (hS : S.1 < 100000) (hi : 0 ≤ i ∧ i + 7 ≤ S.1) (R : Rel M) (kk : ∀ M' N', Rel M' → ry S 80 0 1444 [some (yr 40000), some (yr 0), some (yr 75), some (yi i)] [] M' N' Q) : ry S 80 0 815 [some (yr 40000), some (yr 0), some (yr 75), some (yi i)] [] M N Q := by
  refine r_run 5 (pc' := 820) (ls' := [some (yr 40000), some (yr 0), some (yr 75), some (yi i)]) (st' := [yi (i + 1), yr 40000, yr 0]) (M' := M) (N' := N) rfl ?_
  refine r_iscr f_0_820 (by omega) hS ?_
  refine r_run 4 (pc' := 825) (ls' := [some (yr 40000), some (yr 0), some (yr 75), some (yi i)]) (st' := [yi (i + 2), yr 40000, yi ((S.2 (i + 1).toNat).toInt), yr 0]) (M' := M) (N' := N) rfl ?_
  refine r_iscr f_0_825 (by omega) hS ?_
  refine r_run 4 (pc' := 830) (ls' := [some (yr 40000), some (yr 0), some (yr 75), some (yi i)]) (st' := [yi (i + 3), yr 40000, yi ((S.2 (i + 2).toNat).toInt), yi ((S.2 (i + 1).toNat).toInt), yr 0]) (M' := M) (N' := N) rfl ?_
  refine r_iscr f_0_830 (by omega) hS ?_
  refine r_virtual (mj := 72) (b := 0) (as := [yi ((S.2 (i + 1).toNat).toInt), yi ((S.2 (i + 2).toNat).toInt), yi ((S.2 (i + 3).toNat).toInt)]) (rest := []) f_0_831 (by decide) rfl m_72 (by decide) (by decide) (by decide) rfl rfl (Nat.le_of_ble_eq_true rfl) (by omega) (p_exact ⟨Int32.le_toInt _, Int32.toInt_lt _⟩ ⟨Int32.le_toInt _, Int32.toInt_lt _⟩ ⟨Int32.le_toInt _, Int32.toInt_lt _⟩ R) ?_
  rintro _ M1 N1 ⟨v, rfl, hm⟩
  refine r_run 5 (pc' := 839) (ls' := [some (yr 40000), some (yr 0), some (yr 75), some (yi i)]) (st' := [yi (i + 1), yr 40000, yr 75, yj v]) (M' := M1) (N' := N1) rfl ?_
  refine r_iscr f_0_839 (by omega) hS ?_
  refine r_run 4 (pc' := 844) (ls' := [some (yr 40000), some (yr 0), some (yr 75), some (yi i)]) (st' := [yi (i + 2), yr 40000, yi ((S.2 (i + 1).toNat).toInt), yr 75, yj v]) (M' := M1) (N' := N1) rfl ?_
  refine r_iscr f_0_844 (by omega) hS ?_
  refine r_run 4 (pc' := 849) (ls' := [some (yr 40000), some (yr 0), some (yr 75), some (yi i)]) (st' := [yi (i + 3), yr 40000, yi ((S.2 (i + 2).toNat).toInt), yi ((S.2 (i + 1).toNat).toInt), yr 75, yj v]) (M' := M1) (N' := N1) rfl ?_
  refine r_iscr f_0_849 (by omega) hS ?_
  refine r_virtual (mj := 169) (b := 75) (as := [yi ((S.2 (i + 1).toNat).toInt), yi ((S.2 (i + 2).toNat).toInt), yi ((S.2 (i + 3).toNat).toInt)]) (rest := [yj v]) f_0_850 (by decide) rfl m_169 (by decide) (by decide) (by decide) rfl rfl (Nat.le_of_ble_eq_true rfl) (by omega) (hm) ?_
  rintro _ M2 N2 ⟨rfl, R2⟩
  refine r_lcs f_0_853 ?_
  exact r_if_eq (pc := 854) f_0_854 (by decide) (fun _ => kk _ _ R2) (fun h => absurd rfl h)
set_option maxRecDepth 1000000 in
theorem law_c21 {S : XS} {i : Int} {M N : YM} {Q : Option YV → YM → YM → Prop} (hS : S.1 < 100000) (hi : 0 ≤ i ∧ i + 7 ≤ S.1) (R : Rel M) (kk : ∀ M' N', Rel M' → ry S 80 0 1444 [some (yr 40000), some (yr 0), some (yr 75), some (yi i)] [] M' N' Q) : ry S 80 0 859 [some (yr 40000), some (yr 0), some (yr 75), some (yi i)] [] M N Q := by
  refine r_run 5 (pc' := 864) (ls' := [some (yr 40000), some (yr 0), some (yr 75), some (yi i)]) (st' := [yi (i + 1), yr 40000, yr 0]) (M' := M) (N' := N) rfl ?_
  refine r_iscr f_0_864 (by omega) hS ?_
  refine r_run 4 (pc' := 869) (ls' := [some (yr 40000), some (yr 0), some (yr 75), some (yi i)]) (st' := [yi (i + 2), yr 40000, yi ((S.2 (i + 1).toNat).toInt), yr 0]) (M' := M) (N' := N) rfl ?_
  refine r_iscr f_0_869 (by omega) hS ?_
  refine r_run 4 (pc' := 874) (ls' := [some (yr 40000), some (yr 0), some (yr 75), some (yi i)]) (st' := [yi (i + 3), yr 40000, yi ((S.2 (i + 2).toNat).toInt), yi ((S.2 (i + 1).toNat).toInt), yr 0]) (M' := M) (N' := N) rfl ?_
  refine r_iscr f_0_874 (by omega) hS ?_
  refine r_virtual (mj := 73) (b := 0) (as := [yi ((S.2 (i + 1).toNat).toInt), yi ((S.2 (i + 2).toNat).toInt), yi ((S.2 (i + 3).toNat).toInt)]) (rest := []) f_0_875 (by decide) rfl m_73 (by decide) (by decide) (by decide) rfl rfl (Nat.le_of_ble_eq_true rfl) (by omega) (p_wager ⟨Int32.le_toInt _, Int32.toInt_lt _⟩ ⟨Int32.le_toInt _, Int32.toInt_lt _⟩ ⟨Int32.le_toInt _, Int32.toInt_lt _⟩ R) ?_
  rintro _ M1 N1 ⟨v, rfl, hm⟩
  refine r_run 5 (pc' := 883) (ls' := [some (yr 40000), some (yr 0), some (yr 75), some (yi i)]) (st' := [yi (i + 1), yr 40000, yr 75, yj v]) (M' := M1) (N' := N1) rfl ?_
  refine r_iscr f_0_883 (by omega) hS ?_
  refine r_run 4 (pc' := 888) (ls' := [some (yr 40000), some (yr 0), some (yr 75), some (yi i)]) (st' := [yi (i + 2), yr 40000, yi ((S.2 (i + 1).toNat).toInt), yr 75, yj v]) (M' := M1) (N' := N1) rfl ?_
  refine r_iscr f_0_888 (by omega) hS ?_
  refine r_run 4 (pc' := 893) (ls' := [some (yr 40000), some (yr 0), some (yr 75), some (yi i)]) (st' := [yi (i + 3), yr 40000, yi ((S.2 (i + 2).toNat).toInt), yi ((S.2 (i + 1).toNat).toInt), yr 75, yj v]) (M' := M1) (N' := N1) rfl ?_
  refine r_iscr f_0_893 (by omega) hS ?_
  refine r_virtual (mj := 171) (b := 75) (as := [yi ((S.2 (i + 1).toNat).toInt), yi ((S.2 (i + 2).toNat).toInt), yi ((S.2 (i + 3).toNat).toInt)]) (rest := [yj v]) f_0_894 (by decide) rfl m_171 (by decide) (by decide) (by decide) rfl rfl (Nat.le_of_ble_eq_true rfl) (by omega) (hm) ?_
  rintro _ M2 N2 ⟨rfl, R2⟩
  refine r_lcs f_0_897 ?_
  exact r_if_eq (pc := 898) f_0_898 (by decide) (fun _ => kk _ _ R2) (fun h => absurd rfl h)
set_option maxRecDepth 1000000 in
theorem law_c22 {S : XS} {i : Int} {M N : YM} {Q : Option YV → YM → YM → Prop} (hS : S.1 < 100000) (hi : 0 ≤ i ∧ i + 7 ≤ S.1) (R : Rel M) (kk : ∀ M' N', Rel M' → ry S 80 0 1444 [some (yr 40000), some (yr 0), some (yr 75), some (yi i)] [] M' N' Q) : ry S 80 0 903 [some (yr 40000), some (yr 0), some (yr 75), some (yi i)] [] M N Q := by
  refine r_run 5 (pc' := 908) (ls' := [some (yr 40000), some (yr 0), some (yr 75), some (yi i)]) (st' := [yi (i + 1), yr 40000, yr 0]) (M' := M) (N' := N) rfl ?_
  refine r_iscr f_0_908 (by omega) hS ?_
  refine r_run 4 (pc' := 913) (ls' := [some (yr 40000), some (yr 0), some (yr 75), some (yi i)]) (st' := [yi (i + 2), yr 40000, yi ((S.2 (i + 1).toNat).toInt), yr 0]) (M' := M) (N' := N) rfl ?_
  refine r_iscr f_0_913 (by omega) hS ?_
  refine r_run 4 (pc' := 918) (ls' := [some (yr 40000), some (yr 0), some (yr 75), some (yi i)]) (st' := [yi (i + 3), yr 40000, yi ((S.2 (i + 2).toNat).toInt), yi ((S.2 (i + 1).toNat).toInt), yr 0]) (M' := M) (N' := N) rfl ?_
  refine r_iscr f_0_918 (by omega) hS ?_
  refine r_virtual (mj := 74) (b := 0) (as := [yi ((S.2 (i + 1).toNat).toInt), yi ((S.2 (i + 2).toNat).toInt), yi ((S.2 (i + 3).toNat).toInt)]) (rest := []) f_0_919 (by decide) rfl m_74 (by decide) (by decide) (by decide) rfl rfl (Nat.le_of_ble_eq_true rfl) (by omega) (p_less ⟨Int32.le_toInt _, Int32.toInt_lt _⟩ ⟨Int32.le_toInt _, Int32.toInt_lt _⟩ ⟨Int32.le_toInt _, Int32.toInt_lt _⟩ R) ?_
  rintro _ M1 N1 ⟨v, rfl, hm⟩
  refine r_run 5 (pc' := 927) (ls' := [some (yr 40000), some (yr 0), some (yr 75), some (yi i)]) (st' := [yi (i + 1), yr 40000, yr 75, yj v]) (M' := M1) (N' := N1) rfl ?_
  refine r_iscr f_0_927 (by omega) hS ?_
  refine r_run 4 (pc' := 932) (ls' := [some (yr 40000), some (yr 0), some (yr 75), some (yi i)]) (st' := [yi (i + 2), yr 40000, yi ((S.2 (i + 1).toNat).toInt), yr 75, yj v]) (M' := M1) (N' := N1) rfl ?_
  refine r_iscr f_0_932 (by omega) hS ?_
  refine r_run 4 (pc' := 937) (ls' := [some (yr 40000), some (yr 0), some (yr 75), some (yi i)]) (st' := [yi (i + 3), yr 40000, yi ((S.2 (i + 2).toNat).toInt), yi ((S.2 (i + 1).toNat).toInt), yr 75, yj v]) (M' := M1) (N' := N1) rfl ?_
  refine r_iscr f_0_937 (by omega) hS ?_
  refine r_virtual (mj := 172) (b := 75) (as := [yi ((S.2 (i + 1).toNat).toInt), yi ((S.2 (i + 2).toNat).toInt), yi ((S.2 (i + 3).toNat).toInt)]) (rest := [yj v]) f_0_938 (by decide) rfl m_172 (by decide) (by decide) (by decide) rfl rfl (Nat.le_of_ble_eq_true rfl) (by omega) (hm) ?_
  rintro _ M2 N2 ⟨rfl, R2⟩
  refine r_lcs f_0_941 ?_
  exact r_if_eq (pc := 942) f_0_942 (by decide) (fun _ => kk _ _ R2) (fun h => absurd rfl h)
set_option maxRecDepth 1000000 in
theorem law_c23 {S : XS} {i : Int} {M N : YM} {Q : Option YV → YM → YM → Prop} (hS : S.1 < 100000) (hi : 0 ≤ i ∧ i + 7 ≤ S.1) (R : Rel M) (kk : ∀ M' N', Rel M' → ry S 80 0 1444 [some (yr 40000), some (yr 0), some (yr 75), some (yi i)] [] M' N' Q) : ry S 80 0 947 [some (yr 40000), some (yr 0), some (yr 75), some (yi i)] [] M N Q := by
  refine r_run 5 (pc' := 952) (ls' := [some (yr 40000), some (yr 0), some (yr 75), some (yi i)]) (st' := [yi (i + 1), yr 40000, yr 0]) (M' := M) (N' := N) rfl ?_
  refine r_iscr f_0_952 (by omega) hS ?_
  refine r_virtual (mj := 75) (b := 0) (as := [yi ((S.2 (i + 1).toNat).toInt)]) (rest := []) f_0_953 (by decide) rfl m_75 (by decide) (by decide) (by decide) rfl rfl (Nat.le_of_ble_eq_true rfl) (by omega) (p_lies ⟨Int32.le_toInt _, Int32.toInt_lt _⟩ R) ?_
  rintro _ M1 N1 ⟨v, rfl, hm⟩
  refine r_run 5 (pc' := 961) (ls' := [some (yr 40000), some (yr 0), some (yr 75), some (yi i)]) (st' := [yi (i + 1), yr 40000, yr 75, yi v]) (M' := M1) (N' := N1) rfl ?_
  refine r_iscr f_0_961 (by omega) hS ?_
  refine r_virtual (mj := 174) (b := 75) (as := [yi ((S.2 (i + 1).toNat).toInt)]) (rest := [yi v]) f_0_962 (by decide) rfl m_174 (by decide) (by decide) (by decide) rfl rfl (Nat.le_of_ble_eq_true rfl) (by omega) (hm) ?_
  rintro _ M2 N2 ⟨rfl, R2⟩
  exact r_eqs f_0_965 (kk _ _ R2)
set_option maxRecDepth 1000000 in
theorem law_c24 {S : XS} {i : Int} {M N : YM} {Q : Option YV → YM → YM → Prop} (hS : S.1 < 100000) (hi : 0 ≤ i ∧ i + 7 ≤ S.1) (R : Rel M) (kk : ∀ M' N', Rel M' → ry S 80 0 1444 [some (yr 40000), some (yr 0), some (yr 75), some (yi i)] [] M' N' Q) : ry S 80 0 970 [some (yr 40000), some (yr 0), some (yr 75), some (yi i)] [] M N Q := by
  refine r_run 5 (pc' := 975) (ls' := [some (yr 40000), some (yr 0), some (yr 75), some (yi i)]) (st' := [yi (i + 1), yr 40000, yr 0]) (M' := M) (N' := N) rfl ?_
  refine r_iscr f_0_975 (by omega) hS ?_
  refine r_virtual (mj := 76) (b := 0) (as := [yi ((S.2 (i + 1).toNat).toInt)]) (rest := []) f_0_976 (by decide) rfl m_76 (by decide) (by decide) (by decide) rfl rfl (Nat.le_of_ble_eq_true rfl) (by omega) (p_breaks ⟨Int32.le_toInt _, Int32.toInt_lt _⟩ R) ?_
  rintro _ M1 N1 ⟨v, rfl, hm⟩
  refine r_run 5 (pc' := 984) (ls' := [some (yr 40000), some (yr 0), some (yr 75), some (yi i)]) (st' := [yi (i + 1), yr 40000, yr 75, yi v]) (M' := M1) (N' := N1) rfl ?_
  refine r_iscr f_0_984 (by omega) hS ?_
  refine r_virtual (mj := 175) (b := 75) (as := [yi ((S.2 (i + 1).toNat).toInt)]) (rest := [yi v]) f_0_985 (by decide) rfl m_175 (by decide) (by decide) (by decide) rfl rfl (Nat.le_of_ble_eq_true rfl) (by omega) (hm) ?_
  rintro _ M2 N2 ⟨rfl, R2⟩
  exact r_eqs f_0_988 (kk _ _ R2)
set_option maxRecDepth 1000000 in
theorem law_c25 {S : XS} {i : Int} {M N : YM} {Q : Option YV → YM → YM → Prop} (hS : S.1 < 100000) (hi : 0 ≤ i ∧ i + 7 ≤ S.1) (R : Rel M) (kk : ∀ M' N', Rel M' → ry S 80 0 1444 [some (yr 40000), some (yr 0), some (yr 75), some (yi i)] [] M' N' Q) : ry S 80 0 993 [some (yr 40000), some (yr 0), some (yr 75), some (yi i)] [] M N Q := by
  refine r_run 5 (pc' := 998) (ls' := [some (yr 40000), some (yr 0), some (yr 75), some (yi i)]) (st' := [yi (i + 1), yr 40000, yr 0]) (M' := M) (N' := N) rfl ?_
  refine r_iscr f_0_998 (by omega) hS ?_
  refine r_virtual (mj := 77) (b := 0) (as := [yi ((S.2 (i + 1).toNat).toInt)]) (rest := []) f_0_999 (by decide) rfl m_77 (by decide) (by decide) (by decide) rfl rfl (Nat.le_of_ble_eq_true rfl) (by omega) (p_judge ⟨Int32.le_toInt _, Int32.toInt_lt _⟩ R) ?_
  rintro _ M1 N1 ⟨v, rfl, hm⟩
  refine r_run 5 (pc' := 1007) (ls' := [some (yr 40000), some (yr 0), some (yr 75), some (yi i)]) (st' := [yi (i + 1), yr 40000, yr 75, yi v]) (M' := M1) (N' := N1) rfl ?_
  refine r_iscr f_0_1007 (by omega) hS ?_
  refine r_virtual (mj := 176) (b := 75) (as := [yi ((S.2 (i + 1).toNat).toInt)]) (rest := [yi v]) f_0_1008 (by decide) rfl m_176 (by decide) (by decide) (by decide) rfl rfl (Nat.le_of_ble_eq_true rfl) (by omega) (hm) ?_
  rintro _ M2 N2 ⟨rfl, R2⟩
  exact r_eqs f_0_1011 (kk _ _ R2)
set_option maxRecDepth 1000000 in
theorem law_c26 {S : XS} {i : Int} {M N : YM} {Q : Option YV → YM → YM → Prop} (hS : S.1 < 100000) (hi : 0 ≤ i ∧ i + 7 ≤ S.1) (R : Rel M) (kk : ∀ M' N', Rel M' → ry S 80 0 1444 [some (yr 40000), some (yr 0), some (yr 75), some (yi i)] [] M' N' Q) : ry S 80 0 1016 [some (yr 40000), some (yr 0), some (yr 75), some (yi i)] [] M N Q := by
  refine r_run 5 (pc' := 1021) (ls' := [some (yr 40000), some (yr 0), some (yr 75), some (yi i)]) (st' := [yi (i + 1), yr 40000, yr 0]) (M' := M) (N' := N) rfl ?_
  refine r_iscr f_0_1021 (by omega) hS ?_
  refine r_run 4 (pc' := 1026) (ls' := [some (yr 40000), some (yr 0), some (yr 75), some (yi i)]) (st' := [yi (i + 2), yr 40000, yi ((S.2 (i + 1).toNat).toInt), yr 0]) (M' := M) (N' := N) rfl ?_
  refine r_iscr f_0_1026 (by omega) hS ?_
  refine r_virtual (mj := 78) (b := 0) (as := [yi ((S.2 (i + 1).toNat).toInt), yi ((S.2 (i + 2).toNat).toInt)]) (rest := []) f_0_1027 (by decide) rfl m_78 (by decide) (by decide) (by decide) rfl rfl (Nat.le_of_ble_eq_true rfl) (by omega) (p_reckon ⟨Int32.le_toInt _, Int32.toInt_lt _⟩ ⟨Int32.le_toInt _, Int32.toInt_lt _⟩ R) ?_
  rintro _ M1 N1 ⟨v, rfl, hm⟩
  refine r_run 5 (pc' := 1035) (ls' := [some (yr 40000), some (yr 0), some (yr 75), some (yi i)]) (st' := [yi (i + 1), yr 40000, yr 75, yj v]) (M' := M1) (N' := N1) rfl ?_
  refine r_iscr f_0_1035 (by omega) hS ?_
  refine r_run 4 (pc' := 1040) (ls' := [some (yr 40000), some (yr 0), some (yr 75), some (yi i)]) (st' := [yi (i + 2), yr 40000, yi ((S.2 (i + 1).toNat).toInt), yr 75, yj v]) (M' := M1) (N' := N1) rfl ?_
  refine r_iscr f_0_1040 (by omega) hS ?_
  refine r_virtual (mj := 178) (b := 75) (as := [yi ((S.2 (i + 1).toNat).toInt), yi ((S.2 (i + 2).toNat).toInt)]) (rest := [yj v]) f_0_1041 (by decide) rfl m_178 (by decide) (by decide) (by decide) rfl rfl (Nat.le_of_ble_eq_true rfl) (by omega) (hm) ?_
  rintro _ M2 N2 ⟨rfl, R2⟩
  refine r_lcs f_0_1044 ?_
  exact r_if_eq (pc := 1045) f_0_1045 (by decide) (fun _ => kk _ _ R2) (fun h => absurd rfl h)
set_option maxRecDepth 1000000 in
theorem law_c27 {S : XS} {i : Int} {M N : YM} {Q : Option YV → YM → YM → Prop} (hS : S.1 < 100000) (hi : 0 ≤ i ∧ i + 7 ≤ S.1) (R : Rel M) (kk : ∀ M' N', Rel M' → ry S 80 0 1444 [some (yr 40000), some (yr 0), some (yr 75), some (yi i)] [] M' N' Q) : ry S 80 0 1050 [some (yr 40000), some (yr 0), some (yr 75), some (yi i)] [] M N Q := by
  refine r_run 5 (pc' := 1055) (ls' := [some (yr 40000), some (yr 0), some (yr 75), some (yi i)]) (st' := [yi (i + 1), yr 40000, yr 0]) (M' := M) (N' := N) rfl ?_
  refine r_iscr f_0_1055 (by omega) hS ?_
  refine r_virtual (mj := 79) (b := 0) (as := [yi ((S.2 (i + 1).toNat).toInt)]) (rest := []) f_0_1056 (by decide) rfl m_79 (by decide) (by decide) (by decide) rfl rfl (Nat.le_of_ble_eq_true rfl) (by omega) (p_laws ⟨Int32.le_toInt _, Int32.toInt_lt _⟩ R) ?_
  rintro _ M1 N1 ⟨v, rfl, hm⟩
  refine r_run 5 (pc' := 1064) (ls' := [some (yr 40000), some (yr 0), some (yr 75), some (yi i)]) (st' := [yi (i + 1), yr 40000, yr 75, yi v]) (M' := M1) (N' := N1) rfl ?_
  refine r_iscr f_0_1064 (by omega) hS ?_
  refine r_virtual (mj := 179) (b := 75) (as := [yi ((S.2 (i + 1).toNat).toInt)]) (rest := [yi v]) f_0_1065 (by decide) rfl m_179 (by decide) (by decide) (by decide) rfl rfl (Nat.le_of_ble_eq_true rfl) (by omega) (hm) ?_
  rintro _ M2 N2 ⟨rfl, R2⟩
  exact r_eqs f_0_1068 (kk _ _ R2)
set_option maxRecDepth 1000000 in
theorem law_c28 {S : XS} {i : Int} {M N : YM} {Q : Option YV → YM → YM → Prop} (hS : S.1 < 100000) (hi : 0 ≤ i ∧ i + 7 ≤ S.1) (R : Rel M) (kk : ∀ M' N', Rel M' → ry S 80 0 1444 [some (yr 40000), some (yr 0), some (yr 75), some (yi i)] [] M' N' Q) : ry S 80 0 1073 [some (yr 40000), some (yr 0), some (yr 75), some (yi i)] [] M N Q := by
  refine r_run 5 (pc' := 1078) (ls' := [some (yr 40000), some (yr 0), some (yr 75), some (yi i)]) (st' := [yi (i + 1), yr 40000, yr 0]) (M' := M) (N' := N) rfl ?_
  refine r_iscr f_0_1078 (by omega) hS ?_
  refine r_run 4 (pc' := 1083) (ls' := [some (yr 40000), some (yr 0), some (yr 75), some (yi i)]) (st' := [yi (i + 2), yr 40000, yi ((S.2 (i + 1).toNat).toInt), yr 0]) (M' := M) (N' := N) rfl ?_
  refine r_iscr f_0_1083 (by omega) hS ?_
  refine r_virtual (mj := 80) (b := 0) (as := [yi ((S.2 (i + 1).toNat).toInt), yi ((S.2 (i + 2).toNat).toInt)]) (rest := []) f_0_1084 (by decide) rfl m_80 (by decide) (by decide) (by decide) rfl rfl (Nat.le_of_ble_eq_true rfl) (by omega) (p_film ⟨Int32.le_toInt _, Int32.toInt_lt _⟩ ⟨Int32.le_toInt _, Int32.toInt_lt _⟩ R) ?_
  rintro _ M1 N1 ⟨v, rfl, hm⟩
  refine r_run 5 (pc' := 1092) (ls' := [some (yr 40000), some (yr 0), some (yr 75), some (yi i)]) (st' := [yi (i + 1), yr 40000, yr 75, yi v]) (M' := M1) (N' := N1) rfl ?_
  refine r_iscr f_0_1092 (by omega) hS ?_
  refine r_run 4 (pc' := 1097) (ls' := [some (yr 40000), some (yr 0), some (yr 75), some (yi i)]) (st' := [yi (i + 2), yr 40000, yi ((S.2 (i + 1).toNat).toInt), yr 75, yi v]) (M' := M1) (N' := N1) rfl ?_
  refine r_iscr f_0_1097 (by omega) hS ?_
  refine r_virtual (mj := 180) (b := 75) (as := [yi ((S.2 (i + 1).toNat).toInt), yi ((S.2 (i + 2).toNat).toInt)]) (rest := [yi v]) f_0_1098 (by decide) rfl m_180 (by decide) (by decide) (by decide) rfl rfl (Nat.le_of_ble_eq_true rfl) (by omega) (hm) ?_
  rintro _ M2 N2 ⟨rfl, R2⟩
  exact r_eqs f_0_1101 (kk _ _ R2)
set_option maxRecDepth 1000000 in
theorem law_c29 {S : XS} {i : Int} {M N : YM} {Q : Option YV → YM → YM → Prop} (hS : S.1 < 100000) (hi : 0 ≤ i ∧ i + 7 ≤ S.1) (R : Rel M) (kk : ∀ M' N', Rel M' → ry S 80 0 1444 [some (yr 40000), some (yr 0), some (yr 75), some (yi i)] [] M' N' Q) : ry S 80 0 1106 [some (yr 40000), some (yr 0), some (yr 75), some (yi i)] [] M N Q := by
  refine r_run 5 (pc' := 1111) (ls' := [some (yr 40000), some (yr 0), some (yr 75), some (yi i)]) (st' := [yi (i + 1), yr 40000, yr 0]) (M' := M) (N' := N) rfl ?_
  refine r_iscr f_0_1111 (by omega) hS ?_
  refine r_run 4 (pc' := 1116) (ls' := [some (yr 40000), some (yr 0), some (yr 75), some (yi i)]) (st' := [yi (i + 2), yr 40000, yi ((S.2 (i + 1).toNat).toInt), yr 0]) (M' := M) (N' := N) rfl ?_
  refine r_iscr f_0_1116 (by omega) hS ?_
  refine r_virtual (mj := 81) (b := 0) (as := [yi ((S.2 (i + 1).toNat).toInt), yi ((S.2 (i + 2).toNat).toInt)]) (rest := []) f_0_1117 (by decide) rfl m_81 (by decide) (by decide) (by decide) rfl rfl (Nat.le_of_ble_eq_true rfl) (by omega) (p_drawn ⟨Int32.le_toInt _, Int32.toInt_lt _⟩ ⟨Int32.le_toInt _, Int32.toInt_lt _⟩ R) ?_
  rintro _ M1 N1 ⟨v, rfl, hm⟩
  refine r_run 5 (pc' := 1125) (ls' := [some (yr 40000), some (yr 0), some (yr 75), some (yi i)]) (st' := [yi (i + 1), yr 40000, yr 75, yi v]) (M' := M1) (N' := N1) rfl ?_
  refine r_iscr f_0_1125 (by omega) hS ?_
  refine r_run 4 (pc' := 1130) (ls' := [some (yr 40000), some (yr 0), some (yr 75), some (yi i)]) (st' := [yi (i + 2), yr 40000, yi ((S.2 (i + 1).toNat).toInt), yr 75, yi v]) (M' := M1) (N' := N1) rfl ?_
  refine r_iscr f_0_1130 (by omega) hS ?_
  refine r_virtual (mj := 182) (b := 75) (as := [yi ((S.2 (i + 1).toNat).toInt), yi ((S.2 (i + 2).toNat).toInt)]) (rest := [yi v]) f_0_1131 (by decide) rfl m_182 (by decide) (by decide) (by decide) rfl rfl (Nat.le_of_ble_eq_true rfl) (by omega) (hm) ?_
  rintro _ M2 N2 ⟨rfl, R2⟩
  exact r_eqs f_0_1134 (kk _ _ R2)
set_option maxRecDepth 1000000 in
theorem law_c30 {S : XS} {i : Int} {M N : YM} {Q : Option YV → YM → YM → Prop} (hS : S.1 < 100000) (hi : 0 ≤ i ∧ i + 7 ≤ S.1) (R : Rel M) (kk : ∀ M' N', Rel M' → ry S 80 0 1444 [some (yr 40000), some (yr 0), some (yr 75), some (yi i)] [] M' N' Q) : ry S 80 0 1139 [some (yr 40000), some (yr 0), some (yr 75), some (yi i)] [] M N Q := by
  refine r_run 5 (pc' := 1144) (ls' := [some (yr 40000), some (yr 0), some (yr 75), some (yi i)]) (st' := [yi (i + 1), yr 40000, yr 0]) (M' := M) (N' := N) rfl ?_
  refine r_iscr f_0_1144 (by omega) hS ?_
  refine r_run 4 (pc' := 1149) (ls' := [some (yr 40000), some (yr 0), some (yr 75), some (yi i)]) (st' := [yi (i + 2), yr 40000, yi ((S.2 (i + 1).toNat).toInt), yr 0]) (M' := M) (N' := N) rfl ?_
  refine r_iscr f_0_1149 (by omega) hS ?_
  refine r_run 4 (pc' := 1154) (ls' := [some (yr 40000), some (yr 0), some (yr 75), some (yi i)]) (st' := [yi (i + 3), yr 40000, yi ((S.2 (i + 2).toNat).toInt), yi ((S.2 (i + 1).toNat).toInt), yr 0]) (M' := M) (N' := N) rfl ?_
  refine r_iscr f_0_1154 (by omega) hS ?_
  refine r_virtual (mj := 82) (b := 0) (as := [yi ((S.2 (i + 1).toNat).toInt), yi ((S.2 (i + 2).toNat).toInt), yi ((S.2 (i + 3).toNat).toInt)]) (rest := []) f_0_1155 (by decide) rfl m_82 (by decide) (by decide) (by decide) rfl rfl (Nat.le_of_ble_eq_true rfl) (by omega) (p_odds ⟨Int32.le_toInt _, Int32.toInt_lt _⟩ ⟨Int32.le_toInt _, Int32.toInt_lt _⟩ ⟨Int32.le_toInt _, Int32.toInt_lt _⟩ R) ?_
  rintro _ M1 N1 ⟨v, rfl, hm⟩
  refine r_run 5 (pc' := 1163) (ls' := [some (yr 40000), some (yr 0), some (yr 75), some (yi i)]) (st' := [yi (i + 1), yr 40000, yr 75, yj v]) (M' := M1) (N' := N1) rfl ?_
  refine r_iscr f_0_1163 (by omega) hS ?_
  refine r_run 4 (pc' := 1168) (ls' := [some (yr 40000), some (yr 0), some (yr 75), some (yi i)]) (st' := [yi (i + 2), yr 40000, yi ((S.2 (i + 1).toNat).toInt), yr 75, yj v]) (M' := M1) (N' := N1) rfl ?_
  refine r_iscr f_0_1168 (by omega) hS ?_
  refine r_run 4 (pc' := 1173) (ls' := [some (yr 40000), some (yr 0), some (yr 75), some (yi i)]) (st' := [yi (i + 3), yr 40000, yi ((S.2 (i + 2).toNat).toInt), yi ((S.2 (i + 1).toNat).toInt), yr 75, yj v]) (M' := M1) (N' := N1) rfl ?_
  refine r_iscr f_0_1173 (by omega) hS ?_
  refine r_virtual (mj := 183) (b := 75) (as := [yi ((S.2 (i + 1).toNat).toInt), yi ((S.2 (i + 2).toNat).toInt), yi ((S.2 (i + 3).toNat).toInt)]) (rest := [yj v]) f_0_1174 (by decide) rfl m_183 (by decide) (by decide) (by decide) rfl rfl (Nat.le_of_ble_eq_true rfl) (by omega) (hm) ?_
  rintro _ M2 N2 ⟨rfl, R2⟩
  refine r_lcs f_0_1177 ?_
  exact r_if_eq (pc := 1178) f_0_1178 (by decide) (fun _ => kk _ _ R2) (fun h => absurd rfl h)
set_option maxRecDepth 1000000 in
theorem law_c31 {S : XS} {i : Int} {M N : YM} {Q : Option YV → YM → YM → Prop} (hS : S.1 < 100000) (hi : 0 ≤ i ∧ i + 7 ≤ S.1) (R : Rel M) (kk : ∀ M' N', Rel M' → ry S 80 0 1444 [some (yr 40000), some (yr 0), some (yr 75), some (yi i)] [] M' N' Q) : ry S 80 0 1183 [some (yr 40000), some (yr 0), some (yr 75), some (yi i)] [] M N Q := by
  refine r_run 1 (pc' := 1184) (ls' := [some (yr 40000), some (yr 0), some (yr 75), some (yi i)]) (st' := [yr 0]) (M' := M) (N' := N) rfl ?_
  refine r_virtual (mj := 83) (b := 0) (as := []) (rest := []) f_0_1184 (by decide) rfl m_83 (by decide) (by decide) (by decide) rfl rfl (Nat.le_of_ble_eq_true rfl) (by omega) (p_image  R) ?_
  rintro _ M1 N1 ⟨v, rfl, hm⟩
  refine r_run 1 (pc' := 1188) (ls' := [some (yr 40000), some (yr 0), some (yr 75), some (yi i)]) (st' := [yr 75, yi v]) (M' := M1) (N' := N1) rfl ?_
  refine r_virtual (mj := 184) (b := 75) (as := []) (rest := [yi v]) f_0_1188 (by decide) rfl m_184 (by decide) (by decide) (by decide) rfl rfl (Nat.le_of_ble_eq_true rfl) (by omega) (hm) ?_
  rintro _ M2 N2 ⟨rfl, R2⟩
  exact r_eqs f_0_1191 (kk _ _ R2)
set_option maxRecDepth 1000000 in
theorem law_c32 {S : XS} {i : Int} {M N : YM} {Q : Option YV → YM → YM → Prop} (hS : S.1 < 100000) (hi : 0 ≤ i ∧ i + 7 ≤ S.1) (R : Rel M) (kk : ∀ M' N', Rel M' → ry S 80 0 1444 [some (yr 40000), some (yr 0), some (yr 75), some (yi i)] [] M' N' Q) : ry S 80 0 1196 [some (yr 40000), some (yr 0), some (yr 75), some (yi i)] [] M N Q := by
  refine r_run 1 (pc' := 1197) (ls' := [some (yr 40000), some (yr 0), some (yr 75), some (yi i)]) (st' := [yr 0]) (M' := M) (N' := N) rfl ?_
  refine r_virtual (mj := 84) (b := 0) (as := []) (rest := []) f_0_1197 (by decide) rfl m_84 (by decide) (by decide) (by decide) rfl rfl (Nat.le_of_ble_eq_true rfl) (by omega) (p_back  R) ?_
  rintro _ M1 N1 ⟨v, rfl, hm⟩
  refine r_run 1 (pc' := 1201) (ls' := [some (yr 40000), some (yr 0), some (yr 75), some (yi i)]) (st' := [yr 75, yi v]) (M' := M1) (N' := N1) rfl ?_
  refine r_virtual (mj := 185) (b := 75) (as := []) (rest := [yi v]) f_0_1201 (by decide) rfl m_185 (by decide) (by decide) (by decide) rfl rfl (Nat.le_of_ble_eq_true rfl) (by omega) (hm) ?_
  rintro _ M2 N2 ⟨rfl, R2⟩
  exact r_eqs f_0_1204 (kk _ _ R2)
set_option maxRecDepth 1000000 in
theorem law_c33 {S : XS} {i : Int} {M N : YM} {Q : Option YV → YM → YM → Prop} (hS : S.1 < 100000) (hi : 0 ≤ i ∧ i + 7 ≤ S.1) (R : Rel M) (kk : ∀ M' N', Rel M' → ry S 80 0 1444 [some (yr 40000), some (yr 0), some (yr 75), some (yi i)] [] M' N' Q) : ry S 80 0 1209 [some (yr 40000), some (yr 0), some (yr 75), some (yi i)] [] M N Q := by
  refine r_run 5 (pc' := 1214) (ls' := [some (yr 40000), some (yr 0), some (yr 75), some (yi i)]) (st' := [yi (i + 1), yr 40000, yr 0]) (M' := M) (N' := N) rfl ?_
  refine r_iscr f_0_1214 (by omega) hS ?_
  refine r_run 4 (pc' := 1219) (ls' := [some (yr 40000), some (yr 0), some (yr 75), some (yi i)]) (st' := [yi (i + 2), yr 40000, yi ((S.2 (i + 1).toNat).toInt), yr 0]) (M' := M) (N' := N) rfl ?_
  refine r_iscr f_0_1219 (by omega) hS ?_
  refine r_run 4 (pc' := 1224) (ls' := [some (yr 40000), some (yr 0), some (yr 75), some (yi i)]) (st' := [yi (i + 3), yr 40000, yi ((S.2 (i + 2).toNat).toInt), yi ((S.2 (i + 1).toNat).toInt), yr 0]) (M' := M) (N' := N) rfl ?_
  refine r_iscr f_0_1224 (by omega) hS ?_
  refine r_virtual (mj := 85) (b := 0) (as := [yi ((S.2 (i + 1).toNat).toInt), yi ((S.2 (i + 2).toNat).toInt), yi ((S.2 (i + 3).toNat).toInt)]) (rest := []) f_0_1225 (by decide) rfl m_85 (by decide) (by decide) (by decide) rfl rfl (Nat.le_of_ble_eq_true rfl) (by omega) (p_sheet ⟨Int32.le_toInt _, Int32.toInt_lt _⟩ ⟨Int32.le_toInt _, Int32.toInt_lt _⟩ ⟨Int32.le_toInt _, Int32.toInt_lt _⟩ R) ?_
  rintro _ M1 N1 ⟨v, rfl, hm⟩
  refine r_run 5 (pc' := 1233) (ls' := [some (yr 40000), some (yr 0), some (yr 75), some (yi i)]) (st' := [yi (i + 1), yr 40000, yr 75, yi v]) (M' := M1) (N' := N1) rfl ?_
  refine r_iscr f_0_1233 (by omega) hS ?_
  refine r_run 4 (pc' := 1238) (ls' := [some (yr 40000), some (yr 0), some (yr 75), some (yi i)]) (st' := [yi (i + 2), yr 40000, yi ((S.2 (i + 1).toNat).toInt), yr 75, yi v]) (M' := M1) (N' := N1) rfl ?_
  refine r_iscr f_0_1238 (by omega) hS ?_
  refine r_run 4 (pc' := 1243) (ls' := [some (yr 40000), some (yr 0), some (yr 75), some (yi i)]) (st' := [yi (i + 3), yr 40000, yi ((S.2 (i + 2).toNat).toInt), yi ((S.2 (i + 1).toNat).toInt), yr 75, yi v]) (M' := M1) (N' := N1) rfl ?_
  refine r_iscr f_0_1243 (by omega) hS ?_
  refine r_virtual (mj := 186) (b := 75) (as := [yi ((S.2 (i + 1).toNat).toInt), yi ((S.2 (i + 2).toNat).toInt), yi ((S.2 (i + 3).toNat).toInt)]) (rest := [yi v]) f_0_1244 (by decide) rfl m_186 (by decide) (by decide) (by decide) rfl rfl (Nat.le_of_ble_eq_true rfl) (by omega) (hm) ?_
  rintro _ M2 N2 ⟨rfl, R2⟩
  exact r_eqs f_0_1247 (kk _ _ R2)
set_option maxRecDepth 1000000 in
theorem law_c34 {S : XS} {i : Int} {M N : YM} {Q : Option YV → YM → YM → Prop} (hS : S.1 < 100000) (hi : 0 ≤ i ∧ i + 7 ≤ S.1) (R : Rel M) (kk : ∀ M' N', Rel M' → ry S 80 0 1444 [some (yr 40000), some (yr 0), some (yr 75), some (yi i)] [] M' N' Q) : ry S 80 0 1252 [some (yr 40000), some (yr 0), some (yr 75), some (yi i)] [] M N Q := by
  refine r_run 5 (pc' := 1257) (ls' := [some (yr 40000), some (yr 0), some (yr 75), some (yi i)]) (st' := [yi (i + 1), yr 40000, yr 0]) (M' := M) (N' := N) rfl ?_
  refine r_iscr f_0_1257 (by omega) hS ?_
  refine r_run 4 (pc' := 1262) (ls' := [some (yr 40000), some (yr 0), some (yr 75), some (yi i)]) (st' := [yi (i + 2), yr 40000, yi ((S.2 (i + 1).toNat).toInt), yr 0]) (M' := M) (N' := N) rfl ?_
  refine r_iscr f_0_1262 (by omega) hS ?_
  refine r_run 4 (pc' := 1267) (ls' := [some (yr 40000), some (yr 0), some (yr 75), some (yi i)]) (st' := [yi (i + 3), yr 40000, yi ((S.2 (i + 2).toNat).toInt), yi ((S.2 (i + 1).toNat).toInt), yr 0]) (M' := M) (N' := N) rfl ?_
  refine r_iscr f_0_1267 (by omega) hS ?_
  refine r_virtual (mj := 86) (b := 0) (as := [yi ((S.2 (i + 1).toNat).toInt), yi ((S.2 (i + 2).toNat).toInt), yi ((S.2 (i + 3).toNat).toInt)]) (rest := []) f_0_1268 (by decide) rfl m_86 (by decide) (by decide) (by decide) rfl rfl (Nat.le_of_ble_eq_true rfl) (by omega) (p_cell ⟨Int32.le_toInt _, Int32.toInt_lt _⟩ ⟨Int32.le_toInt _, Int32.toInt_lt _⟩ ⟨Int32.le_toInt _, Int32.toInt_lt _⟩ R) ?_
  rintro _ M1 N1 ⟨v, rfl, hm⟩
  refine r_run 5 (pc' := 1276) (ls' := [some (yr 40000), some (yr 0), some (yr 75), some (yi i)]) (st' := [yi (i + 1), yr 40000, yr 75, yi v]) (M' := M1) (N' := N1) rfl ?_
  refine r_iscr f_0_1276 (by omega) hS ?_
  refine r_run 4 (pc' := 1281) (ls' := [some (yr 40000), some (yr 0), some (yr 75), some (yi i)]) (st' := [yi (i + 2), yr 40000, yi ((S.2 (i + 1).toNat).toInt), yr 75, yi v]) (M' := M1) (N' := N1) rfl ?_
  refine r_iscr f_0_1281 (by omega) hS ?_
  refine r_run 4 (pc' := 1286) (ls' := [some (yr 40000), some (yr 0), some (yr 75), some (yi i)]) (st' := [yi (i + 3), yr 40000, yi ((S.2 (i + 2).toNat).toInt), yi ((S.2 (i + 1).toNat).toInt), yr 75, yi v]) (M' := M1) (N' := N1) rfl ?_
  refine r_iscr f_0_1286 (by omega) hS ?_
  refine r_virtual (mj := 187) (b := 75) (as := [yi ((S.2 (i + 1).toNat).toInt), yi ((S.2 (i + 2).toNat).toInt), yi ((S.2 (i + 3).toNat).toInt)]) (rest := [yi v]) f_0_1287 (by decide) rfl m_187 (by decide) (by decide) (by decide) rfl rfl (Nat.le_of_ble_eq_true rfl) (by omega) (hm) ?_
  rintro _ M2 N2 ⟨rfl, R2⟩
  exact r_eqs f_0_1290 (kk _ _ R2)
set_option maxRecDepth 1000000 in
theorem law_c35 {S : XS} {i : Int} {M N : YM} {Q : Option YV → YM → YM → Prop} (hS : S.1 < 100000) (hi : 0 ≤ i ∧ i + 7 ≤ S.1) (R : Rel M) (kk : ∀ M' N', Rel M' → ry S 80 0 1444 [some (yr 40000), some (yr 0), some (yr 75), some (yi i)] [] M' N' Q) : ry S 80 0 1295 [some (yr 40000), some (yr 0), some (yr 75), some (yi i)] [] M N Q := by
  refine r_run 5 (pc' := 1300) (ls' := [some (yr 40000), some (yr 0), some (yr 75), some (yi i)]) (st' := [yi (i + 1), yr 40000, yr 0]) (M' := M) (N' := N) rfl ?_
  refine r_iscr f_0_1300 (by omega) hS ?_
  refine r_run 4 (pc' := 1305) (ls' := [some (yr 40000), some (yr 0), some (yr 75), some (yi i)]) (st' := [yi (i + 2), yr 40000, yi ((S.2 (i + 1).toNat).toInt), yr 0]) (M' := M) (N' := N) rfl ?_
  refine r_iscr f_0_1305 (by omega) hS ?_
  refine r_run 4 (pc' := 1310) (ls' := [some (yr 40000), some (yr 0), some (yr 75), some (yi i)]) (st' := [yi (i + 3), yr 40000, yi ((S.2 (i + 2).toNat).toInt), yi ((S.2 (i + 1).toNat).toInt), yr 0]) (M' := M) (N' := N) rfl ?_
  refine r_iscr f_0_1310 (by omega) hS ?_
  refine r_run 4 (pc' := 1315) (ls' := [some (yr 40000), some (yr 0), some (yr 75), some (yi i)]) (st' := [yi (i + 4), yr 40000, yi ((S.2 (i + 3).toNat).toInt), yi ((S.2 (i + 2).toNat).toInt), yi ((S.2 (i + 1).toNat).toInt), yr 0]) (M' := M) (N' := N) rfl ?_
  refine r_iscr f_0_1315 (by omega) hS ?_
  refine r_run 4 (pc' := 1320) (ls' := [some (yr 40000), some (yr 0), some (yr 75), some (yi i)]) (st' := [yi (i + 5), yr 40000, yi ((S.2 (i + 4).toNat).toInt), yi ((S.2 (i + 3).toNat).toInt), yi ((S.2 (i + 2).toNat).toInt), yi ((S.2 (i + 1).toNat).toInt), yr 0]) (M' := M) (N' := N) rfl ?_
  refine r_iscr f_0_1320 (by omega) hS ?_
  refine r_virtual (mj := 87) (b := 0) (as := [yi ((S.2 (i + 1).toNat).toInt), yi ((S.2 (i + 2).toNat).toInt), yi ((S.2 (i + 3).toNat).toInt), yi ((S.2 (i + 4).toNat).toInt), yi ((S.2 (i + 5).toNat).toInt)]) (rest := []) f_0_1321 (by decide) rfl m_87 (by decide) (by decide) (by decide) rfl rfl (Nat.le_of_ble_eq_true rfl) (by omega) (p_copy ⟨Int32.le_toInt _, Int32.toInt_lt _⟩ ⟨Int32.le_toInt _, Int32.toInt_lt _⟩ ⟨Int32.le_toInt _, Int32.toInt_lt _⟩ ⟨Int32.le_toInt _, Int32.toInt_lt _⟩ ⟨Int32.le_toInt _, Int32.toInt_lt _⟩ R) ?_
  rintro _ M1 N1 ⟨v, rfl, hm⟩
  refine r_run 5 (pc' := 1329) (ls' := [some (yr 40000), some (yr 0), some (yr 75), some (yi i)]) (st' := [yi (i + 1), yr 40000, yr 75, yi v]) (M' := M1) (N' := N1) rfl ?_
  refine r_iscr f_0_1329 (by omega) hS ?_
  refine r_run 4 (pc' := 1334) (ls' := [some (yr 40000), some (yr 0), some (yr 75), some (yi i)]) (st' := [yi (i + 2), yr 40000, yi ((S.2 (i + 1).toNat).toInt), yr 75, yi v]) (M' := M1) (N' := N1) rfl ?_
  refine r_iscr f_0_1334 (by omega) hS ?_
  refine r_run 4 (pc' := 1339) (ls' := [some (yr 40000), some (yr 0), some (yr 75), some (yi i)]) (st' := [yi (i + 3), yr 40000, yi ((S.2 (i + 2).toNat).toInt), yi ((S.2 (i + 1).toNat).toInt), yr 75, yi v]) (M' := M1) (N' := N1) rfl ?_
  refine r_iscr f_0_1339 (by omega) hS ?_
  refine r_run 4 (pc' := 1344) (ls' := [some (yr 40000), some (yr 0), some (yr 75), some (yi i)]) (st' := [yi (i + 4), yr 40000, yi ((S.2 (i + 3).toNat).toInt), yi ((S.2 (i + 2).toNat).toInt), yi ((S.2 (i + 1).toNat).toInt), yr 75, yi v]) (M' := M1) (N' := N1) rfl ?_
  refine r_iscr f_0_1344 (by omega) hS ?_
  refine r_run 4 (pc' := 1349) (ls' := [some (yr 40000), some (yr 0), some (yr 75), some (yi i)]) (st' := [yi (i + 5), yr 40000, yi ((S.2 (i + 4).toNat).toInt), yi ((S.2 (i + 3).toNat).toInt), yi ((S.2 (i + 2).toNat).toInt), yi ((S.2 (i + 1).toNat).toInt), yr 75, yi v]) (M' := M1) (N' := N1) rfl ?_
  refine r_iscr f_0_1349 (by omega) hS ?_
  refine r_virtual (mj := 188) (b := 75) (as := [yi ((S.2 (i + 1).toNat).toInt), yi ((S.2 (i + 2).toNat).toInt), yi ((S.2 (i + 3).toNat).toInt), yi ((S.2 (i + 4).toNat).toInt), yi ((S.2 (i + 5).toNat).toInt)]) (rest := [yi v]) f_0_1350 (by decide) rfl m_188 (by decide) (by decide) (by decide) rfl rfl (Nat.le_of_ble_eq_true rfl) (by omega) (hm) ?_
  rintro _ M2 N2 ⟨rfl, R2⟩
  exact r_eqs f_0_1353 (kk _ _ R2)
set_option maxRecDepth 1000000 in
theorem law_c36 {S : XS} {i : Int} {M N : YM} {Q : Option YV → YM → YM → Prop} (hS : S.1 < 100000) (hi : 0 ≤ i ∧ i + 7 ≤ S.1) (R : Rel M) (kk : ∀ M' N', Rel M' → ry S 80 0 1444 [some (yr 40000), some (yr 0), some (yr 75), some (yi i)] [] M' N' Q) : ry S 80 0 1358 [some (yr 40000), some (yr 0), some (yr 75), some (yi i)] [] M N Q := by
  refine r_run 5 (pc' := 1363) (ls' := [some (yr 40000), some (yr 0), some (yr 75), some (yi i)]) (st' := [yi (i + 1), yr 40000, yr 0]) (M' := M) (N' := N) rfl ?_
  refine r_iscr f_0_1363 (by omega) hS ?_
  refine r_run 4 (pc' := 1368) (ls' := [some (yr 40000), some (yr 0), some (yr 75), some (yi i)]) (st' := [yi (i + 2), yr 40000, yi ((S.2 (i + 1).toNat).toInt), yr 0]) (M' := M) (N' := N) rfl ?_
  refine r_iscr f_0_1368 (by omega) hS ?_
  refine r_run 4 (pc' := 1373) (ls' := [some (yr 40000), some (yr 0), some (yr 75), some (yi i)]) (st' := [yi (i + 3), yr 40000, yi ((S.2 (i + 2).toNat).toInt), yi ((S.2 (i + 1).toNat).toInt), yr 0]) (M' := M) (N' := N) rfl ?_
  refine r_iscr f_0_1373 (by omega) hS ?_
  refine r_run 4 (pc' := 1378) (ls' := [some (yr 40000), some (yr 0), some (yr 75), some (yi i)]) (st' := [yi (i + 4), yr 40000, yi ((S.2 (i + 3).toNat).toInt), yi ((S.2 (i + 2).toNat).toInt), yi ((S.2 (i + 1).toNat).toInt), yr 0]) (M' := M) (N' := N) rfl ?_
  refine r_iscr f_0_1378 (by omega) hS ?_
  refine r_virtual (mj := 88) (b := 0) (as := [yi ((S.2 (i + 1).toNat).toInt), yi ((S.2 (i + 2).toNat).toInt), yi ((S.2 (i + 3).toNat).toInt), yi ((S.2 (i + 4).toNat).toInt)]) (rest := []) f_0_1379 (by decide) rfl m_88 (by decide) (by decide) (by decide) rfl rfl (Nat.le_of_ble_eq_true rfl) (by omega) (p_sayingsBy ⟨Int32.le_toInt _, Int32.toInt_lt _⟩ ⟨Int32.le_toInt _, Int32.toInt_lt _⟩ ⟨Int32.le_toInt _, Int32.toInt_lt _⟩ ⟨Int32.le_toInt _, Int32.toInt_lt _⟩ R) ?_
  rintro _ M1 N1 ⟨v, rfl, hm⟩
  refine r_run 5 (pc' := 1387) (ls' := [some (yr 40000), some (yr 0), some (yr 75), some (yi i)]) (st' := [yi (i + 1), yr 40000, yr 75, yi v]) (M' := M1) (N' := N1) rfl ?_
  refine r_iscr f_0_1387 (by omega) hS ?_
  refine r_run 4 (pc' := 1392) (ls' := [some (yr 40000), some (yr 0), some (yr 75), some (yi i)]) (st' := [yi (i + 2), yr 40000, yi ((S.2 (i + 1).toNat).toInt), yr 75, yi v]) (M' := M1) (N' := N1) rfl ?_
  refine r_iscr f_0_1392 (by omega) hS ?_
  refine r_run 4 (pc' := 1397) (ls' := [some (yr 40000), some (yr 0), some (yr 75), some (yi i)]) (st' := [yi (i + 3), yr 40000, yi ((S.2 (i + 2).toNat).toInt), yi ((S.2 (i + 1).toNat).toInt), yr 75, yi v]) (M' := M1) (N' := N1) rfl ?_
  refine r_iscr f_0_1397 (by omega) hS ?_
  refine r_run 4 (pc' := 1402) (ls' := [some (yr 40000), some (yr 0), some (yr 75), some (yi i)]) (st' := [yi (i + 4), yr 40000, yi ((S.2 (i + 3).toNat).toInt), yi ((S.2 (i + 2).toNat).toInt), yi ((S.2 (i + 1).toNat).toInt), yr 75, yi v]) (M' := M1) (N' := N1) rfl ?_
  refine r_iscr f_0_1402 (by omega) hS ?_
  refine r_virtual (mj := 189) (b := 75) (as := [yi ((S.2 (i + 1).toNat).toInt), yi ((S.2 (i + 2).toNat).toInt), yi ((S.2 (i + 3).toNat).toInt), yi ((S.2 (i + 4).toNat).toInt)]) (rest := [yi v]) f_0_1403 (by decide) rfl m_189 (by decide) (by decide) (by decide) rfl rfl (Nat.le_of_ble_eq_true rfl) (by omega) (hm) ?_
  rintro _ M2 N2 ⟨rfl, R2⟩
  exact r_eqs f_0_1406 (kk _ _ R2)
set_option maxRecDepth 1000000 in
theorem law_c37 {S : XS} {i : Int} {M N : YM} {Q : Option YV → YM → YM → Prop} (hS : S.1 < 100000) (hi : 0 ≤ i ∧ i + 7 ≤ S.1) (R : Rel M) (kk : ∀ M' N', Rel M' → ry S 80 0 1444 [some (yr 40000), some (yr 0), some (yr 75), some (yi i)] [] M' N' Q) : ry S 80 0 1411 [some (yr 40000), some (yr 0), some (yr 75), some (yi i)] [] M N Q := by
  refine r_run 5 (pc' := 1416) (ls' := [some (yr 40000), some (yr 0), some (yr 75), some (yi i)]) (st' := [yi (i + 1), yr 40000, yr 0]) (M' := M) (N' := N) rfl ?_
  refine r_iscr f_0_1416 (by omega) hS ?_
  refine r_run 4 (pc' := 1421) (ls' := [some (yr 40000), some (yr 0), some (yr 75), some (yi i)]) (st' := [yi (i + 2), yr 40000, yi ((S.2 (i + 1).toNat).toInt), yr 0]) (M' := M) (N' := N) rfl ?_
  refine r_iscr f_0_1421 (by omega) hS ?_
  refine r_virtual (mj := 89) (b := 0) (as := [yi ((S.2 (i + 1).toNat).toInt), yi ((S.2 (i + 2).toNat).toInt)]) (rest := []) f_0_1422 (by decide) rfl m_89 (by decide) (by decide) (by decide) rfl rfl (Nat.le_of_ble_eq_true rfl) (by omega) (p_taken ⟨Int32.le_toInt _, Int32.toInt_lt _⟩ ⟨Int32.le_toInt _, Int32.toInt_lt _⟩ R) ?_
  rintro _ M1 N1 ⟨v, rfl, hm⟩
  refine r_run 5 (pc' := 1430) (ls' := [some (yr 40000), some (yr 0), some (yr 75), some (yi i)]) (st' := [yi (i + 1), yr 40000, yr 75, yi v]) (M' := M1) (N' := N1) rfl ?_
  refine r_iscr f_0_1430 (by omega) hS ?_
  refine r_run 4 (pc' := 1435) (ls' := [some (yr 40000), some (yr 0), some (yr 75), some (yi i)]) (st' := [yi (i + 2), yr 40000, yi ((S.2 (i + 1).toNat).toInt), yr 75, yi v]) (M' := M1) (N' := N1) rfl ?_
  refine r_iscr f_0_1435 (by omega) hS ?_
  refine r_virtual (mj := 191) (b := 75) (as := [yi ((S.2 (i + 1).toNat).toInt), yi ((S.2 (i + 2).toNat).toInt)]) (rest := [yi v]) f_0_1436 (by decide) rfl m_191 (by decide) (by decide) (by decide) rfl rfl (Nat.le_of_ble_eq_true rfl) (by omega) (hm) ?_
  rintro _ M2 N2 ⟨rfl, R2⟩
  exact r_eqs f_0_1439 (kk _ _ R2)
set_option maxRecDepth 1000000 in
theorem law_l {S : XS} (hS : S.1 ≤ 3584) {j : Nat} : ∀ {i : Int} {M N : YM}, 0 ≤ i → i ≤ 3700 → (S.1 : Int) < i + 7 + 7 * j → Rel M → ry S 80 0 18 [some (yr 40000), some (yr 0), some (yr 75), some (yi i)] [] M N (fun r _ _ => r = some (yi 1)) := by
  induction j with
  | zero =>
    have hS1 : S.1 < 100000 := by omega
    intro i M N h0 hi3 h1 R
    refine r_run 2 (pc' := 20) (ls' := [some (yr 40000), some (yr 0), some (yr 75), some (yi i)]) (st' := [yr 40000, yi i]) (M' := M) (N' := N) rfl ?_
    refine r_slen f_0_20 ?_
    refine r_run 2 (pc' := 24) (ls' := [some (yr 40000), some (yr 0), some (yr 75), some (yi i)]) (st' := [yi ((S.1 : Int) - 7), yi i]) (M' := M) (N' := N) rfl ?_
    refine r_icmp_gt (pc := 24) f_0_24 (by omega) (by omega) (fun h24 => ?_) (fun h24 => ?_)
    · refine r_run 1 (pc' := 1451) (ls' := [some (yr 40000), some (yr 0), some (yr 75), some (yi i)]) (st' := [yi 1]) (M' := M) (N' := N) rfl ?_
      refine r_zret m_0 rfl f_0_1451 (by decide) ?_
      exact rfl
    · exfalso; omega
  | succ j ih =>
    have hS1 : S.1 < 100000 := by omega
    intro i M N h0 hi3 h1 R
    refine r_run 2 (pc' := 20) (ls' := [some (yr 40000), some (yr 0), some (yr 75), some (yi i)]) (st' := [yr 40000, yi i]) (M' := M) (N' := N) rfl ?_
    refine r_slen f_0_20 ?_
    refine r_run 2 (pc' := 24) (ls' := [some (yr 40000), some (yr 0), some (yr 75), some (yi i)]) (st' := [yi ((S.1 : Int) - 7), yi i]) (M' := M) (N' := N) rfl ?_
    refine r_icmp_gt (pc := 24) f_0_24 (by omega) (by omega) (fun h24 => ?_) (fun h24 => ?_)
    · refine r_run 1 (pc' := 1451) (ls' := [some (yr 40000), some (yr 0), some (yr 75), some (yi i)]) (st' := [yi 1]) (M' := M) (N' := N) rfl ?_
      refine r_zret m_0 rfl f_0_1451 (by decide) ?_
      exact rfl
    · refine r_run 2 (pc' := 29) (ls' := [some (yr 40000), some (yr 0), some (yr 75), some (yi i)]) (st' := [yi i, yr 40000]) (M' := M) (N' := N) rfl ?_
      refine r_iscr f_0_29 (by omega) hS1 ?_
      refine r_run 2 (pc' := 33) (ls' := [some (yr 40000), some (yr 0), some (yr 75), some (yi i)]) (st' := [yi ((Int32.ofInt ((S.2 i.toNat).toInt) &&& Int32.ofInt 63).toInt)]) (M' := M) (N' := N) rfl ?_
      have hi : 0 ≤ i ∧ i + 7 ≤ S.1 := by omega
      have nx : ∀ M' N', Rel M' → ry S 80 0 1444 [some (yr 40000), some (yr 0), some (yr 75), some (yi i)] [] M' N' (fun r _ _ => r = some (yi 1)) := fun M' N' R' => by
        refine r_run 2 (pc' := 18) (ls' := [some (yr 40000), some (yr 0), some (yr 75), some (yi (i + 7))]) (st' := []) (M' := M') (N' := N') rfl ?_
        exact ih (by omega) (by omega) (by omega) R'
      refine (Classical.em ((Int32.ofInt (S.2 i.toNat).toInt &&& Int32.ofInt 63).toInt < 0 ∨ 37 < (Int32.ofInt (S.2 i.toNat).toInt &&& Int32.ofInt 63).toInt)).elim (fun h33 => ?_) (fun h33 => ?_)
      · exact r_sw_out (pc := 33) f_0_33 ⟨Int32.le_toInt _, Int32.toInt_lt _⟩ h33 (nx M N R)
      · rcases sw_38 h33 with h33 | h33 | h33 | h33 | h33 | h33 | h33 | h33 | h33 | h33 | h33 | h33 | h33 | h33 | h33 | h33 | h33 | h33 | h33 | h33 | h33 | h33 | h33 | h33 | h33 | h33 | h33 | h33 | h33 | h33 | h33 | h33 | h33 | h33 | h33 | h33 | h33 | h33
        · exact r_sw_in (pc := 33) 0 f_0_33 (by omega) ⟨Int32.le_toInt _, Int32.toInt_lt _⟩ (by omega) rfl (law_c0 hS1 hi R nx)
        · exact r_sw_in (pc := 33) 1 f_0_33 (by omega) ⟨Int32.le_toInt _, Int32.toInt_lt _⟩ (by omega) rfl (law_c1 hS1 hi R nx)
        · exact r_sw_in (pc := 33) 2 f_0_33 (by omega) ⟨Int32.le_toInt _, Int32.toInt_lt _⟩ (by omega) rfl (law_c2 hS1 hi R nx)
        · exact r_sw_in (pc := 33) 3 f_0_33 (by omega) ⟨Int32.le_toInt _, Int32.toInt_lt _⟩ (by omega) rfl (law_c3 hS1 hi R nx)
        · exact r_sw_in (pc := 33) 4 f_0_33 (by omega) ⟨Int32.le_toInt _, Int32.toInt_lt _⟩ (by omega) rfl (law_c4 hS1 hi R nx)
        · exact r_sw_in (pc := 33) 5 f_0_33 (by omega) ⟨Int32.le_toInt _, Int32.toInt_lt _⟩ (by omega) rfl (law_c5 hS1 hi R nx)
        · exact r_sw_in (pc := 33) 6 f_0_33 (by omega) ⟨Int32.le_toInt _, Int32.toInt_lt _⟩ (by omega) rfl (law_c6 hS1 hi R nx)
        · exact r_sw_in (pc := 33) 7 f_0_33 (by omega) ⟨Int32.le_toInt _, Int32.toInt_lt _⟩ (by omega) rfl (law_c7 hS1 hi R nx)
        · exact r_sw_in (pc := 33) 8 f_0_33 (by omega) ⟨Int32.le_toInt _, Int32.toInt_lt _⟩ (by omega) rfl (law_c8 hS1 hi R nx)
        · exact r_sw_in (pc := 33) 9 f_0_33 (by omega) ⟨Int32.le_toInt _, Int32.toInt_lt _⟩ (by omega) rfl (law_c9 hS1 hi R nx)
        · exact r_sw_in (pc := 33) 10 f_0_33 (by omega) ⟨Int32.le_toInt _, Int32.toInt_lt _⟩ (by omega) rfl (law_c10 hS1 hi R nx)
        · exact r_sw_in (pc := 33) 11 f_0_33 (by omega) ⟨Int32.le_toInt _, Int32.toInt_lt _⟩ (by omega) rfl (law_c11 hS1 hi R nx)
        · exact r_sw_in (pc := 33) 12 f_0_33 (by omega) ⟨Int32.le_toInt _, Int32.toInt_lt _⟩ (by omega) rfl (law_c12 hS1 hi R nx)
        · exact r_sw_in (pc := 33) 13 f_0_33 (by omega) ⟨Int32.le_toInt _, Int32.toInt_lt _⟩ (by omega) rfl (law_c13 hS1 hi R nx)
        · exact r_sw_in (pc := 33) 14 f_0_33 (by omega) ⟨Int32.le_toInt _, Int32.toInt_lt _⟩ (by omega) rfl (law_c14 hS1 hi R nx)
        · exact r_sw_in (pc := 33) 15 f_0_33 (by omega) ⟨Int32.le_toInt _, Int32.toInt_lt _⟩ (by omega) rfl (law_c15 hS1 hi R nx)
        · exact r_sw_in (pc := 33) 16 f_0_33 (by omega) ⟨Int32.le_toInt _, Int32.toInt_lt _⟩ (by omega) rfl (law_c16 hS1 hi R nx)
        · exact r_sw_in (pc := 33) 17 f_0_33 (by omega) ⟨Int32.le_toInt _, Int32.toInt_lt _⟩ (by omega) rfl (law_c17 hS1 hi R nx)
        · exact r_sw_in (pc := 33) 18 f_0_33 (by omega) ⟨Int32.le_toInt _, Int32.toInt_lt _⟩ (by omega) rfl (law_c18 hS1 hi R nx)
        · exact r_sw_in (pc := 33) 19 f_0_33 (by omega) ⟨Int32.le_toInt _, Int32.toInt_lt _⟩ (by omega) rfl (law_c19 hS1 hi R nx)
        · exact r_sw_in (pc := 33) 20 f_0_33 (by omega) ⟨Int32.le_toInt _, Int32.toInt_lt _⟩ (by omega) rfl (law_c20 hS1 hi R nx)
        · exact r_sw_in (pc := 33) 21 f_0_33 (by omega) ⟨Int32.le_toInt _, Int32.toInt_lt _⟩ (by omega) rfl (law_c21 hS1 hi R nx)
        · exact r_sw_in (pc := 33) 22 f_0_33 (by omega) ⟨Int32.le_toInt _, Int32.toInt_lt _⟩ (by omega) rfl (law_c22 hS1 hi R nx)
        · exact r_sw_in (pc := 33) 23 f_0_33 (by omega) ⟨Int32.le_toInt _, Int32.toInt_lt _⟩ (by omega) rfl (law_c23 hS1 hi R nx)
        · exact r_sw_in (pc := 33) 24 f_0_33 (by omega) ⟨Int32.le_toInt _, Int32.toInt_lt _⟩ (by omega) rfl (law_c24 hS1 hi R nx)
        · exact r_sw_in (pc := 33) 25 f_0_33 (by omega) ⟨Int32.le_toInt _, Int32.toInt_lt _⟩ (by omega) rfl (law_c25 hS1 hi R nx)
        · exact r_sw_in (pc := 33) 26 f_0_33 (by omega) ⟨Int32.le_toInt _, Int32.toInt_lt _⟩ (by omega) rfl (law_c26 hS1 hi R nx)
        · exact r_sw_in (pc := 33) 27 f_0_33 (by omega) ⟨Int32.le_toInt _, Int32.toInt_lt _⟩ (by omega) rfl (law_c27 hS1 hi R nx)
        · exact r_sw_in (pc := 33) 28 f_0_33 (by omega) ⟨Int32.le_toInt _, Int32.toInt_lt _⟩ (by omega) rfl (law_c28 hS1 hi R nx)
        · exact r_sw_in (pc := 33) 29 f_0_33 (by omega) ⟨Int32.le_toInt _, Int32.toInt_lt _⟩ (by omega) rfl (law_c29 hS1 hi R nx)
        · exact r_sw_in (pc := 33) 30 f_0_33 (by omega) ⟨Int32.le_toInt _, Int32.toInt_lt _⟩ (by omega) rfl (law_c30 hS1 hi R nx)
        · exact r_sw_in (pc := 33) 31 f_0_33 (by omega) ⟨Int32.le_toInt _, Int32.toInt_lt _⟩ (by omega) rfl (law_c31 hS1 hi R nx)
        · exact r_sw_in (pc := 33) 32 f_0_33 (by omega) ⟨Int32.le_toInt _, Int32.toInt_lt _⟩ (by omega) rfl (law_c32 hS1 hi R nx)
        · exact r_sw_in (pc := 33) 33 f_0_33 (by omega) ⟨Int32.le_toInt _, Int32.toInt_lt _⟩ (by omega) rfl (law_c33 hS1 hi R nx)
        · exact r_sw_in (pc := 33) 34 f_0_33 (by omega) ⟨Int32.le_toInt _, Int32.toInt_lt _⟩ (by omega) rfl (law_c34 hS1 hi R nx)
        · exact r_sw_in (pc := 33) 35 f_0_33 (by omega) ⟨Int32.le_toInt _, Int32.toInt_lt _⟩ (by omega) rfl (law_c35 hS1 hi R nx)
        · exact r_sw_in (pc := 33) 36 f_0_33 (by omega) ⟨Int32.le_toInt _, Int32.toInt_lt _⟩ (by omega) rfl (law_c36 hS1 hi R nx)
        · exact r_sw_in (pc := 33) 37 f_0_33 (by omega) ⟨Int32.le_toInt _, Int32.toInt_lt _⟩ (by omega) rfl (law_c37 hS1 hi R nx)
set_option maxRecDepth 1000000 in
theorem law_go {S : XS} (hS : S.1 ≤ 3584) {M N : YM} (R : Rel M) : ry S 80 0 16 [some (yr 40000), some (yr 0), some (yr 75), none] [] M N (fun r _ _ => r = some (yi 1)) := by
  refine r_run 2 (pc' := 18) (ls' := [some (yr 40000), some (yr 0), some (yr 75), some (yi 0)]) (st' := []) (M' := M) (N' := N) rfl ?_
  exact law_l hS (j := S.1) (Int.le_refl 0) (by decide) (by omega) R
