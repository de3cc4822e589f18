theorem xme_8888 : xme 8888 = none ∧ xme 9999 = none ∧ xme 9997 = none ∧ xme 9998 = none := by decide +kernel
theorem xmax_code : Jvm.Cond.code Lib.Math.max.name Lib.Math.max.code 2 (some .int) ∈ lw_tbl := List.mem_of_getElem? (i := 396) rfl
theorem xmin_code : Jvm.Cond.code Lib.Math.min.name Lib.Math.min.code 2 (some .int) ∈ lw_tbl := List.mem_of_getElem? (i := 399) rfl
theorem xWcs {p : Program} {l : Launch} {e : Env} {R : Room} {s : State} {m : MethodId} {args : Array Value} {below : List Frame} {meth : Method} {c : Code} {H : Heap} {locs : List Loc} {cells slots cells' slots' : Nat} {Q : State → Prop} {g : JFrame} (hc : cells = cells') (hs : slots = slots') (k : W p l e R s m args below meth c H locs cells slots Q g) : W p l e R s m args below meth c H locs cells' slots' Q g := by
  subst hc; subst hs; exact k
set_option maxHeartbeats 4000000 in
theorem x_sound (hck : xCK) (S : XS) (l : Launch) : ∀ n : Nat, xSnd S l n := by
  intro n
  induction n with
  | zero => intro d mi pc ls st X r X' ent hm hx; cases hx
  | succ n ih =>
    intro d mi pc ls st X r X' ent hm hx
    unfold xexec at hx
    rw [hm] at hx
    cases hi : xi mi pc with
    | none => rw [hi] at hx; cases hx
    | some q0 =>
      obtain ⟨i, rs, wp⟩ := q0
      rw [hi] at hx
      dsimp only at hx
      obtain ⟨hd, hI⟩ := xi_ok hck hm hi
      split at hx
      · -- one step
        cases hq : xs1 S ent.2.2.2.2.2.1 i rs wp pc ls st X with
        | none => rw [hq] at hx; cases hx
        | some q =>
          rw [hq] at hx
          dsimp only at hx
          obtain ⟨pc1, ls1, st1, X1⟩ := q
          dsimp only at hx
          obtain ⟨g1, g2⟩ := ih d mi pc1 ls1 st1 X1 r X' ent hm hx
          have gle : X.1 ≤ X1.1 := by
            have : ∀ (q : Nat × XL × List Value × XM), xs1 S ent.2.2.2.2.2.1 i rs wp pc ls st X = some q → X.1 ≤ q.2.2.2.1 := by
              intro q hq
              exact xs1_le hq
            exact this _ hq
          refine ⟨Nat.le_trans gle g1, ?_⟩
          intro p e R s m args below meth c H locs cells slots Q la D tys ad ca fmt A hF hf hK hW hS hA hE hl hc hs hret
          have hss1 := xss_le gle
          have hss2 := xss_le g1
          refine (xs1_sound (S := S) hF hd hI hf hq).2 hK hW hS hA hE hl (by omega) (by omega) (fun H1 locs1 tys1 ad1 ca1 la1 a1 a2 K1 W1 S1 L1 => ?_)
          refine g2 p e R s m args below meth c H1 locs1 _ _ Q la1 D tys1 ad1 ca1 fmt A hF hf K1 W1 S1 hA (hE.ad (fun a ha => a2 a (Or.inr ha))) L1 (by omega) (by omega) (fun H2 locs2 tys2 ad2 ca2 la2 pc2 i2 b1 b2 K2 W2 S2 hdec hr => ?_)
          exact xWcs (by omega) (by omega) (hret H2 locs2 tys2 ad2 ca2 la2 pc2 i2 (fun z => (b1 (by omega)).trans (a1 (by omega))) (fun a ha => (b2 a (by omega)).trans (a2 a ha)) K2 W2 S2 hdec hr)
      · rename_i hc0
        split at hx
        · -- an end
          cases hq : xret i ent.2.2.2.2.1 st with
          | none => rw [hq] at hx; cases hx
          | some r1 =>
            rw [hq] at hx
            cases hx
            refine ⟨Nat.le_refl _, ?_⟩
            intro p e R s m args below meth c H locs cells slots Q la D tys ad ca fmt A hF hf hK hW hS hA hE hl hc hs hret
            have hst := xret_st hq
            rw [hst] at hq ⊢
            simp only [Nat.sub_self, Nat.add_zero] at hret
            exact hret H locs tys ad ca la pc i (fun _ => rfl) (fun _ _ => rfl) hK hW hS hd hq
        · rename_i hc1
          have h3 := xcl_two hc0 hc1
          cases d with
          | zero => cases hx
          | succ d' =>
            dsimp only at hx
            split at hx
            · -- Object()
              rename_i h8
              subst h8
              split at hx
              · rename_i a rest
                split at hx
                · rename_i hcat
                  obtain ⟨g1, g2⟩ := ih (d' + 1) mi (pc + 3) ls rest X r X' ent hm hx
                  refine ⟨g1, ?_⟩
                  intro p e R s m args below meth c H locs cells slots Q la D tys ad ca fmt A hF hf hK hW hS hA hE hl hc hs hret
                  obtain ⟨hx0, hb, hml, hr, hown, hts, hlk, hin, hfr, hlo⟩ := id hF
                  rcases h3 with ⟨k, rfl⟩ | ⟨k, rfl⟩ | ⟨k, rfl⟩
                  · simp only [xokI] at hI
                    rw [if_neg (by decide), if_neg (by decide), if_neg (by decide), if_neg (by decide), show 8888 % 10000 = 8888 from rfl, xme_8888.1] at hI
                    cases hI
                  · simp only [xokI] at hI
                    rw [show 8888 % 10000 = 8888 from rfl, xme_8888.1] at hI
                    cases hI
                  · simp only [xokI, if_true, decide_eq_true_eq] at hI
                    refine W.objInit (a := ad a) (rest := rest.map (xv ad fmt)) hx0 hb hown (hF.word hI rfl) (hF.word (k := 86) (by decide +kernel) rfl) (hF.word (k := 87) (by rfl) rfl) rfl (by rw [hml]; exact hl.1) rfl hd (by omega) (by
                      show 2 * (F0 m pc la _).monitorRoom + _ + 12 ≤ R.locals
                      have h0 : (F0 m pc la ((Value.ref a :: rest).map (xv ad fmt))).monitorRoom = 0 := rfl
                      rw [h0, xcats (hf := hf)]
                      omega) ?_
                    exact g2 p e R s m args below meth c H locs cells slots Q la D tys ad ca fmt A hF hf hK hW hS hA hE hl hc hs hret
                · cases hx
              · cases hx
            · rename_i h8
              split at hx
              · -- arraycopy
                rename_i h9
                subst h9
                cases hq : xcopy st X with
                | none => rw [hq] at hx; cases hx
                | some q =>
                  rw [hq] at hx
                  dsimp only at hx
                  obtain ⟨rest, X1⟩ := q
                  dsimp only at hx
                  obtain ⟨g1, g2⟩ := ih (d' + 1) mi (pc + 3) ls rest X1 r X' ent hm hx
                  unfold xcopy at hq
                  split at hq
                  · rename_i n dp a sp b rest2
                    split at hq
                    · rename_i hcond
                      cases hq
                      obtain ⟨⟨ha1, ha2⟩, ⟨hb1, hb2⟩, q1, q2, q3, q4, q5, hcat⟩ := hcond
                      refine ⟨g1, ?_⟩
                      intro p e R s m args below meth c H locs cells slots Q la D tys ad ca fmt A hF hf hK hW hS hA hE hl hc hs hret
                      obtain ⟨hx0, hb, hml, hr, hown, hts, hlk, hin, hfr, hlo⟩ := id hF
                      rcases h3 with ⟨k, rfl⟩ | ⟨k, rfl⟩ | ⟨k, rfl⟩
                      · simp only [xokI, if_true, decide_eq_true_eq] at hI
                        obtain ⟨t0, ht0⟩ := hW.2.2.1 b hb1 (by omega)
                        obtain ⟨t1, ht1⟩ := hW.2.2.1 a ha1 (by omega)
                        rw [hb2] at ht0
                        rw [ha2] at ht1
                        have nn : ∀ z : Int32, 0 ≤ z.toInt → ¬ z < 0 := fun z hz => by rw [Int32.lt_iff_toInt_lt, Int32.toInt_zero]; omega
                        have cl : ∀ z : Int32, z.toNatClampNeg = z.toInt.toNat := fun z => rfl
                        refine va_copyi (q0 := b) (q1 := a) (t0 := t0) (t1 := t1) (a0 := ad b) (a := ad a) (ty := .int) (f := X.2.1 b) (g := X.2.1 a) hx0 hb (by rw [hml]; exact hl.1.symm) hown (hF.word hI rfl) (hF.word (k := 484) (by decide +kernel) rfl) (hF.word (k := 483) (by decide +kernel) rfl) (hF.word (k := 76) (by decide +kernel) rfl) hK hW.1 hW.2.1 hS (by rw [xw_get hb1, xce_int hb2]) (by rw [xw_get ha1, xce_int ha2]) ht0 ht1 rfl (nn sp q1) (nn dp q2) (nn n q3) (by rw [cl, cl]; omega) (by rw [cl, cl]; omega) (fun i _ => rfl) (by omega) (by rw [xcats (hf := hf)]; show _ + (5 + 2 + 11) ≤ _; omega) hd (fun H1 locs1 hP1 hD1 hS1 => ?_)
                        refine g2 p e R s m args below meth c H1 locs1 cells slots Q la D tys ad ca fmt A hF hf hK (hW.put rfl ?_ (fun j hj => ⟨xur_ne hj, rfl, rfl⟩) hW.2.2.2.1 hP1 hD1) hS1 hA hE hl hc hs hret
                        rw [xce_int ha2]
                        show Sum.inl (ca a, (xkind a).2, Sum.inl (xur X.2.1 a _ a)) = _
                        rw [xur_eq]
                      · simp only [xokI] at hI
                        rw [show 9999 % 10000 = 9999 from rfl, xme_8888.2.1] at hI
                        cases hI
                      · simp only [xokI] at hI
                        rw [if_neg (by decide), show 9999 % 10000 = 9999 from rfl, xme_8888.2.1] at hI
                        cases hI
                    · cases hq
                  · cases hq
              · rename_i h9
                split at hx
                · -- max
                  rename_i h97
                  subst h97
                  split at hx
                  · rename_i y x rest
                    split at hx
                    · rename_i hcat
                      obtain ⟨g1, g2⟩ := ih (d' + 1) mi (pc + 3) ls _ X r X' ent hm hx
                      refine ⟨g1, ?_⟩
                      intro p e R s m args below meth c H locs cells slots Q la D tys ad ca fmt A hF hf hK hW hS hA hE hl hc hs hret
                      obtain ⟨hx0, hb, hml, hr, hown, hts, hlk, hin, hfr, hlo⟩ := id hF
                      rcases h3 with ⟨k, rfl⟩ | ⟨k, rfl⟩ | ⟨k, rfl⟩
                      · simp only [xokI] at hI
                        rw [if_neg (by decide), if_pos trivial, decide_eq_true_eq] at hI
                        exact va_mmax hx0 hb (by rw [hml]; exact hl.1.symm) hown (hF.word hI rfl) (hF.word (k := 395) (by decide +kernel) rfl) (hF.word (k := 74) (by decide +kernel) rfl) (hts _ (xGT_in xmax_code rfl)) (by omega) (by rw [xcats (hf := hf)]; omega) (by omega) (by omega) hd (g2 p e R s m args below meth c H locs cells slots Q la D tys ad ca fmt A hF hf hK hW hS hA hE hl hc hs hret)
                      · simp only [xokI] at hI
                        rw [show 9997 % 10000 = 9997 from rfl, xme_8888.2.2.1] at hI
                        cases hI
                      · simp only [xokI] at hI
                        rw [if_neg (by decide), show 9997 % 10000 = 9997 from rfl, xme_8888.2.2.1] at hI
                        cases hI
                    · cases hx
                  · cases hx
                · rename_i h97
                  split at hx
                  · -- min
                    rename_i h98
                    subst h98
                    split at hx
                    · rename_i y x rest
                      split at hx
                      · rename_i hcat
                        obtain ⟨g1, g2⟩ := ih (d' + 1) mi (pc + 3) ls _ X r X' ent hm hx
                        refine ⟨g1, ?_⟩
                        intro p e R s m args below meth c H locs cells slots Q la D tys ad ca fmt A hF hf hK hW hS hA hE hl hc hs hret
                        obtain ⟨hx0, hb, hml, hr, hown, hts, hlk, hin, hfr, hlo⟩ := id hF
                        rcases h3 with ⟨k, rfl⟩ | ⟨k, rfl⟩ | ⟨k, rfl⟩
                        · simp only [xokI] at hI
                          rw [if_neg (by decide), if_neg (by decide), if_pos trivial, decide_eq_true_eq] at hI
                          exact va_mmin hx0 hb (by rw [hml]; exact hl.1.symm) hown (hF.word hI rfl) (hF.word (k := 398) (by decide +kernel) rfl) (hF.word (k := 74) (by decide +kernel) rfl) (hts _ (xGT_in xmin_code rfl)) (by omega) (by rw [xcats (hf := hf)]; omega) (by omega) (by omega) hd (g2 p e R s m args below meth c H locs cells slots Q la D tys ad ca fmt A hF hf hK hW hS hA hE hl hc hs hret)
                        · simp only [xokI] at hI
                          rw [show 9998 % 10000 = 9998 from rfl, xme_8888.2.2.2] at hI
                          cases hI
                        · simp only [xokI] at hI
                          rw [if_neg (by decide), show 9998 % 10000 = 9998 from rfl, xme_8888.2.2.2] at hI
                          cases hI
                      · cases hx
                    · cases hx
                  · rename_i h98
                    -- a call of ours
                    cases hv : xinv i rs st X with
                    | none => rw [hv] at hx; cases hx
                    | some q =>
                      obtain ⟨mj, e2, as, rest⟩ := q
                      rw [hv] at hx
                      dsimp only at hx
                      cases hcl : xexec S n d' mj 0 (xpad e2.2.2.2.1 (xlocs as)) [] X with
                      | none => rw [hcl] at hx; cases hx
                      | some q1 =>
                        obtain ⟨r1, X1⟩ := q1
                        rw [hcl] at hx
                        dsimp only at hx
                        split at hx
                        · rename_i hok
                          obtain ⟨v1, v2, -⟩ := xinv_spec hv
                          obtain ⟨f1, -⟩ := ih d' mj 0 _ [] X r1 X1 e2 v2 hcl
                          obtain ⟨g1, g2⟩ := ih (d' + 1) mi (pc + 3) ls (r1.toList ++ rest) X1 r X' ent hm hx
                          refine ⟨Nat.le_trans f1 g1, ?_⟩
                          intro p e R s m args below meth c H locs cells slots Q la D tys ad ca fmt A hF hf hK hW hS hA hE hl hc hs hret
                          have hss1 := xss_le f1
                          have hss2 := xss_le g1
                          refine x_call hck ih hF hf hd hI h3 h8 h9 h97 h98 hv hcl hK hW hS hA hE hl (by omega) (by omega) (fun H1 locs1 tys1 ad1 ca1 a1 a2 K1 W1 S1 => ?_)
                          have hrs : rest.map (xv ad fmt) = rest.map (xv ad1 fmt) ∧ xLh ad1 fmt la ent.2.2.2.1 ls := by
                            rcases hok with h | h
                            · rw [a1 h]; exact ⟨rfl, hl⟩
                            · unfold xoks at h
                              rw [Bool.and_eq_true] at h
                              exact ⟨(xst_ok a2 h.1).symm, hl.ok a2 h.2⟩
                          rw [hrs.1, ← List.map_append]
                          refine g2 p e R s m args below meth c H1 locs1 _ _ Q la D tys1 ad1 ca1 fmt A hF hf K1 W1 S1 hA (hE.ad (fun a ha => a2 a (Or.inr ha))) hrs.2 (by omega) (by omega) (fun H2 locs2 tys2 ad2 ca2 la2 pc2 i2 b1 b2 K2 W2 S2 hdec hr => ?_)
                          exact xWcs (by omega) (by omega) (hret H2 locs2 tys2 ad2 ca2 la2 pc2 i2 (fun z => (b1 (by omega)).trans (a1 (by omega))) (fun a ha => (b2 a (by omega)).trans (a2 a ha)) K2 W2 S2 hdec hr)
                        · cases hx
