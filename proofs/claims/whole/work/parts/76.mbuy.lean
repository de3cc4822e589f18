theorem bF_at {n : Nat} {ok wd dg : Int → Int} {e u b g : Int} (h : u < e) : ∃ j, (e - u).toNat = j + 1 ∧ (e - (u + 1)).toNat = j := ⟨(e - u).toNat - 1, by omega, by omega⟩
theorem bF_end {n : Nat} {ok wd dg : Int → Int} {e u b g : Int} (h : u ≤ e) (hs : ∀ i, u ≤ i → i < e → srtB n i 5 = false) : bF n ok wd dg (e - u).toNat u b g = (b, g) := by
  have k := @bF_skip n ok wd dg (e - u).toNat 0 u b g (fun i i0 i1 => hs i i0 (by omega))
  exact k
theorem bF_go {n : Nat} {ok wd dg : Int → Int} {e u u' b g : Int} (h : u ≤ u') (h2 : u' ≤ e) (hs : ∀ i, u ≤ i → i < u' → srtB n i 5 = false) : bF n ok wd dg (e - u).toNat u b g = bF n ok wd dg (e - u').toNat u' b g := by
  have k := @bF_skip n ok wd dg (u' - u).toNat (e - u').toNat u b g (fun i i0 i1 => hs i i0 (by omega))
  rw [show (u' - u).toNat + (e - u').toNat = (e - u).toNat by omega, show u + (((u' - u).toNat : Nat) : Int) = u' by omega] at k
  exact k
theorem repR.congr {n w : Int} {R R' : Int → Int} (h : repR n w R) (g : ∀ k, 0 ≤ k → k < n → R' k = R k) : repR n w R' := fun k k0 k1 => by rw [g k k0 k1]; exact h k k0 k1
theorem eqn.ofc9 {M M' : YM} (h : ∀ c, c ≠ 93 → M' c = M c) : eqn M M' := eqn.ofm fun c hc => h c (by omega)
theorem m_buy_e {S : XS} {d : Nat} {t c w k n b g : Int} {l10 : Option YV} {M N : YM} {Q : Option YV → YM → YM → Prop} (kk : ry S d 167 187 [some (yr 75), some (yi t), some (yi c), some (yi w), some (yi k), some (yi n), some (yj b), none, some (yi g), some (yi 0), l10, none] [] M N Q) : ry S d 167 99 [some (yr 75), some (yi t), some (yi c), some (yi w), some (yi k), some (yi n), some (yj b), none, some (yi g), some (yi 0), l10, none] [] M N Q := by
  refine r_run 1 (pc' := 101) (ls' := [some (yr 75), some (yi t), some (yi c), some (yi w), some (yi k), some (yi n), some (yj b), none, some (yi g), some (yi 0), l10, none]) (st' := [yi 0]) (M' := M) (N' := N) rfl ?_
  refine r_if_eq (pc := 101) f_167_101 (by omega) (fun h101 => ?_) (fun h101 => ?_)
  · exact kk
  · exact absurd h101 (by decide)
theorem m_buy_l {S : XS} {d : Nat} {t c w k n : Int} {M0 : YM} {Q : Option YV → YM → YM → Prop} (hd : 7 ≤ d) (hn : 0 ≤ n ∧ n ≤ 4) (ht : 0 ≤ t ∧ t < M0 75 9) (R0 : Rel M0) {j : Nat} : ∀ {u b g : Int} {M N : YM} {l10 : Option YV}, p6 n.toNat - u ≤ j → (0 ≤ u ∧ u < p6 n.toNat) → srtB n.toNat u 5 = true → repR n u (M 93) → bIn b → Rel M → eqn M0 M → (∀ M' N' l10, Rel M' → eqn M0 M' → ry S d 167 187 [some (yr 75), some (yi t), some (yi c), some (yi w), some (yi k), some (yi n), some (yj (bF n.toNat (okB M0 n) (wdB M0 t n) (dgB n) (p6 n.toNat - u).toNat u b g).1), none, some (yi (bF n.toNat (okB M0 n) (wdB M0 t n) (dgB n) (p6 n.toNat - u).toNat u b g).2), some (yi 0), l10, none] [] M' N' Q) → ry S d 167 99 [some (yr 75), some (yi t), some (yi c), some (yi w), some (yi k), some (yi n), some (yj b), none, some (yi g), some (yi 1), l10, none] [] M N Q := by
  induction j with
  | zero => intro u b g M N l10 hj hu; exfalso; omega
  | succ j ih =>
    intro u b g M N l10 hj hu hs hR hb R q kk
    obtain ⟨h0, h1⟩ := hu
    have pe := p6_in hn
    obtain ⟨j', es, es2⟩ := @bF_at n.toNat (okB M0 n) (wdB M0 t n) (dgB n) (p6 n.toNat) u b g h1
    refine r_run 1 (pc' := 101) (ls' := [some (yr 75), some (yi t), some (yi c), some (yi w), some (yi k), some (yi n), some (yj b), none, some (yi g), some (yi 1), l10, none]) (st' := [yi 1]) (M' := M) (N' := N) rfl ?_
    refine r_if_eq (pc := 101) f_167_101 (by omega) (fun h101 => ?_) (fun h101 => ?_)
    · exact absurd h101 (by decide)
    · refine r_run 2 (pc' := 107) (ls' := [some (yr 75), some (yi t), some (yi c), some (yi w), some (yi k), some (yi n), some (yj b), none, some (yi g), some (yi 1), l10, none]) (st' := [yi n, yr 75]) (M' := M) (N' := N) rfl ?_
      refine r_virtual (mj := 165) (b := 75) (as := [yi n]) (rest := []) f_167_107 (by decide) rfl m_165 (by decide) (by decide) (by decide) rfl rfl (Nat.le_of_ble_eq_true rfl) (by omega) (m_buys R hn hR hR.in) ?_
      rintro _ M2 _ ⟨v88, rfl, ⟨hv88, v01, a2, x2, R2, e2⟩, rfl⟩
      rw [q.eqs.eX, q.eqs.eBB.1, q.eqs.eBB.2] at hv88
      rw [q.eqs.eZ, q.eqs.eBB.1, q.eqs.eBB.2] at a2
      have hok : v88 = okB M0 n u := hv88
      have q2 := q.trans e2
      have hR2 : repR n u (M2 93) := by rw [x2]; exact hR
      refine r_if_eq (pc := 110) f_167_110 (by omega) (fun h110 => ?_) (fun h110 => ?_)
      · refine r_run 2 (pc' := 179) (ls' := [some (yr 75), some (yi t), some (yi c), some (yi w), some (yi k), some (yi n), some (yj b), none, some (yi g), some (yi 1), l10, none]) (st' := [yi n, yr 75]) (M' := M2) (N' := N) rfl ?_
        refine r_virtual (mj := 164) (b := 75) (as := [yi n]) (rest := []) f_167_179 (by decide) rfl m_164 (by decide) (by decide) (by decide) rfl rfl (Nat.le_of_ble_eq_true rfl) (by omega) (m_nextRow hn hR2.in) ?_
        rintro _ M4 _ ⟨v9, rfl, hv9, rfl⟩
        refine r_run 2 (pc' := 99) (ls' := [some (yr 75), some (yi t), some (yi c), some (yi w), some (yi k), some (yi n), some (yj b), none, some (yi g), some (yi v9), l10, none]) (st' := []) (M' := M4) (N' := N) rfl ?_
        have hb2 : bIn b := hb
        rw [es, bF_no (by intro c; have := c.2; omega), ← es2] at kk
        rcases nx_next hn ⟨h0, h1⟩ hs hR2 with ⟨n1, n2⟩ | ⟨n1, u', u0, u1, u2, u3, u4⟩
        · rw [bF_end (by omega) n2] at kk
          rcases hv9 with ⟨rfl, -, rfl⟩ | ⟨-, hx, -⟩
          · refine m_buy_e (kk M2 N (l10) R2 q2)
          · exfalso; omega
        · rw [bF_go (by omega) (by omega) u4] at kk
          rcases hv9 with ⟨-, hx, -⟩ | ⟨rfl, -, f9, g9⟩
          · exfalso; omega
          · have e9 : eqn M2 M4 := eqn.ofc9 f9
            exact ih (l10 := l10) (by omega) ⟨by omega, u1⟩ u2 (u3.congr fun i i0 i1 => g9 i i0 i1) hb2 (R2.congr e9) (q2.trans e9) kk
      · refine r_run 2 (pc' := 115) (ls' := [some (yr 75), some (yi t), some (yi c), some (yi w), some (yi k), some (yi n), some (yj b), none, some (yi g), some (yi 1), l10, none]) (st' := [yi t, yr 75]) (M' := M2) (N' := N) rfl ?_
        refine r_virtual (mj := 160) (b := 75) (as := [yi t]) (rest := []) f_167_115 (by decide) rfl m_160 (by decide) (by decide) (by decide) rfl rfl (Nat.le_of_ble_eq_true rfl) (by omega) (m_wid R2 (by rw [q2.e9]; exact ht) (a2 (by omega))) ?_
        rintro _ M3 N3 ⟨vw, rfl, ⟨w3, W3, R3, e3⟩⟩
        rw [q2.eqx.eW] at w3
        have hwd : vw = wdB M0 t n u := w3
        have wr := wdB_in R0 hn ht u (by omega)
        rw [← hwd] at wr
        have q3 := q2.trans e3
        have hR3 : repR n u (M3 93) := by rw [W3 93 (by decide) (by decide)]; exact hR2
        refine r_run 3 (pc' := 125) (ls' := [some (yr 75), some (yi t), some (yi c), some (yi w), some (yi k), some (yi n), some (yj b), none, some (yi g), some (yi 1), some (yj vw), none]) (st' := [yj (-4611686018427387904), yj b]) (M' := M3) (N' := N3) rfl ?_
        refine r_lcmp f_167_125 (by omega) (by omega) (fun v125 hv125 => ?_)
        refine r_if_eq (pc := 126) f_167_126 (by omega) (fun h126 => ?_) (fun h126 => ?_)
        · refine r_run 2 (pc' := 140) (ls' := [some (yr 75), some (yi t), some (yi c), some (yi w), some (yi k), some (yi n), some (yj b), none, some (yi g), some (yi 1), some (yj vw), none]) (st' := [yi n, yr 75]) (M' := M3) (N' := N3) rfl ?_
          refine r_virtual (mj := 166) (b := 75) (as := [yi n]) (rest := []) f_167_140 (by decide) rfl m_166 (by decide) (by decide) (by decide) rfl rfl (Nat.le_of_ble_eq_true rfl) (by omega) (m_rowDigits hn hR3) ?_
          rintro _ _ _ ⟨vd, rfl, hvd, rfl, rfl⟩
          have hd2 : vd = dgB n u := hvd
          refine r_run 4 (pc' := 155) (ls' := [some (yr 75), some (yi t), some (yi c), some (yi w), some (yi k), some (yi n), some (yj b), none, some (yi vd), some (yi 1), some (yj vw), none]) (st' := [yj (-4611686018427387904), yj b]) (M' := M3) (N' := N3) rfl ?_
          refine r_lcmp f_167_155 (by omega) (by omega) (fun v155 hv155 => ?_)
          refine r_if_eq (pc := 156) f_167_156 (by omega) (fun h156 => ?_) (fun h156 => ?_)
          · refine r_run 5 (pc' := 179) (ls' := [some (yr 75), some (yi t), some (yi c), some (yi w), some (yi k), some (yi n), some (yj vw), none, some (yi vd), some (yi 1), some (yj vw), none]) (st' := [yi n, yr 75]) (M' := M3) (N' := N3) rfl ?_
            refine r_virtual (mj := 164) (b := 75) (as := [yi n]) (rest := []) f_167_179 (by decide) rfl m_164 (by decide) (by decide) (by decide) rfl rfl (Nat.le_of_ble_eq_true rfl) (by omega) (m_nextRow hn hR3.in) ?_
            rintro _ M4 _ ⟨v9, rfl, hv9, rfl⟩
            refine r_run 2 (pc' := 99) (ls' := [some (yr 75), some (yi t), some (yi c), some (yi w), some (yi k), some (yi n), some (yj vw), none, some (yi vd), some (yi v9), some (yj vw), none]) (st' := []) (M' := M4) (N' := N3) rfl ?_
            have hb2 : bIn vw := Or.inr wr
            rw [es, bF_new hs (by omega) (by omega), ← es2, ← hwd, ← hd2] at kk
            rcases nx_next hn ⟨h0, h1⟩ hs hR3 with ⟨n1, n2⟩ | ⟨n1, u', u0, u1, u2, u3, u4⟩
            · rw [bF_end (by omega) n2] at kk
              rcases hv9 with ⟨rfl, -, rfl⟩ | ⟨-, hx, -⟩
              · refine m_buy_e (kk M3 N3 (some (yj vw)) R3 q3)
              · exfalso; omega
            · rw [bF_go (by omega) (by omega) u4] at kk
              rcases hv9 with ⟨-, hx, -⟩ | ⟨rfl, -, f9, g9⟩
              · exfalso; omega
              · have e9 : eqn M3 M4 := eqn.ofc9 f9
                exact ih (l10 := some (yj vw)) (by omega) ⟨by omega, u1⟩ u2 (u3.congr fun i i0 i1 => g9 i i0 i1) hb2 (R3.congr e9) (q3.trans e9) kk
          · refine r_run 2 (pc' := 163) (ls' := [some (yr 75), some (yi t), some (yi c), some (yi w), some (yi k), some (yi n), some (yj b), none, some (yi vd), some (yi 1), some (yj vw), none]) (st' := [yj b, yj vw]) (M' := M3) (N' := N3) rfl ?_
            refine r_lcmp f_167_163 (by omega) (by omega) (fun v163 hv163 => ?_)
            refine r_if_ge (pc := 164) f_167_164 (by omega) (fun h164 => ?_) (fun h164 => ?_)
            · refine r_run 4 (pc' := 179) (ls' := [some (yr 75), some (yi t), some (yi c), some (yi w), some (yi k), some (yi n), some (yj b), none, some (yi vd), some (yi 1), some (yj vw), none]) (st' := [yi n, yr 75]) (M' := M3) (N' := N3) rfl ?_
              refine r_virtual (mj := 164) (b := 75) (as := [yi n]) (rest := []) f_167_179 (by decide) rfl m_164 (by decide) (by decide) (by decide) rfl rfl (Nat.le_of_ble_eq_true rfl) (by omega) (m_nextRow hn hR3.in) ?_
              rintro _ M4 _ ⟨v9, rfl, hv9, rfl⟩
              refine r_run 2 (pc' := 99) (ls' := [some (yr 75), some (yi t), some (yi c), some (yi w), some (yi k), some (yi n), some (yj b), none, some (yi vd), some (yi v9), some (yj vw), none]) (st' := []) (M' := M4) (N' := N3) rfl ?_
              exfalso; omega
            · refine r_run 5 (pc' := 179) (ls' := [some (yr 75), some (yi t), some (yi c), some (yi w), some (yi k), some (yi n), some (yj vw), none, some (yi vd), some (yi 1), some (yj vw), none]) (st' := [yi n, yr 75]) (M' := M3) (N' := N3) rfl ?_
              refine r_virtual (mj := 164) (b := 75) (as := [yi n]) (rest := []) f_167_179 (by decide) rfl m_164 (by decide) (by decide) (by decide) rfl rfl (Nat.le_of_ble_eq_true rfl) (by omega) (m_nextRow hn hR3.in) ?_
              rintro _ M4 _ ⟨v9, rfl, hv9, rfl⟩
              refine r_run 2 (pc' := 99) (ls' := [some (yr 75), some (yi t), some (yi c), some (yi w), some (yi k), some (yi n), some (yj vw), none, some (yi vd), some (yi v9), some (yj vw), none]) (st' := []) (M' := M4) (N' := N3) rfl ?_
              have hb2 : bIn vw := Or.inr wr
              rw [es, bF_new hs (by omega) (by omega), ← es2, ← hwd, ← hd2] at kk
              rcases nx_next hn ⟨h0, h1⟩ hs hR3 with ⟨n1, n2⟩ | ⟨n1, u', u0, u1, u2, u3, u4⟩
              · rw [bF_end (by omega) n2] at kk
                rcases hv9 with ⟨rfl, -, rfl⟩ | ⟨-, hx, -⟩
                · refine m_buy_e (kk M3 N3 (some (yj vw)) R3 q3)
                · exfalso; omega
              · rw [bF_go (by omega) (by omega) u4] at kk
                rcases hv9 with ⟨-, hx, -⟩ | ⟨rfl, -, f9, g9⟩
                · exfalso; omega
                · have e9 : eqn M3 M4 := eqn.ofc9 f9
                  exact ih (l10 := some (yj vw)) (by omega) ⟨by omega, u1⟩ u2 (u3.congr fun i i0 i1 => g9 i i0 i1) hb2 (R3.congr e9) (q3.trans e9) kk
        · refine r_run 2 (pc' := 133) (ls' := [some (yr 75), some (yi t), some (yi c), some (yi w), some (yi k), some (yi n), some (yj b), none, some (yi g), some (yi 1), some (yj vw), none]) (st' := [yj b, yj vw]) (M' := M3) (N' := N3) rfl ?_
          refine r_lcmp f_167_133 (by omega) (by omega) (fun v133 hv133 => ?_)
          refine r_if_ge (pc := 134) f_167_134 (by omega) (fun h134 => ?_) (fun h134 => ?_)
          · refine r_run 4 (pc' := 155) (ls' := [some (yr 75), some (yi t), some (yi c), some (yi w), some (yi k), some (yi n), some (yj b), none, some (yi g), some (yi 1), some (yj vw), none]) (st' := [yj (-4611686018427387904), yj b]) (M' := M3) (N' := N3) rfl ?_
            refine r_lcmp f_167_155 (by omega) (by omega) (fun v155 hv155 => ?_)
            refine r_if_eq (pc := 156) f_167_156 (by omega) (fun h156 => ?_) (fun h156 => ?_)
            · refine r_run 5 (pc' := 179) (ls' := [some (yr 75), some (yi t), some (yi c), some (yi w), some (yi k), some (yi n), some (yj vw), none, some (yi g), some (yi 1), some (yj vw), none]) (st' := [yi n, yr 75]) (M' := M3) (N' := N3) rfl ?_
              refine r_virtual (mj := 164) (b := 75) (as := [yi n]) (rest := []) f_167_179 (by decide) rfl m_164 (by decide) (by decide) (by decide) rfl rfl (Nat.le_of_ble_eq_true rfl) (by omega) (m_nextRow hn hR3.in) ?_
              rintro _ M4 _ ⟨v9, rfl, hv9, rfl⟩
              refine r_run 2 (pc' := 99) (ls' := [some (yr 75), some (yi t), some (yi c), some (yi w), some (yi k), some (yi n), some (yj vw), none, some (yi g), some (yi v9), some (yj vw), none]) (st' := []) (M' := M4) (N' := N3) rfl ?_
              exfalso; omega
            · refine r_run 2 (pc' := 163) (ls' := [some (yr 75), some (yi t), some (yi c), some (yi w), some (yi k), some (yi n), some (yj b), none, some (yi g), some (yi 1), some (yj vw), none]) (st' := [yj b, yj vw]) (M' := M3) (N' := N3) rfl ?_
              refine r_lcmp f_167_163 (by omega) (by omega) (fun v163 hv163 => ?_)
              refine r_if_ge (pc := 164) f_167_164 (by omega) (fun h164 => ?_) (fun h164 => ?_)
              · refine r_run 4 (pc' := 179) (ls' := [some (yr 75), some (yi t), some (yi c), some (yi w), some (yi k), some (yi n), some (yj b), none, some (yi g), some (yi 1), some (yj vw), none]) (st' := [yi n, yr 75]) (M' := M3) (N' := N3) rfl ?_
                refine r_virtual (mj := 164) (b := 75) (as := [yi n]) (rest := []) f_167_179 (by decide) rfl m_164 (by decide) (by decide) (by decide) rfl rfl (Nat.le_of_ble_eq_true rfl) (by omega) (m_nextRow hn hR3.in) ?_
                rintro _ M4 _ ⟨v9, rfl, hv9, rfl⟩
                refine r_run 2 (pc' := 99) (ls' := [some (yr 75), some (yi t), some (yi c), some (yi w), some (yi k), some (yi n), some (yj b), none, some (yi g), some (yi v9), some (yj vw), none]) (st' := []) (M' := M4) (N' := N3) rfl ?_
                have hb2 : bIn b := hb
                rw [es, bF_old (by omega), ← es2] at kk
                rcases nx_next hn ⟨h0, h1⟩ hs hR3 with ⟨n1, n2⟩ | ⟨n1, u', u0, u1, u2, u3, u4⟩
                · rw [bF_end (by omega) n2] at kk
                  rcases hv9 with ⟨rfl, -, rfl⟩ | ⟨-, hx, -⟩
                  · refine m_buy_e (kk M3 N3 (some (yj vw)) R3 q3)
                  · exfalso; omega
                · rw [bF_go (by omega) (by omega) u4] at kk
                  rcases hv9 with ⟨-, hx, -⟩ | ⟨rfl, -, f9, g9⟩
                  · exfalso; omega
                  · have e9 : eqn M3 M4 := eqn.ofc9 f9
                    exact ih (l10 := some (yj vw)) (by omega) ⟨by omega, u1⟩ u2 (u3.congr fun i i0 i1 => g9 i i0 i1) hb2 (R3.congr e9) (q3.trans e9) kk
              · refine r_run 5 (pc' := 179) (ls' := [some (yr 75), some (yi t), some (yi c), some (yi w), some (yi k), some (yi n), some (yj vw), none, some (yi g), some (yi 1), some (yj vw), none]) (st' := [yi n, yr 75]) (M' := M3) (N' := N3) rfl ?_
                refine r_virtual (mj := 164) (b := 75) (as := [yi n]) (rest := []) f_167_179 (by decide) rfl m_164 (by decide) (by decide) (by decide) rfl rfl (Nat.le_of_ble_eq_true rfl) (by omega) (m_nextRow hn hR3.in) ?_
                rintro _ M4 _ ⟨v9, rfl, hv9, rfl⟩
                refine r_run 2 (pc' := 99) (ls' := [some (yr 75), some (yi t), some (yi c), some (yi w), some (yi k), some (yi n), some (yj vw), none, some (yi g), some (yi v9), some (yj vw), none]) (st' := []) (M' := M4) (N' := N3) rfl ?_
                exfalso; omega
          · refine r_run 2 (pc' := 140) (ls' := [some (yr 75), some (yi t), some (yi c), some (yi w), some (yi k), some (yi n), some (yj b), none, some (yi g), some (yi 1), some (yj vw), none]) (st' := [yi n, yr 75]) (M' := M3) (N' := N3) rfl ?_
            refine r_virtual (mj := 166) (b := 75) (as := [yi n]) (rest := []) f_167_140 (by decide) rfl m_166 (by decide) (by decide) (by decide) rfl rfl (Nat.le_of_ble_eq_true rfl) (by omega) (m_rowDigits hn hR3) ?_
            rintro _ _ _ ⟨vd, rfl, hvd, rfl, rfl⟩
            have hd2 : vd = dgB n u := hvd
            refine r_run 4 (pc' := 155) (ls' := [some (yr 75), some (yi t), some (yi c), some (yi w), some (yi k), some (yi n), some (yj b), none, some (yi vd), some (yi 1), some (yj vw), none]) (st' := [yj (-4611686018427387904), yj b]) (M' := M3) (N' := N3) rfl ?_
            refine r_lcmp f_167_155 (by omega) (by omega) (fun v155 hv155 => ?_)
            refine r_if_eq (pc := 156) f_167_156 (by omega) (fun h156 => ?_) (fun h156 => ?_)
            · refine r_run 5 (pc' := 179) (ls' := [some (yr 75), some (yi t), some (yi c), some (yi w), some (yi k), some (yi n), some (yj vw), none, some (yi vd), some (yi 1), some (yj vw), none]) (st' := [yi n, yr 75]) (M' := M3) (N' := N3) rfl ?_
              refine r_virtual (mj := 164) (b := 75) (as := [yi n]) (rest := []) f_167_179 (by decide) rfl m_164 (by decide) (by decide) (by decide) rfl rfl (Nat.le_of_ble_eq_true rfl) (by omega) (m_nextRow hn hR3.in) ?_
              rintro _ M4 _ ⟨v9, rfl, hv9, rfl⟩
              refine r_run 2 (pc' := 99) (ls' := [some (yr 75), some (yi t), some (yi c), some (yi w), some (yi k), some (yi n), some (yj vw), none, some (yi vd), some (yi v9), some (yj vw), none]) (st' := []) (M' := M4) (N' := N3) rfl ?_
              have hb2 : bIn vw := Or.inr wr
              rw [es, bF_new hs (by omega) (by omega), ← es2, ← hwd, ← hd2] at kk
              rcases nx_next hn ⟨h0, h1⟩ hs hR3 with ⟨n1, n2⟩ | ⟨n1, u', u0, u1, u2, u3, u4⟩
              · rw [bF_end (by omega) n2] at kk
                rcases hv9 with ⟨rfl, -, rfl⟩ | ⟨-, hx, -⟩
                · refine m_buy_e (kk M3 N3 (some (yj vw)) R3 q3)
                · exfalso; omega
              · rw [bF_go (by omega) (by omega) u4] at kk
                rcases hv9 with ⟨-, hx, -⟩ | ⟨rfl, -, f9, g9⟩
                · exfalso; omega
                · have e9 : eqn M3 M4 := eqn.ofc9 f9
                  exact ih (l10 := some (yj vw)) (by omega) ⟨by omega, u1⟩ u2 (u3.congr fun i i0 i1 => g9 i i0 i1) hb2 (R3.congr e9) (q3.trans e9) kk
            · refine r_run 2 (pc' := 163) (ls' := [some (yr 75), some (yi t), some (yi c), some (yi w), some (yi k), some (yi n), some (yj b), none, some (yi vd), some (yi 1), some (yj vw), none]) (st' := [yj b, yj vw]) (M' := M3) (N' := N3) rfl ?_
              refine r_lcmp f_167_163 (by omega) (by omega) (fun v163 hv163 => ?_)
              refine r_if_ge (pc := 164) f_167_164 (by omega) (fun h164 => ?_) (fun h164 => ?_)
              · refine r_run 4 (pc' := 179) (ls' := [some (yr 75), some (yi t), some (yi c), some (yi w), some (yi k), some (yi n), some (yj b), none, some (yi vd), some (yi 1), some (yj vw), none]) (st' := [yi n, yr 75]) (M' := M3) (N' := N3) rfl ?_
                refine r_virtual (mj := 164) (b := 75) (as := [yi n]) (rest := []) f_167_179 (by decide) rfl m_164 (by decide) (by decide) (by decide) rfl rfl (Nat.le_of_ble_eq_true rfl) (by omega) (m_nextRow hn hR3.in) ?_
                rintro _ M4 _ ⟨v9, rfl, hv9, rfl⟩
                refine r_run 2 (pc' := 99) (ls' := [some (yr 75), some (yi t), some (yi c), some (yi w), some (yi k), some (yi n), some (yj b), none, some (yi vd), some (yi v9), some (yj vw), none]) (st' := []) (M' := M4) (N' := N3) rfl ?_
                exfalso; omega
              · refine r_run 5 (pc' := 179) (ls' := [some (yr 75), some (yi t), some (yi c), some (yi w), some (yi k), some (yi n), some (yj vw), none, some (yi vd), some (yi 1), some (yj vw), none]) (st' := [yi n, yr 75]) (M' := M3) (N' := N3) rfl ?_
                refine r_virtual (mj := 164) (b := 75) (as := [yi n]) (rest := []) f_167_179 (by decide) rfl m_164 (by decide) (by decide) (by decide) rfl rfl (Nat.le_of_ble_eq_true rfl) (by omega) (m_nextRow hn hR3.in) ?_
                rintro _ M4 _ ⟨v9, rfl, hv9, rfl⟩
                refine r_run 2 (pc' := 99) (ls' := [some (yr 75), some (yi t), some (yi c), some (yi w), some (yi k), some (yi n), some (yj vw), none, some (yi vd), some (yi v9), some (yj vw), none]) (st' := []) (M' := M4) (N' := N3) rfl ?_
                have hb2 : bIn vw := Or.inr wr
                rw [es, bF_new hs (by omega) (by omega), ← es2, ← hwd, ← hd2] at kk
                rcases nx_next hn ⟨h0, h1⟩ hs hR3 with ⟨n1, n2⟩ | ⟨n1, u', u0, u1, u2, u3, u4⟩
                · rw [bF_end (by omega) n2] at kk
                  rcases hv9 with ⟨rfl, -, rfl⟩ | ⟨-, hx, -⟩
                  · refine m_buy_e (kk M3 N3 (some (yj vw)) R3 q3)
                  · exfalso; omega
                · rw [bF_go (by omega) (by omega) u4] at kk
                  rcases hv9 with ⟨-, hx, -⟩ | ⟨rfl, -, f9, g9⟩
                  · exfalso; omega
                  · have e9 : eqn M3 M4 := eqn.ofc9 f9
                    exact ih (l10 := some (yj vw)) (by omega) ⟨by omega, u1⟩ u2 (u3.congr fun i i0 i1 => g9 i i0 i1) hb2 (R3.congr e9) (q3.trans e9) kk
theorem m_buy_z {S : XS} {d : Nat} {t c w k n : Int} {N : YM} {Q : Option YV → YM → YM → Prop} {j : Nat} : ∀ {o : Int} {M : YM}, 0 ≤ o → o + j = 4 → (∀ M', (∀ c, c ≠ 93 → M' c = M c) → (∀ i, i < o → M' 93 i = M 93 i) → (∀ i, o ≤ i → i < 4 → M' 93 i = 0) → ry S d 167 88 [some (yr 75), some (yi t), some (yi c), some (yi w), some (yi k), some (yi n), some (yi 4), none, none, none, none, none] [] M' N Q) → ry S d 167 68 [some (yr 75), some (yi t), some (yi c), some (yi w), some (yi k), some (yi n), some (yi o), none, none, none, none, none] [] M N Q := by
  induction j with
  | zero =>
    intro o M h0 h1 kk
    refine r_run 2 (pc' := 71) (ls' := [some (yr 75), some (yi t), some (yi c), some (yi w), some (yi k), some (yi n), some (yi o), none, none, none, none, none]) (st' := [yi 4, yi o]) (M' := M) (N' := N) rfl ?_
    refine r_icmp_ge (pc := 71) f_167_71 (by omega) (by omega) (fun h71 => ?_) (fun h71 => ?_)
    · have e : o = 4 := by omega
      subst e
      exact kk M (fun c _ => rfl) (fun i _ => rfl) (fun i i0 i1 => by omega)
    · exfalso; omega
  | succ j ih =>
    intro o M h0 h1 kk
    refine r_run 2 (pc' := 71) (ls' := [some (yr 75), some (yi t), some (yi c), some (yi w), some (yi k), some (yi n), some (yi o), none, none, none, none, none]) (st' := [yi 4, yi o]) (M' := M) (N' := N) rfl ?_
    refine r_icmp_ge (pc := 71) f_167_71 (by omega) (by omega) (fun h71 => ?_) (fun h71 => ?_)
    · exfalso; omega
    · refine r_run 4 (pc' := 81) (ls' := [some (yr 75), some (yi t), some (yi c), some (yi w), some (yi k), some (yi n), some (yi o), none, none, none, none, none]) (st' := [yi 0, yi o, yr 93]) (M' := M) (N' := N) rfl ?_
      refine r_iast (n := 4) f_167_81 (by decide) (by decide) (by decide) (by omega) ?_
      refine r_run 2 (pc' := 68) (ls' := [some (yr 75), some (yi t), some (yi c), some (yi w), some (yi k), some (yi n), some (yi (o + 1)), none, none, none, none, none]) (st' := []) (M' := (yu M 93 o 0)) (N' := N) rfl ?_
      refine ih (by omega) (by omega) fun M' g1 g2 g3 => kk M' (fun c hc => by rw [g1 c hc, yu_rn hc]) (fun i i0 => ?_) (fun i i0 i1 => ?_)
      · rw [g2 i (by omega), yu_ne (by omega)]
      · by_cases hi : i = o
        · rw [hi, g2 o (by omega), yu_at]
        · exact g3 i (by omega) i1
theorem m_buy {S : XS} {M N : YM} {t c w : Int} (hqt : -2147483648 ≤ t ∧ t < 2147483648) (hqc : -2147483648 ≤ c ∧ c < 2147483648) (hqw : -2147483648 ≤ w ∧ w < 2147483648) (R : Rel M) : rm S 8 167 [yr 75, yi t, yi c, yi w] M N (fun r M' _ => ∃ v : Int, some (yj v) = r ∧ v = fBuy t c w M ∧ eqn M M') := by
  refine ⟨xe_167, m_167, Nat.le_of_ble_eq_true rfl, ?_⟩
  refine r_run 2 (pc' := 2) (ls' := [some (yr 75), some (yi t), some (yi c), some (yi w), none, none, none, none, none, none, none, none]) (st' := [yi t, yr 75]) (M' := M) (N' := N) rfl ?_
  refine r_virtual (mj := 116) (b := 75) (as := [yi t]) (rest := []) f_167_2 (by decide) rfl m_116 (by decide) (by decide) (by decide) rfl rfl (Nat.le_of_ble_eq_true rfl) (by omega) (m_isOfTexts (by assumption) (by have := R.t.2.1; omega)) ?_
  rintro _ _ _ ⟨vt, rfl, hvt, rfl, rfl⟩
  have e59 := R.t.2.1
  refine r_if_eq (pc := 5) f_167_5 (by omega) (fun h5 => ?_) (fun h5 => ?_)
  · refine r_run 1 (pc' := 38) (ls' := [some (yr 75), some (yi t), some (yi c), some (yi w), none, none, none, none, none, none, none, none]) (st' := [yj (-4611686018427387904)]) (M' := M) (N' := N) rfl ?_
    refine r_lret m_167 rfl f_167_38 ?_
    exact ⟨_, rfl, by unfold fBuy; rw [if_pos (by omega)], eqn.refl⟩
  · refine r_run 3 (pc' := 13) (ls' := [some (yr 75), some (yi t), some (yi c), some (yi w), none, none, none, none, none, none, none, none]) (st' := [yi 999, yi 0, yi c]) (M' := M) (N' := N) rfl ?_
    refine r_static (mj := 112) (as := [yi c, yi 0, yi 999]) (rest := []) f_167_13 (by decide) rfl m_112 rfl rfl rfl (Nat.le_of_ble_eq_true rfl) (by omega) (m_in (by omega) (by omega) (by omega)) ?_
    rintro _ _ _ ⟨v13, rfl, hv13, rfl, rfl⟩
    refine r_if_eq (pc := 16) f_167_16 (by omega) (fun h16 => ?_) (fun h16 => ?_)
    · refine r_run 1 (pc' := 38) (ls' := [some (yr 75), some (yi t), some (yi c), some (yi w), none, none, none, none, none, none, none, none]) (st' := [yj (-4611686018427387904)]) (M' := M) (N' := N) rfl ?_
      refine r_lret m_167 rfl f_167_38 ?_
      exact ⟨_, rfl, by unfold fBuy; rw [if_pos (by omega)], eqn.refl⟩
    · refine r_run 3 (pc' := 22) (ls' := [some (yr 75), some (yi t), some (yi c), some (yi w), none, none, none, none, none, none, none, none]) (st' := [yi 1, yi 0, yi w]) (M' := M) (N' := N) rfl ?_
      refine r_static (mj := 112) (as := [yi w, yi 0, yi 1]) (rest := []) f_167_22 (by decide) rfl m_112 rfl rfl rfl (Nat.le_of_ble_eq_true rfl) (by omega) (m_in (by omega) (by omega) (by omega)) ?_
      rintro _ _ _ ⟨v22, rfl, hv22, rfl, rfl⟩
      refine r_if_eq (pc := 25) f_167_25 (by omega) (fun h25 => ?_) (fun h25 => ?_)
      · refine r_run 1 (pc' := 38) (ls' := [some (yr 75), some (yi t), some (yi c), some (yi w), none, none, none, none, none, none, none, none]) (st' := [yj (-4611686018427387904)]) (M' := M) (N' := N) rfl ?_
        refine r_lret m_167 rfl f_167_38 ?_
        exact ⟨_, rfl, by unfold fBuy; rw [if_pos (by omega)], eqn.refl⟩
      · refine r_run 1 (pc' := 29) (ls' := [some (yr 75), some (yi t), some (yi c), some (yi w), none, none, none, none, none, none, none, none]) (st' := [yr 75]) (M' := M) (N' := N) rfl ?_
        refine r_virtual (mj := 148) (b := 75) (as := []) (rest := []) f_167_29 (by decide) rfl m_148 (by decide) (by decide) (by decide) rfl rfl (Nat.le_of_ble_eq_true rfl) (by omega) (m_can1 R) ?_
        rintro _ M2 _ ⟨v, rfl, ⟨hv, hv01, hat, hBE, hfr, R2, hq⟩, rfl⟩
        refine r_if_ne (pc := 32) f_167_32 (by omega) (fun h32 => ?_) (fun h32 => ?_)
        · refine r_run 1 (pc' := 40) (ls' := [some (yr 75), some (yi t), some (yi c), some (yi w), none, none, none, none, none, none, none, none]) (st' := [yr 75]) (M' := M2) (N' := N) rfl ?_
          refine r_virtual (mj := 162) (b := 75) (as := []) (rest := []) f_167_40 (by decide) rfl m_162 (by decide) (by decide) (by decide) rfl rfl (Nat.le_of_ble_eq_true rfl) (by omega) (m_cost R2 (hat (by omega))) ?_
          rintro _ M3 _ ⟨v40, rfl, ⟨hv40, e3'⟩, rfl⟩
          rw [hq.eC] at hv40
          have ci := cost_in M (nT M)
          have q3 : eqn M M3 := hq.trans (eqn.ofm fun c hc => e3' c (by omega) (by omega))
          refine r_run 2 (pc' := 47) (ls' := [some (yr 75), some (yi t), some (yi c), some (yi w), some (yi v40), none, none, none, none, none, none, none]) (st' := [yi v40]) (M' := M3) (N' := N) rfl ?_
          refine r_if_ne (pc := 47) f_167_47 (by omega) (fun h47 => ?_) (fun h47 => ?_)
          · refine r_run 2 (pc' := 57) (ls' := [some (yr 75), some (yi t), some (yi c), some (yi w), some (yi v40), none, none, none, none, none, none, none]) (st' := [yi v40, yi c]) (M' := M3) (N' := N) rfl ?_
            refine r_idiv f_167_57 (by omega) (by omega) ?_
            refine r_run 2 (pc' := 60) (ls' := [some (yr 75), some (yi t), some (yi c), some (yi w), some (yi v40), none, none, none, none, none, none, none]) (st' := [yi 4, yi 0, yi (c / v40)]) (M' := M3) (N' := N) rfl ?_
            refine r_static (mj := 113) (as := [yi (c / v40), yi 0, yi 4]) (rest := []) f_167_60 (by decide) rfl m_113 rfl rfl rfl (Nat.le_of_ble_eq_true rfl) (by omega) (m_within (by have := div_in (c := c) (k := v40) (by omega) (by omega); omega) (by omega) (by omega)) ?_
            rintro _ _ _ ⟨v60, rfl, hv60, rfl, rfl⟩
            have dd := div_in (c := c) (k := v40) (by omega) (by omega)
            have en : nIn M (nT M) c = v60 := by
              unfold nIn; rw [if_neg (by omega), ← hv40]; unfold imin; split <;> omega
            obtain ⟨n, hn⟩ : ∃ n, n = nIn M (nT M) c := ⟨_, rfl⟩
            refine r_top (b := n) (by rw [hn, en]) ?_
            have hn4 := @nIn_in M (nT M) c (by omega)
            rw [← hn] at hn4
            have pe := p6_in hn4
            refine r_run 3 (pc' := 68) (ls' := [some (yr 75), some (yi t), some (yi c), some (yi w), some (yi v40), some (yi n), some (yi 0), none, none, none, none, none]) (st' := []) (M' := M3) (N' := N) rfl ?_
            refine m_buy_z (j := 4) (Int.le_refl 0) rfl fun M4 g1 _ g3 => ?_
            refine r_run 6 (pc' := 99) (ls' := [some (yr 75), some (yi t), some (yi c), some (yi w), some (yi v40), some (yi n), some (yj (-4611686018427387904)), none, some (yi 0), some (yi 1), none, none]) (st' := []) (M' := M4) (N' := N) rfl ?_
            have q4 : eqn M M4 := q3.trans (eqn.ofc9 g1)
            have R4 := R.congr q4
            have r0 : repR n 0 (M4 93) := fun k k0 k1 => by rw [g3 k k0 (by omega)]; exact dgt_zero.symm
            refine m_buy_l (M0 := M) (j := (p6 n.toNat).toNat) (l10 := none) (by omega) hn4 ⟨by omega, by omega⟩ R (by omega) ⟨Int.le_refl 0, by omega⟩ (srt_zero hn4) r0 (Or.inl rfl) R4 q4 fun M5 N5 l10 R5 q5 => ?_
            rw [show bF n.toNat (okB M n) (wdB M t n) (dgB n) (p6 n.toNat - 0).toNat 0 (-4611686018427387904) 0 = buF M t n by unfold buF; rw [Int.sub_zero]]
            have bi : bIn (buF M t n).1 := bF_in (wdB_in R hn4 ⟨by omega, by omega⟩) (Or.inl rfl)
            have gi := buF2_in R (t := t) hn4
            refine r_run 2 (pc' := 192) (ls' := [some (yr 75), some (yi t), some (yi c), some (yi w), some (yi v40), some (yi n), some (yj ((buF M t n).1)), none, some (yi ((buF M t n).2)), some (yi 0), l10, none]) (st' := [yj (-4611686018427387904), yj ((buF M t n).1)]) (M' := M5) (N' := N5) rfl ?_
            refine r_lcmp f_167_192 (by omega) (by omega) (fun v192 hv192 => ?_)
            refine r_if_ne (pc := 193) f_167_193 (by omega) (fun h193 => ?_) (fun h193 => ?_)
            · refine r_run 1 (pc' := 203) (ls' := [some (yr 75), some (yi t), some (yi c), some (yi w), some (yi v40), some (yi n), some (yj ((buF M t n).1)), none, some (yi ((buF M t n).2)), some (yi 0), l10, none]) (st' := [yi w]) (M' := M5) (N' := N5) rfl ?_
              refine r_if_ne (pc := 203) f_167_203 (by omega) (fun h203 => ?_) (fun h203 => ?_)
              · refine r_run 1 (pc' := 214) (ls' := [some (yr 75), some (yi t), some (yi c), some (yi w), some (yi v40), some (yi n), some (yj ((buF M t n).1)), none, some (yi ((buF M t n).2)), some (yi 0), l10, none]) (st' := [yj ((buF M t n).1)]) (M' := M5) (N' := N5) rfl ?_
                refine r_lret m_167 rfl f_167_214 ?_
                exact ⟨_, rfl, by unfold fBuy; rw [if_neg (by omega), ← hn, if_pos (by omega)], q5⟩
              · refine r_run 1 (pc' := 208) (ls' := [some (yr 75), some (yi t), some (yi c), some (yi w), some (yi v40), some (yi n), some (yj ((buF M t n).1)), none, some (yi ((buF M t n).2)), some (yi 0), l10, none]) (st' := [yi ((buF M t n).2)]) (M' := M5) (N' := N5) rfl ?_
                refine r_i2l f_167_208 (by assumption) ?_
                refine r_run 1 (pc' := 214) (ls' := [some (yr 75), some (yi t), some (yi c), some (yi w), some (yi v40), some (yi n), some (yj ((buF M t n).1)), none, some (yi ((buF M t n).2)), some (yi 0), l10, none]) (st' := [yj ((buF M t n).2)]) (M' := M5) (N' := N5) rfl ?_
                refine r_lret m_167 rfl f_167_214 ?_
                exact ⟨_, rfl, by unfold fBuy; rw [if_neg (by omega), ← hn, if_neg (by omega)], q5⟩
            · refine r_run 2 (pc' := 214) (ls' := [some (yr 75), some (yi t), some (yi c), some (yi w), some (yi v40), some (yi n), some (yj ((buF M t n).1)), none, some (yi ((buF M t n).2)), some (yi 0), l10, none]) (st' := [yj (-4611686018427387904)]) (M' := M5) (N' := N5) rfl ?_
              refine r_lret m_167 rfl f_167_214 ?_
              exact ⟨_, rfl, by unfold fBuy; rw [if_neg (by omega), ← hn, if_pos (by omega)]; omega, q5⟩
          · refine r_run 2 (pc' := 63) (ls' := [some (yr 75), some (yi t), some (yi c), some (yi w), some (yi v40), none, none, none, none, none, none, none]) (st' := [yi 4]) (M' := M3) (N' := N) rfl ?_
            have en : nIn M (nT M) c = 4 := by
              unfold nIn; rw [if_pos (by omega)]
            obtain ⟨n, hn⟩ : ∃ n, n = nIn M (nT M) c := ⟨_, rfl⟩
            refine r_top (b := n) (by rw [hn, en]) ?_
            have hn4 := @nIn_in M (nT M) c (by omega)
            rw [← hn] at hn4
            have pe := p6_in hn4
            refine r_run 3 (pc' := 68) (ls' := [some (yr 75), some (yi t), some (yi c), some (yi w), some (yi v40), some (yi n), some (yi 0), none, none, none, none, none]) (st' := []) (M' := M3) (N' := N) rfl ?_
            refine m_buy_z (j := 4) (Int.le_refl 0) rfl fun M4 g1 _ g3 => ?_
            refine r_run 6 (pc' := 99) (ls' := [some (yr 75), some (yi t), some (yi c), some (yi w), some (yi v40), some (yi n), some (yj (-4611686018427387904)), none, some (yi 0), some (yi 1), none, none]) (st' := []) (M' := M4) (N' := N) rfl ?_
            have q4 : eqn M M4 := q3.trans (eqn.ofc9 g1)
            have R4 := R.congr q4
            have r0 : repR n 0 (M4 93) := fun k k0 k1 => by rw [g3 k k0 (by omega)]; exact dgt_zero.symm
            refine m_buy_l (M0 := M) (j := (p6 n.toNat).toNat) (l10 := none) (by omega) hn4 ⟨by omega, by omega⟩ R (by omega) ⟨Int.le_refl 0, by omega⟩ (srt_zero hn4) r0 (Or.inl rfl) R4 q4 fun M5 N5 l10 R5 q5 => ?_
            rw [show bF n.toNat (okB M n) (wdB M t n) (dgB n) (p6 n.toNat - 0).toNat 0 (-4611686018427387904) 0 = buF M t n by unfold buF; rw [Int.sub_zero]]
            have bi : bIn (buF M t n).1 := bF_in (wdB_in R hn4 ⟨by omega, by omega⟩) (Or.inl rfl)
            have gi := buF2_in R (t := t) hn4
            refine r_run 2 (pc' := 192) (ls' := [some (yr 75), some (yi t), some (yi c), some (yi w), some (yi v40), some (yi n), some (yj ((buF M t n).1)), none, some (yi ((buF M t n).2)), some (yi 0), l10, none]) (st' := [yj (-4611686018427387904), yj ((buF M t n).1)]) (M' := M5) (N' := N5) rfl ?_
            refine r_lcmp f_167_192 (by omega) (by omega) (fun v192 hv192 => ?_)
            refine r_if_ne (pc := 193) f_167_193 (by omega) (fun h193 => ?_) (fun h193 => ?_)
            · refine r_run 1 (pc' := 203) (ls' := [some (yr 75), some (yi t), some (yi c), some (yi w), some (yi v40), some (yi n), some (yj ((buF M t n).1)), none, some (yi ((buF M t n).2)), some (yi 0), l10, none]) (st' := [yi w]) (M' := M5) (N' := N5) rfl ?_
              refine r_if_ne (pc := 203) f_167_203 (by omega) (fun h203 => ?_) (fun h203 => ?_)
              · refine r_run 1 (pc' := 214) (ls' := [some (yr 75), some (yi t), some (yi c), some (yi w), some (yi v40), some (yi n), some (yj ((buF M t n).1)), none, some (yi ((buF M t n).2)), some (yi 0), l10, none]) (st' := [yj ((buF M t n).1)]) (M' := M5) (N' := N5) rfl ?_
                refine r_lret m_167 rfl f_167_214 ?_
                exact ⟨_, rfl, by unfold fBuy; rw [if_neg (by omega), ← hn, if_pos (by omega)], q5⟩
              · refine r_run 1 (pc' := 208) (ls' := [some (yr 75), some (yi t), some (yi c), some (yi w), some (yi v40), some (yi n), some (yj ((buF M t n).1)), none, some (yi ((buF M t n).2)), some (yi 0), l10, none]) (st' := [yi ((buF M t n).2)]) (M' := M5) (N' := N5) rfl ?_
                refine r_i2l f_167_208 (by assumption) ?_
                refine r_run 1 (pc' := 214) (ls' := [some (yr 75), some (yi t), some (yi c), some (yi w), some (yi v40), some (yi n), some (yj ((buF M t n).1)), none, some (yi ((buF M t n).2)), some (yi 0), l10, none]) (st' := [yj ((buF M t n).2)]) (M' := M5) (N' := N5) rfl ?_
                refine r_lret m_167 rfl f_167_214 ?_
                exact ⟨_, rfl, by unfold fBuy; rw [if_neg (by omega), ← hn, if_neg (by omega)], q5⟩
            · refine r_run 2 (pc' := 214) (ls' := [some (yr 75), some (yi t), some (yi c), some (yi w), some (yi v40), some (yi n), some (yj ((buF M t n).1)), none, some (yi ((buF M t n).2)), some (yi 0), l10, none]) (st' := [yj (-4611686018427387904)]) (M' := M5) (N' := N5) rfl ?_
              refine r_lret m_167 rfl f_167_214 ?_
              exact ⟨_, rfl, by unfold fBuy; rw [if_neg (by omega), ← hn, if_pos (by omega)]; omega, q5⟩
        · refine r_run 1 (pc' := 38) (ls' := [some (yr 75), some (yi t), some (yi c), some (yi w), none, none, none, none, none, none, none, none]) (st' := [yj (-4611686018427387904)]) (M' := M2) (N' := N) rfl ?_
          refine r_lret m_167 rfl f_167_38 ?_
          exact ⟨_, rfl, by unfold fBuy; rw [if_pos (by omega)], hq⟩
theorem p_buy {S : XS} {M N : YM} {t c w : Int} (hqt : -2147483648 ≤ t ∧ t < 2147483648) (hqc : -2147483648 ≤ c ∧ c < 2147483648) (hqw : -2147483648 ≤ w ∧ w < 2147483648) (R : Rel M) : prl S 70 167 [yi t, yi c, yi w] M N := prl_q (fBuy t c w) (rm_deep (by decide) (c_buy hqt hqc hqw R)) (fun M N R => rm_deep (by decide) (m_buy hqt hqc hqw R)) (fun M' _ e => fBuy_eq e) R
