/-! the class reads a text -/
set_option maxRecDepth 1000000 in
theorem nm_fin : ∀ a : Fin 64, ∀ x : Fin 6, 0 ≤ bor (a.val : Int) (bsh (x.val : Int)) ∧ bor (a.val : Int) (bsh (x.val : Int)) < 64 ∧ bor (a.val : Int) (bsh (x.val : Int)) / 2 ^ x.val % 2 = 1 ∧ ∀ y : Fin 6, (a.val : Int) / 2 ^ y.val % 2 = 1 → bor (a.val : Int) (bsh (x.val : Int)) / 2 ^ y.val % 2 = 1 := by decide +kernel
theorem nm_at {a x : Int} (ha : 0 ≤ a ∧ a < 64) (hx : 0 ≤ x ∧ x ≤ 5) : 0 ≤ bor a (bsh x) ∧ bor a (bsh x) < 64 ∧ bor a (bsh x) / 2 ^ x.toNat % 2 = 1 ∧ ∀ y : Int, 0 ≤ y → y ≤ 5 → a / 2 ^ y.toNat % 2 = 1 → bor a (bsh x) / 2 ^ y.toNat % 2 = 1 := by
  have g := nm_fin ⟨a.toNat, by omega⟩ ⟨x.toNat, by omega⟩
  dsimp only at g
  rw [show ((a.toNat : Nat) : Int) = a by omega, show ((x.toNat : Nat) : Int) = x by omega] at g
  exact ⟨g.1, g.2.1, g.2.2.1, fun y y0 y1 h => g.2.2.2 ⟨y.toNat, by omega⟩ h⟩
def nmF (A : Int → Int) : Nat → Int → Int → Int
  | 0, _, a => a
  | j + 1, i, a => nmF A j (i + 1) (if 10000 ≤ A i then bor a (bsh (A i - 10000)) else a)
theorem nmF_in {A : Int → Int} {j : Nat} : ∀ {i a : Int}, (0 ≤ a ∧ a < 64) → (∀ k, i ≤ k → k < i + j → A k ≤ 10005) → (0 ≤ nmF A j i a ∧ nmF A j i a < 64) ∧ (∀ y : Int, 0 ≤ y → y ≤ 5 → a / 2 ^ y.toNat % 2 = 1 → nmF A j i a / 2 ^ y.toNat % 2 = 1) ∧ ∀ k, i ≤ k → k < i + j → 10000 ≤ A k → nmF A j i a / 2 ^ (A k - 10000).toNat % 2 = 1 := by
  induction j with
  | zero => intro i a ha _; exact ⟨ha, fun y _ _ h => h, fun k k0 k1 => by omega⟩
  | succ j ih =>
    intro i a ha h
    have hi := h i (Int.le_refl _) (by omega)
    unfold nmF
    by_cases c : 10000 ≤ A i
    · rw [if_pos c]
      obtain ⟨g1, g2, g3, g4⟩ := nm_at (a := a) (x := A i - 10000) ha (by omega)
      obtain ⟨k1, k2, k3⟩ := ih (i := i + 1) (a := bor a (bsh (A i - 10000))) ⟨g1, g2⟩ (fun k k0 k1 => h k (by omega) (by omega))
      refine ⟨k1, fun y y0 y1 hy => k2 y y0 y1 (g4 y y0 y1 hy), fun k k0 k4 hk => ?_⟩
      by_cases e : k = i
      · rw [e]; exact k2 _ (by omega) (by omega) g3
      · exact k3 k (by omega) (by omega) hk
    · rw [if_neg c]
      obtain ⟨k1, k2, k3⟩ := ih (i := i + 1) (a := a) ha (fun k k0 k1 => h k (by omega) (by omega))
      refine ⟨k1, k2, fun k k0 k4 hk => ?_⟩
      by_cases e : k = i
      · rw [e] at hk; exact absurd hk c
      · exact k3 k (by omega) (by omega) hk
theorem crep_get {R : Int → Int} {b : Int} {c : List Int} : crep R b c → ∀ k : Int, 0 ≤ k → k < c.length → R (b + k) ∈ c := by
  induction c with
  | nil => intro _ k k0 k1; have : k < 0 := k1; omega
  | cons x c ih =>
    intro h k k0 k1
    have e : ((x :: c).length : Int) = c.length + 1 := by rw [List.length_cons]; rfl
    by_cases g : k = c.length
    · rw [g, h.1]; exact List.mem_cons_self ..
    · exact List.mem_cons_of_mem _ (ih h.2 k k0 (by omega))
theorem crep_two {R C : Int → Int} {f : Int → Int} {b : Int} {c : List Int} : crep R 0 (c.map f) → crep C b c → ∀ k : Int, 0 ≤ k → k < c.length → R k = f (C (b + k)) ∧ C (b + k) ∈ c := by
  induction c with
  | nil => intro _ _ k k0 k1; have : k < 0 := k1; omega
  | cons x c ih =>
    intro h g k k0 k1
    have e : ((x :: c).length : Int) = c.length + 1 := by rw [List.length_cons]; rfl
    have h1 : R (0 + ((c.map f).length : Int)) = f x := h.1
    rw [List.length_map, Int.zero_add] at h1
    by_cases q : k = c.length
    · rw [q, h1, g.1]; exact ⟨rfl, List.mem_cons_self ..⟩
    · have z := ih h.2 g.2 k k0 (by omega)
      exact ⟨z.1, List.mem_cons_of_mem _ z.2⟩
theorem tEnc_big {x : Int} (h : tVal x) : tEnc x ≤ 10005 ∧ -9 ≤ tEnc x := by
  have := tEnc_is h
  omega
def nmP (M : YM) (c : List Int) : Prop := (0 ≤ M 29 3 ∧ M 29 3 < 64) ∧ ∀ k : Int, 0 ≤ k → k < c.length → 10000 ≤ M 30 k → M 29 3 / 2 ^ (M 30 k - 10000).toNat % 2 = 1
theorem c_clear {S : XS} {M N : YM}  : rm S 0 42 [yr 29] M N (fun r M' N' => none = r ∧ (yu (yu M 29 1 0) 29 3 0) = M' ∧ N = N') := by
  refine ⟨xe_42, m_42, Nat.le_of_ble_eq_true rfl, ?_⟩
  refine r_run 6 (pc' := 10) (ls' := [some (yr 29)]) (st' := []) (M' := (yu (yu M 29 1 0) 29 3 0)) (N' := N) rfl ?_
  refine r_vret m_42 rfl f_42_10 ?_
  exact ⟨rfl, rfl, rfl⟩
theorem c_ep_l {S : XS} {d : Nat} {z : Int} {M N : YM} {Q : Option YV → YM → YM → Prop} (hz : M 29 1 = z) (hz2 : z ≤ 160) (hA : ∀ k, 0 ≤ k → k < z → -9 ≤ M 30 k ∧ M 30 k ≤ 10005) {j : Nat} : ∀ {i a : Int}, 0 ≤ i → i + j = z → 0 ≤ a → a < 64 → ry S d 44 72 [some (yr 29), some (yi 0), some (yi z)] [] (yu M 29 3 (nmF (M 30) j i a)) N Q → ry S d 44 21 [some (yr 29), some (yi 0), some (yi i)] [] (yu M 29 3 a) N Q := by
  induction j with
  | zero =>
    intro i a h0 h1 ha0 ha1 kk
    have ha : 0 ≤ a ∧ a < 64 := ⟨ha0, ha1⟩
    refine r_run 3 (pc' := 26) (ls' := [some (yr 29), some (yi 0), some (yi i)]) (st' := [yi (M 29 1), yi i]) (M' := (yu M 29 3 a)) (N' := N) rfl ?_
    refine r_icmp_ge (pc := 26) f_44_26 (by omega) (by omega) (fun h26 => ?_) (fun h26 => ?_)
    · rw [show i = z by omega]
      exact kk
    · exfalso; omega
  | succ j ih =>
    intro i a h0 h1 ha0 ha1 kk
    have ha : 0 ≤ a ∧ a < 64 := ⟨ha0, ha1⟩
    have hAi := hA i h0 (by omega)
    refine r_run 3 (pc' := 26) (ls' := [some (yr 29), some (yi 0), some (yi i)]) (st' := [yi (M 29 1), yi i]) (M' := (yu M 29 3 a)) (N' := N) rfl ?_
    refine r_icmp_ge (pc := 26) f_44_26 (by omega) (by omega) (fun h26 => ?_) (fun h26 => ?_)
    · exfalso; omega
    · refine r_run 6 (pc' := 39) (ls' := [some (yr 29), some (yi 0), some (yi i)]) (st' := [yi i, yr 30, yi a, yr 29]) (M' := (yu M 29 3 a)) (N' := N) rfl ?_
      refine r_iald (n := 160) f_44_39 (by decide) (by decide) (by decide) (by omega) ?_
      refine r_run 1 (pc' := 43) (ls' := [some (yr 29), some (yi 0), some (yi i)]) (st' := [yi 10000, yi (M 30 i), yi a, yr 29]) (M' := (yu M 29 3 a)) (N' := N) rfl ?_
      refine r_icmp_lt (pc := 43) f_44_43 (by omega) (by omega) (fun h43 => ?_) (fun h43 => ?_)
      · refine r_run 5 (pc' := 21) (ls' := [some (yr 29), some (yi 0), some (yi (i + 1))]) (st' := []) (M' := (yu (yu M 29 3 a) 29 3 ((Int32.ofInt a ||| Int32.ofInt 0).toInt))) (N' := N) rfl ?_
        rw [yu_yu]
        rw [show (Int32.ofInt a ||| Int32.ofInt 0).toInt = a from bor_zero (by omega)]
        refine ih (by omega) (by omega) ha.1 ha.2 ?_
        rw [show nmF (M 30) (j + 1) i a = nmF (M 30) j (i + 1) a by show nmF (M 30) j (i + 1) (if 10000 ≤ M 30 i then _ else _) = _; rw [if_neg (by omega)]] at kk
        exact kk
      · refine r_run 4 (pc' := 52) (ls' := [some (yr 29), some (yi 0), some (yi i)]) (st' := [yi i, yr 30, yi 1, yi a, yr 29]) (M' := (yu M 29 3 a)) (N' := N) rfl ?_
        refine r_iald (n := 160) f_44_52 (by decide) (by decide) (by decide) (by omega) ?_
        refine r_run 8 (pc' := 21) (ls' := [some (yr 29), some (yi 0), some (yi (i + 1))]) (st' := []) (M' := (yu (yu M 29 3 a) 29 3 ((Int32.ofInt a ||| Int32.ofInt ((Int32.ofInt 1 <<< (Int32.ofInt ((M 30 i) - 10000) &&& 31)).toInt)).toInt))) (N' := N) rfl ?_
        rw [yu_yu]
        refine ih (by omega) (by omega) (nm_at ha (by omega)).1 (nm_at ha (by omega)).2.1 ?_
        rw [show nmF (M 30) (j + 1) i a = nmF (M 30) j (i + 1) (bor a (bsh (M 30 i - 10000))) by show nmF (M 30) j (i + 1) (if 10000 ≤ M 30 i then _ else _) = _; rw [if_pos (by omega)]] at kk
        exact kk
theorem c_ep0 {S : XS} {M N : YM} {c : List Int} (hd : drf M c) (hv : ∀ x ∈ c, tVal x) (hl : c.length ≤ 160) : rm S 0 44 [yr 29, yi 0] M N (fun r M' N' => none = r ∧ (M' 31 0 = c.length ∧ (∀ k, k ≠ 0 → M' 31 k = M 31 k) ∧ (∀ c, c ≠ 29 → c ≠ 31 → M' c = M c) ∧ M' 29 1 = M 29 1 ∧ nmP M' c) ∧ N = N') := by
  refine ⟨xe_44, m_44, Nat.le_of_ble_eq_true rfl, ?_⟩
  refine r_run 5 (pc' := 9) (ls' := [some (yr 29), some (yi 0), none]) (st' := [yi (M 29 1), yi 0, yr 31]) (M' := M) (N' := N) rfl ?_
  refine r_iast (n := 3) f_44_9 (by decide) (by decide) (by decide) (by omega) ?_
  refine r_run 1 (pc' := 11) (ls' := [some (yr 29), some (yi 0), none]) (st' := [yi 0]) (M' := (yu M 31 0 (M 29 1))) (N' := N) rfl ?_
  refine r_if_ne (pc := 11) f_44_11 (by omega) (fun h11 => ?_) (fun h11 => ?_)
  · exact absurd h11 (by decide)
  · refine r_run 5 (pc' := 21) (ls' := [some (yr 29), some (yi 0), some (yi 0)]) (st' := []) (M' := (yu (yu M 31 0 (M 29 1)) 29 3 0)) (N' := N) rfl ?_
    have hd1 := hd.1
    have hA : ∀ k, 0 ≤ k → k < (c.length : Int) → -9 ≤ M 30 k ∧ M 30 k ≤ 10005 := fun k k0 k1 => by
      have m := crep_get hd.2 k k0 (by rw [List.length_map]; exact k1)
      rw [Int.zero_add] at m
      obtain ⟨x, hx, e⟩ := List.mem_map.mp m
      have := tEnc_big (hv x hx)
      omega
    have hn := @nmF_in (M 30) c.length 0 0 (by decide) (fun k k0 k1 => (hA k k0 (by omega)).2)
    refine c_ep_l (M := yu M 31 0 (M 29 1)) (z := (c.length : Int)) (j := c.length) (by rw [yu_ne (Or.inl (by decide)), hd1]) (by omega) (by rw [yu_rn (by decide)]; exact hA) (Int.le_refl 0) (by omega) (by decide) (by decide) ?_
    rw [yu_rn (show (30 : Int) ≠ 31 by decide)]
    refine r_vret m_44 rfl f_44_72 ?_
    exact ⟨rfl, ⟨by rw [yu_rn (by decide), yu_at, hd1], fun k hk => by rw [yu_rn (by decide), yu_ne (Or.inr hk)], fun c h1 h2 => by rw [yu_rn h1, yu_rn h2], by rw [yu_ne (Or.inr (by decide)), yu_ne (Or.inl (by decide))], ⟨by rw [yu_at]; exact hn.1, fun k k0 k1 hk => by rw [yu_rn (show (30 : Int) ≠ 29 by decide), yu_rn (show (30 : Int) ≠ 31 by decide)] at hk ⊢; rw [yu_at]; exact hn.2.2 k k0 (by omega) hk⟩⟩, rfl⟩
theorem c_ep1 {S : XS} {M N : YM} {x : Int} (hx : 1 ≤ x ∧ x ≤ 2) : rm S 0 44 [yr 29, yi x] M N (fun r M' N' => none = r ∧ (yu M 31 x (M 29 1)) = M' ∧ N = N') := by
  refine ⟨xe_44, m_44, Nat.le_of_ble_eq_true rfl, ?_⟩
  refine r_run 5 (pc' := 9) (ls' := [some (yr 29), some (yi x), none]) (st' := [yi (M 29 1), yi x, yr 31]) (M' := M) (N' := N) rfl ?_
  refine r_iast (n := 3) f_44_9 (by decide) (by decide) (by decide) (by omega) ?_
  refine r_run 1 (pc' := 11) (ls' := [some (yr 29), some (yi x), none]) (st' := [yi x]) (M' := (yu M 31 x (M 29 1))) (N' := N) rfl ?_
  refine r_if_ne (pc := 11) f_44_11 (by omega) (fun h11 => ?_) (fun h11 => ?_)
  · refine r_vret m_44 rfl f_44_72 ?_
    exact ⟨rfl, rfl, rfl⟩
  · exfalso; omega
def pPt (K V : Nat → Int) (p : Int) : pF := fun i c => if K i = 7 + p then (if (pE K V (i + 1) c).1 = true then (true, (pE K V (i + 1) c).2.1 + 1, (pE K V (i + 1) c).2.2) else pE K V (i + 1) c) else (false, i, c)
theorem pE_ext {K V : Nat → Int} (hk : tkOk K V) {i : Nat} {c : List Int} {i' : Nat} {c' : List Int} (h : pE K V i c = (true, i', c')) : i < i' ∧ i' < 160 ∧ K i' = 59 ∧ ext i c i' c' 1 := by
  unfold pE at h
  split at h
  · rename_i g
    split at h
    · rename_i g2
      have a := (mk_gd hk 5).2.2.2.2.2 _ _ _ _ (pR_mk g)
      have e := pR_eta h
      have e1 : (gE K V i c).2.1 = i' := e.2.1
      have e2 : (gE K V i c).2.2 = c' := e.2.2
      rw [e1] at g2
      rw [e1, e2] at a
      exact ⟨a.1, hk.1 i' (by omega), g2, a.2.2⟩
    · exact absurd (show false = true from (pR_eta h).1) (by decide)
  · rename_i g
    rw [h] at g
    exact absurd rfl g
def frP (p : Int) (M M' : YM) : Prop := (∀ c, c ≠ 27 → c ≠ 29 → c ≠ 30 → c ≠ 31 → M' c = M c) ∧ (∀ k, k ≠ p → M' 31 k = M 31 k) ∧ (p ≠ 0 → M' 29 3 = M 29 3)
theorem fr3.p {p : Int} {M M' : YM} (h : fr3 M M') : frP p M M' := ⟨fun c h1 h2 h3 _ => h.1 c h1 h2 h3, fun k _ => by rw [h.1 31 (by decide) (by decide) (by decide)], fun _ => h.2⟩
theorem frP.trans {p : Int} {A B C : YM} (h : frP p A B) (g : frP p B C) : frP p A C := ⟨fun c h1 h2 h3 h4 => (g.1 c h1 h2 h3 h4).trans (h.1 c h1 h2 h3 h4), fun k hk => (g.2.1 k hk).trans (h.2.1 k hk), fun hp => (g.2.2 hp).trans (h.2.2 hp)⟩
def ptP (T : Int → Int) (n : Int) (p : Int) (q : pR) (v : Int) (M' : YM) : Prop := (v = 1 ∧ ∃ i' c', q = (true, i', c') ∧ cSt T n M' i' ∧ drf M' c' ∧ M' 27 7 = 0 ∧ M' 31 p = c'.length ∧ (p = 0 → nmP M' c')) ∨ (v = 0 ∧ ∃ i' c', q = (false, i', c') ∧ cSt T n M' i')
theorem c_part0 {S : XS} {T : Int → Int} {n : Int} {M N : YM} {i : Nat} {c : List Int} (ht : tpOk T n) (hs : cSt T n M i) (hdr : drf M c) (ho : M 27 7 = 0) (hc : c.length ≤ i) (hv : ∀ y ∈ c, tVal y) : rm S 44 7 [yr 27, yi 0] M N (fun r M' N' => ∃ v : Int, some (yi v) = r ∧ ptP T n 0 (pPt (tkK T n) (tkV T n) 0 i c) v M' ∧ frP 0 M M' ∧ N = N') := by
  have t0 := hs.2.2.2.2.1
  have ki := tkK_in ht i
  refine ⟨xe_7, m_7, Nat.le_of_ble_eq_true rfl, ?_⟩
  refine r_run 5 (pc' := 8) (ls' := [some (yr 27), some (yi 0)]) (st' := [yi (7 + 0), yi (M 27 5)]) (M' := M) (N' := N) rfl ?_
  refine r_icmp_eq (pc := 8) f_7_8 (by omega) (by omega) (fun h8 => ?_) (fun h8 => ?_)
  · refine r_run 1 (pc' := 14) (ls' := [some (yr 27), some (yi 0)]) (st' := [yr 27]) (M' := M) (N' := N) rfl ?_
    refine r_virtual (mj := 15) (b := 27) (as := []) (rest := []) f_7_14 (by decide) rfl m_15 (by decide) (by decide) (by decide) rfl rfl (Nat.le_of_ble_eq_true rfl) (by omega) (c_stepX ht hs.1 hs.2.1 hs.2.2.2.1) ?_
    rintro _ M2 _ ⟨rfl, ⟨s2, f2, u2⟩, rfl⟩
    refine r_run 1 (pc' := 18) (ls' := [some (yr 27), some (yi 0)]) (st' := [yr 27]) (M' := M2) (N' := N) rfl ?_
    refine r_virtual (mj := 8) (b := 27) (as := []) (rest := []) f_7_18 (by decide) rfl m_8 (by decide) (by decide) (by decide) rfl rfl (Nat.le_of_ble_eq_true rfl) (by omega) (c_gE ht M2 N (i + 1) c s2 (hdr.st f2) (u2.trans ho) (by omega)) ?_
    rintro _ M3 _ ⟨v3, rfl, hv3, rfl⟩
    have w3 := cx_v hv3
    refine r_if_eq (pc := 21) f_7_21 (by omega) (fun h21 => ?_) (fun h21 => ?_)
    · refine r_run 1 (pc' := 34) (ls' := [some (yr 27), some (yi 0)]) (st' := [yi 0]) (M' := M3) (N' := N) rfl ?_
      refine r_zret m_7 rfl f_7_34 (by omega) ?_
      obtain ⟨i3, c3, q3, s3⟩ := cx_n hv3 (by omega)
      have hE : pE (tkK T n) (tkV T n) (i + 1) c = (false, i3, c3) := (if_neg (by rw [q3]; exact nf)).trans q3
      exact ⟨0, rfl, Or.inr ⟨rfl, i3, c3, (if_pos (show tkK T n i = 7 + 0 by omega)).trans ((if_neg (by rw [hE]; exact nf)).trans hE), s3⟩, ((fr3.st f2).trans hv3.2).p, rfl⟩
    · obtain ⟨i3, c3, q3, s3, d3, o3⟩ := cx_y hv3 (by omega)
      have t3 := s3.2.2.2.2.1
      have ki3 := tkK_in ht i3
      refine r_run 3 (pc' := 30) (ls' := [some (yr 27), some (yi 0)]) (st' := [yi 59, yi (M3 27 5)]) (M' := M3) (N' := N) rfl ?_
      refine r_icmp_eq (pc := 30) f_7_30 (by omega) (by omega) (fun h30 => ?_) (fun h30 => ?_)
      · refine r_run 1 (pc' := 36) (ls' := [some (yr 27), some (yi 0)]) (st' := [yr 27]) (M' := M3) (N' := N) rfl ?_
        refine r_virtual (mj := 15) (b := 27) (as := []) (rest := []) f_7_36 (by decide) rfl m_15 (by decide) (by decide) (by decide) rfl rfl (Nat.le_of_ble_eq_true rfl) (by omega) (c_stepX ht s3.1 s3.2.1 s3.2.2.2.1) ?_
        rintro _ M4 _ ⟨rfl, ⟨s4, f4, u4⟩, rfl⟩
        have hE : pE (tkK T n) (tkV T n) (i + 1) c = (true, i3, c3) := (if_pos (by rw [q3])).trans ((if_pos (by rw [q3]; show tkK T n i3 = 59; omega)).trans (by rw [q3]))
        have eE := pE_ext (tk_ok ht) hE
        have d4 : drf M4 c3 := d3.st f4
        have l3 := eE.2.2.2.len1 hc
        refine r_run 3 (pc' := 44) (ls' := [some (yr 27), some (yi 0)]) (st' := [yi 0, yr 29]) (M' := M4) (N' := N) rfl ?_
        have hv5 : ∀ y ∈ c3, tVal y := by
          obtain ⟨e, rfl, -, h, -⟩ := eE.2.2.2
          intro y hy
          rcases List.mem_append.mp hy with hy | hy
          · exact h y hy
          · exact hv y hy
        refine r_virtual (mj := 44) (b := 29) (as := [yi 0]) (rest := []) f_7_44 (by decide) rfl m_44 (by decide) (by decide) (by decide) rfl rfl (Nat.le_of_ble_eq_true rfl) (by omega) (c_ep0 d4 hv5 (by omega)) ?_
        rintro _ M5 _ ⟨rfl, ⟨e1, e2, e3, e4, e5⟩, rfl⟩
        refine r_run 1 (pc' := 48) (ls' := [some (yr 27), some (yi 0)]) (st' := [yi 1]) (M' := M5) (N' := N) rfl ?_
        refine r_zret m_7 rfl f_7_48 (by omega) ?_
        exact ⟨1, rfl, Or.inl ⟨rfl, i3 + 1, c3, (if_pos (show tkK T n i = 7 + 0 by omega)).trans ((if_pos (by rw [hE])).trans (by rw [hE])), s4.fr (e3 28 (by decide) (by decide)) (fun k _ => by rw [e3 27 (by decide) (by decide)]), d4.fr e4 (e3 30 (by decide) (by decide)), by rw [e3 27 (by decide) (by decide), u4]; exact o3, e1, fun _ => e5⟩, (((fr3.st f2).trans hv3.2).trans (fr3.st f4)).p.trans ⟨fun c h1 h2 h3 h4 => e3 c h2 h4, e2, fun h => absurd rfl h⟩, rfl⟩
      · refine r_run 1 (pc' := 34) (ls' := [some (yr 27), some (yi 0)]) (st' := [yi 0]) (M' := M3) (N' := N) rfl ?_
        refine r_zret m_7 rfl f_7_34 (by omega) ?_
        have hE : pE (tkK T n) (tkV T n) (i + 1) c = (false, i3, c3) := (if_pos (by rw [q3])).trans ((if_neg (by rw [q3]; show ¬ tkK T n i3 = 59; omega)).trans (by rw [q3]))
        exact ⟨0, rfl, Or.inr ⟨rfl, i3, c3, (if_pos (show tkK T n i = 7 + 0 by omega)).trans ((if_neg (by rw [hE]; exact nf)).trans hE), s3⟩, ((fr3.st f2).trans hv3.2).p, rfl⟩
  · refine r_run 1 (pc' := 12) (ls' := [some (yr 27), some (yi 0)]) (st' := [yi 0]) (M' := M) (N' := N) rfl ?_
    refine r_zret m_7 rfl f_7_12 (by omega) ?_
    exact ⟨0, rfl, Or.inr ⟨rfl, i, c, if_neg (by omega), hs⟩, fr3.refl.p, rfl⟩
theorem c_part1 {S : XS} {T : Int → Int} {n : Int} {M N : YM} {i : Nat} {c : List Int} {x : Int} (ht : tpOk T n) (hs : cSt T n M i) (hdr : drf M c) (ho : M 27 7 = 0) (hc : c.length ≤ i) (hx : 1 ≤ x ∧ x ≤ 2) : rm S 44 7 [yr 27, yi x] M N (fun r M' N' => ∃ v : Int, some (yi v) = r ∧ ptP T n x (pPt (tkK T n) (tkV T n) x i c) v M' ∧ frP x M M' ∧ N = N') := by
  have t0 := hs.2.2.2.2.1
  have ki := tkK_in ht i
  refine ⟨xe_7, m_7, Nat.le_of_ble_eq_true rfl, ?_⟩
  refine r_run 5 (pc' := 8) (ls' := [some (yr 27), some (yi x)]) (st' := [yi (7 + x), yi (M 27 5)]) (M' := M) (N' := N) rfl ?_
  refine r_icmp_eq (pc := 8) f_7_8 (by omega) (by omega) (fun h8 => ?_) (fun h8 => ?_)
  · refine r_run 1 (pc' := 14) (ls' := [some (yr 27), some (yi x)]) (st' := [yr 27]) (M' := M) (N' := N) rfl ?_
    refine r_virtual (mj := 15) (b := 27) (as := []) (rest := []) f_7_14 (by decide) rfl m_15 (by decide) (by decide) (by decide) rfl rfl (Nat.le_of_ble_eq_true rfl) (by omega) (c_stepX ht hs.1 hs.2.1 hs.2.2.2.1) ?_
    rintro _ M2 _ ⟨rfl, ⟨s2, f2, u2⟩, rfl⟩
    refine r_run 1 (pc' := 18) (ls' := [some (yr 27), some (yi x)]) (st' := [yr 27]) (M' := M2) (N' := N) rfl ?_
    refine r_virtual (mj := 8) (b := 27) (as := []) (rest := []) f_7_18 (by decide) rfl m_8 (by decide) (by decide) (by decide) rfl rfl (Nat.le_of_ble_eq_true rfl) (by omega) (c_gE ht M2 N (i + 1) c s2 (hdr.st f2) (u2.trans ho) (by omega)) ?_
    rintro _ M3 _ ⟨v3, rfl, hv3, rfl⟩
    have w3 := cx_v hv3
    refine r_if_eq (pc := 21) f_7_21 (by omega) (fun h21 => ?_) (fun h21 => ?_)
    · refine r_run 1 (pc' := 34) (ls' := [some (yr 27), some (yi x)]) (st' := [yi 0]) (M' := M3) (N' := N) rfl ?_
      refine r_zret m_7 rfl f_7_34 (by omega) ?_
      obtain ⟨i3, c3, q3, s3⟩ := cx_n hv3 (by omega)
      have hE : pE (tkK T n) (tkV T n) (i + 1) c = (false, i3, c3) := (if_neg (by rw [q3]; exact nf)).trans q3
      exact ⟨0, rfl, Or.inr ⟨rfl, i3, c3, (if_pos (show tkK T n i = 7 + x by omega)).trans ((if_neg (by rw [hE]; exact nf)).trans hE), s3⟩, ((fr3.st f2).trans hv3.2).p, rfl⟩
    · obtain ⟨i3, c3, q3, s3, d3, o3⟩ := cx_y hv3 (by omega)
      have t3 := s3.2.2.2.2.1
      have ki3 := tkK_in ht i3
      refine r_run 3 (pc' := 30) (ls' := [some (yr 27), some (yi x)]) (st' := [yi 59, yi (M3 27 5)]) (M' := M3) (N' := N) rfl ?_
      refine r_icmp_eq (pc := 30) f_7_30 (by omega) (by omega) (fun h30 => ?_) (fun h30 => ?_)
      · refine r_run 1 (pc' := 36) (ls' := [some (yr 27), some (yi x)]) (st' := [yr 27]) (M' := M3) (N' := N) rfl ?_
        refine r_virtual (mj := 15) (b := 27) (as := []) (rest := []) f_7_36 (by decide) rfl m_15 (by decide) (by decide) (by decide) rfl rfl (Nat.le_of_ble_eq_true rfl) (by omega) (c_stepX ht s3.1 s3.2.1 s3.2.2.2.1) ?_
        rintro _ M4 _ ⟨rfl, ⟨s4, f4, u4⟩, rfl⟩
        have hE : pE (tkK T n) (tkV T n) (i + 1) c = (true, i3, c3) := (if_pos (by rw [q3])).trans ((if_pos (by rw [q3]; show tkK T n i3 = 59; omega)).trans (by rw [q3]))
        have eE := pE_ext (tk_ok ht) hE
        have d4 : drf M4 c3 := d3.st f4
        have l3 := eE.2.2.2.len1 hc
        refine r_run 3 (pc' := 44) (ls' := [some (yr 27), some (yi x)]) (st' := [yi x, yr 29]) (M' := M4) (N' := N) rfl ?_
        have hx3 := hx
        refine r_virtual (mj := 44) (b := 29) (as := [yi x]) (rest := []) f_7_44 (by decide) rfl m_44 (by decide) (by decide) (by decide) rfl rfl (Nat.le_of_ble_eq_true rfl) (by omega) (c_ep1 hx) ?_
        rintro _ M5 _ ⟨rfl, hM5, rfl⟩
        refine r_run 1 (pc' := 48) (ls' := [some (yr 27), some (yi x)]) (st' := [yi 1]) (M' := M5) (N' := N) rfl ?_
        refine r_zret m_7 rfl f_7_48 (by omega) ?_
        exact ⟨1, rfl, Or.inl ⟨rfl, i3 + 1, c3, (if_pos (show tkK T n i = 7 + x by omega)).trans ((if_pos (by rw [hE])).trans (by rw [hE])), s4.fr (by rw [← hM5, yu_rn (by decide)]) (fun k _ => by rw [← hM5, yu_rn (by decide)]), d4.fr (by rw [← hM5, yu_rn (by decide)]) (by rw [← hM5, yu_rn (by decide)]), by rw [← hM5, yu_rn (by decide), u4]; exact o3, by rw [← hM5, yu_at]; exact d4.1, fun h => by omega⟩, (((fr3.st f2).trans hv3.2).trans (fr3.st f4)).p.trans ⟨fun c h1 h2 h3 h4 => by rw [← hM5, yu_rn h4], fun k hk => by rw [← hM5, yu_ne (Or.inr hk)], fun h => by rw [← hM5, yu_rn (by decide)]⟩, rfl⟩
      · refine r_run 1 (pc' := 34) (ls' := [some (yr 27), some (yi x)]) (st' := [yi 0]) (M' := M3) (N' := N) rfl ?_
        refine r_zret m_7 rfl f_7_34 (by omega) ?_
        have hE : pE (tkK T n) (tkV T n) (i + 1) c = (false, i3, c3) := (if_pos (by rw [q3])).trans ((if_neg (by rw [q3]; show ¬ tkK T n i3 = 59; omega)).trans (by rw [q3]))
        exact ⟨0, rfl, Or.inr ⟨rfl, i3, c3, (if_pos (show tkK T n i = 7 + x by omega)).trans ((if_neg (by rw [hE]; exact nf)).trans hE), s3⟩, ((fr3.st f2).trans hv3.2).p, rfl⟩
  · refine r_run 1 (pc' := 12) (ls' := [some (yr 27), some (yi x)]) (st' := [yi 0]) (M' := M) (N' := N) rfl ?_
    refine r_zret m_7 rfl f_7_12 (by omega) ?_
    exact ⟨0, rfl, Or.inr ⟨rfl, i, c, if_neg (by omega), hs⟩, fr3.refl.p, rfl⟩
