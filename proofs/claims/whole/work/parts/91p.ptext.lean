/-! text(): both sides -/
theorem tRel.fr {nm nm' : Int} {a a' e e' C C' st st' : Int → Int} (h : tRel nm a e C st) (h1 : nm' = nm) (h2 : a' = a) (h3 : e' = e) (hC : ∀ k, 0 ≤ k → k < 160 → C' k = C k) (hs : ∀ p, 0 ≤ p → p ≤ 3 → st' p = st p) : tRel nm' a' e' C' st' := by
  obtain ⟨q0, q, g, n, m⟩ := h
  subst h1 h2 h3
  have q1 := q 0 (by omega) (by omega)
  have q2 := q 1 (by omega) (by omega)
  have q3 := q 2 (by omega) (by omega)
  rw [show (0 : Int) + 1 = 1 from rfl] at q1
  rw [show (1 : Int) + 1 = 2 from rfl] at q2
  rw [show (2 : Int) + 1 = 3 from rfl] at q3
  have z : ∀ p, 0 ≤ p → p < 3 → 0 ≤ st p := fun p p0 p1 => by
    rcases (show p = 0 ∨ p = 1 ∨ p = 2 by omega) with rfl | rfl | rfl <;> omega
  have s3 := hs 3 (by omega) (by omega)
  have s1 := hs 1 (by omega) (by omega)
  refine ⟨by rw [hs 0 (by omega) (by omega)]; exact q0, fun p p0 p1 => ?_, fun k k0 k1 => ?_, n, fun k k0 k1 k2 => ?_⟩
  · rw [hs (p + 1) (by omega) (by omega), hs p p0 (by omega)]
    obtain ⟨a1, a2, a3, a4⟩ := q p p0 p1
    have zp := z p p0 p1
    exact ⟨a1, a2, a3, tDp_congr (fun i i0 i1 => hC i (by omega) (by omega)) a4⟩
  · rw [hC k k0 (by omega)]; exact g k k0 (by omega)
  · rw [hC k k0 (by omega)] at k2 ⊢; exact m k k0 (by omega) k2
theorem tRel_new {K V : Nat → Int} (hk : tkOk K V) (hok : txOk K V) {nm : Int} {a e C st : Int → Int} (hn : nmL nm (tx1 K V).2.2) (ha : crep a 0 ((tx3 K V).2.2.map tEnc)) (hC : crep C 0 (tx3 K V).2.2)
    (s0 : st 0 = 0) (s1 : st 1 = (tx1 K V).2.2.length) (s2 : st 2 = (tx2 K V).2.2.length) (s3 : st 3 = (tx3 K V).2.2.length) (e0 : e 0 = (tx1 K V).2.2.length) (e1 : e 1 = (tx2 K V).2.2.length) (e2 : e 2 = (tx3 K V).2.2.length) : tRel nm a e C st := by
  have tl := tx3_len hk hok
  obtain ⟨k1, k2, k3, -⟩ := hok
  obtain ⟨-, -, x1, c1, -, v1, d1⟩ := pPt_ext hk (pR_mk k1)
  obtain ⟨-, -, x2, c2, -, v2, d2⟩ := pPt_ext hk (pR_mk k2)
  obtain ⟨-, -, x3, c3, -, v3, d3⟩ := pPt_ext hk (pR_mk k3)
  have c1 : (tx1 K V).2.2 = x1 ++ [] := c1
  have c2 : (tx2 K V).2.2 = x2 ++ (tx1 K V).2.2 := c2
  have c3 : (tx3 K V).2.2 = x3 ++ (tx2 K V).2.2 := c3
  generalize (tx1 K V).2.2 = l1 at *
  generalize (tx2 K V).2.2 = l2 at *
  generalize (tx3 K V).2.2 = l3 at *
  have n1 : l1.length = x1.length := by rw [c1, List.append_nil]
  have n2 : l2.length = x2.length + l1.length := by rw [c2, List.length_append]
  have n3 : l3.length = x3.length + l2.length := by rw [c3, List.length_append]
  have r3 : crep C 0 (x3 ++ l2) := by rw [← c3]; exact hC
  have r2 : crep C 0 (x2 ++ l1) := by rw [← c2]; exact crep_app r3
  have r1 : crep C 0 (x1 ++ []) := by rw [← c1]; exact crep_app r2
  have z3 := dpt_tDp r3 (d3 0 (Int.le_refl 0))
  have z2 := dpt_tDp r2 (d2 0 (Int.le_refl 0))
  have z1 := dpt_tDp r1 (d1 0 (Int.le_refl 0))
  have tv : ∀ y ∈ l3, tVal y := fun y hy => by
    rw [c3, c2, c1] at hy
    rcases List.mem_append.mp hy with hy | hy
    · exact v3 y hy
    · rcases List.mem_append.mp hy with hy | hy
      · exact v2 y hy
      · rcases List.mem_append.mp hy with hy | hy
        · exact v1 y hy
        · exact absurd hy List.not_mem_nil
  refine ⟨s0, fun p p0 p1 => ?_, fun k k0 k1 => ?_, hn.1, fun k k0 k1 k2 => ?_⟩
  · rcases (show p = 0 ∨ p = 1 ∨ p = 2 by omega) with rfl | rfl | rfl
    · rw [show (0 : Int) + 1 = 1 from rfl, e0, s0, s1]
      refine ⟨rfl, by omega, by omega, ?_⟩
      rw [show ((l1.length : Int) - 0).toNat = x1.length by omega]
      exact z1
    · rw [show (1 : Int) + 1 = 2 from rfl, e1, s1, s2]
      refine ⟨rfl, by omega, by omega, ?_⟩
      rw [show ((l2.length : Int) - l1.length).toNat = x2.length by omega, show (l1.length : Int) = 0 + l1.length by omega]
      exact z2
    · rw [show (2 : Int) + 1 = 3 from rfl, e2, s2, s3]
      refine ⟨rfl, by omega, by omega, ?_⟩
      rw [show ((l3.length : Int) - l2.length).toNat = x3.length by omega, show (l2.length : Int) = 0 + l2.length by omega]
      exact z3
  · have w := crep_two ha hC k k0 (by omega)
    rw [Int.zero_add] at w
    exact ⟨w.1, tv _ w.2⟩
  · have r1' : crep C 0 l1 := by rw [c1]; exact r1
    have w := crep_get r1' k k0 (by omega)
    rw [Int.zero_add] at w
    have t1 : tVal (C k) := tv _ (by rw [c3, c2]; exact List.mem_append.mpr (Or.inr (List.mem_append.mpr (Or.inr w))))
    have e : tEnc (C k) = 10000 + C k := by
      unfold tEnc
      rw [if_neg (by omega), if_pos (by omega)]
    have h := hn.2 _ w (by omega)
    rw [e, show 10000 + C k - 10000 = C k by omega] at h
    exact h
theorem RT.ext {A B A' B' : YM} (h : RT A B) (h5 : A' 0 5 = B' 75 9) (h9 : B 75 9 ≤ B' 75 9) (h6 : B' 75 9 ≤ 6) (h4 : A' 1 4 = A 1 4) (h10 : B' 75 10 = B 75 10) (ha : ∀ c, 49 ≤ c → c < 49 + 3 * B 75 9 → A' c = A c) (hb : ∀ k, k < 200 * B 75 9 → B' 79 k = B 79 k) (hc : ∀ k, k < 4 * B 75 9 → B' 80 k = B 80 k)
    (hn : ∀ t, B 75 9 ≤ t → t < B' 75 9 → tRel (A' (49 + 3 * t) 3) (A' (50 + 3 * t)) (A' (51 + 3 * t)) (fun k => B' 79 (200 * t + k)) (fun p => B' 80 (4 * t + p))) : RT A' B' := by
  obtain ⟨r1, r2, r3, r4, r5⟩ := h
  refine ⟨h5, by omega, by rw [h4, h10]; exact r3, by rw [h10]; omega, fun t t0 t1 => ?_⟩
  by_cases g : t < B 75 9
  · exact (r5 t t0 g).fr (by rw [ha _ (by omega) (by omega)]) (ha _ (by omega) (by omega)) (ha _ (by omega) (by omega)) (fun k k0 k1 => hb _ (by omega)) (fun p p0 p1 => hc _ (by omega))
  · exact hn t (by omega) t1
theorem RI.more {A B A' B' : YM} (h : RI A B) (ha : ∀ c k : Int, (c = 0 ∧ k = 2) ∨ c = 13 ∨ (15 ≤ c ∧ c ≤ 24) → A' c k = A c k) (hb : ∀ c k : Int, c = 81 ∨ (c = 75 ∧ 11 ≤ k ∧ k ≤ 15) → B' c k = B c k) (h9 : B 75 9 ≤ B' 75 9) : RI A' B' := by
  have b0 := fun k (g : 11 ≤ k ∧ k ≤ 15) => hb 75 k (by omega)
  have b6 := fun k => hb 81 k (by omega)
  have a0 := fun k => ha 13 k (by omega)
  unfold RI
  rw [ha 0 2 (by omega), b0 11 (by omega), b0 12 (by omega), b0 13 (by omega), b0 14 (by omega), b0 15 (by omega), a0, a0, a0, a0]
  refine ⟨h.1, h.2.1, fun hi => ?_⟩
  obtain ⟨e1, e2, e3, e4, e5, e6⟩ := h.2.2 hi
  refine ⟨e1, e2, e3, e4, by omega, fun s h0 h1 => ?_⟩
  have hs := fun k => ha (15 + s) k (by omega)
  rw [hs, hs, hs, hs, hs, b6, b6, b6, b6, b6]
  exact e6 s h0 h1
theorem crep_sh {R : Int → Int} {b : Int} {c : List Int} : crep R b c → crep (fun k => R (b + k)) 0 c := by
  induction c with
  | nil => intro _; exact True.intro
  | cons x c ih => intro h; exact ⟨by dsimp only; rw [Int.zero_add]; exact h.1, ih h.2⟩
theorem p_text {S : XS} {M N : YM} (R : Rel M) : rm S 60 55 [yr 0] M N (fun r M1 N1 => ∃ v : Int, some (yi v) = r ∧ rm S 60 132 [yr 75] M1 N1 (fun r2 M2 _ => some (yi v) = r2 ∧ Rel M2)) := by
  obtain ⟨r1, r2, r3⟩ := R.r
  have t5 := R.t.1
  have t9 := R.t.2.1
  have l4 := R.t.2.2.1
  have eT : ∀ x, 0 ≤ x → x < M 75 6 → M 28 x = M 78 x := fun x x0 x1 => (r3 x x0 x1).1
  have tp : tpOk (M 78) (M 75 6) := ⟨r2, fun k k0 k1 => (r3 k k0 k1).2⟩
  have tp1 : tpOk (M 28) (M 75 6) := ⟨r2, fun k k0 k1 => by rw [eT k k0 k1]; exact (r3 k k0 k1).2⟩
  obtain ⟨lt, lk, lv⟩ := lex_congr r2.1 eT
  refine rm_post (rm_deep (by decide) (c_text (T := M 28) (n := M 75 6) tp1 rfl r1 (by omega))) ?_
  rintro _ M1 _ ⟨v, rfl, hc, rfl⟩
  have hm : ∀ c, 75 ≤ c → M1 c = M c := fun c hc0 => by
    rcases hc with ⟨-, -, h⟩ | ⟨-, -, -, -, h⟩ | ⟨h0, -, -, -, -, -, -, -, -, -, -, h⟩
    · rw [h]
    · exact h c (by omega) (by omega) (by omega) (by omega)
    · exact h c (by omega) (by omega) (by omega) (by omega) (by omega) (by omega) (by omega) (by omega)
  have m75 : ∀ k, M1 75 k = M 75 k := fun k => by rw [hm 75 (by decide)]
  refine ⟨v, rfl, rm_post (rm_deep (by decide) (m_text (T := M 78) (n := M 75 6) tp (hm 78 (by decide)) (m75 6) (fun k hk => by rw [hm 86 (by decide)]; exact R.w k hk) (by rw [m75]; omega))) ?_⟩
  rintro _ M2 _ ⟨v2, rfl, hx, rfl⟩
  unfold ctP at hc
  rw [lk, lv] at hc
  unfold mtxP at hx
  rw [m75 9] at hx
  rcases hc with ⟨g1, g2, g3⟩ | ⟨g1, g2, g3, g4, g5⟩ | ⟨g1, g2, g3, g4, g5, g6, g7, g8, g9, ga, gb, gc⟩
  · rcases hx with ⟨-, h2, h3⟩ | ⟨h1, -⟩ | ⟨h1, -⟩
    · rw [h3, g3]
      exact ⟨by rw [g2, h2], R⟩
    · exfalso; omega
    · exfalso; omega
  · rcases hx with ⟨h1, -⟩ | ⟨-, -, h3, A, h4, h5⟩ | ⟨-, h2, -⟩
    · exfalso; omega
    · refine ⟨by rw [g3, h3, lt], ?_⟩
      have fc : ∀ c k, c < 75 → c ≠ 27 → c ≠ 29 → c ≠ 30 → c ≠ 31 → M2 c k = M c k := fun c k c0 c1 c2 c3 c4 => by
        rw [h4, yu_ne (Or.inl (by omega)), h5.1 c (by omega) (by omega) (by omega) (by omega), g5 c c1 c2 c3 c4]
      have f75 : ∀ k, k < 21 → k ≠ 6 → M2 75 k = M 75 k := fun k k0 k1 => by rw [h4, yu_ne (Or.inr k1), h5.2.1 k k0, m75]
      have fm : ∀ c k, 75 < c → c ≠ 79 → c ≠ 80 → c ≠ 87 → M2 c k = M c k := fun c k c0 c1 c2 c3 => by
        rw [h4, yu_ne (Or.inl (by omega)), h5.1 c (by omega) c1 c2 c3, hm c (by omega)]
      have z1 : M2 27 1 = 0 := by rw [h4, yu_ne (Or.inl (by decide)), h5.1 27 (by decide) (by decide) (by decide) (by decide), g4]
      have z2 : M2 75 6 = 0 := by rw [h4, yu_at]
      have q9 : M2 75 9 = M 75 9 := f75 9 (by decide) (by decide)
      refine ⟨R.s.fr (fun c k h => fc c k (by omega) (by omega) (by omega) (by omega) (by omega)) (fun c k h => ?_), R.l.fr (fun c k h => fc c k (by omega) (by omega) (by omega) (by omega) (by omega)) (fun c k h => ?_), R.h.fr (fun c k h => fc c k (by omega) (by omega) (by omega) (by omega) (by omega)) (fun c k h => fm c k (by omega) (by omega) (by omega) (by omega)), R.i.more (fun c k h => fc c k (by omega) (by omega) (by omega) (by omega) (by omega)) (fun c k h => ?_) (by omega), ?_, ⟨by rw [z1, z2], by rw [z2]; decide, fun k k0 k1 => by rw [z2] at k1; omega⟩, fun k hk => (fm 86 k (by decide) (by decide) (by decide) (by decide)).trans (R.w k hk)⟩
      · rcases h with rfl | ⟨rfl, h⟩
        · exact fm 76 k (by decide) (by decide) (by decide) (by decide)
        · exact f75 k (by omega) (by omega)
      · rcases h with rfl | ⟨rfl, h⟩
        · exact fm 77 k (by decide) (by decide) (by decide) (by decide)
        · exact f75 k (by omega) (by omega)
      · rcases h with rfl | ⟨rfl, h⟩
        · exact fm 81 k (by decide) (by decide) (by decide) (by decide)
        · exact f75 k (by omega) (by omega)
      · refine R.t.ext (by rw [q9, fc 0 5 (by decide) (by decide) (by decide) (by decide) (by decide)]; exact t5) (by omega) (by omega) (fc 1 4 (by decide) (by decide) (by decide) (by decide) (by decide)) (f75 10 (by decide) (by decide)) (fun c c0 c1 => funext fun k => fc c k (by omega) (by omega) (by omega) (by omega) (by omega)) (fun k k0 => ?_) (fun k k0 => ?_) (fun t t0 t1 => by omega)
        · rw [h4, yu_ne (Or.inl (by decide)), h5.2.2.1 k k0, hm 79 (by decide)]
        · rw [h4, yu_ne (Or.inl (by decide)), h5.2.2.2 k k0, hm 80 (by decide)]
    · exact absurd h2 g2
  · rcases hx with ⟨h1, -⟩ | ⟨-, h2, -⟩ | ⟨h1, -, h3, A, h4, h5, h6, h7, h8, h9, ha⟩
    · exfalso; omega
    · exact absurd g2 h2
    · refine ⟨by rw [g3, h3, t5], ?_⟩
      rw [t5] at g5 g7 g8 g9 ga gb gc
      have fc : ∀ c k, 0 < c → c < 49 + 3 * M 75 9 → c ≠ 27 → c ≠ 29 → c ≠ 30 → c ≠ 31 → M2 c k = M c k := fun c k c5 c0 c1 c2 c3 c4 => by
        rw [h4, yu_ne (Or.inl (by omega)), yu_ne (Or.inl (by omega)), h5.1 c (by omega) (by omega) (by omega) (by omega), gc c (by omega) c1 c2 c3 c4 (by omega) (by omega) (by omega)]
      have fc2 : ∀ c k, 51 + 3 * M 75 9 < c → c < 75 → M2 c k = M c k := fun c k c5 c0 => by
        rw [h4, yu_ne (Or.inl (by omega)), yu_ne (Or.inl (by omega)), h5.1 c (by omega) (by omega) (by omega) (by omega), gc c (by omega) (by omega) (by omega) (by omega) (by omega) (by omega) (by omega) (by omega)]
      have f0 : ∀ k, k ≠ 5 → M2 0 k = M 0 k := fun k k0 => by
        rw [h4, yu_ne (Or.inl (by decide)), yu_ne (Or.inl (by decide)), h5.1 0 (by decide) (by decide) (by decide) (by decide), g6 k k0]
      have f1 : ∀ c, c < 75 → M2 c = M1 c := fun c c0 => funext fun k => by
        rw [h4, yu_ne (Or.inl (by omega)), yu_ne (Or.inl (by omega)), h5.1 c (by omega) (by omega) (by omega) (by omega)]
      have f75 : ∀ k, k < 21 → k ≠ 6 → k ≠ 9 → M2 75 k = M 75 k := fun k k0 k1 k2 => by rw [h4, yu_ne (Or.inr k2), yu_ne (Or.inr k1), h5.2.1 k k0, m75]
      have fm : ∀ c k, 75 < c → c ≠ 79 → c ≠ 80 → c ≠ 87 → M2 c k = M c k := fun c k c0 c1 c2 c3 => by
        rw [h4, yu_ne (Or.inl (by omega)), yu_ne (Or.inl (by omega)), h5.1 c (by omega) c1 c2 c3, hm c (by omega)]
      have e79 : M2 79 = A 79 := by rw [h4, yu_rn (by decide), yu_rn (by decide)]
      have e80 : M2 80 = A 80 := by rw [h4, yu_rn (by decide), yu_rn (by decide)]
      have z1 : M2 27 1 = 0 := by rw [f1 27 (by decide)]; exact g4
      have z2 : M2 75 6 = 0 := by rw [h4, yu_ne (Or.inr (by decide)), yu_at]
      have q9 : M2 75 9 = M 75 9 + 1 := by rw [h4, yu_at]
      refine ⟨R.s.fr (fun c k h => fc c k (by omega) (by omega) (by omega) (by omega) (by omega) (by omega)) (fun c k h => ?_), R.l.fr (fun c k h => fc c k (by omega) (by omega) (by omega) (by omega) (by omega) (by omega)) (fun c k h => ?_), R.h.fr (fun c k h => fc2 c k (by omega) (by omega)) (fun c k h => fm c k (by omega) (by omega) (by omega) (by omega)), R.i.more (fun c k h => ?_) (fun c k h => ?_) (by omega), ?_, ⟨by rw [z1, z2], by rw [z2]; decide, fun k k0 k1 => by rw [z2] at k1; omega⟩, fun k hk => (fm 86 k (by decide) (by decide) (by decide) (by decide)).trans (R.w k hk)⟩
      · rcases h with rfl | ⟨rfl, h⟩
        · exact fm 76 k (by decide) (by decide) (by decide) (by decide)
        · exact f75 k (by omega) (by omega) (by omega)
      · rcases h with rfl | ⟨rfl, h⟩
        · exact fm 77 k (by decide) (by decide) (by decide) (by decide)
        · exact f75 k (by omega) (by omega) (by omega)
      · rcases h with ⟨rfl, rfl⟩ | h
        · exact f0 2 (by decide)
        · exact fc c k (by omega) (by omega) (by omega) (by omega) (by omega) (by omega)
      · rcases h with rfl | ⟨rfl, h⟩
        · exact fm 81 k (by decide) (by decide) (by decide) (by decide)
        · exact f75 k (by omega) (by omega) (by omega)
      · refine R.t.ext (by rw [q9, f1 0 (by decide), g5]) (by omega) (by omega) (fc 1 4 (by decide) (by omega) (by decide) (by decide) (by decide) (by decide)) (f75 10 (by decide) (by decide) (by decide)) (fun c c0 c1 => funext fun k => fc c k (by omega) (by omega) (by omega) (by omega) (by omega) (by omega)) (fun k k0 => ?_) (fun k k0 => ?_) (fun t t0 t1 => ?_)
        · rw [e79, h5.2.2.1 k k0, hm 79 (by decide)]
        · rw [e80, h5.2.2.2 k k0, hm 80 (by decide)]
        · have et : t = M 75 9 := by omega
          subst et
          rw [f1 (49 + 3 * M 75 9) (by omega), f1 (50 + 3 * M 75 9) (by omega), f1 (51 + 3 * M 75 9) (by omega), e79, e80]
          exact tRel_new (tk_ok tp) g2 g7 g8 (crep_sh h6) h7 h8 h9 ha g9 ga gb
