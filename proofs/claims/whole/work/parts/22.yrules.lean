/-! rules: from a state, towards the end -/
theorem xme_of_xi {mi pc : Nat} {q : Instr × Nat × Nat} (h : xi mi pc = some q) : ∃ e, xme mi = some e := by
  unfold xi at h
  unfold xme
  cases hq : XT[mi]? with
  | none => rw [hq] at h; cases h
  | some p => exact ⟨p.1, rfl⟩
theorem xexec_mono (S : XS) : ∀ (n d mi pc : Nat) (ls : XL) (st : List Value) (X : XM) (q : Option Value × XM), xexec S n d mi pc ls st X = some q → ∀ k d2, d ≤ d2 → xexec S (n + k) d2 mi pc ls st X = some q := by
  intro n
  induction n with
  | zero => intro d mi pc ls st X q h; cases h
  | succ n ih =>
    intro d mi pc ls st X q h k d2 hd
    rw [show n + 1 + k = (n + k) + 1 by omega]
    unfold xexec at h ⊢
    cases hm : xme mi with
    | none => rw [hm] at h; cases h
    | some e =>
      rw [hm] at h
      cases hi : xi mi pc with
      | none => rw [hi] at h; cases h
      | some p =>
        obtain ⟨i, rs, wp⟩ := p
        rw [hi] at h
        dsimp only at h ⊢
        split at h
        · rename_i h0
          rw [if_pos h0]
          cases hq : xs1 S e.2.2.2.2.2.1 i rs wp pc ls st X with
          | none => rw [hq] at h; cases h
          | some p => rw [hq] at h; exact ih _ _ _ _ _ _ _ h k d2 hd
        · rename_i h0
          rw [if_neg h0]
          split at h
          · rename_i h1
            rw [if_pos h1]
            exact h
          · rename_i h1
            rw [if_neg h1]
            cases d with
            | zero => cases h
            | succ d' =>
              obtain ⟨d3, rfl⟩ : ∃ d3, d2 = d3 + 1 := ⟨d2 - 1, by omega⟩
              dsimp only at h ⊢
              split at h
              · rename_i h8
                rw [if_pos h8]
                split at h
                · split at h
                  · rename_i hc
                    rw [if_pos hc]
                    exact ih _ _ _ _ _ _ _ h k _ hd
                  · cases h
                · cases h
              · rename_i h8
                rw [if_neg h8]
                split at h
                · rename_i h9
                  rw [if_pos h9]
                  cases hq : xcopy st X with
                  | none => rw [hq] at h; cases h
                  | some p => rw [hq] at h; exact ih _ _ _ _ _ _ _ h k _ hd
                · rename_i h9
                  rw [if_neg h9]
                  split at h
                  · rename_i h97
                    rw [if_pos h97]
                    split at h
                    · split at h
                      · rename_i hc
                        rw [if_pos hc]
                        exact ih _ _ _ _ _ _ _ h k _ hd
                      · cases h
                    · cases h
                  · rename_i h97
                    rw [if_neg h97]
                    split at h
                    · rename_i h98
                      rw [if_pos h98]
                      split at h
                      · split at h
                        · rename_i hc
                          rw [if_pos hc]
                          exact ih _ _ _ _ _ _ _ h k _ hd
                        · cases h
                      · cases h
                    · rename_i h98
                      rw [if_neg h98]
                      cases hv : xinv i rs st X with
                      | none => rw [hv] at h; cases h
                      | some p =>
                        obtain ⟨mj, e2, as, rest⟩ := p
                        rw [hv] at h
                        dsimp only at h ⊢
                        cases hcl : xexec S n d' mj 0 (xpad e2.2.2.2.1 (xlocs as)) [] X with
                        | none => rw [hcl] at h; cases h
                        | some p =>
                          obtain ⟨r, X1⟩ := p
                          rw [hcl] at h
                          rw [ih _ _ _ _ _ _ _ hcl k d3 (by omega)]
                          dsimp only at h ⊢
                          split at h
                          · rename_i hok
                            rw [if_pos hok]
                            exact ih _ _ _ _ _ _ _ h k _ hd
                          · cases h
section YR
variable {S : XS} {d mi pc pc' rs wp : Nat} {ls ls' : YL} {st st' : List YV} {M N M' N' : YM} {Q : Option YV → YM → YM → Prop} {i : Instr}
theorem ry_step (hi : xi mi pc = some (i, rs, wp)) (hc : xcl i = 0) (hx : ∀ kd, xs1 S kd i rs wp pc (yo ls) (st.map yv) (ym M N) = some (pc', yo ls', st'.map yv, ym M' N')) (k : ry S d mi pc' ls' st' M' N' Q) : ry S d mi pc ls st M N Q := by
  obtain ⟨n, r, M2, N2, h, hq⟩ := k
  obtain ⟨e, he⟩ := xme_of_xi hi
  refine ⟨n + 1, r, M2, N2, ?_, hq⟩
  unfold xexec
  rw [he, hi]
  dsimp only
  rw [if_pos hc, hx]
  exact h
theorem r_run (k : Nat) (h : yrun mi k pc ls st M N = some (pc', ls', st', M', N')) (kk : ry S d mi pc' ls' st' M' N' Q) : ry S d mi pc ls st M N Q := by
  induction k generalizing pc ls st M N with
  | zero =>
    cases h
    exact kk
  | succ k ih =>
    unfold yrun at h
    cases hi : xi mi pc with
    | none => rw [hi] at h; cases h
    | some q =>
      obtain ⟨i, rs, wp⟩ := q
      rw [hi] at h
      dsimp only at h
      cases hs : ys i rs wp pc ls st M N with
      | none => rw [hs] at h; cases h
      | some q =>
        obtain ⟨pc1, ls1, st1, M1, N1⟩ := q
        rw [hs] at h
        obtain ⟨h0, h1⟩ := ys_sound hs
        exact ry_step hi h0 (fun kd => h1 S kd) (ih h)
theorem r_deep {d2 : Nat} (h : d ≤ d2) (k : ry S d mi pc ls st M N Q) : ry S d2 mi pc ls st M N Q := by
  obtain ⟨n, r, M2, N2, h1, hq⟩ := k
  exact ⟨n, r, M2, N2, xexec_mono S n d mi pc _ _ _ _ h1 0 d2 h, hq⟩
theorem r_post {Q2 : Option YV → YM → YM → Prop} (k : ry S d mi pc ls st M N Q) (h : ∀ r M' N', Q r M' N' → Q2 r M' N') : ry S d mi pc ls st M N Q2 := by
  obtain ⟨n, r, M2, N2, h1, hq⟩ := k
  exact ⟨n, r, M2, N2, h1, h _ _ _ hq⟩

theorem r_if_eq {a : Int} {off : Int} (hi : xi mi pc = some (.ifCond .eq off, rs, wp)) (ha : -2147483648 ≤ a ∧ a < 2147483648) (kt : a = 0 → ry S d mi (xgo pc off) ls st M N Q) (kf : a ≠ 0 → ry S d mi (pc + 3) ls st M N Q) : ry S d mi pc ls (.inl a :: st) M N Q := by
  have hA := t32 ha
  have hB : (0 : Int32).toInt = 0 := by decide
  by_cases hP : a = 0
  · have hx : xcond .eq (Int32.ofInt a) 0 = true := by
      show decide _ = true
      rw [decide_eq_true_eq, ← Int32.toInt_inj]
      omega
    exact ry_step hi rfl (fun kd => by simp only [xs1, List.map_cons, yv, hx, if_true]) (kt hP)
  · have hx : xcond .eq (Int32.ofInt a) 0 = false := by
      show decide _ = false
      rw [decide_eq_false_iff_not, ← Int32.toInt_inj]
      omega
    exact ry_step hi rfl (fun kd => by simp only [xs1, List.map_cons, yv, hx]; rfl) (kf (by omega))
theorem r_icmp_eq {a b : Int} {off : Int} (hi : xi mi pc = some (.if_icmp .eq off, rs, wp)) (ha : -2147483648 ≤ a ∧ a < 2147483648) (hb : -2147483648 ≤ b ∧ b < 2147483648) (kt : a = b → ry S d mi (xgo pc off) ls st M N Q) (kf : a ≠ b → ry S d mi (pc + 3) ls st M N Q) : ry S d mi pc ls (.inl b :: .inl a :: st) M N Q := by
  have hA := t32 ha
  have hB := t32 hb
  by_cases hP : a = b
  · have hx : xcond .eq (Int32.ofInt a) (Int32.ofInt b) = true := by
      show decide _ = true
      rw [decide_eq_true_eq, ← Int32.toInt_inj]
      omega
    exact ry_step hi rfl (fun kd => by simp only [xs1, List.map_cons, yv, hx, if_true]) (kt hP)
  · have hx : xcond .eq (Int32.ofInt a) (Int32.ofInt b) = false := by
      show decide _ = false
      rw [decide_eq_false_iff_not, ← Int32.toInt_inj]
      omega
    exact ry_step hi rfl (fun kd => by simp only [xs1, List.map_cons, yv, hx]; rfl) (kf (by omega))
theorem r_if_ne {a : Int} {off : Int} (hi : xi mi pc = some (.ifCond .ne off, rs, wp)) (ha : -2147483648 ≤ a ∧ a < 2147483648) (kt : a ≠ 0 → ry S d mi (xgo pc off) ls st M N Q) (kf : a = 0 → ry S d mi (pc + 3) ls st M N Q) : ry S d mi pc ls (.inl a :: st) M N Q := by
  have hA := t32 ha
  have hB : (0 : Int32).toInt = 0 := by decide
  by_cases hP : a ≠ 0
  · have hx : xcond .ne (Int32.ofInt a) 0 = true := by
      show decide _ = true
      rw [decide_eq_true_eq, ne_eq, ← Int32.toInt_inj]
      omega
    exact ry_step hi rfl (fun kd => by simp only [xs1, List.map_cons, yv, hx, if_true]) (kt hP)
  · have hx : xcond .ne (Int32.ofInt a) 0 = false := by
      show decide _ = false
      rw [decide_eq_false_iff_not, ne_eq, ← Int32.toInt_inj]
      omega
    exact ry_step hi rfl (fun kd => by simp only [xs1, List.map_cons, yv, hx]; rfl) (kf (by omega))
theorem r_icmp_ne {a b : Int} {off : Int} (hi : xi mi pc = some (.if_icmp .ne off, rs, wp)) (ha : -2147483648 ≤ a ∧ a < 2147483648) (hb : -2147483648 ≤ b ∧ b < 2147483648) (kt : a ≠ b → ry S d mi (xgo pc off) ls st M N Q) (kf : a = b → ry S d mi (pc + 3) ls st M N Q) : ry S d mi pc ls (.inl b :: .inl a :: st) M N Q := by
  have hA := t32 ha
  have hB := t32 hb
  by_cases hP : a ≠ b
  · have hx : xcond .ne (Int32.ofInt a) (Int32.ofInt b) = true := by
      show decide _ = true
      rw [decide_eq_true_eq, ne_eq, ← Int32.toInt_inj]
      omega
    exact ry_step hi rfl (fun kd => by simp only [xs1, List.map_cons, yv, hx, if_true]) (kt hP)
  · have hx : xcond .ne (Int32.ofInt a) (Int32.ofInt b) = false := by
      show decide _ = false
      rw [decide_eq_false_iff_not, ne_eq, ← Int32.toInt_inj]
      omega
    exact ry_step hi rfl (fun kd => by simp only [xs1, List.map_cons, yv, hx]; rfl) (kf (by omega))
theorem r_if_lt {a : Int} {off : Int} (hi : xi mi pc = some (.ifCond .lt off, rs, wp)) (ha : -2147483648 ≤ a ∧ a < 2147483648) (kt : a < 0 → ry S d mi (xgo pc off) ls st M N Q) (kf : 0 ≤ a → ry S d mi (pc + 3) ls st M N Q) : ry S d mi pc ls (.inl a :: st) M N Q := by
  have hA := t32 ha
  have hB : (0 : Int32).toInt = 0 := by decide
  by_cases hP : a < 0
  · have hx : xcond .lt (Int32.ofInt a) 0 = true := by
      show decide _ = true
      rw [decide_eq_true_eq, Int32.lt_iff_toInt_lt]
      omega
    exact ry_step hi rfl (fun kd => by simp only [xs1, List.map_cons, yv, hx, if_true]) (kt hP)
  · have hx : xcond .lt (Int32.ofInt a) 0 = false := by
      show decide _ = false
      rw [decide_eq_false_iff_not, Int32.lt_iff_toInt_lt]
      omega
    exact ry_step hi rfl (fun kd => by simp only [xs1, List.map_cons, yv, hx]; rfl) (kf (by omega))
theorem r_icmp_lt {a b : Int} {off : Int} (hi : xi mi pc = some (.if_icmp .lt off, rs, wp)) (ha : -2147483648 ≤ a ∧ a < 2147483648) (hb : -2147483648 ≤ b ∧ b < 2147483648) (kt : a < b → ry S d mi (xgo pc off) ls st M N Q) (kf : b ≤ a → ry S d mi (pc + 3) ls st M N Q) : ry S d mi pc ls (.inl b :: .inl a :: st) M N Q := by
  have hA := t32 ha
  have hB := t32 hb
  by_cases hP : a < b
  · have hx : xcond .lt (Int32.ofInt a) (Int32.ofInt b) = true := by
      show decide _ = true
      rw [decide_eq_true_eq, Int32.lt_iff_toInt_lt]
      omega
    exact ry_step hi rfl (fun kd => by simp only [xs1, List.map_cons, yv, hx, if_true]) (kt hP)
  · have hx : xcond .lt (Int32.ofInt a) (Int32.ofInt b) = false := by
      show decide _ = false
      rw [decide_eq_false_iff_not, Int32.lt_iff_toInt_lt]
      omega
    exact ry_step hi rfl (fun kd => by simp only [xs1, List.map_cons, yv, hx]; rfl) (kf (by omega))
theorem r_if_ge {a : Int} {off : Int} (hi : xi mi pc = some (.ifCond .ge off, rs, wp)) (ha : -2147483648 ≤ a ∧ a < 2147483648) (kt : 0 ≤ a → ry S d mi (xgo pc off) ls st M N Q) (kf : a < 0 → ry S d mi (pc + 3) ls st M N Q) : ry S d mi pc ls (.inl a :: st) M N Q := by
  have hA := t32 ha
  have hB : (0 : Int32).toInt = 0 := by decide
  by_cases hP : 0 ≤ a
  · have hx : xcond .ge (Int32.ofInt a) 0 = true := by
      show decide _ = true
      rw [decide_eq_true_eq, Int32.le_iff_toInt_le]
      omega
    exact ry_step hi rfl (fun kd => by simp only [xs1, List.map_cons, yv, hx, if_true]) (kt hP)
  · have hx : xcond .ge (Int32.ofInt a) 0 = false := by
      show decide _ = false
      rw [decide_eq_false_iff_not, Int32.le_iff_toInt_le]
      omega
    exact ry_step hi rfl (fun kd => by simp only [xs1, List.map_cons, yv, hx]; rfl) (kf (by omega))
theorem r_icmp_ge {a b : Int} {off : Int} (hi : xi mi pc = some (.if_icmp .ge off, rs, wp)) (ha : -2147483648 ≤ a ∧ a < 2147483648) (hb : -2147483648 ≤ b ∧ b < 2147483648) (kt : b ≤ a → ry S d mi (xgo pc off) ls st M N Q) (kf : a < b → ry S d mi (pc + 3) ls st M N Q) : ry S d mi pc ls (.inl b :: .inl a :: st) M N Q := by
  have hA := t32 ha
  have hB := t32 hb
  by_cases hP : b ≤ a
  · have hx : xcond .ge (Int32.ofInt a) (Int32.ofInt b) = true := by
      show decide _ = true
      rw [decide_eq_true_eq, Int32.le_iff_toInt_le]
      omega
    exact ry_step hi rfl (fun kd => by simp only [xs1, List.map_cons, yv, hx, if_true]) (kt hP)
  · have hx : xcond .ge (Int32.ofInt a) (Int32.ofInt b) = false := by
      show decide _ = false
      rw [decide_eq_false_iff_not, Int32.le_iff_toInt_le]
      omega
    exact ry_step hi rfl (fun kd => by simp only [xs1, List.map_cons, yv, hx]; rfl) (kf (by omega))
theorem r_if_gt {a : Int} {off : Int} (hi : xi mi pc = some (.ifCond .gt off, rs, wp)) (ha : -2147483648 ≤ a ∧ a < 2147483648) (kt : 0 < a → ry S d mi (xgo pc off) ls st M N Q) (kf : a ≤ 0 → ry S d mi (pc + 3) ls st M N Q) : ry S d mi pc ls (.inl a :: st) M N Q := by
  have hA := t32 ha
  have hB : (0 : Int32).toInt = 0 := by decide
  by_cases hP : 0 < a
  · have hx : xcond .gt (Int32.ofInt a) 0 = true := by
      show decide _ = true
      rw [decide_eq_true_eq, Int32.lt_iff_toInt_lt]
      omega
    exact ry_step hi rfl (fun kd => by simp only [xs1, List.map_cons, yv, hx, if_true]) (kt hP)
  · have hx : xcond .gt (Int32.ofInt a) 0 = false := by
      show decide _ = false
      rw [decide_eq_false_iff_not, Int32.lt_iff_toInt_lt]
      omega
    exact ry_step hi rfl (fun kd => by simp only [xs1, List.map_cons, yv, hx]; rfl) (kf (by omega))
theorem r_icmp_gt {a b : Int} {off : Int} (hi : xi mi pc = some (.if_icmp .gt off, rs, wp)) (ha : -2147483648 ≤ a ∧ a < 2147483648) (hb : -2147483648 ≤ b ∧ b < 2147483648) (kt : b < a → ry S d mi (xgo pc off) ls st M N Q) (kf : a ≤ b → ry S d mi (pc + 3) ls st M N Q) : ry S d mi pc ls (.inl b :: .inl a :: st) M N Q := by
  have hA := t32 ha
  have hB := t32 hb
  by_cases hP : b < a
  · have hx : xcond .gt (Int32.ofInt a) (Int32.ofInt b) = true := by
      show decide _ = true
      rw [decide_eq_true_eq, Int32.lt_iff_toInt_lt]
      omega
    exact ry_step hi rfl (fun kd => by simp only [xs1, List.map_cons, yv, hx, if_true]) (kt hP)
  · have hx : xcond .gt (Int32.ofInt a) (Int32.ofInt b) = false := by
      show decide _ = false
      rw [decide_eq_false_iff_not, Int32.lt_iff_toInt_lt]
      omega
    exact ry_step hi rfl (fun kd => by simp only [xs1, List.map_cons, yv, hx]; rfl) (kf (by omega))
theorem r_if_le {a : Int} {off : Int} (hi : xi mi pc = some (.ifCond .le off, rs, wp)) (ha : -2147483648 ≤ a ∧ a < 2147483648) (kt : a ≤ 0 → ry S d mi (xgo pc off) ls st M N Q) (kf : 0 < a → ry S d mi (pc + 3) ls st M N Q) : ry S d mi pc ls (.inl a :: st) M N Q := by
  have hA := t32 ha
  have hB : (0 : Int32).toInt = 0 := by decide
  by_cases hP : a ≤ 0
  · have hx : xcond .le (Int32.ofInt a) 0 = true := by
      show decide _ = true
      rw [decide_eq_true_eq, Int32.le_iff_toInt_le]
      omega
    exact ry_step hi rfl (fun kd => by simp only [xs1, List.map_cons, yv, hx, if_true]) (kt hP)
  · have hx : xcond .le (Int32.ofInt a) 0 = false := by
      show decide _ = false
      rw [decide_eq_false_iff_not, Int32.le_iff_toInt_le]
      omega
    exact ry_step hi rfl (fun kd => by simp only [xs1, List.map_cons, yv, hx]; rfl) (kf (by omega))
theorem r_icmp_le {a b : Int} {off : Int} (hi : xi mi pc = some (.if_icmp .le off, rs, wp)) (ha : -2147483648 ≤ a ∧ a < 2147483648) (hb : -2147483648 ≤ b ∧ b < 2147483648) (kt : a ≤ b → ry S d mi (xgo pc off) ls st M N Q) (kf : b < a → ry S d mi (pc + 3) ls st M N Q) : ry S d mi pc ls (.inl b :: .inl a :: st) M N Q := by
  have hA := t32 ha
  have hB := t32 hb
  by_cases hP : a ≤ b
  · have hx : xcond .le (Int32.ofInt a) (Int32.ofInt b) = true := by
      show decide _ = true
      rw [decide_eq_true_eq, Int32.le_iff_toInt_le]
      omega
    exact ry_step hi rfl (fun kd => by simp only [xs1, List.map_cons, yv, hx, if_true]) (kt hP)
  · have hx : xcond .le (Int32.ofInt a) (Int32.ofInt b) = false := by
      show decide _ = false
      rw [decide_eq_false_iff_not, Int32.le_iff_toInt_le]
      omega
    exact ry_step hi rfl (fun kd => by simp only [xs1, List.map_cons, yv, hx]; rfl) (kf (by omega))
theorem r_sw_out {a dflt lo up : Int} {offs : Array Int} (hi : xi mi pc = some (.tableswitch dflt lo up offs, rs, wp)) (ha : -2147483648 ≤ a ∧ a < 2147483648) (h : a < lo ∨ up < a) (k : ry S d mi (xgo pc dflt) ls st M N Q) : ry S d mi pc ls (.inl a :: st) M N Q := by
  have hA := t32 ha
  exact ry_step hi rfl (fun kd => by simp only [xs1, List.map_cons, yv, hA, if_pos h]) k
theorem r_sw_in {a dflt lo up : Int} {offs : Array Int} (j : Nat) {off : Int} (hi : xi mi pc = some (.tableswitch dflt lo up offs, rs, wp)) (h : a = lo + j) (ha : -2147483648 ≤ a ∧ a < 2147483648) (hh : a ≤ up) (ho : offs[j]? = some off) (k : ry S d mi (xgo pc off) ls st M N Q) : ry S d mi pc ls (.inl a :: st) M N Q := by
  have hA := t32 ha
  have hn : ¬ (a < lo ∨ up < a) := by omega
  have hj : (a - lo).toNat = j := by omega
  exact ry_step hi rfl (fun kd => by simp only [xs1, List.map_cons, yv, hA, if_neg hn, hj, ho]) k
theorem ycell {c : Int} (h : 0 ≤ c ∧ c < 94) : c.toNat < 94 := by omega
theorem r_iald {c a : Int} {n : Nat} (hi : xi mi pc = some (.iaload, rs, wp)) (hc : 0 ≤ c ∧ c < 94) (hk : yk c = (0, n)) (hn : n < 100000) (ha : 0 ≤ a ∧ a < n) (k : ry S d mi (pc + 1) ls (.inl (M c a) :: st) M N Q) : ry S d mi pc ls (.inl a :: .inr (.inr c) :: st) M N Q := by
  have hA : (Int32.ofInt a).toInt = a := t32 (by omega)
  have h1 := ycell hc
  have h2 : xkind c.toNat = (0, n) := by rw [yk_eq hc.1, hk]
  have hl : (Int32.ofInt a).toNatClampNeg = a.toNat := by show (Int32.ofInt a).toInt.toNat = _; rw [hA]
  refine ry_step hi rfl (fun kd => ?_) k
  have e1 : ¬ c.toNat = 30000 := by omega
  have e2 : ¬ c.toNat = 40000 := by omega
  have e3 : (c.toNat < (ym M N).1 ∧ (xkind c.toNat).1 = 0) ∧ 0 ≤ (Int32.ofInt a).toInt ∧ (Int32.ofInt a).toInt < ((xkind c.toNat).2 : Int) := by
    rw [h2, hA]
    exact ⟨⟨h1, rfl⟩, ha.1, ha.2⟩
  simp only [xs1, List.map_cons, yv, if_neg e1, if_neg e2, if_pos e3, hl]
  show some (_, _, Value.int (Int32.ofInt (M ((c.toNat : Nat) : Int) ((a.toNat : Nat) : Int))) :: _, _) = _
  rw [Int.toNat_of_nonneg hc.1, Int.toNat_of_nonneg ha.1]
theorem r_iast {c a v : Int} {n : Nat} (hi : xi mi pc = some (.iastore, rs, wp)) (hc : 0 ≤ c ∧ c < 94) (hk : yk c = (0, n)) (hn : n < 100000) (ha : 0 ≤ a ∧ a < n) (k : ry S d mi (pc + 1) ls st (yu M c a v) N Q) : ry S d mi pc ls (.inl v :: .inl a :: .inr (.inr c) :: st) M N Q := by
  have hA : (Int32.ofInt a).toInt = a := t32 (by omega)
  have h1 := ycell hc
  have h2 : xkind c.toNat = (0, n) := by rw [yk_eq hc.1, hk]
  have hl : (Int32.ofInt a).toNatClampNeg = a.toNat := by show (Int32.ofInt a).toInt.toNat = _; rw [hA]
  refine ry_step hi rfl (fun kd => ?_) k
  have e3 : (c.toNat < (ym M N).1 ∧ (xkind c.toNat).1 = 0) ∧ 0 ≤ (Int32.ofInt a).toInt ∧ (Int32.ofInt a).toInt < ((xkind c.toNat).2 : Int) := by
    rw [h2, hA]
    exact ⟨⟨h1, rfl⟩, ha.1, ha.2⟩
  rw [ym_put hc.1 ha.1]
  simp only [xs1, List.map_cons, yv, if_pos e3, hl]
  rfl
theorem r_iabove {a : Int} (hi : xi mi pc = some (.iaload, rs, wp)) (ha : 0 ≤ a ∧ a < 6) (k : ry S d mi (pc + 1) ls (.inl (xabove.getD a.toNat 0).toInt :: st) M N Q) : ry S d mi pc ls (.inl a :: .inr (.inr 30000) :: st) M N Q := by
  have hA : (Int32.ofInt a).toInt = a := t32 (by omega)
  have hl : (Int32.ofInt a).toNatClampNeg = a.toNat := by show (Int32.ofInt a).toInt.toNat = _; rw [hA]
  refine ry_step hi rfl (fun kd => ?_) k
  have e3 : 0 ≤ (Int32.ofInt a).toInt ∧ (Int32.ofInt a).toInt < ((6 : Nat) : Int) := by rw [hA]; omega
  have e1 : (30000 : Int).toNat = 30000 := rfl
  simp only [xs1, List.map_cons, yv, e1, if_true, if_pos e3, hl, Int32.ofInt_toInt]
theorem r_iscr {a : Int} (hi : xi mi pc = some (.iaload, rs, wp)) (ha : 0 ≤ a ∧ a < S.1) (hs : S.1 < 100000) (k : ry S d mi (pc + 1) ls (.inl (S.2 a.toNat).toInt :: st) M N Q) : ry S d mi pc ls (.inl a :: .inr (.inr 40000) :: st) M N Q := by
  have hA : (Int32.ofInt a).toInt = a := t32 (by omega)
  have hl : (Int32.ofInt a).toNatClampNeg = a.toNat := by show (Int32.ofInt a).toInt.toNat = _; rw [hA]
  refine ry_step hi rfl (fun kd => ?_) k
  have e3 : 0 ≤ (Int32.ofInt a).toInt ∧ (Int32.ofInt a).toInt < (S.1 : Int) := by rw [hA]; omega
  have e1 : (40000 : Int).toNat = 40000 := rfl
  have e2 : ¬ (40000 : Nat) = 30000 := by decide
  simp only [xs1, List.map_cons, yv, e1, if_neg e2, if_true, if_pos e3, hl, Int32.ofInt_toInt]
theorem r_slen (hi : xi mi pc = some (.arraylength, rs, wp)) (k : ry S d mi (pc + 1) ls (.inl (S.1 : Int) :: st) M N Q) : ry S d mi pc ls (.inr (.inr 40000) :: st) M N Q := by
  refine ry_step hi rfl (fun kd => ?_) k
  have e1 : (40000 : Int).toNat = 40000 := rfl
  simp only [xs1, List.map_cons, yv, e1, if_true]
  rw [Int32.ofInt_eq_ofNat]
theorem r_alen {c : Int} {kd n : Nat} (hi : xi mi pc = some (.arraylength, rs, wp)) (hc : 0 ≤ c ∧ c < 94) (hk : yk c = (kd, n)) (hkd : kd < 200) (k : ry S d mi (pc + 1) ls (.inl (n : Int) :: st) M N Q) : ry S d mi pc ls (.inr (.inr c) :: st) M N Q := by
  have h1 := ycell hc
  have h2 : xkind c.toNat = (kd, n) := by rw [yk_eq hc.1, hk]
  refine ry_step hi rfl (fun _ => ?_) k
  have e1 : ¬ c.toNat = 40000 := by omega
  have e2 : ¬ (20000 ≤ c.toNat ∧ c.toNat < 20000 + xSTR.length) := by omega
  have e3 : c.toNat < (ym M N).1 ∧ (xkind c.toNat).1 < 200 := by rw [h2]; exact ⟨h1, hkd⟩
  simp only [xs1, List.map_cons, yv, if_neg e1, if_neg e2, if_pos e3]
  rw [h2, Int32.ofInt_eq_ofNat]
theorem r_aald {c a r : Int} {kd n : Nat} (hi : xi mi pc = some (.aaload, rs, wp)) (hc : 0 ≤ c ∧ c < 94) (hk : yk c = (kd, n)) (hkd : 100 ≤ kd ∧ kd < 200) (hn : n < 100000) (ha : 0 ≤ a ∧ a < n) (hr : xRF c.toNat a.toNat = some r.toNat) (k : ry S d mi (pc + 1) ls (.inr (.inr r) :: st) M N Q) : ry S d mi pc ls (.inl a :: .inr (.inr c) :: st) M N Q := by
  have hA : (Int32.ofInt a).toInt = a := t32 (by omega)
  have h1 := ycell hc
  have h2 : xkind c.toNat = (kd, n) := by rw [yk_eq hc.1, hk]
  have hl : (Int32.ofInt a).toNatClampNeg = a.toNat := by show (Int32.ofInt a).toInt.toNat = _; rw [hA]
  refine ry_step hi rfl (fun _ => ?_) k
  have e3 : (c.toNat < (ym M N).1 ∧ 100 ≤ (xkind c.toNat).1 ∧ (xkind c.toNat).1 < 200) ∧ 0 ≤ (Int32.ofInt a).toInt ∧ (Int32.ofInt a).toInt < ((xkind c.toNat).2 : Int) := by
    rw [h2, hA]
    exact ⟨⟨h1, hkd.1, hkd.2⟩, ha.1, ha.2⟩
  have e4 : (ym M N).2.2.2 c.toNat a.toNat = some r.toNat := hr
  simp only [xs1, List.map_cons, yv, if_pos e3, hl, e4]
/-- fields of a cell that is told by a kind alone -/
theorem r_getf {idx ci fk : Nat} {c : Int} {n : Nat} (fi : Int) (hfi : (fk : Int) = fi) (hi : xi mi pc = some (.getfield idx, rs, wp)) (hrs : rs ≠ 900 ∧ rs ≠ 901) (hf : xFT[rs]? = some (ci, fk)) (hfk : (xfk ci fk).1 = 0 ∨ (xfk ci fk).1 = 3) (hc : 0 ≤ c ∧ c < 94) (hk : yk c = (200 + ci, n)) (k : ry S d mi (pc + 3) ls (.inl (M c fi) :: st) M N Q) : ry S d mi pc ls (.inr (.inr c) :: st) M N Q := by
  subst hfi
  have h1 := ycell hc
  have h2 : (xkind c.toNat).1 = 200 + ci := by rw [yk_eq hc.1, hk]
  refine ry_step hi rfl (fun _ => ?_) k
  have e3 : c.toNat < (ym M N).1 ∧ (xkind c.toNat).1 = 200 + ci := ⟨h1, h2⟩
  have e4 : xget (ym M N) c.toNat ci fk = some (.int (Int32.ofInt (M c fk))) := by
    unfold xget
    rcases hfk with h | h <;> rw [h] <;> (show some (Value.int (Int32.ofInt (M ((c.toNat : Nat) : Int) _))) = _; rw [Int.toNat_of_nonneg hc.1])
  simp only [xs1, List.map_cons, yv, if_neg hrs.1, if_neg hrs.2, hf, if_pos e3, e4]
theorem r_getr {idx ci fk : Nat} {c r : Int} {n : Nat} (hi : xi mi pc = some (.getfield idx, rs, wp)) (hrs : rs ≠ 900 ∧ rs ≠ 901) (hf : xFT[rs]? = some (ci, fk)) (hfk : (xfk ci fk).1 = 2) (hc : 0 ≤ c ∧ c < 94) (hk : yk c = (200 + ci, n)) (hr : xRF c.toNat fk = some r.toNat) (k : ry S d mi (pc + 3) ls (.inr (.inr r) :: st) M N Q) : ry S d mi pc ls (.inr (.inr c) :: st) M N Q := by
  have h1 := ycell hc
  have h2 : (xkind c.toNat).1 = 200 + ci := by rw [yk_eq hc.1, hk]
  refine ry_step hi rfl (fun _ => ?_) k
  have e3 : c.toNat < (ym M N).1 ∧ (xkind c.toNat).1 = 200 + ci := ⟨h1, h2⟩
  have e4 : xget (ym M N) c.toNat ci fk = some (.ref r.toNat) := by
    unfold xget
    rw [hfk]
    show some (va_rf (xRF _ _)) = _
    rw [hr]
    rfl
  simp only [xs1, List.map_cons, yv, if_neg hrs.1, if_neg hrs.2, hf, if_pos e3, e4]
theorem r_putf {idx ci fk : Nat} {c v : Int} {n : Nat} (fi : Int) (hfi : (fk : Int) = fi) (hi : xi mi pc = some (.putfield idx, rs, wp)) (hf : xFT[rs]? = some (ci, fk)) (hfk : xfk ci fk = (0, false) ∨ (xfk ci fk = (3, false) ∧ (v = 0 ∨ v = 1))) (hc : 0 ≤ c ∧ c < 94) (hk : yk c = (200 + ci, n)) (k : ry S d mi (pc + 3) ls st (yu M c fi v) N Q) : ry S d mi pc ls (.inl v :: .inr (.inr c) :: st) M N Q := by
  subst hfi
  have h1 := ycell hc
  have h2 : (xkind c.toNat).1 = 200 + ci := by rw [yk_eq hc.1, hk]
  refine ry_step hi rfl (fun kd => ?_) k
  have e0 : (xfk ci fk).2 = false := by
    rcases hfk with h | h
    · rw [h]
    · rw [h.1]
  have e3 : c.toNat < (ym M N).1 ∧ (xkind c.toNat).1 = 200 + ci ∧ ((xfk ci fk).2 = false ∨ kd = 200 + ci) := ⟨h1, h2, Or.inl e0⟩
  have e4 : xput (ym M N) c.toNat ci fk (.int (Int32.ofInt v)) = some (ym (yu M c fk v) N) := by
    rw [ym_put hc.1 (Int.natCast_nonneg _)]
    unfold xput
    rcases hfk with h | h
    · rw [h]; rfl
    · rw [h.1]
      rcases h.2 with rfl | rfl
      · rfl
      · rfl
  simp only [xs1, List.map_cons, yv, hf, if_pos e3, e4]
theorem r_idiv {a b : Int} (hi : xi mi pc = some (.idiv, rs, wp)) (ha : 0 ≤ a ∧ a < 2147483648) (hb : 0 < b ∧ b < 2147483648) (k : ry S d mi (pc + 1) ls (.inl (a / b) :: st) M N Q) : ry S d mi pc ls (.inl b :: .inl a :: st) M N Q := by
  have hA := t32 (a := a) (by omega)
  have hB := t32 (a := b) (by omega)
  have h0 : ¬ Int32.ofInt b = 0 := fun h => by
    rw [h] at hB
    have : (0 : Int32).toInt = 0 := by decide
    omega
  have hd : 0 ≤ a / b ∧ a / b ≤ a := ⟨Int.ediv_nonneg ha.1 (by omega), Int.ediv_le_self b ha.1⟩
  have hq : Int32.ofInt a / Int32.ofInt b = Int32.ofInt (a / b) := Int32.toInt_inj.mp (by
    rw [Int32.toInt_div, hA, hB, Int.tdiv_eq_ediv_of_nonneg ha.1, t32 (by omega)]
    exact Int.bmod_eq_of_le (by omega) (by omega))
  exact ry_step hi rfl (fun _ => by simp only [xs1, List.map_cons, yv, if_neg h0, hq]) k
theorem r_irem {a b : Int} (hi : xi mi pc = some (.irem, rs, wp)) (ha : 0 ≤ a ∧ a < 2147483648) (hb : 0 < b ∧ b < 2147483648) (k : ry S d mi (pc + 1) ls (.inl (a % b) :: st) M N Q) : ry S d mi pc ls (.inl b :: .inl a :: st) M N Q := by
  have hA := t32 (a := a) (by omega)
  have hB := t32 (a := b) (by omega)
  have h0 : ¬ Int32.ofInt b = 0 := fun h => by
    rw [h] at hB
    have : (0 : Int32).toInt = 0 := by decide
    omega
  have hd : 0 ≤ a / b ∧ a / b ≤ a := ⟨Int.ediv_nonneg ha.1 (by omega), Int.ediv_le_self b ha.1⟩
  have hq : Int32.ofInt a / Int32.ofInt b = Int32.ofInt (a / b) := Int32.toInt_inj.mp (by
    rw [Int32.toInt_div, hA, hB, Int.tdiv_eq_ediv_of_nonneg ha.1, t32 (by omega)]
    exact Int.bmod_eq_of_le (by omega) (by omega))
  have hm : Int32.ofInt a - Int32.ofInt a / Int32.ofInt b * Int32.ofInt b = Int32.ofInt (a % b) := by
    rw [hq, ← Int32.ofInt_mul, ← Int32.ofInt_sub, Int.emod_def, Int.mul_comm]
  exact ry_step hi rfl (fun _ => by simp only [xs1, List.map_cons, yv, if_neg h0, hm]) k
theorem ldiv_eq {a b : Int} (ha : 0 ≤ a ∧ a < 9223372036854775808) (hb : 0 < b ∧ b < 9223372036854775808) : ¬ Int64.ofInt b = 0 ∧ Int64.ofInt a / Int64.ofInt b = Int64.ofInt (a / b) := by
  have hA := t64 (a := a) (by omega)
  have hB := t64 (a := b) (by omega)
  have hd : 0 ≤ a / b ∧ a / b ≤ a := ⟨Int.ediv_nonneg ha.1 (by omega), Int.ediv_le_self b ha.1⟩
  refine ⟨fun h => by
    rw [h] at hB
    have : (0 : Int64).toInt = 0 := by decide
    omega, Int64.toInt_inj.mp (by
    rw [Int64.toInt_div, hA, hB, Int.tdiv_eq_ediv_of_nonneg ha.1, t64 (by omega)]
    exact Int.bmod_eq_of_le (by omega) (by omega))⟩
theorem r_ldiv {a b : Int} (hi : xi mi pc = some (.ldiv, rs, wp)) (ha : 0 ≤ a ∧ a < 9223372036854775808) (hb : 0 < b ∧ b < 9223372036854775808) (k : ry S d mi (pc + 1) ls (.inr (.inl (a / b)) :: st) M N Q) : ry S d mi pc ls (.inr (.inl b) :: .inr (.inl a) :: st) M N Q := by
  obtain ⟨h0, hq⟩ := ldiv_eq ha hb
  exact ry_step hi rfl (fun _ => by simp only [xs1, List.map_cons, yv, if_neg h0, hq]) k
theorem r_lrem {a b : Int} (hi : xi mi pc = some (.lrem, rs, wp)) (ha : 0 ≤ a ∧ a < 9223372036854775808) (hb : 0 < b ∧ b < 9223372036854775808) (k : ry S d mi (pc + 1) ls (.inr (.inl (a % b)) :: st) M N Q) : ry S d mi pc ls (.inr (.inl b) :: .inr (.inl a) :: st) M N Q := by
  obtain ⟨h0, hq⟩ := ldiv_eq ha hb
  have hm : Int64.ofInt a - Int64.ofInt a / Int64.ofInt b * Int64.ofInt b = Int64.ofInt (a % b) := by
    rw [hq, ← Int64.ofInt_mul, ← Int64.ofInt_sub, Int.emod_def, Int.mul_comm]
  exact ry_step hi rfl (fun _ => by simp only [xs1, List.map_cons, yv, if_neg h0, hm]) k
theorem r_i2l {a : Int} (hi : xi mi pc = some (.i2l, rs, wp)) (ha : -2147483648 ≤ a ∧ a < 2147483648) (k : ry S d mi (pc + 1) ls (.inr (.inl a) :: st) M N Q) : ry S d mi pc ls (.inl a :: st) M N Q := by
  have hq : (Int32.ofInt a).toInt64 = Int64.ofInt a := Int64.toInt_inj.mp (by rw [Int32.toInt_toInt64, t32 ha, t64 (by omega)])
  exact ry_step hi rfl (fun _ => by simp only [xs1, xs0, List.map_cons, yv, hq]; rfl) k
theorem r_lcmp {a b : Int} (hi : xi mi pc = some (.lcmp, rs, wp)) (ha : -9223372036854775808 ≤ a ∧ a < 9223372036854775808) (hb : -9223372036854775808 ≤ b ∧ b < 9223372036854775808) (k : ∀ v : Int, (v = -1 ∧ a < b) ∨ (v = 0 ∧ a = b) ∨ (v = 1 ∧ b < a) → ry S d mi (pc + 1) ls (.inl v :: st) M N Q) : ry S d mi pc ls (.inr (.inl b) :: .inr (.inl a) :: st) M N Q := by
  have hA := t64 ha
  have hB := t64 hb
  have hx : ∃ v : Int, ((v = -1 ∧ a < b) ∨ (v = 0 ∧ a = b) ∨ (v = 1 ∧ b < a)) ∧ lg_cmp (Int64.ofInt a) (Int64.ofInt b) = Int32.ofInt v := by
    unfold lg_cmp
    by_cases h1 : a < b
    · refine ⟨-1, Or.inl ⟨rfl, h1⟩, ?_⟩
      rw [if_neg (by rw [gt_iff_lt, Int64.lt_iff_toInt_lt, hA, hB]; omega), if_neg (by rw [← Int64.toInt_inj, hA, hB]; omega)]
      decide
    · by_cases h2 : a = b
      · refine ⟨0, Or.inr (Or.inl ⟨rfl, h2⟩), ?_⟩
        rw [if_neg (by rw [gt_iff_lt, Int64.lt_iff_toInt_lt, hA, hB]; omega), if_pos (by rw [h2])]
        decide
      · refine ⟨1, Or.inr (Or.inr ⟨rfl, by omega⟩), ?_⟩
        rw [if_pos (by rw [gt_iff_lt, Int64.lt_iff_toInt_lt, hA, hB]; omega)]
        decide
  obtain ⟨v, h1, h2⟩ := hx
  exact ry_step hi rfl (fun _ => by simp only [xs1, List.map_cons, yv, h2]) (k v h1)
end YR
