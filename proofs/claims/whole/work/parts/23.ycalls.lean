/-! ends and calls -/
theorem yl_locs : ∀ as : List YV, yo (ylocs as) = xlocs (as.map yv)
  | [] => rfl
  | .inl a :: r => by
    show some (yv (.inl a)) :: yo (ylocs r) = xlocs (yv (.inl a) :: r.map yv)
    rw [yl_locs r]
    rfl
  | .inr (.inl a) :: r => by
    show some (yv (.inr (.inl a))) :: none :: yo (ylocs r) = xlocs (yv (.inr (.inl a)) :: r.map yv)
    rw [yl_locs r]
    rfl
  | .inr (.inr a) :: r => by
    show some (yv (.inr (.inr a))) :: yo (ylocs r) = xlocs (yv (.inr (.inr a)) :: r.map yv)
    rw [yl_locs r]
    rfl
theorem yl_pad (n : Nat) (as : List YV) : yo (ypad n (ylocs as)) = xpad n (xlocs (as.map yv)) := by
  unfold ypad xpad
  rw [← yl_locs]
  unfold yo
  rw [List.map_append, List.map_replicate, List.length_map]
  rfl
theorem yl_len (as : List YV) : (xlocs (as.map yv)).length = (ylocs as).length := by
  rw [← yl_locs, yo_len]
def ycats (l : List YV) : Nat := ((l.map yv).map fun v => v.category).sum
section YC
variable {S : XS} {d mi pc rs wp : Nat} {ls : YL} {st : List YV} {M N : YM} {Q : Option YV → YM → YM → Prop}
theorem ry_ret {i : Instr} {e : XMe} {r : Option YV} (hm : xme mi = some e) (hi : xi mi pc = some (i, rs, wp)) (h0 : ¬ xcl i = 0) (h1 : xcl i = 1) (hx : xret i e.2.2.2.2.1 (st.map yv) = some (r.map yv)) (k : Q r M N) : ry S d mi pc ls st M N Q := by
  refine ⟨1, r, M, N, ?_, k⟩
  unfold xexec
  rw [hm, hi]
  dsimp only
  rw [if_neg h0, if_pos h1, hx]
  rfl
theorem r_iret {e : XMe} {v : Int} (hm : xme mi = some e) (hr : e.2.2.2.2.1 = some .int) (hi : xi mi pc = some (.ireturn, rs, wp)) (k : Q (some (.inl v)) M N) : ry S d mi pc ls [.inl v] M N Q := by
  refine ry_ret hm hi (by decide) rfl ?_ k
  rw [hr]
  show (if narrow .int (.int (Int32.ofInt v)) = .int (Int32.ofInt v) then some (some (Value.int (Int32.ofInt v))) else none) = _
  rw [if_pos (show narrow .int (.int (Int32.ofInt v)) = .int (Int32.ofInt v) from rfl)]
  rfl
theorem r_zret {e : XMe} {v : Int} (hm : xme mi = some e) (hr : e.2.2.2.2.1 = some .boolean) (hi : xi mi pc = some (.ireturn, rs, wp)) (hv : v = 0 ∨ v = 1) (k : Q (some (.inl v)) M N) : ry S d mi pc ls [.inl v] M N Q := by
  refine ry_ret hm hi (by decide) rfl ?_ k
  rw [hr]
  rcases hv with rfl | rfl <;> rfl
theorem r_lret {e : XMe} {v : Int} (hm : xme mi = some e) (hr : e.2.2.2.2.1 = some .long) (hi : xi mi pc = some (.lreturn, rs, wp)) (k : Q (some (.inr (.inl v))) M N) : ry S d mi pc ls [.inr (.inl v)] M N Q := by
  refine ry_ret hm hi (by decide) rfl ?_ k
  rw [hr]
  rfl
theorem r_vret {e : XMe} (hm : xme mi = some e) (hr : e.2.2.2.2.1 = none) (hi : xi mi pc = some (.return_, rs, wp)) (k : Q none M N) : ry S d mi pc ls [] M N Q := by
  refine ry_ret hm hi (by decide) rfl (r := none) ?_ k
  rw [hr]
  rfl
theorem rm_deep {d2 mj : Nat} {as : List YV} (h : d ≤ d2) (k : rm S d mj as M N Q) : rm S d2 mj as M N Q := by
  obtain ⟨e, h1, h2, h3⟩ := k
  exact ⟨e, h1, h2, r_deep h h3⟩
theorem rm_post {mj : Nat} {as : List YV} {Q2 : Option YV → YM → YM → Prop} (k : rm S d mj as M N Q) (h : ∀ r M' N', Q r M' N' → Q2 r M' N') : rm S d mj as M N Q2 := by
  obtain ⟨e, h1, h2, h3⟩ := k
  exact ⟨e, h1, h2, r_post h3 h⟩
theorem ry_call {i : Instr} {mj dc : Nat} {e : XMe} {as rest : List YV} {Qc : Option YV → YM → YM → Prop} (hi : xi mi pc = some (i, rs, wp)) (h0 : ¬ xcl i = 0) (h1 : ¬ xcl i = 1) (hrs : rs ≠ 8888 ∧ rs ≠ 9999 ∧ rs ≠ 9997 ∧ rs ≠ 9998) (hm : xme mj = some e) (hv : (ylocs as).length ≤ e.2.2.2.1 → xinv i rs (st.map yv) (ym M N) = some (mj, e, as.map yv, rest.map yv)) (hd : dc < d) (hc : rm S dc mj as M N Qc)
    (kk : ∀ r M' N', Qc r M' N' → ry S d mi (pc + 3) ls (r.toList ++ rest) M' N' Q) : ry S d mi pc ls st M N Q := by
  obtain ⟨e', hm', hlen, n1, r1, M1, N1, hx1, hq1⟩ := hc
  have he : e' = e := Option.some.inj (hm'.symm.trans hm)
  subst he
  obtain ⟨n2, r2, M2, N2, hx2, hq2⟩ := kk r1 M1 N1 hq1
  obtain ⟨em, hem⟩ := xme_of_xi hi
  obtain ⟨d', rfl⟩ : ∃ d', d = d' + 1 := ⟨d - 1, by omega⟩
  refine ⟨n1 + n2 + 1, r2, M2, N2, ?_, hq2⟩
  unfold xexec
  rw [hem, hi]
  dsimp only
  rw [if_neg h0, if_neg h1, if_neg hrs.1, if_neg hrs.2.1, if_neg hrs.2.2.1, if_neg hrs.2.2.2, hv hlen]
  dsimp only
  rw [yl_pad] at hx1
  have hx1' := xexec_mono S n1 dc mj 0 _ _ _ _ hx1 n2 d' (by omega)
  rw [show ([] : List YV).map yv = [] from rfl] at hx1'
  rw [hx1']
  dsimp only
  rw [if_pos (show (ym M1 N1).1 = (ym M N).1 ∨ _ from Or.inl rfl)]
  have hx2' := xexec_mono S n2 (d' + 1) mi (pc + 3) _ _ _ _ hx2 n1 (d' + 1) (Nat.le_refl _)
  rw [List.map_append, Nat.add_comm n2 n1] at hx2'
  rw [show (r1.map yv).toList = r1.toList.map yv by cases r1 <;> rfl]
  exact hx2'
theorem yinv {i : Instr} {mj : Nat} {e : XMe} {as rest : List YV} (hm : xme mj = some e) (hmj : rs % 10000 = mj) (hrs : rs < 20000) (hst : st = as.reverse ++ rest) (hn : as.length = xnar e) (hcat : ycats rest ≤ 8) (hlen : (ylocs as).length ≤ e.2.2.2.1) (hcond : xcnd i e (ym M N) (((st.map yv).drop (xnar e - 1)).headD .null) = true) : xinv i rs (st.map yv) (ym M N) = some (mj, e, as.map yv, rest.map yv) := by
  have hl : (as.reverse.map yv).length = xnar e := by simp [hn]
  have h1 : st.map yv = as.reverse.map yv ++ rest.map yv := by rw [hst, List.map_append]
  have ht : (st.map yv).take (xnar e) = as.reverse.map yv := by rw [h1, ← hl, List.take_left]
  have hd : (st.map yv).drop (xnar e) = rest.map yv := by rw [h1, ← hl, List.drop_left]
  have hr : (as.reverse.map yv).reverse = as.map yv := by rw [List.map_reverse, List.reverse_reverse]
  unfold xinv
  rw [hmj, hm]
  dsimp only
  have hc : xinvc i rs (st.map yv) (ym M N) e = true := by
    unfold xinvc
    rw [ht, hd, hr, hcond, Bool.and_true]
    simp only [Bool.and_eq_true, decide_eq_true_eq]
    refine ⟨⟨⟨hrs, by rw [h1, List.length_append, hl]; omega⟩, hcat⟩, by rw [yl_len]; exact hlen⟩
  rw [if_pos hc, ht, hd, hr]
theorem r_static {k mj dc : Nat} {e : XMe} {as rest : List YV} {Qc : Option YV → YM → YM → Prop} (hi : xi mi pc = some (.invokestatic k, rs, wp)) (hrs : rs < 20000 ∧ rs ≠ 8888 ∧ rs ≠ 9999 ∧ rs ≠ 9997 ∧ rs ≠ 9998) (hmj : rs % 10000 = mj) (hm : xme mj = some e) (hk : e.2.2.2.2.2.1 = 0) (hst : st = as.reverse ++ rest) (hn : as.length = xnar e) (hcat : ycats rest ≤ 8) (hd : dc < d) (hc : rm S dc mj as M N Qc)
    (kk : ∀ r M' N', Qc r M' N' → ry S d mi (pc + 3) ls (r.toList ++ rest) M' N' Q) : ry S d mi pc ls st M N Q :=
  ry_call hi (show ¬ (2 : Nat) = 0 by decide) (show ¬ (2 : Nat) = 1 by decide) hrs.2 hm (fun hlen => yinv hm hmj hrs.1 hst hn hcat hlen (by unfold xcnd; exact decide_eq_true hk)) hd hc kk
theorem yrecv_head {as rest : List YV} {b : Int} (hst : st = (.inr (.inr b) :: as).reverse ++ rest) {n : Nat} (hn : as.length + 1 = n) : ((st.map yv).drop (n - 1)).headD .null = .ref b.toNat := by
  rw [hst, List.reverse_cons, List.append_assoc, List.map_append]
  have hl : (as.reverse.map yv).length = n - 1 := by simp; omega
  rw [← hl, List.drop_left]
  rfl
theorem r_virtual {k mj dc : Nat} {e : XMe} {b : Int} {as rest : List YV} {Qc : Option YV → YM → YM → Prop} (hi : xi mi pc = some (.invokevirtual k, rs, wp)) (hrs : rs < 20000 ∧ rs ≠ 8888 ∧ rs ≠ 9999 ∧ rs ≠ 9997 ∧ rs ≠ 9998) (hmj : rs % 10000 = mj) (hm : xme mj = some e) (hk : 100 ≤ e.2.2.2.2.2.1 ∧ e.2.2.2.2.2.1 < 200 ∧ e.2.2.2.2.2.1 ≠ 150) (hb : 0 ≤ b ∧ b < 94) (hbk : (yk b).1 = e.2.2.2.2.2.1 + 100) (hst : st = (.inr (.inr b) :: as).reverse ++ rest) (hn : as.length + 1 = xnar e) (hcat : ycats rest ≤ 8) (hd : dc < d) (hc : rm S dc mj (.inr (.inr b) :: as) M N Qc)
    (kk : ∀ r M' N', Qc r M' N' → ry S d mi (pc + 3) ls (r.toList ++ rest) M' N' Q) : ry S d mi pc ls st M N Q := by
  refine ry_call hi (show ¬ (2 : Nat) = 0 by decide) (show ¬ (2 : Nat) = 1 by decide) hrs.2 hm (fun hlen => yinv hm hmj hrs.1 hst (by rw [List.length_cons]; exact hn) hcat hlen ?_) hd hc kk
  rw [yrecv_head hst hn]
  unfold xcnd xrecv
  dsimp only
  rw [if_neg hk.2.2, if_neg (by omega)]
  have h2 : (xkind b.toNat).1 = e.2.2.2.2.2.1 + 100 := by rw [yk_eq hb.1, hbk]
  have h3 : b.toNat < (ym M N).1 := ycell hb
  simp only [Bool.and_eq_true, decide_eq_true_eq]
  exact ⟨⟨hk.1, hk.2.1⟩, ⟨hk.1, h3⟩, h2⟩
theorem r_vstring {k mj dc : Nat} {e : XMe} {b : Int} {as rest : List YV} {Qc : Option YV → YM → YM → Prop} (hi : xi mi pc = some (.invokevirtual k, rs, wp)) (hrs : rs < 20000 ∧ rs ≠ 8888 ∧ rs ≠ 9999 ∧ rs ≠ 9997 ∧ rs ≠ 9998) (hmj : rs % 10000 = mj) (hm : xme mj = some e) (hk : e.2.2.2.2.2.1 = 150) (hb : 10000 ≤ b ∧ b < 10008) (hst : st = (.inr (.inr b) :: as).reverse ++ rest) (hn : as.length + 1 = xnar e) (hcat : ycats rest ≤ 8) (hd : dc < d) (hc : rm S dc mj (.inr (.inr b) :: as) M N Qc)
    (kk : ∀ r M' N', Qc r M' N' → ry S d mi (pc + 3) ls (r.toList ++ rest) M' N' Q) : ry S d mi pc ls st M N Q := by
  refine ry_call hi (show ¬ (2 : Nat) = 0 by decide) (show ¬ (2 : Nat) = 1 by decide) hrs.2 hm (fun hlen => yinv hm hmj hrs.1 hst (by rw [List.length_cons]; exact hn) hcat hlen ?_) hd hc kk
  rw [yrecv_head hst hn]
  unfold xcnd xrecv
  dsimp only
  have h8 := xSTR_len
  rw [hk, if_pos rfl]
  simp only [Bool.and_eq_true, decide_eq_true_eq]
  have hb2 : 10000 ≤ b.toNat ∧ b.toNat < 10000 + xSTR.length := by rw [h8]; omega
  exact ⟨⟨by decide, by decide⟩, hb2⟩
theorem r_max {a b : Int} {k : Nat} (hi : xi mi pc = some (.invokestatic k, 9997, wp)) (ha : -2147483648 ≤ a ∧ a < 2147483648) (hb : -2147483648 ≤ b ∧ b < 2147483648) (hcat : ycats st ≤ 8) (hd : 0 < d) (kk : ∀ v : Int, (v = b ∧ a < b) ∨ (v = a ∧ b ≤ a) → ry S d mi (pc + 3) ls (.inl v :: st) M N Q) : ry S d mi pc ls (.inl b :: .inl a :: st) M N Q := by
  obtain ⟨em, hem⟩ := xme_of_xi hi
  obtain ⟨d', rfl⟩ : ∃ d', d = d' + 1 := ⟨d - 1, by omega⟩
  have hv : ∃ v : Int, ((v = b ∧ a < b) ∨ (v = a ∧ b ≤ a)) ∧ (if Int32.ofInt a < Int32.ofInt b then Int32.ofInt b else Int32.ofInt a) = Int32.ofInt v := by
    by_cases h : a < b
    · exact ⟨b, Or.inl ⟨rfl, h⟩, by rw [if_pos (by rw [Int32.lt_iff_toInt_lt, t32 ha, t32 hb]; exact h)]⟩
    · exact ⟨a, Or.inr ⟨rfl, by omega⟩, by rw [if_neg (by rw [Int32.lt_iff_toInt_lt, t32 ha, t32 hb]; exact h)]⟩
  obtain ⟨v, hv1, hv2⟩ := hv
  obtain ⟨n2, r2, M2, N2, hx2, hq2⟩ := kk v hv1
  refine ⟨n2 + 1, r2, M2, N2, ?_, hq2⟩
  unfold xexec
  rw [hem, hi]
  dsimp only
  have c0 : ¬ xcl (.invokestatic k) = 0 := show ¬ (2 : Nat) = 0 by decide
  have c1 : ¬ xcl (.invokestatic k) = 1 := show ¬ (2 : Nat) = 1 by decide
  rw [if_neg c0, if_neg c1, if_neg (by decide), if_neg (by decide), if_pos rfl]
  simp only [List.map_cons, yv]
  rw [if_pos (show ((st.map yv).map fun v => v.category).sum ≤ 8 from hcat), hv2]
  exact hx2
theorem r_min {a b : Int} {k : Nat} (hi : xi mi pc = some (.invokestatic k, 9998, wp)) (ha : -2147483648 ≤ a ∧ a < 2147483648) (hb : -2147483648 ≤ b ∧ b < 2147483648) (hcat : ycats st ≤ 8) (hd : 0 < d) (kk : ∀ v : Int, (v = b ∧ b < a) ∨ (v = a ∧ a ≤ b) → ry S d mi (pc + 3) ls (.inl v :: st) M N Q) : ry S d mi pc ls (.inl b :: .inl a :: st) M N Q := by
  obtain ⟨em, hem⟩ := xme_of_xi hi
  obtain ⟨d', rfl⟩ : ∃ d', d = d' + 1 := ⟨d - 1, by omega⟩
  have hv : ∃ v : Int, ((v = b ∧ b < a) ∨ (v = a ∧ a ≤ b)) ∧ (if Int32.ofInt b < Int32.ofInt a then Int32.ofInt b else Int32.ofInt a) = Int32.ofInt v := by
    by_cases h : b < a
    · exact ⟨b, Or.inl ⟨rfl, h⟩, by rw [if_pos (by rw [Int32.lt_iff_toInt_lt, t32 ha, t32 hb]; exact h)]⟩
    · exact ⟨a, Or.inr ⟨rfl, by omega⟩, by rw [if_neg (by rw [Int32.lt_iff_toInt_lt, t32 ha, t32 hb]; exact h)]⟩
  obtain ⟨v, hv1, hv2⟩ := hv
  obtain ⟨n2, r2, M2, N2, hx2, hq2⟩ := kk v hv1
  refine ⟨n2 + 1, r2, M2, N2, ?_, hq2⟩
  unfold xexec
  rw [hem, hi]
  dsimp only
  have c0 : ¬ xcl (.invokestatic k) = 0 := show ¬ (2 : Nat) = 0 by decide
  have c1 : ¬ xcl (.invokestatic k) = 1 := show ¬ (2 : Nat) = 1 by decide
  rw [if_neg c0, if_neg c1, if_neg (by decide), if_neg (by decide), if_neg (by decide), if_pos rfl]
  simp only [List.map_cons, yv]
  rw [if_pos (show ((st.map yv).map fun v => v.category).sum ≤ 8 from hcat), hv2]
  exact hx2
/-- arraycopy: n ints of cell b from sp on come to cell a's place dp -/
def ycopy (M : YM) (a b sp dp n : Int) : YM := fun c k => if c = a ∧ dp ≤ k ∧ k < dp + n then M b (sp + (k - dp)) else M c k
theorem r_copy {a b sp dp n : Int} {na nb k : Nat} (hi : xi mi pc = some (.invokestatic k, 9999, wp)) (ha : 0 ≤ a ∧ a < 94) (hb : 0 ≤ b ∧ b < 94) (hka : yk a = (0, na)) (hkb : yk b = (0, nb)) (hn : 0 ≤ n) (hsp : 0 ≤ sp ∧ sp + n ≤ nb) (hdp : 0 ≤ dp ∧ dp + n ≤ na) (hna : na < 100000) (hnb : nb < 100000) (hcat : ycats st ≤ 8) (hd : 0 < d) (kk : ry S d mi (pc + 3) ls st (ycopy M a b sp dp n) N Q) : ry S d mi pc ls (.inl n :: .inl dp :: .inr (.inr a) :: .inl sp :: .inr (.inr b) :: st) M N Q := by
  obtain ⟨em, hem⟩ := xme_of_xi hi
  obtain ⟨d', rfl⟩ : ∃ d', d = d' + 1 := ⟨d - 1, by omega⟩
  obtain ⟨n2, r2, M2, N2, hx2, hq2⟩ := kk
  refine ⟨n2 + 1, r2, M2, N2, ?_, hq2⟩
  have e1 := t32 (a := n) (by omega)
  have e2 := t32 (a := sp) (by omega)
  have e3 := t32 (a := dp) (by omega)
  have f1 : (Int32.ofInt n).toNatClampNeg = n.toNat := by show (Int32.ofInt n).toInt.toNat = _; rw [e1]
  have f2 : (Int32.ofInt sp).toNatClampNeg = sp.toNat := by show (Int32.ofInt sp).toInt.toNat = _; rw [e2]
  have f3 : (Int32.ofInt dp).toNatClampNeg = dp.toNat := by show (Int32.ofInt dp).toInt.toNat = _; rw [e3]
  have g1 : xkind a.toNat = (0, na) := by rw [yk_eq ha.1, hka]
  have g2 : xkind b.toNat = (0, nb) := by rw [yk_eq hb.1, hkb]
  have hcp : xcopy ((.inl n :: .inl dp :: .inr (.inr a) :: .inl sp :: .inr (.inr b) :: st : List YV).map yv) (ym M N) = some (st.map yv, ym (ycopy M a b sp dp n) N) := by
    unfold xcopy
    simp only [List.map_cons, yv]
    rw [if_pos (by
      rw [g1, g2, e1, e2, e3]
      exact ⟨⟨ycell ha, rfl⟩, ⟨ycell hb, rfl⟩, hsp.1, hdp.1, hn, hsp.2, hdp.2, hcat⟩), f1, f2, f3]
    congr 2
    unfold ym
    dsimp only
    congr 2
    funext c k
    unfold xur va_cpy ycopy
    by_cases hc : c = a.toNat
    · by_cases hk : dp.toNat ≤ k ∧ k < dp.toNat + n.toNat
      · rw [if_pos hc, if_pos hk, if_pos (by omega)]
        dsimp only
        rw [Int.toNat_of_nonneg hb.1, show ((sp.toNat + (k - dp.toNat) : Nat) : Int) = sp + ((k : Int) - dp) by omega]
      · rw [if_pos hc, if_neg hk, if_neg (by omega)]
        dsimp only
        rw [hc]
    · rw [if_neg hc, if_neg (by omega)]
  unfold xexec
  rw [hem, hi]
  dsimp only
  have c0 : ¬ xcl (.invokestatic k) = 0 := show ¬ (2 : Nat) = 0 by decide
  have c1 : ¬ xcl (.invokestatic k) = 1 := show ¬ (2 : Nat) = 1 by decide
  rw [if_neg c0, if_neg c1, if_neg (by decide), if_pos rfl, hcp]
  exact hx2
end YC
