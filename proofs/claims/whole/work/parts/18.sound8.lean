section XC
variable {p : Program} {l : Launch} {e : Env} {R : Room} {s : State} {m : MethodId} {args : Array Value} {below : List Frame} {meth : Method} {c : Code} {H : Heap} {locs : List Loc} {cells slots : Nat} {Q : State → Prop}
variable {ent : XMe} {d rs wp pc nL : Nat} {i : Instr} {la : Array Slot} {st : List Value} {ls : XL} {X X1 : XM} {S : XS} {D : va_G} {tys : List (ClassId × FieldType)} {ad : Nat → Nat} {ca : Nat → ClassId} {fmt : Value} {A : Nat → Prop}
theorem x_cont {mc ms : Nat} {free : Addr → Prop} {A1 : Nat → Prop} {a : Array Value} {rest st0 : List Value} {r : Option Value} (hr : va_Run p l e R s m args below meth c H locs cells slots mc ms (F0 m pc la st0) rest (xQc D ad fmt X X1 r A1 a) free) (hS : va_S A s.heap H locs) (hA : ∀ q, A1 q → A q) (hf : ∀ q, free q → A q)
    (kk : ∀ (H1 : Heap) (locs1 : List Loc) (tys1 : List (ClassId × FieldType)) (ad1 : Nat → Nat) (ca1 : Nat → ClassId), (X1.1 = X.1 → ad1 = ad) → (∀ a, a < X.1 ∨ 10000 ≤ a → ad1 a = ad a) → va_K D vwCl tys1 s → xW D tys1 ad1 ca1 A X1 H1 → va_S A s.heap H1 locs1 → W p l e R s m args below meth c H1 locs1 (cells + mc) (slots + ms) Q (F0 m (pc + 3) la (r.toList.map (xv ad1 fmt) ++ rest))) : W p l e R s m args below meth c H locs cells slots Q (F0 m pc la st0) := by
  intro T hT Xs
  obtain ⟨v, st₀, t, T', L, h0, X', hL, e1, e2, ⟨⟨tys1, ad1, ca1, hv, b1, b2, b3, b4⟩, hz, hk⟩, hst⟩ := hr T hT Xs
  cases hv
  rw [h0] at hz hk
  have hal : s.vm.Alike t.vm := by rw [← e2]; exact X'.warmed.alike
  obtain ⟨t2, a1, b9⟩ := kk T'.heap (locs ++ L) tys1 ad1 ca1 b1 b2 (va_K.moved hal.symm b3) (by rw [e1]; exact ⟨b4.1, b4.2.1.weaken (fun _ _ _ h => hA _ h), b4.2.2⟩)
    ⟨Nat.le_trans hS.1 (by rw [e1]; exact hz), fun q h1 h2 => by rw [e1, hk q (Nat.lt_of_lt_of_le h1 hS.1) (fun z => h2 (hA q z))]; exact hS.2.1 q h1 h2, fun q hq => by
      rcases List.mem_append.mp hq with h | h
      · exact hS.2.2 q h
      · exact hf _ (hL q h)⟩ T' rfl X'
  refine ⟨t2, hst t2 ?_, b9⟩
  rw [show (r.map (xv ad1 fmt)).toList = r.toList.map (xv ad1 fmt) by cases r <;> rfl]
  exact a1
theorem xinv_spec {rs : Nat} {mj : Nat} {e2 : XMe} {as rest : List Value} (h : xinv i rs st X = some (mj, e2, as, rest)) :
    mj = rs % 10000 ∧ xme mj = some e2 ∧ rs < 20000 ∧ as.reverse ++ rest = st ∧ (rest.map fun v => v.category).sum ≤ 8 ∧ (xlocs as).length ≤ e2.2.2.2.1 ∧
    (if e2.2.2.2.2.2.1 = 0 then as.length = e2.2.2.2.2.2.2.1 else ∃ (v : Value) (As : List Value), as = v :: As ∧ As.length = e2.2.2.2.2.2.2.1 ∧ xrecv X e2.2.2.2.2.2.1 v = true) ∧
    ((∃ k, i = .invokestatic k) → e2.2.2.2.2.2.1 = 0) ∧ ((∃ k, i = .invokevirtual k) → 100 ≤ e2.2.2.2.2.2.1 ∧ e2.2.2.2.2.2.1 < 200) ∧ ((∃ k, i = .invokespecial k) → 200 ≤ e2.2.2.2.2.2.1) := by
  unfold xinv at h
  cases hm : xme (rs % 10000) with
  | none => rw [hm] at h; cases h
  | some e3 =>
    rw [hm] at h
    dsimp only at h
    split at h
    · rename_i hc
      cases h
      unfold xinvc at hc
      simp only [Bool.and_eq_true, decide_eq_true_eq] at hc
      obtain ⟨⟨⟨⟨c1, c2⟩, c3⟩, c4⟩, c5⟩ := hc
      unfold xcnd at c5
      refine ⟨rfl, hm, c1, by rw [List.reverse_reverse]; exact List.take_append_drop _ _, c3, c4, ?_, ?_, ?_, ?_⟩
      · by_cases h0 : e2.2.2.2.2.2.1 = 0
        · have hn : xnar e2 = e2.2.2.2.2.2.2.1 := by unfold xnar; rw [if_pos h0]
          rw [if_pos h0, hn]
          rw [hn] at c2
          simp only [List.length_reverse, List.length_take]
          omega
        · have hn : xnar e2 = e2.2.2.2.2.2.2.1 + 1 := by unfold xnar; rw [if_neg h0]
          rw [if_neg h0]
          have hx : xrecv X e2.2.2.2.2.2.1 ((st.drop (xnar e2 - 1)).headD .null) = true := by
            split at c5
            · exact absurd (of_decide_eq_true c5) h0
            · rw [Bool.and_eq_true] at c5; exact c5.2
            · rw [Bool.and_eq_true] at c5; exact c5.2
            · cases c5
          rw [hn, Nat.add_sub_cancel] at hx
          rw [hn] at c2 ⊢
          have hl : e2.2.2.2.2.2.2.1 < st.length := by omega
          refine ⟨st[e2.2.2.2.2.2.2.1], (st.take e2.2.2.2.2.2.2.1).reverse, ?_, by simp; omega, ?_⟩
          · rw [List.take_succ_eq_append_getElem hl]
            simp
          · rw [List.drop_eq_getElem_cons hl] at hx
            exact hx
      · rintro ⟨k, rfl⟩
        exact of_decide_eq_true c5
      · rintro ⟨k, rfl⟩
        rw [Bool.and_eq_true, Bool.and_eq_true] at c5
        exact ⟨of_decide_eq_true c5.1.1, of_decide_eq_true c5.1.2⟩
      · rintro ⟨k, rfl⟩
        rw [Bool.and_eq_true] at c5
        exact of_decide_eq_true c5.1
    · cases h
theorem xcats {hf : xfm fmt} (rest : List Value) : ((rest.map (xv ad fmt)).map fun v => v.category).sum = (rest.map fun v => v.category).sum := by
  rw [List.map_map]
  congr 1
  apply List.map_congr_left
  intro v _
  exact xv_cat hf v
set_option maxHeartbeats 4000000 in
/-- a call: the callee's contract, then what comes behind -/
theorem x_call (hck : xCK) {n : Nat} (ih : xSnd S l n) {d' : Nat} (hF : xFr p R s m args meth c ent (d' + 1)) (hf : xfm fmt) (hd : decode ent.2.2.1 pc = .ok (i, xlen i pc)) (hI : xokI ent.1 pc i rs wp = true) (hi : (∃ k, i = .invokestatic k) ∨ (∃ k, i = .invokevirtual k) ∨ ∃ k, i = .invokespecial k)
    (h8 : rs ≠ 8888) (h9 : rs ≠ 9999) (h97 : rs ≠ 9997) (h98 : rs ≠ 9998) {mj : Nat} {e2 : XMe} {as rest : List Value} (hv : xinv i rs st X = some (mj, e2, as, rest)) {r : Option Value} (hx : xexec S n d' mj 0 (xpad e2.2.2.2.1 (xlocs as)) [] X = some (r, X1))
    (hK : va_K D vwCl tys s) (hW : xW D tys ad ca A X H) (hS : va_S A s.heap H locs) (hA : ∀ q, s.heap.size ≤ q → A q) (hE : xE S ad fmt A s s.heap) (hl : xLh ad fmt la ent.2.2.2.1 ls) (hc : cells + (X1.1 - X.1) ≤ R.cells) (hs : slots + (xss X1.1 - xss X.1) ≤ R.slots)
    (kk : ∀ (H1 : Heap) (locs1 : List Loc) (tys1 : List (ClassId × FieldType)) (ad1 : Nat → Nat) (ca1 : Nat → ClassId), (X1.1 = X.1 → ad1 = ad) → (∀ a, a < X.1 ∨ 10000 ≤ a → ad1 a = ad a) → va_K D vwCl tys1 s → xW D tys1 ad1 ca1 A X1 H1 → va_S A s.heap H1 locs1 → W p l e R s m args below meth c H1 locs1 (cells + (X1.1 - X.1)) (slots + (xss X1.1 - xss X.1)) Q (F0 m (pc + 3) la (r.toList.map (xv ad1 fmt) ++ rest.map (xv ad fmt)))) :
    W p l e R s m args below meth c H locs cells slots Q (F0 m pc la (st.map (xv ad fmt))) := by
  obtain ⟨hx0, hb, hml, hr, hown, hts, hlk, hin, hfr, hlo⟩ := id hF
  obtain ⟨v1, v2, v3, v4, v5, v6, v7, v8, v9, v10⟩ := xinv_spec hv
  subst v1
  have h0 : rs % 10000 ≠ 0 := by
    rcases hi with ⟨k, rfl⟩ | ⟨k, rfl⟩ | ⟨k, rfl⟩ <;> simp only [xokI, v2] at hI
    · rw [if_neg h9, if_neg h97, if_neg h98] at hI
      split at hI
      · omega
      · rw [Bool.and_eq_true] at hI; exact of_decide_eq_true hI.1
    · rw [Bool.and_eq_true] at hI; exact of_decide_eq_true hI.1
    · rw [if_neg h8, Bool.and_eq_true] at hI; exact of_decide_eq_true hI.1
  have hMet := x_met hck ih v2 h0 hx v6 D tys ad ca fmt hf H.size hW.2.2.1 hW.2.2.2.1 hW.2.2.2.2
  obtain ⟨own, y, b, maxL, ret, kd, na, wc, wk, ws, wi⟩ := e2
  obtain ⟨hM, hcode⟩ := xme_ok hck v2 h0
  obtain ⟨m1, m2, m3, m4, m5, m6, m7, m8, m9, m10, m11, m12⟩ := xokM_spec hM
  dsimp only at hMet hcode v6 v7 v8 v9 v10
  subst m1
  have hG := x_good (e := (y.cls, y, b, maxL, ret, kd, na, wc, wk, ws, wi)) hcode
  dsimp only at hG
  have hAB : ∀ q, va_A (xw ad ca X) H.size q → A q := by
    intro q h
    rcases h with ⟨k, e, h⟩ | h
    · exact hW.2.1.2 k (q, e) h
    · exact hA q (Nat.le_trans hS.1 h)
  have hpre : ∀ U : State, U.heap = H → s.WarmedH U.vm → xPc S D tys ad ca fmt X H.size as (as.map (xv ad fmt)).toArray U := by
    intro U hU hWm
    refine ⟨rfl, by rw [hU], by rw [hU]; exact hW.1, va_K.moved hWm.alike hK, hW.2.1.weaken (fun _ _ _ _ => trivial), ?_⟩
    rw [hU]
    exact hE.go hWm hS.1 hS.2.1 hAB
  have hRm : d' + 1 ≤ R.frames ∧ 8 + (maxL + 11) + 60 * d' ≤ R.locals := ⟨hfr, by omega⟩
  have hcat : 2 * (F0 m pc la (st.map (xv ad fmt))).monitorRoom + ((rest.map (xv ad fmt)).map fun v => v.category).sum ≤ 8 := lv_room (by rw [xcats (hf := hf)]; exact v5)
  have hini : (Jvm.Cond.initialized y.cls).before args s = true := hF.word m6 rfl
  have hsz : (F0 m pc la (st.map (xv ad fmt))).locals.size = ent.2.2.2.1 := hl.1
  have hdsc : y.cls ≠ "java/lang/invoke/MethodHandle" ∧ y.cls ≠ "java/lang/invoke/VarHandle" ∧ (parseMethodDescriptor y.desc).map (fun d => d.parameters.length) = some na := ⟨m3.1, m3.2, m5⟩
  have hcont := fun {a : Array Value} {st0 : List Value} (hr : va_Run p l e R s m args below meth c H locs cells slots (X1.1 - X.1) (xss X1.1 - xss X.1) (F0 m pc la st0) (rest.map (xv ad fmt)) (xQc D ad fmt X X1 r (va_A (xw ad ca X) H.size) a) (va_A (xw ad ca X) H.size)) => x_cont (Q := Q) hr hS hAB hAB kk
  have hst : ∀ As : List Value, As.reverse ++ rest = st → (As.map (xv ad fmt)).reverse ++ rest.map (xv ad fmt) = st.map (xv ad fmt) := by
    intro As h
    rw [← h, List.map_append, List.map_reverse]
  rcases hi with ⟨idx, rfl⟩ | ⟨idx, rfl⟩ | ⟨idx, rfl⟩
  · have hk0 : kd = 0 := v8 ⟨idx, rfl⟩
    rw [if_pos hk0] at v7
    have hsta := hF.word (m7 hk0) rfl
    simp only [xokI, v2] at hI
    rw [if_neg h9, if_neg h97, if_neg h98] at hI
    split at hI
    · omega
    rw [Bool.and_eq_true] at hI
    have hI2 := hI.2
    by_cases hn : rs < 10000
    · rw [if_pos hn] at hI2
      have hlk2 := hF.word (of_decide_eq_true hI2) rfl
      exact hcont (va_runS (As := as.map (xv ad fmt)) (index := idx) ⟨hx0, hb, hml, hown, hts⟩ hMet ⟨callB_of na hts hG rfl rfl rfl hini hlk2 hdsc hRm, hsta⟩ ⟨xPc.blind, hpre⟩ rfl (by rw [List.length_map]; exact v7) hsz (hst _ v4).symm hcat hd ⟨hc, hs⟩)
    · rw [if_neg hn] at hI2
      have hnest := hE.2.2.2.2.2.2.2.1 _ _ _ _ (of_decide_eq_true hI2)
      exact hcont (va_runSN (As := as.map (xv ad fmt)) (index := idx) ⟨hx0, hb, hml, hown, hts⟩ hMet ⟨va_cnB na hts hG rfl rfl rfl hnest hini hdsc hRm, hsta, trivial⟩ ⟨xPc.blind, hpre⟩ rfl (by rw [List.length_map]; exact v7) hsz (hst _ v4).symm hcat hd ⟨hc, hs⟩)
  · obtain ⟨k1, k2⟩ := v9 ⟨idx, rfl⟩
    have hk0 : kd ≠ 0 := by omega
    rw [if_neg hk0] at v7
    obtain ⟨v, As, rfl, hAs, hrec⟩ := v7
    have hinst := hF.word (m8 hk0) rfl
    have hsel := hF.word (m9 hk0 k2) rfl
    simp only [xokI, v2] at hI
    rw [Bool.and_eq_true] at hI
    have hI2 := hI.2
    by_cases hn : rs < 10000
    · rw [if_pos hn] at hI2
      have hlk2 := hF.word (of_decide_eq_true hI2) rfl
      cases v with
      | ref b0 =>
        have hrcv : ∃ cellB : Cell, H[ad b0]? = some cellB ∧ cellB.vm.isStatics = false ∧ s.vm.findClass y.cls = some cellB.cls := by
          unfold xrecv at hrec
          dsimp only at hrec
          by_cases h15 : kd = 150
          · rw [if_pos h15] at hrec
            have hb0 : 10000 ≤ b0 ∧ b0 < 10000 + xSTR.length := of_decide_eq_true hrec
            have h8' := xSTR_len
            have key : ∀ b : Nat, 10000 ≤ b ∧ b < 10000 + xSTR.length → ∃ k : Nat, k < 8 ∧ b = 10000 + k := fun b h => ⟨b - 10000, by omega, by omega⟩
            obtain ⟨k, hk8, hk⟩ := key b0 hb0
            rw [m10 h15, show ad b0 = ad (10000 + k) by rw [← hk]]
            exact vk_recv hE.1 (i := k) hk8 hS
          · rw [if_neg h15, if_neg (by omega)] at hrec
            simp only [Bool.and_eq_true, decide_eq_true_eq] at hrec
            obtain ⟨C, hC, hCo⟩ := m11 hk0 k2 h15
            rw [← hCo]
            exact va_recv hK hW.1 (ci := kd - 100) (q0 := b0) hC (by rw [xw_get hrec.1.2, xce_obj (ci := kd - 100) (by omega)])
        exact hcont (va_runV (b := ad b0) (C := y.cls) (As := As.map (xv ad fmt)) (index := idx) ⟨hx0, hb, hml, hown, hts⟩ hMet ⟨callB_of na hts hG rfl rfl rfl hini hlk2 hdsc hRm, hinst, hsel⟩ ⟨xPc.blind, hrcv, hpre⟩ rfl (by rw [List.length_map]; exact hAs) hsz (by
          have h := hst _ v4
          rw [List.map_cons, List.reverse_cons, List.append_assoc] at h
          exact h.symm) hcat hd ⟨hc, hs⟩)
      | _ => cases hrec
    · rw [if_neg hn] at hI2
      cases hI2
  · have k1 : 200 ≤ kd := v10 ⟨idx, rfl⟩
    have hk0 : kd ≠ 0 := by omega
    rw [if_neg hk0] at v7
    obtain ⟨v, As, rfl, hAs, hrec⟩ := v7
    have hinst := hF.word (m8 hk0) rfl
    obtain ⟨hy1, hret⟩ := m12 k1
    subst hret
    simp only [xokI, v2] at hI
    rw [if_neg h8, Bool.and_eq_true] at hI
    have hI2 := hI.2
    cases v with
    | ref b0 =>
      have hstk : (st.map (xv ad fmt)) = (As.map (xv ad fmt)).reverse ++ .ref (ad b0) :: rest.map (xv ad fmt) := by
        have h := hst _ v4
        rw [List.map_cons, List.reverse_cons, List.append_assoc] at h
        exact h.symm
      by_cases hn : rs < 10000
      · rw [if_pos hn] at hI2
        have hlk2 := hF.word (of_decide_eq_true hI2) rfl
        exact hcont (va_runI (b := ad b0) (As := As.map (xv ad fmt)) (index := idx) ⟨hx0, hb, hml, hown, hts⟩ hMet ⟨callB_of na hts hG rfl rfl rfl hini hlk2 hdsc hRm, hy1, hinst⟩ ⟨xPc.blind, hpre⟩ rfl (by rw [List.length_map]; exact hAs) hsz hstk hcat hd ⟨hc, hs⟩)
      · rw [if_neg hn] at hI2
        have hnest := hE.2.2.2.2.2.2.2.1 _ _ _ _ (of_decide_eq_true hI2)
        exact hcont (va_runIN (b := ad b0) (As := As.map (xv ad fmt)) (index := idx) ⟨hx0, hb, hml, hown, hts⟩ hMet ⟨va_cnB na hts hG rfl rfl rfl hnest hini hdsc hRm, hy1, hinst⟩ ⟨xPc.blind, hpre⟩ rfl (by rw [List.length_map]; exact hAs) hsz hstk hcat hd ⟨hc, hs⟩)
    | _ => cases hrec
end XC
