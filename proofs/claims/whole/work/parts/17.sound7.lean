/-! calls, and a whole run -/
theorem xlocs_args {ad : Nat → Nat} {fmt : Value} (hf : xfm fmt) : ∀ (as : List Value) (k i : Nat) (v : Value), (xlocs as)[i]? = some (some v) → (k + i, xv ad fmt v) ∈ lv_args k (as.map (xv ad fmt))
  | [], _, i, v, h => by simp [xlocs] at h
  | a :: r, k, i, v, h => by
    unfold xlocs at h
    show _ ∈ (k, xv ad fmt a) :: lv_args (if (xv ad fmt a).category = 2 then k + 2 else k + 1) (r.map (xv ad fmt))
    rw [xv_cat hf]
    split at h
    · rename_i hc
      rw [if_pos hc]
      match i, h with
      | 0, h => cases h; exact List.mem_cons_self
      | 1, h => cases h
      | j + 2, h =>
        have h2 := xlocs_args (ad := ad) hf r (k + 2) j v h
        rw [show k + (j + 2) = k + 2 + j by omega]
        exact List.mem_cons_of_mem _ h2
    · rename_i hc
      rw [if_neg hc]
      match i, h with
      | 0, h => cases h; exact List.mem_cons_self
      | j + 1, h =>
        have h2 := xlocs_args (ad := ad) hf r (k + 1) j v h
        rw [show k + (j + 1) = k + 1 + j by omega]
        exact List.mem_cons_of_mem _ h2
theorem xlocs_len {ad : Nat → Nat} {fmt : Value} (hf : xfm fmt) : ∀ (as : List Value), (lg_sl (as.map (xv ad fmt))).length = (xlocs as).length
  | [] => rfl
  | a :: r => by
    have h := xlocs_len (ad := ad) hf r
    unfold xlocs
    unfold lg_sl at h ⊢
    rw [List.map_cons, List.flatMap_cons, List.length_append, h, xv_cat hf]
    split
    · simp; omega
    · simp; omega
theorem xLh.entry {ad : Nat → Nat} {fmt : Value} (hf : xfm fmt) {as : List Value} {n : Nat} (h : (xlocs as).length ≤ n) : xLh ad fmt ((lg_sl (as.map (xv ad fmt)) ++ List.replicate (n - (lg_sl (as.map (xv ad fmt))).length) Slot.unset).toArray) n (xpad n (xlocs as)) := by
  have h0 := xlocs_len (ad := ad) hf as
  obtain ⟨h1, h2, h3⟩ := lv_entry (as.map (xv ad fmt)) (n := n) (by rw [h0]; exact h)
  refine ⟨h1, h2, by simp [xpad]; omega, fun i v hi => ?_⟩
  unfold xpad at hi
  rcases Nat.lt_or_ge i (xlocs as).length with hl | hl
  · rw [List.getElem?_append_left hl] at hi
    have h4 := h3 _ (xlocs_args hf as 0 i v hi)
    rw [Nat.zero_add] at h4
    exact h4
  · rw [List.getElem?_append_right hl, List.getElem?_replicate] at hi
    split at hi <;> cases hi
theorem xret_st {i : Instr} {ret : Option FieldType} {st : List Value} {r : Option Value} (h : xret i ret st = some r) : st = r.toList := by
  unfold xret at h
  split at h
  · split at h <;> cases h
    rfl
  · cases h; rfl
  · cases h; rfl
  · cases h
theorem xcl_two {i : Instr} (h0 : ¬ xcl i = 0) (h1 : ¬ xcl i = 1) : (∃ k, i = .invokestatic k) ∨ (∃ k, i = .invokevirtual k) ∨ ∃ k, i = .invokespecial k := by
  cases i <;> first | exact absurd rfl h0 | exact absurd rfl h1 | exact Or.inl ⟨_, rfl⟩ | exact Or.inr (Or.inl ⟨_, rfl⟩) | exact Or.inr (Or.inr ⟨_, rfl⟩)
/-- what a call is given, and asks of the world -/
def xPc (S : XS) (D : va_G) (tys : List (ClassId × FieldType)) (ad : Nat → Nat) (ca : Nat → ClassId) (fmt : Value) (X : XM) (sz : Nat) (as : List Value) : Array Value → State → Prop :=
  va_Pc (as.map (xv ad fmt)) (fun U => U.heap.size = sz ∧ va_P D vwCl (xw ad ca X) U.heap ∧ va_K D vwCl tys U ∧ va_D (fun _ => True) (xw ad ca X) ∧ xE S ad fmt (va_A (xw ad ca X) sz) U U.heap)
def xQc (D : va_G) (ad : Nat → Nat) (fmt : Value) (X X1 : XM) (r : Option Value) (A : Nat → Prop) : Array Value → State → Outcome → State → Prop := fun _ st o t =>
  (∃ (tys1 : List (ClassId × FieldType)) (ad1 : Nat → Nat) (ca1 : Nat → ClassId), o = .returned (r.map (xv ad1 fmt)) ∧ (X1.1 = X.1 → ad1 = ad) ∧ (∀ a, a < X.1 ∨ 10000 ≤ a → ad1 a = ad a) ∧ va_K D vwCl tys1 t ∧ xW D tys1 ad1 ca1 A X1 t.heap) ∧ va_F A st t
theorem xPc.blind {S : XS} {D : va_G} {tys : List (ClassId × FieldType)} {ad : Nat → Nat} {ca : Nat → ClassId} {fmt : Value} {X : XM} {sz : Nat} {as : List Value} : FrameBlind (xPc S D tys ad ca fmt X sz as) := by
  intro a U g mk h
  obtain ⟨h1, h2, h3, h4, h5, h6⟩ := h
  exact ⟨h1, h2, h3, va_K.moved (u := U) (U := U.calling g mk a) (Vm.Alike.refl U.vm) h4, h5, h6.go (State.WarmedH.refl U) (Nat.le_refl _) (fun _ _ _ => rfl) (fun _ z => z)⟩
/-- a run of n instructions of ours is a run of the machine -/
def xSnd (S : XS) (l : Launch) (n : Nat) : Prop := ∀ (d mi pc : Nat) (ls : XL) (st : List Value) (X : XM) (r : Option Value) (X' : XM) (ent : XMe), xme mi = some ent → xexec S n d mi pc ls st X = some (r, X') →
  X.1 ≤ X'.1 ∧ ∀ (p : Program) (e : Env) (R : Room) (s : State) (m : MethodId) (args : Array Value) (below : List Frame) (meth : Method) (c : Code) (H : Heap) (locs : List Loc) (cells slots : Nat) (Q : State → Prop) (la : Array Slot) (D : va_G) (tys : List (ClassId × FieldType)) (ad : Nat → Nat) (ca : Nat → ClassId) (fmt : Value) (A : Nat → Prop),
    xFr p R s m args meth c ent d → xfm fmt → va_K D vwCl tys s → xW D tys ad ca A X H → va_S A s.heap H locs → (∀ q, s.heap.size ≤ q → A q) → xE S ad fmt A s s.heap → xLh ad fmt la ent.2.2.2.1 ls → cells + (X'.1 - X.1) ≤ R.cells → slots + (xss X'.1 - xss X.1) ≤ R.slots →
    (∀ (H1 : Heap) (locs1 : List Loc) (tys1 : List (ClassId × FieldType)) (ad1 : Nat → Nat) (ca1 : Nat → ClassId) (la1 : Array Slot) (pc1 : Nat) (i1 : Instr), (X'.1 = X.1 → ad1 = ad) → (∀ a, a < X.1 ∨ 10000 ≤ a → ad1 a = ad a) → va_K D vwCl tys1 s → xW D tys1 ad1 ca1 A X' H1 → va_S A s.heap H1 locs1 → decode ent.2.2.1 pc1 = .ok (i1, xlen i1 pc1) → xret i1 ent.2.2.2.2.1 r.toList = some r →
      W p l e R s m args below meth c H1 locs1 (cells + (X'.1 - X.1)) (slots + (xss X'.1 - xss X.1)) Q (F0 m pc1 la1 (r.toList.map (xv ad1 fmt)))) →
    W p l e R s m args below meth c H locs cells slots Q (F0 m pc la (st.map (xv ad fmt)))
theorem xokM_spec {own : String} {y : MethodName} {b : ByteArray} {maxL : Nat} {ret : Option FieldType} {kd n wc wk ws wi : Nat} (h : xokM (own, y, b, maxL, ret, kd, n, (wc, wk, ws, wi)) = true) :
    y.cls = own ∧ plainName own = true ∧ (own ≠ "java/lang/invoke/MethodHandle" ∧ own ≠ "java/lang/invoke/VarHandle") ∧ maxL ≤ 41 ∧ (parseMethodDescriptor y.desc).map (fun d => d.parameters.length) = some n ∧ lw_tbl[wi]? = some (.initialized own) ∧
    (kd = 0 → lw_tbl[wk]? = some (.static y)) ∧ (kd ≠ 0 → lw_tbl[wk]? = some (.instanceMethod y)) ∧ (kd ≠ 0 → kd < 200 → lw_tbl[ws]? = some (.selects own y y)) ∧ (kd = 150 → own = "java/lang/String") ∧ (kd ≠ 0 → kd < 200 → kd ≠ 150 → ∃ C : vw_C, vwCl[kd - 100]? = some C ∧ C.1 = own) ∧ (200 ≤ kd → y.name = "<init>" ∧ ret = none) := by
  unfold xokM at h
  simp only [Bool.and_eq_true, decide_eq_true_eq] at h
  obtain ⟨⟨⟨⟨⟨⟨⟨h1, h2⟩, h3⟩, h4⟩, h5⟩, h6⟩, h7⟩, h8⟩ := h
  refine ⟨h1, h2, ⟨h3, h4⟩, h5, h6, h7, fun hk => ?_, fun hk => ?_, fun hk h2 => ?_, fun hk => ?_, fun hk h2 h3 => ?_, fun hk => ?_⟩
  · rw [if_pos hk] at h8
    exact of_decide_eq_true h8
  · rw [if_neg hk, Bool.and_eq_true] at h8
    exact of_decide_eq_true h8.1
  · rw [if_neg hk, Bool.and_eq_true, if_pos h2, Bool.and_eq_true] at h8
    exact of_decide_eq_true h8.2.1
  · rw [if_neg (by omega), Bool.and_eq_true, if_pos (by omega), Bool.and_eq_true, if_pos hk] at h8
    exact of_decide_eq_true h8.2.2
  · rw [if_neg hk, Bool.and_eq_true, if_pos h2, Bool.and_eq_true, if_neg h3] at h8
    have h9 := h8.2.2
    split at h9
    · rename_i C hC
      exact ⟨C, hC, of_decide_eq_true h9⟩
    · cases h9
  · rw [if_neg (by omega), Bool.and_eq_true, if_neg (by omega), Bool.and_eq_true, Bool.and_eq_true] at h8
    exact ⟨of_decide_eq_true h8.2.1.1, of_decide_eq_true h8.2.1.2⟩
theorem x_good {e : XMe} (h : Jvm.Cond.code e.2.1 e.2.2.1 e.2.2.2.1 e.2.2.2.2.1 ∈ lw_tbl) : GoodIn xGT (Jvm.Cond.code e.2.1 e.2.2.1 e.2.2.2.1 e.2.2.2.2.1 :: xGT) := by
  intro w hw
  rcases List.mem_cons.mp hw with rfl | hw
  · exact ⟨xGT_in h rfl, Or.inl rfl⟩
  · exact ⟨hw, good_of_word (List.mem_filter.mp hw).2⟩
set_option maxHeartbeats 4000000 in
/-- a method of ours has a contract -/
theorem x_met (hck : xCK) {S : XS} {l : Launch} {n : Nat} (ih : xSnd S l n) {mj : Nat} {e2 : XMe} (hm : xme mj = some e2) (h0 : mj ≠ 0) {d' : Nat} {as : List Value} {X X1 : XM} {r : Option Value} (hx : xexec S n d' mj 0 (xpad e2.2.2.2.1 (xlocs as)) [] X = some (r, X1)) (hlen : (xlocs as).length ≤ e2.2.2.2.1)
    (D : va_G) (tys : List (ClassId × FieldType)) (ad : Nat → Nat) (ca : Nat → ClassId) (fmt : Value) (hf : xfm fmt) (sz : Nat) (hty : ∀ c, c < X.1 → (xkind c).1 < 200 → ∃ t0 : Nat, tys[t0]? = some (ca c, xty (xkind c).1)) (hwf : ∀ c k a, X.2.2.2 c k = some a → a < X.1) (hle : X.1 ≤ xSH.length) :
    Met l e2.2.1 (Jvm.Cond.code e2.2.1 e2.2.2.1 e2.2.2.2.1 e2.2.2.2.2.1 :: xGT) { frames := d', cells := X1.1 - X.1, slots := xss X1.1 - xss X.1, locals := 60 * d' } (xPc S D tys ad ca fmt X sz as) (xQc D ad fmt X X1 r (va_A (xw ad ca X) sz)) (X1.1 - X.1) (xss X1.1 - xss X.1) (va_A (xw ad ca X) sz) := by
  obtain ⟨own, y, b, maxL, ret, kd, na, wc, wk, ws, wi⟩ := e2
  obtain ⟨hM, hcode⟩ := xme_ok hck hm h0
  obtain ⟨m1, m2, m3, m4, m5, m6, m7, m8, m9, m10, m11, m12⟩ := xokM_spec hM
  dsimp only at hx hlen hcode ⊢
  subst m1
  refine Met.ofW (cc := b) (maxL := maxL) (ret := ret) m2 rfl ?_
  intro p e s m args below meth c s₁ B hml hv
  obtain ⟨rfl, hsz, hP, hK, hD0, hE⟩ := hv
  subst hsz
  have hD := hD0.self (sz := s.heap.size)
  have hts := atoms_spec (ws := Jvm.Cond.code y b maxL ret :: xGT) B.pre
  have hFr : xFr p (headSpec (Jvm.Cond.code y b maxL ret :: xGT) { frames := d', cells := X1.1 - X.1, slots := xss X1.1 - xss X.1, locals := 60 * d' }).room s m (as.map (xv ad fmt)).toArray meth c (y.cls, y, b, maxL, ret, kd, na, wc, wk, ws, wi) d' :=
    ⟨B.exec, B.bytes, hml, B.returns, findClass_of_methodNamed B.named, fun w hw => hts w (List.mem_cons_of_mem _ hw), B.notSynchronized, fun hk => by rw [(name_of_methodNamed B.named B.method).1]; exact (m12 hk).1, Nat.le_refl _, Nat.le_refl _⟩
  rw [lg_entry_eq]
  obtain ⟨g1, g2⟩ := ih d' mj 0 _ [] X r X1 _ hm hx
  refine g2 p e _ s m _ below meth c s.heap [] 0 0 _ _ D tys ad ca fmt (va_A (xw ad ca X) s.heap.size) hFr hf hK ⟨hP, hD, hty, hwf, hle⟩ va_S.rf (fun q hq => Or.inr hq) hE (xLh.entry hf hlen) (by show 0 + _ ≤ X1.1 - X.1; omega) (by show 0 + _ ≤ xss X1.1 - xss X.1; omega) ?_
  intro H1 locs1 tys1 ad1 ca1 la1 pc1 i1 a1 a2 K1 W1 S1 hdec hret
  simp only [Nat.zero_add]
  have hq : ∀ t : State, t.heap = H1 → s.WarmedH t.vm → xQc D ad fmt X X1 r (va_A (xw ad ca X) s.heap.size) (as.map (xv ad fmt)).toArray s (.returned (r.map (xv ad1 fmt))) t := fun t ht hW => ⟨⟨tys1, ad1, ca1, rfl, a1, a2, va_K.moved hW.alike K1, by rw [ht]; exact W1⟩, S1.F ht⟩
  unfold xret at hret
  dsimp only at hret
  split at hret
  · rename_i v ty hst
    split at hret
    · rename_i hn
      cases hret
      exact W.zret (ty := ty) B.exec B.bytes B.returns hn hq S1.2.2 hdec B.notSynchronized
    · cases hret
  · cases hret
    exact W.lret B.exec B.bytes B.returns hq S1.2.2 hdec B.notSynchronized
  · cases hret
    exact W.vret B.exec B.bytes B.returns hq S1.2.2 hdec B.notSynchronized
  · cases hret
