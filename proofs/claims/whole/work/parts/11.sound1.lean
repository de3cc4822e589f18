/-! What our machine does, the machine does. First: values, locals, the world. -/
def xv (ad : Nat → Nat) (fmt : Value) : Value → Value
  | .ref a => .ref (ad a)
  | .retAddr _ => fmt
  | v => v
abbrev xfm (fmt : Value) : Prop := fmt = .null ∨ ∃ t : Nat, fmt = .ref t
theorem xv_cat {ad : Nat → Nat} {fmt : Value} (h : xfm fmt) (v : Value) : (xv ad fmt v).category = v.category := by
  rcases h with rfl | ⟨t, rfl⟩ <;> cases v <;> rfl
def xLh (ad : Nat → Nat) (fmt : Value) (la : Array Slot) (nL : Nat) (ls : XL) : Prop := la.size = nL ∧ lv_wf la ∧ ls.length = nL ∧ ∀ (i : Nat) (v : Value), ls[i]? = some (some v) → la[i]? = some (.val (xv ad fmt v))
def xlp (ad : Nat → Nat) (fmt : Value) (ls : XL) : List (Nat × Value) := (List.range ls.length).filterMap (fun i => (ls.getD i none).map (fun v => (i, xv ad fmt v)))
theorem xlp_mem {ad : Nat → Nat} {fmt : Value} {ls : XL} {i : Nat} {v : Value} (h : ls[i]? = some (some v)) : (i, xv ad fmt v) ∈ xlp ad fmt ls := by
  have hl := (List.getElem?_eq_some_iff.mp h).1
  exact List.mem_filterMap.mpr ⟨i, List.mem_range.mpr hl, by rw [List.getD_eq_getElem?_getD, h]; rfl⟩
theorem xlp_of {ad : Nat → Nat} {fmt : Value} {ls : XL} {q : Nat × Value} (h : q ∈ xlp ad fmt ls) : ∃ v, ls[q.1]? = some (some v) ∧ q.2 = xv ad fmt v := by
  obtain ⟨i, hi, hq⟩ := List.mem_filterMap.mp h
  rw [List.getD_eq_getElem?_getD] at hq
  cases hg : ls[i]? with
  | none => rw [hg] at hq; simp at hq
  | some o =>
    cases o with
    | none => rw [hg] at hq; simp at hq
    | some v =>
      rw [hg] at hq
      simp at hq
      subst hq
      exact ⟨v, hg, rfl⟩
theorem xLh.has {ad : Nat → Nat} {fmt : Value} {la : Array Slot} {nL : Nat} {ls : XL} (h : xLh ad fmt la nL ls) : lv_has la nL (xlp ad fmt ls) := by
  refine ⟨h.1, h.2.1, fun q hq => ?_⟩
  obtain ⟨v, h1, h2⟩ := xlp_of hq
  rw [h2]
  exact h.2.2.2 _ _ h1
theorem xLh.at {ad : Nat → Nat} {fmt : Value} {la : Array Slot} {nL : Nat} {ls : XL} (h : xLh ad fmt la nL ls) {i : Nat} {v : Value} (hi : ls[i]? = some (some v)) : la[i]? = some (.val (xv ad fmt v)) := h.2.2.2 i v hi
theorem xset_eq {α : Type} {l : List α} {j : Nat} {a b : α} (h : (l.set j a)[j]? = some b) : a = b := by
  by_cases hl : j < l.length
  · rw [List.getElem?_set_self hl] at h
    exact Option.some.inj h
  · rw [List.getElem?_eq_none (by rw [List.length_set]; omega)] at h
    cases h
theorem xkill_len (ls : XL) (i : Nat) : (if xcat2 (ls.getD (i - 1) none) then ls.set (i - 1) none else ls).length = ls.length := by
  split <;> simp
theorem xkill_get {ls : XL} {i j : Nat} {v : Value} (h : (if xcat2 (ls.getD (i - 1) none) then ls.set (i - 1) none else ls)[j]? = some (some v)) : ls[j]? = some (some v) ∧ ¬ (j = i - 1 ∧ v.category = 2) := by
  split at h
  · rename_i hc
    by_cases hj : j = i - 1
    · subst hj
      rw [List.getElem?_set] at h
      simp at h
    · rw [List.getElem?_set_ne (fun e => hj e.symm)] at h
      exact ⟨h, fun q => hj q.1⟩
  · rename_i hc
    refine ⟨h, fun q => hc ?_⟩
    rw [← q.1, List.getD_eq_getElem?_getD, h]
    simp [xcat2, q.2]
theorem xst1_len (ls : XL) (i : Nat) (v : Value) : (xst1 ls i v).length = ls.length := by
  unfold xst1
  rw [List.length_set, xkill_len]
theorem xst2_len (ls : XL) (i : Nat) (v : Value) : (xst2 ls i v).length = ls.length := by
  unfold xst2
  rw [List.length_set, List.length_set, xkill_len]
/-- a store of one word -/
theorem xLh.st1 {ad : Nat → Nat} {fmt : Value} (hf : xfm fmt) {nL i : Nat} {ls : XL} {v : Value} (hlen : ls.length = nL) {la' : Array Slot} (h : lv_has la' nL ((i, xv ad fmt v) :: (xlp ad fmt ls).filter (fun q => !(q.1 == i) && !(q.1 + 1 == i && q.2.category == 2)))) : xLh ad fmt la' nL (xst1 ls i v) := by
  refine ⟨h.1, h.2.1, by rw [xst1_len]; exact hlen, fun j w hj => ?_⟩
  unfold xst1 at hj
  by_cases hji : j = i
  · subst hji
    have hw := xset_eq hj
    cases hw
    exact h.2.2 (j, xv ad fmt v) List.mem_cons_self
  · rw [List.getElem?_set_ne (fun e => hji e.symm)] at hj
    obtain ⟨h1, h2⟩ := xkill_get hj
    refine h.2.2 (j, xv ad fmt w) (List.mem_cons_of_mem _ (List.mem_filter.mpr ⟨xlp_mem h1, ?_⟩))
    have hc := xv_cat (ad := ad) hf w
    simp only [Bool.and_eq_true, Bool.not_eq_true', beq_eq_false_iff_ne, ne_eq, hc]
    refine ⟨hji, ?_⟩
    cases hb : (j + 1 == i && w.category == 2) with
    | false => rfl
    | true =>
      simp at hb
      exact absurd ⟨by omega, hb.2⟩ h2
/-- a store of two words -/
theorem xLh.st2 {ad : Nat → Nat} {fmt : Value} (hf : xfm fmt) {nL i : Nat} {ls : XL} {v : Value} (hlen : ls.length = nL) {la' : Array Slot} (h : lv_has la' nL ((i, xv ad fmt v) :: (xlp ad fmt ls).filter (fun q => !(q.1 == i) && (!(q.1 == i + 1) && !(q.1 + 1 == i && q.2.category == 2))))) : xLh ad fmt la' nL (xst2 ls i v) := by
  refine ⟨h.1, h.2.1, by rw [xst2_len]; exact hlen, fun j w hj => ?_⟩
  unfold xst2 at hj
  by_cases hj1 : j = i + 1
  · subst hj1
    have hw := xset_eq hj
    cases hw
  rw [List.getElem?_set_ne (fun e => hj1 e.symm)] at hj
  by_cases hji : j = i
  · subst hji
    have hw := xset_eq hj
    cases hw
    exact h.2.2 (j, xv ad fmt v) List.mem_cons_self
  · rw [List.getElem?_set_ne (fun e => hji e.symm)] at hj
    obtain ⟨h1, h2⟩ := xkill_get hj
    refine h.2.2 (j, xv ad fmt w) (List.mem_cons_of_mem _ (List.mem_filter.mpr ⟨xlp_mem h1, ?_⟩))
    have hc := xv_cat (ad := ad) hf w
    simp only [Bool.and_eq_true, Bool.not_eq_true', beq_eq_false_iff_ne, ne_eq, hc]
    refine ⟨hji, hj1, ?_⟩
    cases hb : (j + 1 == i && w.category == 2) with
    | false => rfl
    | true =>
      simp at hb
      exact absurd ⟨by omega, hb.2⟩ h2
/-- the words that stay true under calls -/
def xGT : List Jvm.Cond := lw_tbl.filter goodWord
theorem xGT_in {w : Jvm.Cond} (h : w ∈ lw_tbl) (hg : goodWord w = true) : w ∈ xGT := List.mem_filter.mpr ⟨h, hg⟩
/-- the frame: what doesn't change in one run of a method -/
def xFr (p : Program) (R : Room) (s : State) (m : MethodId) (args : Array Value) (meth : Method) (c : Code) (e : XMe) (d : Nat) : Prop :=
  p.tables.exec = Jvm.exec ∧ c.code = e.2.2.1 ∧ c.maxLocals = e.2.2.2.1 ∧ meth.sig.returnType = e.2.2.2.2.1 ∧ s.vm.findClass e.1 = some m.cls ∧ (∀ w ∈ xGT, w.before args s = true) ∧ meth.locks = false ∧ (200 ≤ e.2.2.2.2.2.1 → meth.name = "<init>") ∧ d ≤ R.frames ∧ 60 * d ≤ R.locals
theorem xFr.word {p : Program} {R : Room} {s : State} {m : MethodId} {args : Array Value} {meth : Method} {c : Code} {e : XMe} {d : Nat} (h : xFr p R s m args meth c e d) {w : Jvm.Cond} {k : Nat} (hk : lw_tbl[k]? = some w) (hg : goodWord w = true) : w.before args s = true :=
  h.2.2.2.2.2.1 w (xGT_in (List.mem_of_getElem? hk) hg)
section XS0
variable {p : Program} {l : Launch} {e : Env} {R : Room} {s : State} {m : MethodId} {args : Array Value} {below : List Frame} {meth : Method} {c : Code} {H : Heap} {locs : List Loc} {cells slots : Nat} {Q : State → Prop}
theorem xgo_eq {pc : Nat} {off : Int} (h : 0 ≤ (pc : Int) + off) : (pc : Int) + off = ((xgo pc off : Nat) : Int) := by
  unfold xgo
  omega
set_option maxHeartbeats 4000000 in
theorem xs0_sound {ent : XMe} {d : Nat} {i : Instr} {rs wp pc pc' nL : Nat} {ls ls' : XL} {st st' : List Value} {ad : Nat → Nat} {fmt : Value} {la : Array Slot} {S : XS} {A : Nat → Prop}
    (hF : xFr p R s m args meth c ent d) (hd : decode ent.2.2.1 pc = .ok (i, xlen i pc)) (hI : xokI ent.1 pc i rs wp = true) (hf : xfm fmt)
    (hx : xs0 i rs wp pc ls st = some (pc', ls', st'))
    (hZ0 : va_Z "java/lang/String" "COMPACT_STRINGS" "Z" (.int 1) A s s.heap) (hZ1 : va_Z "BetweenThisAndThat$Saying" "ABOVE" "[I" (.ref (ad 30000)) A s s.heap) (hZ2 : va_Z "jdk/internal/util/Preconditions" "SIOOBE_FORMATTER" "Ljava/util/function/BiFunction;" fmt A s s.heap)
    (hR : ∀ (k : Nat) (q : String × Nat × String), xSTR[k]? = some q → vk_R q.1 q.2.1 q.2.2 (ad (10000 + k)) s)
    (hS : va_S A s.heap H locs) (hl : xLh ad fmt la nL ls)
    (kk : ∀ la' : Array Slot, xLh ad fmt la' nL ls' → W p l e R s m args below meth c H locs cells slots Q (F0 m pc' la' (st'.map (xv ad fmt)))) :
    W p l e R s m args below meth c H locs cells slots Q (F0 m pc la (st.map (xv ad fmt))) := by
  obtain ⟨hx0, hb, hml, hr, hown, hts, hlk, hin, hfr, hlo⟩ := id hF
  revert hd hI
  unfold xs0 at hx
  split at hx
  all_goals intro hd hI
  · cases hx
    exact lv_iconst hx0 hb hd rfl (kk la hl)
  · cases hx
    exact lv_bipush hx0 hb hd rfl (kk la hl)
  · cases hx
    exact lv_sipush hx0 hb hd rfl (kk la hl)
  · cases hx
    exact lv_lconst hx0 hb hd rfl (kk la hl)
  · split at hx
    · rename_i h
      cases hx
      exact lv_iload_n hx0 hb hd rfl (hl.at h) (kk la hl)
    · cases hx
  · split at hx
    · rename_i h
      cases hx
      exact lv_iload hx0 hb hd (hl.at h) (kk la hl)
    · cases hx
  · split at hx
    · rename_i h
      cases hx
      exact lv_lload_n hx0 hb hd rfl (hl.at h) (kk la hl)
    · cases hx
  · split at hx
    · rename_i h
      cases hx
      exact lv_lload hx0 hb hd (hl.at h) (kk la hl)
    · cases hx
  · split at hx
    · rename_i h
      cases hx
      exact lv_aload_n hx0 hb hd rfl (hl.at h) (kk la hl)
    · rename_i h
      cases hx
      rcases hf with rfl | ⟨t, rfl⟩
      · exact lv_aload_nN hx0 hb hd rfl (hl.at h) (kk la hl)
      · exact lv_aload_n hx0 hb hd rfl (hl.at h) (kk la hl)
    · cases hx
  · split at hx
    · rename_i h
      cases hx
      exact lv_aload hx0 hb hd (hl.at h) (kk la hl)
    · cases hx
  · split at hx
    · rename_i x _ h
      cases hx
      exact lv_istore_n hx0 hb hd rfl hl.has (by rw [← hl.2.2.1]; exact h) rfl (fun la' h' => kk la' (xLh.st1 (v := .int x) hf hl.2.2.1 h'))
    · cases hx
  · split at hx
    · rename_i x _ h
      cases hx
      exact lv_istore hx0 hb hd hl.has (by rw [← hl.2.2.1]; exact h) rfl (fun la' h' => kk la' (xLh.st1 (v := .int x) hf hl.2.2.1 h'))
    · cases hx
  · split at hx
    · rename_i x _ h
      cases hx
      exact lv_lstore_n hx0 hb hd rfl hl.has (by rw [← hl.2.2.1]; exact h) rfl (fun la' h' => kk la' (xLh.st2 (v := .long x) hf hl.2.2.1 h'))
    · cases hx
  · split at hx
    · rename_i x _ h
      cases hx
      exact lv_lstore hx0 hb hd hl.has (by rw [← hl.2.2.1]; exact h) rfl (fun la' h' => kk la' (xLh.st2 (v := .long x) hf hl.2.2.1 h'))
    · cases hx
  · split at hx
    · rename_i x _ h
      cases hx
      exact lv_astore_n hx0 hb hd rfl hl.has (by rw [← hl.2.2.1]; exact h) rfl (fun la' h' => kk la' (xLh.st1 (v := .ref x) hf hl.2.2.1 h'))
    · cases hx
  · split at hx
    · rename_i x _ h
      cases hx
      exact lv_astore hx0 hb hd hl.has (by rw [← hl.2.2.1]; exact h) rfl (fun la' h' => kk la' (xLh.st1 (v := .ref x) hf hl.2.2.1 h'))
    · cases hx
  · split at hx
    · rename_i n _ x h
      cases hx
      obtain ⟨k', hk'⟩ := List.getElem?_of_mem (xlp_mem (ad := ad) (fmt := fmt) h)
      exact lv_iinc hx0 hb hd hl.has hk' rfl (by rw [← hl.2.2.1]; exact (List.getElem?_eq_some_iff.mp h).1) rfl (fun la' h' => kk la' (xLh.st1 (v := .int (x + Int32.ofInt n)) hf hl.2.2.1 h'))
    · cases hx
  · cases hx
    exact lv_iadd hx0 hb hd (kk la hl)
  · cases hx
    exact lv_isub hx0 hb hd (kk la hl)
  · cases hx
    exact lv_imul hx0 hb hd (kk la hl)
  · cases hx
    exact lv_iand hx0 hb hd (kk la hl)
  · cases hx
    exact lv_ior hx0 hb hd (kk la hl)
  · cases hx
    exact lv_ixor hx0 hb hd (kk la hl)
  · cases hx
    exact lv_ineg hx0 hb hd (kk la hl)
  · cases hx
    exact lv_ishl hx0 hb hd (kk la hl)
  · cases hx
    exact lv_ishr hx0 hb hd (kk la hl)
  · cases hx
    exact lv_iushr hx0 hb hd rfl (kk la hl)
  · cases hx
    exact lv_ladd hx0 hb hd (kk la hl)
  · cases hx
    exact lv_lsub hx0 hb hd (kk la hl)
  · cases hx
    exact lv_lmul hx0 hb hd (kk la hl)
  · cases hx
    exact lv_i2l hx0 hb hd rfl (kk la hl)
  · cases hx
    exact lv_l2i hx0 hb hd rfl (kk la hl)
  · cases hx
    exact lv_i2b hx0 hb hd rfl (kk la hl)
  · cases hx
    exact lv_i2s hx0 hb hd rfl (kk la hl)
  · cases hx
    exact lv_i2c hx0 hb hd rfl (kk la hl)
  · cases hx
    exact lv_dup hx0 hb hd rfl (kk la hl)
  · cases hx
    exact lv_dup hx0 hb hd rfl (kk la hl)
  · cases hx
    exact lv_dup2_11 hx0 hb hd rfl rfl (kk la hl)
  · cases hx
    exact lv_pop hx0 hb hd rfl (kk la hl)
  · cases hx
    exact lv_goto hx0 hb hd (xgo_eq (of_decide_eq_true hI)) (kk la hl)
  · split at hx
    · cases hx
      exact va_gets hx0 hb hZ0 hS hown (hF.word (of_decide_eq_true hI) rfl) (fun _ h => h) hd (kk la hl)
    · cases hx
      exact va_gets hx0 hb hZ1 hS hown (hF.word (of_decide_eq_true hI) rfl) (fun _ h => h) hd (kk la hl)
    · cases hx
      exact va_gets hx0 hb hZ2 hS hown (hF.word (of_decide_eq_true hI) rfl) (fun _ h => h) hd (kk la hl)
    · cases hx
  · split at hx
    · split at hx
      · rename_i hq
        cases hx
        simp only [xokI, hq, decide_eq_true_eq] at hI
        exact lv_ldc hx0 hb hown (hF.word hI rfl) hd (kk la hl)
      · cases hx
    · split at hx
      · rename_i k hk
        cases hx
        cases hq : xSTR[k]? with
        | none => rw [List.getElem?_eq_none_iff] at hq; omega
        | some q =>
          simp only [xokI, hq, decide_eq_true_eq] at hI
          have h := hR k q hq
          rw [hI.1, hI.2] at h
          exact va_ldcS hx0 hb hown h hd (kk la hl)
      · cases hx
  · split at hx
    · rename_i hq
      cases hx
      simp only [xokI, hq, decide_eq_true_eq] at hI
      exact lv_ldcw hx0 hb hown (hF.word hI rfl) hd (kk la hl)
    · cases hx
  · split at hx
    · rename_i hq
      cases hx
      simp only [xokI, hq, decide_eq_true_eq] at hI
      exact lv_ldc2 hx0 hb hown (hF.word hI rfl) hd (kk la hl)
    · cases hx
  · cases hx
end XS0
