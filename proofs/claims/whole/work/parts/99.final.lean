/-! THE CLAIM OUT OF ONE WALK OF THE LAW'S BODY. Your part is whole_start (and what it stands on); all else here is the same for every law, but numbers. -/
def R_law : String := "BetweenThisAndThatLaw"
def lw_P (b : Addr) (xs : List Int32) (args : Array Value) (s : State) : Prop := args = #[.ref b] ∧ s.IntsAt b xs ∧ xs.length ≤ 3584 ∧ (Jvm.Cond.and given_1 narrow_1).before args s = true
def lw_Q (_ : Array Value) (s : State) (o : Outcome) (t : State) : Prop := o = .returned (some (.int 1)) ∧ Framed s o t [] 600000 7302250
def lw_Z (below : List Frame) (a : Array Value) (s : State) : State → Prop := fun t => ∃ o, t.status = .running ∧ Ended t below o ∧ lw_Q a s o t
/-- the law's own end, with 1 on the stack, nothing written that was there before, its room as the claim has it -/
theorem lw_ret {p : Program} {l : Launch} {e : Env} {s : State} {m : MethodId} {below : List Frame} {meth : Method} {c : Code} {b : Nat} (hx : p.tables.exec = Jvm.exec) (hb : c.code = code) (hr : meth.sig.returnType = ret) (hlocks : meth.locks = false) {pc : Nat} {H : Heap} {ls : Array Slot} (hdg : decode code pc = .ok (.ireturn, 1)) : W p l e room_1 s m #[Value.ref b] below meth c H [] 600000 7302250 (lw_Z below #[Value.ref b] s) (F0 m pc ls [.int 1]) := by
  intro T hT X
  obtain ⟨fs, hret, hrun, hended, hW, hframe⟩ := X.leave (v := some (.int 1)) (hlocks := hlocks) (fun h => by rw [hr] at h; cases h)
  have hmeth' : T.vm.method? m = some meth := X.method'
  refine ⟨T.setFrames fs, ?_, .returned (some (.int 1)), hrun, hended, rfl, ⟨_, rfl⟩, hW, hframe⟩
  jvm_step X.here [X.here.top, hx, hb, hdg, hmeth', hr, ret, narrow_b1]
  (try refine ⟨rfl, ?_⟩); (try refine ⟨rfl, ?_⟩)
  first | (intro acts; rw [hret _ acts rfl rfl rfl]) | rw [hret _ _ rfl rfl rfl]
  exact Steps.refl _
/-- what holds at the law's entry: the machine, the code, the tables' words (any of lw_tbl by 'hts w (by decide +kernel)'), the script of L ints xs at the cell b, what the Statement gives of the start (any of its parts by flat_of_before) -/
def lw_At (p : Program) (s : State) (m : MethodId) (meth : Method) (c : Code) (b L : Nat) (xs : Nat → Int32) : Prop :=
  p.tables.exec = Jvm.exec ∧ c.code = code ∧ meth.sig.returnType = ret ∧ c.maxLocals = 4 ∧ s.vm.findClass R_law = some m.cls ∧ (∀ w ∈ lw_tbl, w.before #[Value.ref b] s = true) ∧ va_X b L xs s s.heap ∧ b < s.heap.size ∧ meth.locks = false ∧ (Jvm.Cond.and given_1 narrow_1).before #[Value.ref b] s = true
def xX0 : XM := (0, fun _ _ => 0, fun _ _ => 0, fun _ _ => none)
def xtm (i : Nat) : Jvm.Term := .string (xSTR.getD i ("", 0, "")).1 (xSTR.getD i ("", 0, "")).2.1
set_option maxRecDepth 1000000 in
set_option maxHeartbeats 4000000 in
theorem xE_start {s : State} {b L : Nat} {xs : Nat → Int32} (hts : ∀ w ∈ lw_tbl, w.before #[Value.ref b] s = true) (hX : va_X b L xs s s.heap) (hbl : b < s.heap.size) (hgv : (Jvm.Cond.and given_1 narrow_1).before #[Value.ref b] s = true) :
    ∃ (ad : Nat → Nat) (fmt : Value), xfm fmt ∧ ad 40000 = b ∧ xE (L, xs) ad fmt (fun q : Nat => s.heap.size ≤ q) s s.heap := by
  have hs := flat_of_before _ hgv
  have hA : ∀ a : Nat, a < s.heap.size → ¬ (fun q : Nat => s.heap.size ≤ q) a := fun a h => Nat.not_le.mpr h
  have c1 : ∀ i, i < 8 → (Jvm.Cond.exactly (xtm i) "java/lang/String") ∈ flatC (Jvm.Cond.and given_1 narrow_1) := by decide +kernel
  have c2 : ∀ i, i < 8 → (Jvm.Cond.eq (.field (xtm i) "java/lang/String" "coder" "B") (.int 0)) ∈ flatC (Jvm.Cond.and given_1 narrow_1) := by decide +kernel
  have c3 : ∀ i, i < 8 → (Jvm.Cond.arrayOf (.field (xtm i) "java/lang/String" "value" "[B") .byte) ∈ flatC (Jvm.Cond.and given_1 narrow_1) := by decide +kernel
  have c4 : ∀ i, i < 8 → (Jvm.Cond.eq (.length (.field (xtm i) "java/lang/String" "value" "[B")) (.int (Int32.ofNat ((xBYT.map List.length).getD i 0)))) ∈ flatC (Jvm.Cond.and given_1 narrow_1) := by decide +kernel
  have c5 : ∀ i, i < 8 → ∀ j, j < (xBYT.map List.length).getD i 0 → (Jvm.Cond.eq (.elem (.field (xtm i) "java/lang/String" "value" "[B") (.int (Int32.ofNat j))) (.int ((xBYT.getD i []).getD j 0))) ∈ flatC (Jvm.Cond.and given_1 narrow_1) := by decide +kernel
  have c6 : ∀ i, i < 8 → ∀ j, j < 8 → i ≠ j → (Jvm.Cond.not (Jvm.Cond.eq (xtm i) (xtm j))) ∈ flatC (Jvm.Cond.and given_1 narrow_1) ∨ (Jvm.Cond.not (Jvm.Cond.eq (xtm j) (xtm i))) ∈ flatC (Jvm.Cond.and given_1 narrow_1) := by decide +kernel
  obtain ⟨adK, adV, hK, hKe⟩ := vk_Sof (N := 8) (tm := xtm) (len := xBYT.map List.length) (byt := xBYT) (A := fun q : Nat => s.heap.size ≤ q) (fun i hi => by
    have h : ∀ i, i < 8 → (xBYT.map List.length).getD i 0 < 2 ^ 31 := by decide +kernel
    exact h i hi) (fun i hi => hs _ (c1 i hi)) (fun i hi => hs _ (c2 i hi)) (fun i hi => hs _ (c3 i hi)) (fun i hi => hs _ (c4 i hi)) (fun i hi j hj => hs _ (c5 i hi j hj)) (fun i j hi hj hij => (c6 i hi j hj hij).imp (fun h => hs _ h) (fun h => hs _ h)) hA
  have k1 : ∀ j, j < 6 → (Jvm.Cond.eq (.elem (.static "BetweenThisAndThat$Saying" "ABOVE" "[I") (.int (Int32.ofNat j))) (.int (xabove.getD j 0))) ∈ flatC (Jvm.Cond.and given_1 narrow_1) := by decide +kernel
  obtain ⟨tA, hte, htT⟩ := va_Tof (tm := .static "BetweenThisAndThat$Saying" "ABOVE" "[I") (ty := .int) (N := 6) (f := fun j => .int (xabove.getD j 0)) (A := fun q : Nat => s.heap.size ≤ q) (by decide) (hs _ (by decide +kernel)) (va_eqt (z := Int32.ofNat 6) (hs _ (by decide +kernel))) (fun j hj => va_eqt (hs _ (k1 j hj))) hA
  have hcs : va_Z "java/lang/String" "COMPACT_STRINGS" "Z" (.int 1) (fun q : Nat => s.heap.size ≤ q) s s.heap := va_Zof (hts _ (by decide +kernel)) (hts _ (by decide +kernel)) (va_eqi (hs _ (by decide +kernel))) hA
  have hab : va_Z "BetweenThisAndThat$Saying" "ABOVE" "[I" (.ref tA) (fun q : Nat => s.heap.size ≤ q) s s.heap := va_Zref (hts _ (by decide +kernel)) (hts _ (by decide +kernel)) hte hA
  have hsi : va_Zq "jdk/internal/util/Preconditions" "SIOOBE_FORMATTER" "Ljava/util/function/BiFunction;" (fun q : Nat => s.heap.size ≤ q) s s.heap := va_Zqof (hts _ (by decide +kernel)) (hts _ (by decide +kernel)) (hs _ (by decide +kernel)) hA
  obtain ⟨fmt, hf, hz⟩ : ∃ fmt : Value, xfm fmt ∧ va_Z "jdk/internal/util/Preconditions" "SIOOBE_FORMATTER" "Ljava/util/function/BiFunction;" fmt (fun q : Nat => s.heap.size ≤ q) s s.heap := by
    rcases hsi with h | ⟨t, h⟩
    · exact ⟨_, Or.inl rfl, h⟩
    · exact ⟨_, Or.inr ⟨t, rfl⟩, h⟩
  have e1 : ∀ i, i < 10000 → (if 10000 + i < 20000 then adK (10000 + i - 10000) else if 10000 + i < 30000 then adV (10000 + i - 20000) else if 10000 + i = 30000 then tA else b) = adK i := fun i hi => by rw [if_pos (by omega), Nat.add_sub_cancel_left]
  have e2 : ∀ i, i < 10000 → (if 20000 + i < 20000 then adK (20000 + i - 10000) else if 20000 + i < 30000 then adV (20000 + i - 20000) else if 20000 + i = 30000 then tA else b) = adV i := fun i hi => by rw [if_neg (by omega), if_pos (by omega), Nat.add_sub_cancel_left]
  refine ⟨fun a => if a < 20000 then adK (a - 10000) else if a < 30000 then adV (a - 20000) else if a = 30000 then tA else b, fmt, hf, rfl, ?_, fun k q hq => ?_, hcs, hab, htT, hz, ?_, ?_, hX, hbl, Nat.not_le.mpr hbl⟩
  · refine ⟨fun i hi => ?_, fun i j hi hj h => ?_⟩
    · have h := hK.1 i hi
      dsimp only
      rw [e1 i (by omega), e2 i (by omega)]
      exact h
    · dsimp only at h
      rw [e1 i (by omega), e1 j (by omega)] at h
      exact hK.2 i j hi hj h
  · have h8 := xSTR_len
    have hk : k < 8 := by rw [← h8]; exact (List.getElem?_eq_some_iff.mp hq).1
    have hq2 : xSTR.getD k ("", 0, "") = q := by rw [List.getD_eq_getElem?_getD, hq]; rfl
    dsimp only
    rw [e1 k (by omega)]
    have hw : ∀ k, k < 8 → (Jvm.Cond.stringRef (xSTR.getD k ("", 0, "")).1 (xSTR.getD k ("", 0, "")).2.1 (xSTR.getD k ("", 0, "")).2.2) ∈ lw_tbl := by decide +kernel
    have h1 := hts _ (hw k hk)
    have h2 := hKe k hk
    unfold xtm at h2
    rw [hq2] at h1 h2
    exact vk_R.of h1 h2
  · have h : ∀ ci, ci ∈ [0, 2, 3, 5] → (Jvm.Cond.arrayOver (.object (vwCl.getD ci ("", TX0, 0)).1)) ∈ lw_tbl := by decide +kernel
    intro ci hci
    exact va_AO.of (hts _ (h ci hci))
  · have h : ∀ w ∈ xNEST, w ∈ lw_tbl := by decide +kernel
    intro a i y hh hin
    exact va_tabs (A := #[Value.ref b]) rfl rfl (hts _ (h _ hin))
set_option maxRecDepth 1000000 in
theorem xK_start {s : State} {b : Nat} (hts : ∀ w ∈ lw_tbl, w.before #[Value.ref b] s = true) : ∃ D : va_G, va_K D vwCl [] s := by
  have h : ∀ c : Nat, ∃ q : ClassId × (Nat → Nat), ∀ C : vw_C, vwCl[c]? = some C → u_Kn s C.1 C.2.1 C.2.2 q.1 q.2 := by
    intro c
    cases hC : vwCl[c]? with
    | none => exact ⟨(0, fun _ => 0), fun C h => by cases h⟩
    | some C =>
      have hk := xcls hC
      obtain ⟨cC, iS, hK⟩ := u_known (C := C.1) (T := C.2.1) (N := C.2.2) (n := C.2.2) hts (fun w hw => (hk.1.1 w hw).1) (hts _ hk.1.2.1)
      exact ⟨(cC, iS), fun C' h => by cases h; exact hK⟩
  obtain ⟨f, hf⟩ := Classical.axiomOfChoice h
  exact ⟨(fun c => (f c).1, fun c => (f c).2), fun c q hq => hf c q hq, fun k q hq => by simp at hq⟩
/-- YOUR PART: from the entry, for every script of at most 3584 ints, the law comes to its end with true -/
theorem whole_start {p : Program} {e : Env} {s : State} {m : MethodId} {below : List Frame} {meth : Method} {c : Code} (l : Launch) (hflags : l.flags = flags0) {b L : Nat} {xs : Nat → Int32} (hL : L ≤ 3584) (C0 : lw_At p s m meth c b L xs) : W p l e room_1 s m #[Value.ref b] below meth c s.heap [] 0 0 (lw_Z below #[Value.ref b] s) (entryFrame m ([Value.ref b] : List Value).toArray 4) := by
  obtain ⟨hx, hb, hr, hml, hown, hts, hX, hbl, hlocks, hgv⟩ := id C0
  obtain ⟨n, X', hrun, hcnt⟩ := law_run (L, xs) hL
  obtain ⟨ad, fmt, hf, had, hE⟩ := xE_start hts hX hbl hgv
  obtain ⟨D, hK⟩ := xK_start hts
  subst had
  have hFr : xFr p room_1 s m #[Value.ref (ad 40000)] meth c xe_0 80 := ⟨hx, hb, hml, hr, hown, fun w hw => hts w (List.mem_filter.mp hw).1, hlocks, fun h => absurd h (by decide), by decide, by decide⟩
  have hm : xme 0 = some xe_0 := rfl
  obtain ⟨g1, g2⟩ := x_sound xck (L, xs) l n 80 0 0 _ [] xX0 _ X' xe_0 hm hrun
  have hs94 : xss X'.1 ≤ 7302250 := Nat.le_trans (xss_le hcnt) (by decide +kernel)
  rw [lg_entry_eq]
  have hle : (xlocs [Value.ref 40000]).length ≤ 4 := by decide
  have g3 := g2 p e room_1 s m #[Value.ref (ad 40000)] below meth c s.heap [] 0 0 (lw_Z below #[Value.ref (ad 40000)] s) _ D [] ad (fun _ => 0) fmt (fun q : Nat => s.heap.size ≤ q) hFr hf hK ⟨fun k q h => by simp [xw, xX0] at h, ⟨fun i j p q h => by simp [xw, xX0] at h, fun k q h => by simp [xw, xX0] at h⟩, fun c h => by simp [xX0] at h, fun c k a h => by simp [xX0] at h, Nat.zero_le _⟩ va_S.rf (fun q h => h) hE (xLh.entry (ad := ad) hf hle) (by show 0 + _ ≤ 600000; simp [xX0]; omega) (by show 0 + _ ≤ 7302250; simp [xX0]; omega) (fun H1 locs1 tys1 ad1 ca1 la1 pc1 i1 a1 a2 K1 W1 S1 hdec hret => ?_)
  · exact g3
  · refine W.widen (k := 600000) (n := 7302250) (by simp [xX0]; omega) (by simp [xX0]; omega) ?_
    refine va_forget S1.2.2 ?_
    cases i1 <;> first | exact lw_ret hx hb hr hlocks hdec | (cases hret; done)
set_option maxHeartbeats 4000000 in
theorem lw_walk (l : Launch) (hflags : l.flags = flags0) (b : Addr) (xs : List Int32) : MetFree l x (headSpec (Jvm.Cond.code x code maxLocals ret :: tables_1) room_1) (lw_P b xs) (fun _ _ _ _ _ => True) lw_Q := by
  refine MetFree.of_bodyS (code := code) (maxLocals := maxLocals) (ret := ret) (by decide) ?_ ?_
  · intro args s m h hn
    obtain ⟨meth, c, h1, h2, h3, h4, h5, h6, -, -⟩ := Cond.code_spec hn (atoms_spec (ws := Jvm.Cond.code x code maxLocals ret :: tables_1) h _ List.mem_cons_self)
    exact ⟨meth, c, h1, h2, h3, h4, h5, h6⟩
  · intro p e s m args below meth c s₁ B hml0 hP _
    obtain ⟨rfl, hx, hbd, hgv⟩ := hP
    obtain ⟨scr, harrAt, hlist, hof, hsmall⟩ := hx
    obtain ⟨hcb, hkn, -, -⟩ := State.arrayAt?_spec harrAt
    have hown : s.vm.findClass R_law = some m.cls := findClass_of_methodNamed B.named
    have hts0 : ∀ c ∈ (Jvm.Cond.code x code maxLocals ret :: tables_1), c.before #[Value.ref b] s = true := atoms_spec (ws := Jvm.Cond.code x code maxLocals ret :: tables_1) B.pre
    have hts : ∀ w ∈ lw_tbl, w.before #[Value.ref b] s = true := k2_hts_sels lw_privs (fun w hw => hts0 w (List.mem_cons_of_mem _ hw)) lw_privs_ok
    have hml : c.maxLocals = 4 := B.maxLocals_eq (hts0 _ List.mem_cons_self)
    have X₀ : Stand p l e room_1 s m #[Value.ref b] below meth c s₁ [] 0 0 := Stand.of_body B
    have hh0 : s₁.heap = s.heap := by rw [B.state]; rfl
    have hsz : scr.slots.size = xs.length := by rw [← Array.length_toList, hlist, List.length_map]
    have hval : ∀ j : Nat, j < xs.length → scr.slots[j]? = some (.int (xs.getD j 0)) := fun j hj => by
      rw [← Array.getElem?_toList, hlist]
      simp [hj]
    have hbl : b < s.heap.size := (Array.getElem?_eq_some_iff.mp hcb).1
    have hX : va_X b xs.length (fun j => xs.getD j 0) s s.heap := ⟨scr, hcb, hof, hkn, hsz, hval⟩
    have K : W p l e room_1 s m #[Value.ref b] below meth c s₁.heap [] 0 0 (lw_Z below #[Value.ref b] s) (entryFrame m ([Value.ref b] : List Value).toArray 4) := by
      rw [hh0]
      exact whole_start l hflags hbd ⟨B.exec, B.bytes, B.returns, hml, hown, hts, hX, hbl, B.notSynchronized, hgv⟩
    obtain ⟨t, a1, o, b1, b2, b3⟩ := K s₁ rfl X₀
    exact ⟨t, o, a1, b1, b2, b3⟩
theorem lw_pre_spec {args : Array Value} {s : State} (h : (Jvm.Cond.and given_1 narrow_1).before args s = true) (hr : rest_1_c.before args s = true) : ∃ (b : Addr) (xs : List Int32), lw_P b xs args s := by
  have hs := flat_of_before _ h
  have hq := flat_of_before _ hr
  have hc : (Cond.count 1).before args s = true := hs _ (by decide +kernel)
  have harr : (Cond.arrayOf (.arg 0) .int).before args s = true := hs _ (by decide +kernel)
  have hle : (Cond.le (.length (.arg 0)) (.int 3584)).before args s = true := hs _ (by decide +kernel)
  have hlen : (Cond.isInt (.length (.arg 0))).before args s = true := hq _ (by decide +kernel)
  have hall : (Cond.all (.arg 0) (.isInt (.elem (.arg 0) (.index 0)))).before args s = true := hq _ (by decide +kernel)
  obtain ⟨b, xs, hb, hx⟩ := State.ints_of_pre rfl harr hlen hall
  have hsm : xs.length < 2 ^ 31 := hx.choose_spec.2.2.2
  have hev : (Term.length (.arg 0)).eval args s none [] s = some (.int xs.length.toInt32) := hx.length_eval hb
  have hv := Cond.le_ints hev (show (Term.int 3584).eval args s none [] s = some (.int 3584) from rfl)
  have hd : xs.length.toInt32 ≤ 3584 := by
    simpa [Cond.before, Cond.holds, hv] using hle
  have hN : xs.length ≤ 3584 := (Int32.ofNat_le_ofNat hsm (by decide)).mp (show Int32.ofNat xs.length ≤ Int32.ofNat 3584 from hd)
  exact ⟨b, xs, Cond.one_arg hc (show args[0]? = some (.ref b) from hb), hx, hN, h⟩
theorem lw_comes (l : Launch) (hflags : l.flags = flags0) : Comes l x (Jvm.Cond.code x code maxLocals ret :: tables_1) room_1 (fun tb e args s => Calls_1 tb e args s ∧ rest_1 tb e args s ∧ Pre_1 tb e args s)
    (fun _ _ args s o t => lw_Q args s o t) := by
  intro p e ha hc hk s m args below hf hfit hheap happ hpre
  obtain ⟨b, xs, hP⟩ := lw_pre_spec hpre.2.2 hpre.2.1
  obtain ⟨k, o, h1, h2, h3, hQ⟩ := lw_walk l hflags b xs p e ha hc hk s m args below hf ((Spec.applies_iff_loose hf).mp happ).1 hP trivial
  exact ⟨k, o, h1, h2, h3, hQ⟩
theorem lw_frame {s t : State} {o : Outcome} {args : Array Value} (h : Framed s o t [] 600000 7302250) :
    Framed s o t (fieldLocs frame_1_writes args s ++ arrayLocs frame_1_arrays args s ++ staticLocs frame_1_statics s) 600000 7302250 := h
theorem lw_limb (L : Cond) (hL : ∀ (args : Array Value) (s t : State), L.after args s (.returned (some (.int 1))) t = true) :
    ArmFor flags0 classFile x code maxLocals ret World_1 tables_1 room_1 Calls_1 rest_1 Pre_1
      (fun tb e a s o t => postC L tb e a s o t ∧ Framed s o t (fieldLocs frame_1_writes a s ++ arrayLocs frame_1_arrays a s ++ staticLocs frame_1_statics s) 600000 7302250) := by
  intro l hflags _ _ p e ha hc hk s m args below hf hfit hheap happ hpre
  obtain ⟨k, o, h1, h2, h3, rfl, hF⟩ := lw_comes l hflags p e ha hc hk s m args below hf hfit hheap happ hpre
  exact ⟨k, _, h1, h2, h3, hL args s _, lw_frame hF⟩
theorem i_vc : Claimed_1_1 ∧ Claimed_1_2 := ⟨lw_limb limb_1_1 (fun args s t => by simp [limb_1_1, Cond.after, Cond.holds, Cond.value]), lw_limb limb_1_2 (fun args s t => Cond.after_iff.mpr (by
  first | (rw [show limb_1_2 = Cond.eq .result (.int 1) from rfl, Cond.eq_ints (x := 1) (y := 1) rfl rfl]; simp; done) | (simp [limb_1_2, Cond.value, Term.eval]; done)))⟩

