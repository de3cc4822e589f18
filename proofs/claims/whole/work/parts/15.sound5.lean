section XS2
variable {p : Program} {l : Launch} {e : Env} {R : Room} {s : State} {m : MethodId} {args : Array Value} {below : List Frame} {meth : Method} {c : Code} {H : Heap} {locs : List Loc} {cells slots : Nat} {Q : State → Prop}
variable {ent : XMe} {d rs wp pc nL : Nat} {la : Array Slot} {st : List Value} {ls : XL} {X : XM} {S : XS} {D : va_G} {tys : List (ClassId × FieldType)} {ad : Nat → Nat} {ca : Nat → ClassId} {fmt : Value} {A : Nat → Prop}
theorem x_alenW (hF : xFr p R s m args meth c ent d) {a : Nat} (hd : decode ent.2.2.1 pc = .ok (.arraylength, 1)) (ha : a < X.1) (hk : (xkind a).1 < 200)
    (hK : va_K D vwCl tys s) (hW : xW D tys ad ca A X H)
    (kk : W p l e R s m args below meth c H locs cells slots Q (F0 m (pc + 1) la (.int (Int32.ofNat (xkind a).2) :: st.map (xv ad fmt)))) : W p l e R s m args below meth c H locs cells slots Q (F0 m pc la (.ref (ad a) :: st.map (xv ad fmt))) := by
  obtain ⟨hx0, hb, -⟩ := id hF
  obtain ⟨t0, ht⟩ := hW.2.2.1 a ha hk
  by_cases h0 : (xkind a).1 = 0
  · exact va_alen (x := ((xkind a).2, .inl (X.2.1 a))) hx0 hb hK hW.1 a t0 (by rw [xw_get ha, xce_int h0]) ht rfl hd kk
  · have h1 : xce ad ca X a = .inl (ca a, (xkind a).2, .inr (.inr (.inr (.inr (fun i => (X.2.2.2 a i).map ad))))) := by
      unfold xce
      rw [if_neg h0, if_pos hk]
    exact va_alen (x := ((xkind a).2, .inr (.inr (.inr (.inr (fun i => (X.2.2.2 a i).map ad)))))) hx0 hb hK hW.1 a t0 (by rw [xw_get ha, h1]) ht rfl hd kk
theorem xlen_bytes (k : Nat) : (xBYT.map List.length).getD k 0 = (xBYT.getD k []).length := by
  rw [List.getD_eq_getElem?_getD, List.getD_eq_getElem?_getD, List.getElem?_map]
  cases xBYT[k]? <;> rfl
theorem xSTR_len : xSTR.length = 8 := by decide +kernel
theorem x_sval (hF : xFr p R s m args meth c ent d) {idx a : Nat} (hd : decode ent.2.2.1 pc = .ok (.getfield idx, 3)) (hI : lw_tbl[wp]? = some (.fieldLink ent.1 idx "java/lang/String" "value" "[B")) (ha : 10000 ≤ a ∧ a < 10000 + xSTR.length)
    (hE : xE S ad fmt A s s.heap) (hS : va_S A s.heap H locs)
    (kk : W p l e R s m args below meth c H locs cells slots Q (F0 m (pc + 3) la (.ref (ad (a + 10000)) :: st.map (xv ad fmt)))) : W p l e R s m args below meth c H locs cells slots Q (F0 m pc la (.ref (ad a) :: st.map (xv ad fmt))) := by
  obtain ⟨hx0, hb, hml, hr, hown, -⟩ := id hF
  have h8 := xSTR_len
  obtain ⟨k, rfl⟩ : ∃ k, a = 10000 + k := ⟨a - 10000, by omega⟩
  have h := (hE.1.1 k (by omega)).2.2.1
  rw [show 10000 + k + 10000 = 20000 + k by omega] at kk
  exact vk_getf hx0 hb h hS hown (hF.word hI rfl) (fun _ h => h) hd kk
theorem x_scod (hF : xFr p R s m args meth c ent d) {idx a : Nat} (hd : decode ent.2.2.1 pc = .ok (.getfield idx, 3)) (hI : lw_tbl[wp]? = some (.fieldLink ent.1 idx "java/lang/String" "coder" "B")) (ha : 10000 ≤ a ∧ a < 10000 + xSTR.length)
    (hE : xE S ad fmt A s s.heap) (hS : va_S A s.heap H locs)
    (kk : W p l e R s m args below meth c H locs cells slots Q (F0 m (pc + 3) la (.int 0 :: st.map (xv ad fmt)))) : W p l e R s m args below meth c H locs cells slots Q (F0 m pc la (.ref (ad a) :: st.map (xv ad fmt))) := by
  obtain ⟨hx0, hb, hml, hr, hown, -⟩ := id hF
  have h8 := xSTR_len
  obtain ⟨k, rfl⟩ : ∃ k, a = 10000 + k := ⟨a - 10000, by omega⟩
  have h := (hE.1.1 k (by omega)).2.1
  exact vk_getf hx0 hb h hS hown (hF.word hI rfl) (fun _ h => h) hd kk
theorem x_bald (hF : xFr p R s m args meth c ent d) {a : Nat} {j : Int32} (hd : decode ent.2.2.1 pc = .ok (.baload, 1)) (ha : 20000 ≤ a ∧ a < 20000 + xSTR.length) (hj : xinb j (xBYT.getD (a - 20000) []).length)
    (hE : xE S ad fmt A s s.heap) (hS : va_S A s.heap H locs)
    (kk : W p l e R s m args below meth c H locs cells slots Q (F0 m (pc + 1) la (.int ((xBYT.getD (a - 20000) []).getD j.toNatClampNeg 0) :: st.map (xv ad fmt)))) : W p l e R s m args below meth c H locs cells slots Q (F0 m pc la (.int j :: .ref (ad a) :: st.map (xv ad fmt))) := by
  obtain ⟨hx0, hb, -⟩ := id hF
  have h8 := xSTR_len
  obtain ⟨k, rfl⟩ : ∃ k, a = 20000 + k := ⟨a - 20000, by omega⟩
  rw [Nat.add_sub_cancel_left] at hj kk
  have h := (hE.1.1 k (by omega)).2.2.2
  exact va_tb hx0 hb h hS (by rw [xlen_bytes]; exact xinb_vp hj) rfl hd kk
theorem x_blen (hF : xFr p R s m args meth c ent d) {a : Nat} (hd : decode ent.2.2.1 pc = .ok (.arraylength, 1)) (ha : 20000 ≤ a ∧ a < 20000 + xSTR.length)
    (hE : xE S ad fmt A s s.heap) (hS : va_S A s.heap H locs)
    (kk : W p l e R s m args below meth c H locs cells slots Q (F0 m (pc + 1) la (.int (Int32.ofNat (xBYT.getD (a - 20000) []).length) :: st.map (xv ad fmt)))) : W p l e R s m args below meth c H locs cells slots Q (F0 m pc la (.ref (ad a) :: st.map (xv ad fmt))) := by
  obtain ⟨hx0, hb, -⟩ := id hF
  have h8 := xSTR_len
  obtain ⟨k, rfl⟩ : ∃ k, a = 20000 + k := ⟨a - 20000, by omega⟩
  rw [Nat.add_sub_cancel_left] at kk
  have h := (hE.1.1 k (by omega)).2.2.2
  exact va_tlen hx0 hb h hS (by rw [xlen_bytes]) hd kk
/-- slots of the first n cells -/
def xss : Nat → Nat
  | 0 => 0
  | n + 1 => xss n + (xkind n).2
theorem xss_le {a b : Nat} (h : a ≤ b) : xss a ≤ xss b := by
  induction b with
  | zero => rw [Nat.le_zero.mp h]; exact Nat.le_refl _
  | succ b ih =>
    rcases Nat.lt_or_ge a (b + 1) with h1 | h1
    · exact Nat.le_trans (ih (by omega)) (Nat.le_add_right _ _)
    · rw [show a = b + 1 by omega]; exact Nat.le_refl _
theorem xv_ok {ad ad1 : Nat → Nat} {n : Nat} (h : ∀ a, a < n ∨ 10000 ≤ a → ad1 a = ad a) {v : Value} (hv : xok n v = true) : xv ad1 fmt v = xv ad fmt v := by
  cases v with
  | ref a =>
    unfold xok at hv
    simp only [Bool.or_eq_true, decide_eq_true_eq] at hv
    show Value.ref (ad1 a) = Value.ref (ad a)
    rw [h a hv]
  | _ => rfl
theorem xst_ok {ad ad1 : Nat → Nat} {n : Nat} (h : ∀ a, a < n ∨ 10000 ≤ a → ad1 a = ad a) {st : List Value} (hv : st.all (xok n) = true) : st.map (xv ad1 fmt) = st.map (xv ad fmt) :=
  List.map_congr_left fun v hm => xv_ok h (List.all_eq_true.mp hv v hm)
theorem xLh.ok {ad ad1 : Nat → Nat} {n : Nat} (h : ∀ a, a < n ∨ 10000 ≤ a → ad1 a = ad a) {la : Array Slot} (hl : xLh ad fmt la nL ls) (hv : ls.all (fun o => match o with | some v => xok n v | none => true) = true) : xLh ad1 fmt la nL ls := by
  refine ⟨hl.1, hl.2.1, hl.2.2.1, fun i v hi => ?_⟩
  have h1 := List.all_eq_true.mp hv (some v) (List.mem_of_getElem? hi)
  rw [xv_ok h h1]
  exact hl.2.2.2 i v hi
/-- a new cell: the world is one longer -/
theorem xW.push {X1 : XM} {q : Nat} {cA : ClassId} {e0 : va_E} {tys1 : List (ClassId × FieldType)} {H1 : Heap} (h : xW D tys ad ca A X H) (h1 : X1.1 = X.1 + 1) (hlen : X.1 < xSH.length) (hI : ∀ j, j ≠ X.1 → X1.2.1 j = X.2.1 j) (hL : ∀ j, j ≠ X.1 → X1.2.2.1 j = X.2.2.1 j) (hR : ∀ j, j ≠ X.1 → X1.2.2.2 j = X.2.2.2 j) (hR0 : X1.2.2.2 X.1 = (fun _ => none) ∨ X1.2.2.2 X.1 = X.2.2.2 X.1)
    (he : xce (va_up ad X.1 q) (va_up ca X.1 cA) X1 X.1 = e0) (hty : (xkind X.1).1 < 200 → ∃ t0 : Nat, tys1[t0]? = some (cA, xty (xkind X.1).1)) (htys : ∀ (t0 : Nat) (x : ClassId × FieldType), tys[t0]? = some x → ∃ t1 : Nat, tys1[t1]? = some x)
    (hP : va_P D vwCl (xw ad ca X ++ [(q, e0)]) H1) (hD : va_D A (xw ad ca X ++ [(q, e0)])) : xW D tys1 (va_up ad X.1 q) (va_up ca X.1 cA) A X1 H1 ∧ ∀ a, a < X.1 ∨ 10000 ≤ a → va_up ad X.1 q a = ad a := by
  have h94 : xSH.length = 94 := by decide +kernel
  have hne : ∀ j, j ≠ X.1 → va_up ad X.1 q j = ad j := fun j hj => by unfold va_up; rw [if_neg hj]
  have hne2 : ∀ j, j ≠ X.1 → va_up ca X.1 cA j = ca j := fun j hj => by unfold va_up; rw [if_neg hj]
  have hrefs : ∀ j k, (X.2.2.2 j k).map (va_up ad X.1 q) = (X.2.2.2 j k).map ad := by
    intro j k
    cases hr : X.2.2.2 j k with
    | none => rfl
    | some r => show some _ = some _; rw [hne r (Nat.ne_of_lt (h.2.2.2.1 _ _ _ hr))]
  have hcell : ∀ j, j < X.1 → xce (va_up ad X.1 q) (va_up ca X.1 cA) X1 j = xce ad ca X j := by
    intro j hj
    have hj' : j ≠ X.1 := Nat.ne_of_lt hj
    have hv : ∀ ci, xfv (va_up ad X.1 q) X1 j ci = xfv ad X j ci := by
      intro ci
      funext k
      unfold xfv
      rw [hI j hj', hL j hj', hR j hj', hrefs]
    unfold xce xfs
    rw [hI j hj', hR j hj', hne2 j hj']
    simp only [hv, hrefs]
  rw [xw_push (ad1 := va_up ad X.1 q) (ca1 := va_up ca X.1 cA) h1 (by unfold va_up; rw [if_pos rfl]) he (fun j hj => ⟨hne j (Nat.ne_of_lt hj), hcell j hj⟩)] at hP hD
  refine ⟨⟨hP, hD, fun j hj hk => ?_, fun j k a ha => ?_, by omega⟩, fun a ha => hne a (by omega)⟩
  · by_cases hj' : j = X.1
    · subst hj'
      obtain ⟨t0, ht⟩ := hty hk
      exact ⟨t0, by rw [ht]; unfold va_up; rw [if_pos rfl]⟩
    · obtain ⟨t0, ht⟩ := h.2.2.1 j (by omega) hk
      obtain ⟨t1, ht1⟩ := htys _ _ ht
      exact ⟨t1, by rw [ht1, hne2 j hj']⟩
  · rw [h1]
    by_cases hj' : j = X.1
    · subst hj'
      rcases hR0 with h0 | h0
      · rw [h0] at ha; cases ha
      · rw [h0] at ha
        exact Nat.lt_succ_of_lt (h.2.2.2.1 _ _ _ ha)
    · rw [hR j hj'] at ha
      exact Nat.lt_succ_of_lt (h.2.2.2.1 _ _ _ ha)
theorem xsh_kind {k n c : Nat} (h : xSH[c]? = some (k, n)) : xkind c = (k, n) ∧ c < xSH.length := by
  refine ⟨?_, (List.getElem?_eq_some_iff.mp h).1⟩
  unfold xkind
  rw [List.getD_eq_getElem?_getD, h]
  rfl
theorem xfv_new {ad : Nat → Nat} {X1 : XM} {c ci : Nat} (hI : X1.2.1 c = fun _ => 0) (hL : X1.2.2.1 c = fun _ => 0) (hR : X1.2.2.2 c = fun _ => none) {ty : FieldType} {k : Nat} (ht : xtk (xfk ci k).1 ty = true) : defaultValue ty = xfv ad X1 c ci k := by
  unfold xfv
  rw [hI, hL, hR]
  generalize (xfk ci k).1 = kd at ht ⊢
  match kd, ty, ht with
  | 0, .int, _ => rfl
  | 3, .boolean, _ => rfl
  | 1, .long, _ => rfl
  | 2, .object _, _ => rfl
  | 2, .array _, _ => rfl
theorem x_new (hF : xFr p R s m args meth c ent d) {idx : Nat} (hd : decode ent.2.2.1 pc = .ok (.new idx, 3)) {C : vw_C} (hC : vwCl[rs]? = some C) (hl : lw_tbl[wp]? = some (.classLink ent.1 idx C.1)) (hsh : xSH[X.1]? = some (200 + rs, xnf rs)) (hok : xoks X.1 st ls = true)
    (hK : va_K D vwCl tys s) (hW : xW D tys ad ca A X H) (hS : va_S A s.heap H locs) (hA : ∀ q, s.heap.size ≤ q → A q) (hlh : xLh ad fmt la nL ls) (hcells : cells + 1 ≤ R.cells) (hslots : slots + xnf rs ≤ R.slots)
    (kk : ∀ (H1 : Heap) (ad1 : Nat → Nat) (ca1 : Nat → ClassId), (∀ a, a < X.1 ∨ 10000 ≤ a → ad1 a = ad a) → xW D tys ad1 ca1 A (X.1 + 1, xur X.2.1 X.1 (fun _ => 0), xur X.2.2.1 X.1 (fun _ => 0), xur X.2.2.2 X.1 (fun _ => none)) H1 → va_S A s.heap H1 locs → xLh ad1 fmt la nL ls → W p l e R s m args below meth c H1 locs (cells + 1) (slots + xnf rs) Q (F0 m (pc + 3) la ((Value.ref X.1 :: st).map (xv ad1 fmt)))) : W p l e R s m args below meth c H locs cells slots Q (F0 m pc la (st.map (xv ad fmt))) := by
  obtain ⟨hx0, hb, hml, hr, hown, hts, hlk, hin, hfr, hlo⟩ := id hF
  have hcK := xcls hC
  obtain ⟨⟨-, hins, hini⟩, hnm, hnf, hfi, ty, hty, htk⟩ := id hcK
  obtain ⟨hkd, hlen⟩ := xsh_kind hsh
  unfold xoks at hok
  rw [Bool.and_eq_true] at hok
  have fI : (xur X.2.1 X.1 (fun _ => (0 : Int32))) X.1 = fun _ => 0 := xur_eq
  refine va_new (ci := rs) (C := C.1) (T := C.2.1) (N := C.2.2) (fs := xfs (va_up ad X.1 0) (X.1 + 1, xur X.2.1 X.1 (fun _ => 0), xur X.2.2.1 X.1 (fun _ => 0), xur X.2.2.2 X.1 (fun _ => none)) X.1 rs) hx0 hb hts hcK.gt ty hty hown (hF.word hl rfl) (hts _ (xGT_in hins rfl)) (hts _ (xGT_in hini rfl)) hK hW.1 hW.2.1 hS hA hC ?_ hcells (by rw [← hnf]; exact hslots) hd (fun q H1 hP1 hD1 hS1 => ?_)
  · intro j hj
    unfold vp_V
    rw [List.getD_eq_getElem?_getD, xfs_get (by rw [hnf]; exact hj)]
    exact xfv_new xur_eq xur_eq xur_eq (htk j hj)
  · have he0 : xce (va_up ad X.1 q) (va_up ca X.1 0) (X.1 + 1, xur X.2.1 X.1 (fun _ => 0), xur X.2.2.1 X.1 (fun _ => 0), xur X.2.2.2 X.1 (fun _ => none)) X.1 = .inr (rs, xfs (va_up ad X.1 0) (X.1 + 1, xur X.2.1 X.1 (fun _ => 0), xur X.2.2.1 X.1 (fun _ => 0), xur X.2.2.2 X.1 (fun _ => none)) X.1 rs) := by
      rw [xce_obj (ci := rs) (by rw [hkd])]
      congr 2
      unfold xfs
      apply List.map_congr_left
      intro k _
      unfold xfv
      have hR : (xur X.2.2.2 X.1 (fun _ => (none : Option Nat))) X.1 k = none := by rw [xur_eq]
      simp only [hR]
      rfl
    obtain ⟨hW1, had⟩ := hW.push (X1 := (X.1 + 1, xur X.2.1 X.1 (fun _ => 0), xur X.2.2.1 X.1 (fun _ => 0), xur X.2.2.2 X.1 (fun _ => none))) (q := q) (cA := 0) (tys1 := tys) rfl hlen (fun j hj => xur_ne hj) (fun j hj => xur_ne hj) (fun j hj => xur_ne hj) (Or.inl xur_eq) (e0 := .inr (rs, xfs (va_up ad X.1 0) (X.1 + 1, xur X.2.1 X.1 (fun _ => 0), xur X.2.2.1 X.1 (fun _ => 0), xur X.2.2.2 X.1 (fun _ => none)) X.1 rs)) he0 (fun h => by rw [hkd] at h; simp at h; omega) (fun t0 x h => ⟨t0, h⟩) hP1 hD1
    · rw [show C.2.2 = xnf rs from hnf.symm]
      have hq : va_up ad X.1 q X.1 = q := by unfold va_up; rw [if_pos rfl]
      have h2 := kk H1 (va_up ad X.1 q) (va_up ca X.1 0) had hW1 hS1 (hlh.ok had hok.2)
      rw [List.map_cons, xst_ok had hok.1] at h2
      simp only [xv, hq] at h2
      exact h2
theorem x_newa (hF : xFr p R s m args meth c ent d) {n : Int32} (hd : decode ent.2.2.1 pc = .ok (.newarray .int, 2)) (hsh : xSH[X.1]? = some (0, n.toNatClampNeg)) (hn0 : 0 ≤ n.toInt) (hn1 : n.toInt < 100000) (hok : xoks X.1 st ls = true)
    (hK : va_K D vwCl tys s) (hW : xW D tys ad ca A X H) (hS : va_S A s.heap H locs) (hA : ∀ q, s.heap.size ≤ q → A q) (hlh : xLh ad fmt la nL ls) (hcells : cells + 1 ≤ R.cells) (hslots : slots + n.toNatClampNeg ≤ R.slots)
    (kk : ∀ (H1 : Heap) (tys1 : List (ClassId × FieldType)) (ad1 : Nat → Nat) (ca1 : Nat → ClassId), (∀ a, a < X.1 ∨ 10000 ≤ a → ad1 a = ad a) → va_K D vwCl tys1 s → xW D tys1 ad1 ca1 A (X.1 + 1, xur X.2.1 X.1 (fun _ => 0), X.2.2.1, X.2.2.2) H1 → va_S A s.heap H1 locs → xLh ad1 fmt la nL ls → W p l e R s m args below meth c H1 locs (cells + 1) (slots + n.toNatClampNeg) Q (F0 m (pc + 2) la ((Value.ref X.1 :: st).map (xv ad1 fmt)))) : W p l e R s m args below meth c H locs cells slots Q (F0 m pc la (.int n :: st.map (xv ad fmt))) := by
  obtain ⟨hx0, hb, hml, hr, hown, hts, hlk, hin, hfr, hlo⟩ := id hF
  obtain ⟨hkd, hlen⟩ := xsh_kind hsh
  unfold xoks at hok
  rw [Bool.and_eq_true] at hok
  have hneg : ¬ n < 0 := by rw [Int32.lt_iff_toInt_lt, Int32.toInt_zero]; omega
  have hbig : n.toNatClampNeg < 100000 := by show n.toInt.toNat < _; omega
  refine va_newa (atype := .int) (ty := .int) (a0 := (n.toNatClampNeg, .inl (fun _ => 0))) hx0 hb (hts _ (xGT_in (List.mem_of_getElem? (i := 182) (by decide +kernel)) rfl)) rfl hK hW.1 hW.2.1 hS hA (fun cA => by rw [vp_cell_i]; rfl) hneg rfl (by show n.toNatClampNeg * 4 ≤ _; omega) hcells hslots hd (fun q cA H1 hK1 hP1 hD1 hS1 => ?_)
  obtain ⟨hW1, had⟩ := hW.push (X1 := (X.1 + 1, xur X.2.1 X.1 (fun _ => 0), X.2.2.1, X.2.2.2)) (q := q) (cA := cA) (tys1 := tys ++ [(cA, .int)]) rfl hlen (fun j hj => xur_ne hj) (fun j hj => rfl) (fun j hj => rfl) (Or.inr rfl) (e0 := .inl (cA, n.toNatClampNeg, .inl (fun _ => 0))) (by rw [xce_int (by rw [hkd])]; simp only [xur_eq, hkd, va_up, if_true]) (fun _ => ⟨tys.length, by rw [List.getElem?_append_right (Nat.le_refl _), Nat.sub_self, hkd]; rfl⟩) (fun t0 x h => ⟨t0, by rw [List.getElem?_append_left (List.getElem?_eq_some_iff.mp h).1]; exact h⟩) hP1 hD1
  have hq : va_up ad X.1 q X.1 = q := by unfold va_up; rw [if_pos rfl]
  have h2 := kk H1 _ (va_up ad X.1 q) (va_up ca X.1 cA) had hK1 hW1 hS1 (hlh.ok had hok.2)
  rw [List.map_cons, xst_ok had hok.1] at h2
  simp only [xv, hq] at h2
  exact h2
theorem x_newq (hF : xFr p R s m args meth c ent d) {idx : Nat} {n : Int32} (hd : decode ent.2.2.1 pc = .ok (.anewarray idx, 3)) {C : vw_C} (hC : vwCl[rs]? = some C) (hl : lw_tbl[wp]? = some (.classLink ent.1 idx C.1)) (hAO : va_AO C.1 s) (hsh : xSH[X.1]? = some (100 + rs, n.toNatClampNeg)) (hn0 : 0 ≤ n.toInt) (hn1 : n.toInt < 100000) (hrs : rs < 9) (hok : xoks X.1 st ls = true)
    (hK : va_K D vwCl tys s) (hW : xW D tys ad ca A X H) (hS : va_S A s.heap H locs) (hA : ∀ q, s.heap.size ≤ q → A q) (hlh : xLh ad fmt la nL ls) (hcells : cells + 1 ≤ R.cells) (hslots : slots + n.toNatClampNeg ≤ R.slots)
    (kk : ∀ (H1 : Heap) (tys1 : List (ClassId × FieldType)) (ad1 : Nat → Nat) (ca1 : Nat → ClassId), (∀ a, a < X.1 ∨ 10000 ≤ a → ad1 a = ad a) → va_K D vwCl tys1 s → xW D tys1 ad1 ca1 A (X.1 + 1, X.2.1, X.2.2.1, xur X.2.2.2 X.1 (fun _ => none)) H1 → va_S A s.heap H1 locs → xLh ad1 fmt la nL ls → W p l e R s m args below meth c H1 locs (cells + 1) (slots + n.toNatClampNeg) Q (F0 m (pc + 3) la ((Value.ref X.1 :: st).map (xv ad1 fmt)))) : W p l e R s m args below meth c H locs cells slots Q (F0 m pc la (.int n :: st.map (xv ad fmt))) := by
  obtain ⟨hx0, hb, hml, hr, hown, hts, hlk, hin, hfr, hlo⟩ := id hF
  obtain ⟨hkd, hlen⟩ := xsh_kind hsh
  unfold xoks at hok
  rw [Bool.and_eq_true] at hok
  have hneg : ¬ n < 0 := by rw [Int32.lt_iff_toInt_lt, Int32.toInt_zero]; omega
  have hbig : n.toNatClampNeg < 100000 := by show n.toInt.toNat < _; omega
  refine va_newq hx0 hb hown (hF.word hl rfl) hAO hK hW.1 hW.2.1 hS hA hneg rfl (by omega) hcells hslots hd (fun q cA H1 hK1 hP1 hD1 hS1 => ?_)
  have hCx : vwCl.getD rs ("", TX0, 0) = C := by rw [List.getD_eq_getElem?_getD, hC]; rfl
  obtain ⟨hW1, had⟩ := hW.push (X1 := (X.1 + 1, X.2.1, X.2.2.1, xur X.2.2.2 X.1 (fun _ => none))) (q := q) (cA := cA) (tys1 := tys ++ [(cA, .object C.1)]) rfl hlen (fun j hj => rfl) (fun j hj => rfl) (fun j hj => xur_ne hj) (Or.inl xur_eq) (e0 := .inl (cA, n.toNatClampNeg, .inr (.inr (.inr (.inr (fun _ => none)))))) (by rw [xce_ref (by rw [hkd]; simp) (by rw [hkd]; simp; omega)]; simp only [xur_eq, hkd, va_up, if_true]; rfl) (fun _ => ⟨tys.length, by rw [List.getElem?_append_right (Nat.le_refl _), Nat.sub_self, hkd]; unfold xty; rw [if_neg (by simp)]; simp [hC]⟩) (fun t0 x h => ⟨t0, by rw [List.getElem?_append_left (List.getElem?_eq_some_iff.mp h).1]; exact h⟩) hP1 hD1
  have hq : va_up ad X.1 q X.1 = q := by unfold va_up; rw [if_pos rfl]
  have h2 := kk H1 _ (va_up ad X.1 q) (va_up ca X.1 cA) had hK1 hW1 hS1 (hlh.ok had hok.2)
  rw [List.map_cons, xst_ok had hok.1] at h2
  simp only [xv, hq] at h2
  exact h2
end XS2
