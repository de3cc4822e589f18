section XS1
variable {p : Program} {l : Launch} {e : Env} {R : Room} {s : State} {m : MethodId} {args : Array Value} {below : List Frame} {meth : Method} {c : Code} {H : Heap} {locs : List Loc} {cells slots : Nat} {Q : State → Prop}
variable {ent : XMe} {d rs wp pc nL : Nat} {la : Array Slot} {st : List Value} {X : XM} {S : XS} {D : va_G} {tys : List (ClassId × FieldType)} {ad : Nat → Nat} {ca : Nat → ClassId} {fmt : Value} {A : Nat → Prop}
theorem xokF_spec {own : String} {idx : Nat} {put : Bool} (hI : xokF own idx rs wp put = true) {f : Nat × Nat} (hf : xFT[rs]? = some f) : ∃ C : vw_C, vwCl[f.1]? = some C ∧ f.2 < C.2.2 ∧ lw_tbl[wp]? = some (.fieldLink own idx (C.2.1 f.2).1 (C.2.1 f.2).2.1 (C.2.1 f.2).2.2.1) ∧ (put = true → (C.2.1 f.2).2.2.2 = true → (C.2.1 f.2).1 = own) := by
  unfold xokF at hI
  rw [hf] at hI
  dsimp only at hI
  cases hC : vwCl[f.1]? with
  | none => rw [hC] at hI; cases hI
  | some C =>
    rw [hC] at hI
    dsimp only at hI
    simp only [Bool.and_eq_true, decide_eq_true_eq] at hI
    refine ⟨C, rfl, hI.1.1, hI.1.2, fun h1 h2 => ?_⟩
    have h3 := hI.2
    rw [h1, h2] at h3
    simpa using h3
theorem x_getf (hF : xFr p R s m args meth c ent d) {idx a : Nat} {f : Nat × Nat} {v : Value} (hd : decode ent.2.2.1 pc = .ok (.getfield idx, 3)) (hI : xokF ent.1 idx rs wp false = true) (hf : xFT[rs]? = some f) (ha : a < X.1) (hk : (xkind a).1 = 200 + f.1) (hv : xget X a f.1 f.2 = some v)
    (hK : va_K D vwCl tys s) (hW : xW D tys ad ca A X H)
    (kk : W p l e R s m args below meth c H locs cells slots Q (F0 m (pc + 3) la (xv ad fmt v :: st.map (xv ad fmt)))) : W p l e R s m args below meth c H locs cells slots Q (F0 m pc la (.ref (ad a) :: st.map (xv ad fmt))) := by
  obtain ⟨hx0, hb, hml, hr, hown, hts, hlk, hin, hfr, hlo⟩ := id hF
  obtain ⟨C, hC, hkC, hl, -⟩ := xokF_spec hI hf
  have hcK := xcls hC
  refine va_get (v := xv ad fmt v) (C := C.1) (T := C.2.1) (N := C.2.2) hx0 hb hts hcK.gt hown hK hW.1 a (by rw [xw_get ha, xce_obj hk]) hC f.2 hkC (hF.word hl rfl) (fun _ h => h) ?_ hd kk
  rw [xfs_get (by rw [hcK.2.2.1]; exact hkC), xget_fv hv]
theorem x_putf (hF : xFr p R s m args meth c ent d) {idx a : Nat} {f : Nat × Nat} {v : Value} {X' : XM} (hd : decode ent.2.2.1 pc = .ok (.putfield idx, 3)) (hI : xokF ent.1 idx rs wp true = true) (hf : xFT[rs]? = some f) (ha : a < X.1) (hk : (xkind a).1 = 200 + f.1) (hfin : (xfk f.1 f.2).2 = false ∨ ent.2.2.2.2.2.1 = 200 + f.1) (hv : xput X a f.1 f.2 v = some X')
    (hK : va_K D vwCl tys s) (hW : xW D tys ad ca A X H) (hS : va_S A s.heap H locs)
    (kk : ∀ (H1 : Heap) (locs1 : List Loc), xW D tys ad ca A X' H1 → va_S A s.heap H1 locs1 → W p l e R s m args below meth c H1 locs1 cells slots Q (F0 m (pc + 3) la (st.map (xv ad fmt)))) : W p l e R s m args below meth c H locs cells slots Q (F0 m pc la (xv ad fmt v :: .ref (ad a) :: st.map (xv ad fmt))) := by
  obtain ⟨hx0, hb, hml, hr, hown, hts, hlk, hin, hfr, hlo⟩ := id hF
  obtain ⟨C, hC, hkC, hl, hdecl⟩ := xokF_spec hI hf
  have hcK := xcls hC
  obtain ⟨-, hnm, hnf, hfi, ty, hty, htk⟩ := id hcK
  have hkN : f.2 < xnf f.1 := by rw [hnf]; exact hkC
  obtain ⟨g1, g2, g3, g4, g5⟩ := xput_spec (ad := ad) (fmt := fmt) hv ha hkN
  obtain ⟨hn, hfit⟩ := g5 (ty f.2) (htk f.2 hkC)
  have he : (xw ad ca X)[a]? = some (ad a, .inr (f.1, xfs ad X a f.1)) := by rw [xw_get ha, xce_obj hk]
  have hlen : f.2 < (xfs ad X a f.1).length := by simp [xfs]; exact hkN
  have fin : ∀ (H1 : Heap) (locs1 : List Loc), va_P D vwCl ((xw ad ca X).set a (ad a, .inr (f.1, (xfs ad X a f.1).set f.2 (xv ad fmt v)))) H1 → va_D A ((xw ad ca X).set a (ad a, .inr (f.1, (xfs ad X a f.1).set f.2 (xv ad fmt v)))) → va_S A s.heap H1 locs1 → W p l e R s m args below meth c H1 locs1 cells slots Q (F0 m (pc + 3) la (st.map (xv ad fmt))) := by
    intro H1 locs1 hP1 hD1 hS1
    rw [g3] at hP1 hD1
    exact kk H1 locs1 (hW.put g1 (xce_obj hk) g2 (g4 hW.2.2.2.1) hP1 hD1) hS1
  cases hb2 : (C.2.1 f.2).2.2.2 with
  | false =>
    exact va_put (v := xv ad fmt v) (ty := ty f.2) (C := C.1) (T := C.2.1) (N := C.2.2) hx0 hb hts hcK.gt ty hty hnm hown hK hW.1 hW.2.1 hS a he hC f.2 hkC (hF.word hl rfl) (fun _ h => h) hb2 (hty f.2 hkC) hn hfit hlen hd fin
  | true =>
    have hkd : ent.2.2.2.2.2.1 = 200 + f.1 := by
      rcases hfin with h | h
      · rw [← hfi f.2 hkC, hb2] at h
        cases h
      · exact h
    exact va_putF (v := xv ad fmt v) (ty := ty f.2) (C := C.1) (T := C.2.1) (N := C.2.2) hx0 hb hts hcK.gt ty hty hnm hown hK hW.1 hW.2.1 hS a he hC f.2 hkC (hF.word hl rfl) (fun _ h => h) hb2 (hin (by omega)) (hdecl rfl hb2) (hty f.2 hkC) hn hfit hlen hd fin
theorem x_iald (hF : xFr p R s m args meth c ent d) {a : Nat} {j : Int32} (hd : decode ent.2.2.1 pc = .ok (.iaload, 1)) (ha : a < X.1) (hk : (xkind a).1 = 0) (hj : xinb j (xkind a).2)
    (hK : va_K D vwCl tys s) (hW : xW D tys ad ca A X H)
    (kk : W p l e R s m args below meth c H locs cells slots Q (F0 m (pc + 1) la (.int (X.2.1 a j.toNatClampNeg) :: st.map (xv ad fmt)))) : W p l e R s m args below meth c H locs cells slots Q (F0 m pc la (.int j :: .ref (ad a) :: st.map (xv ad fmt))) := by
  obtain ⟨hx0, hb, -⟩ := id hF
  obtain ⟨t0, ht⟩ := hW.2.2.1 a ha (by omega)
  rw [hk] at ht
  exact va_iald hx0 hb hK hW.1 a t0 (by rw [xw_get ha, xce_int hk]) ht (xinb_vp hj) hd kk
theorem x_iast (hF : xFr p R s m args meth c ent d) {a : Nat} {j v : Int32} (hd : decode ent.2.2.1 pc = .ok (.iastore, 1)) (ha : a < X.1) (hk : (xkind a).1 = 0) (hj : xinb j (xkind a).2)
    (hK : va_K D vwCl tys s) (hW : xW D tys ad ca A X H) (hS : va_S A s.heap H locs)
    (kk : ∀ (H1 : Heap) (locs1 : List Loc), xW D tys ad ca A (X.1, xu X.2.1 a j.toNatClampNeg v, X.2.2.1, X.2.2.2) H1 → va_S A s.heap H1 locs1 → W p l e R s m args below meth c H1 locs1 cells slots Q (F0 m (pc + 1) la (st.map (xv ad fmt)))) : W p l e R s m args below meth c H locs cells slots Q (F0 m pc la (.int v :: .int j :: .ref (ad a) :: st.map (xv ad fmt))) := by
  obtain ⟨hx0, hb, -⟩ := id hF
  obtain ⟨t0, ht⟩ := hW.2.2.1 a ha (by omega)
  rw [hk] at ht
  refine va_iast hx0 hb hK hW.1 hW.2.1 hS a t0 (by rw [xw_get ha, xce_int hk]) ht (xinb_vp hj) hd (fun H1 locs1 hP1 hD1 hS1 => kk H1 locs1 (hW.put rfl ?_ (fun j hj => ⟨xu_ne hj, rfl, rfl⟩) hW.2.2.2.1 hP1 hD1) hS1)
  rw [xce_int hk]
  show Sum.inl (ca a, (xkind a).2, Sum.inl (xu X.2.1 a j.toNatClampNeg v a)) = _
  rw [xu_eq]
theorem x_aald (hF : xFr p R s m args meth c ent d) {a r : Nat} {j : Int32} (hd : decode ent.2.2.1 pc = .ok (.aaload, 1)) (ha : a < X.1) (hk : 100 ≤ (xkind a).1) (hk2 : (xkind a).1 < 200) (hj : xinb j (xkind a).2) (hr : X.2.2.2 a j.toNatClampNeg = some r)
    (hK : va_K D vwCl tys s) (hW : xW D tys ad ca A X H)
    (kk : W p l e R s m args below meth c H locs cells slots Q (F0 m (pc + 1) la (.ref (ad r) :: st.map (xv ad fmt)))) : W p l e R s m args below meth c H locs cells slots Q (F0 m pc la (.int j :: .ref (ad a) :: st.map (xv ad fmt))) := by
  obtain ⟨hx0, hb, -⟩ := id hF
  obtain ⟨t0, ht⟩ := hW.2.2.1 a ha hk2
  unfold xty at ht
  rw [if_neg (by omega)] at ht
  refine va_aldq hx0 hb hK hW.1 a t0 (by rw [xw_get ha, xce_ref hk hk2]) ht (xinb_vp hj) hd ?_
  rw [hr]
  exact kk
theorem xkind_lt (c : Nat) : (xkind c).1 < 209 := by
  by_cases h : c < 94
  · exact (show ∀ c, c < 94 → (xkind c).1 < 209 by decide +kernel) c h
  · have h2 : xSH.length = 94 := by decide +kernel
    unfold xkind
    rw [List.getD_eq_getElem?_getD, List.getElem?_eq_none (by omega)]
    decide
theorem xcl_get {ci : Nat} (h : ci < 9) : vwCl[ci]? = some (vwCl.getD ci ("", TX0, 0)) := by
  rw [List.getD_eq_getElem?_getD]
  cases hq : vwCl[ci]? with
  | none => rw [List.getElem?_eq_none_iff] at hq; exact absurd h (by simp [vwCl] at hq; omega)
  | some q => rfl
theorem x_aast (hF : xFr p R s m args meth c ent d) {a v : Nat} {j : Int32} (hd : decode ent.2.2.1 pc = .ok (.aastore, 1)) (ha : a < X.1) (hk : 100 ≤ (xkind a).1) (hk2 : (xkind a).1 < 200) (hj : xinb j (xkind a).2) (hv : v < X.1) (hkv : (xkind v).1 = (xkind a).1 + 100)
    (hK : va_K D vwCl tys s) (hW : xW D tys ad ca A X H) (hS : va_S A s.heap H locs)
    (kk : ∀ (H1 : Heap) (locs1 : List Loc), xW D tys ad ca A (X.1, X.2.1, X.2.2.1, xu X.2.2.2 a j.toNatClampNeg (some v)) H1 → va_S A s.heap H1 locs1 → W p l e R s m args below meth c H1 locs1 cells slots Q (F0 m (pc + 1) la (st.map (xv ad fmt)))) : W p l e R s m args below meth c H locs cells slots Q (F0 m pc la (.ref (ad v) :: .int j :: .ref (ad a) :: st.map (xv ad fmt))) := by
  obtain ⟨hx0, hb, -⟩ := id hF
  obtain ⟨t0, ht⟩ := hW.2.2.1 a ha hk2
  unfold xty at ht
  rw [if_neg (by omega)] at ht
  have hci : (xkind a).1 - 100 < 9 := by have := xkind_lt v; omega
  refine va_astq (r := vwCl.getD ((xkind a).1 - 100) ("", TX0, 0)) hx0 hb hK hW.1 hW.2.1 hS a t0 v ((xkind a).1 - 100) (by rw [xw_get ha, xce_ref hk hk2]) ht (by rw [xw_get hv, xce_obj (ci := (xkind a).1 - 100) (by omega)]) (xcl_get hci) (xinb_vp hj) hd (fun H1 locs1 hP1 hD1 hS1 => kk H1 locs1 (hW.put rfl ?_ (fun j hj => ⟨rfl, rfl, xu_ne hj⟩) ?_ hP1 hD1) hS1)
  · rw [xce_ref hk hk2]
    congr 7
    funext i
    simp only [xu, va_up, if_true]
    split <;> rfl
  · intro c' k' a' h'
    simp only [xu] at h'
    split at h'
    · split at h'
      · cases h'; exact hv
      · exact hW.2.2.2.1 _ _ _ h'
    · exact hW.2.2.2.1 _ _ _ h'
end XS1
