section XS3
variable {p : Program} {l : Launch} {e : Env} {R : Room} {s : State} {m : MethodId} {args : Array Value} {below : List Frame} {meth : Method} {c : Code} {H : Heap} {locs : List Loc} {cells slots : Nat} {Q : State → Prop}
variable {ent : XMe} {d rs wp pc pc' nL : Nat} {i : Instr} {la : Array Slot} {st st' : List Value} {ls ls' : XL} {X X' : XM} {S : XS} {D : va_G} {tys : List (ClassId × FieldType)} {ad : Nat → Nat} {ca : Nat → ClassId} {fmt : Value} {A : Nat → Prop}
set_option maxHeartbeats 4000000 in
theorem xs1_sound (hF : xFr p R s m args meth c ent d) (hd : decode ent.2.2.1 pc = .ok (i, xlen i pc)) (hI : xokI ent.1 pc i rs wp = true) (hf : xfm fmt)
    (hx : xs1 S ent.2.2.2.2.2.1 i rs wp pc ls st X = some (pc', ls', st', X')) :
    X.1 ≤ X'.1 ∧ (va_K D vwCl tys s → xW D tys ad ca A X H → va_S A s.heap H locs → (∀ q, s.heap.size ≤ q → A q) → xE S ad fmt A s s.heap → xLh ad fmt la nL ls → cells + (X'.1 - X.1) ≤ R.cells → slots + (xss X'.1 - xss X.1) ≤ R.slots →
    (∀ (H1 : Heap) (locs1 : List Loc) (tys1 : List (ClassId × FieldType)) (ad1 : Nat → Nat) (ca1 : Nat → ClassId) (la1 : Array Slot), (X'.1 = X.1 → ad1 = ad) → (∀ a, a < X.1 ∨ 10000 ≤ a → ad1 a = ad a) → va_K D vwCl tys1 s → xW D tys1 ad1 ca1 A X' H1 → va_S A s.heap H1 locs1 → xLh ad1 fmt la1 nL ls' → W p l e R s m args below meth c H1 locs1 (cells + (X'.1 - X.1)) (slots + (xss X'.1 - xss X.1)) Q (F0 m pc' la1 (st'.map (xv ad1 fmt)))) →
    W p l e R s m args below meth c H locs cells slots Q (F0 m pc la (st.map (xv ad fmt)))) := by
  obtain ⟨hx0, hb, hml, hr, hown, hts, hlk, hin, hfr, hlo⟩ := id hF
  revert hd hI
  unfold xs1 at hx
  split at hx
  all_goals intro hd hI
  · have hX : X' = X := by split at hx <;> (cases hx; rfl)
    subst hX
    refine ⟨Nat.le_refl _, ?_⟩
    intro hK hW hS hA hE hl hc hs kk
    have hg := xgo_eq (of_decide_eq_true hI)
    simp only [Nat.sub_self, Nat.add_zero] at kk
    have k2 := kk H locs tys ad ca la (fun _ => rfl) (fun _ _ => rfl) hK hW hS
    rename_i cd off x st
    cases cd
    · refine lv_if_eq hx0 hb hd hg (fun h => ?_) (fun h => ?_)
      · rw [if_pos (by show decide _ = true; exact decide_eq_true h)] at hx; cases hx; exact k2 hl
      · rw [if_neg (by show ¬ decide _ = true; rw [decide_eq_true_eq]; exact h)] at hx; cases hx; exact k2 hl
    · refine lv_if_ne hx0 hb hd hg (fun h => ?_) (fun h => ?_)
      · rw [if_pos (by show decide _ = true; exact decide_eq_true h)] at hx; cases hx; exact k2 hl
      · rw [if_neg (by show ¬ decide _ = true; rw [decide_eq_true_eq]; exact fun z => z h)] at hx; cases hx; exact k2 hl
    · refine lv_if_lt hx0 hb hd hg (fun h => ?_) (fun h => ?_)
      · rw [if_pos (by show decide _ = true; exact decide_eq_true h)] at hx; cases hx; exact k2 hl
      · rw [if_neg (by show ¬ decide _ = true; rw [decide_eq_true_eq]; exact h)] at hx; cases hx; exact k2 hl
    · refine lv_if_ge hx0 hb hd hg (fun h => ?_) (fun h => ?_)
      · rw [if_pos (by show decide _ = true; exact decide_eq_true h)] at hx; cases hx; exact k2 hl
      · rw [if_neg (by show ¬ decide _ = true; rw [decide_eq_true_eq]; exact h)] at hx; cases hx; exact k2 hl
    · refine lv_if_gt hx0 hb hd hg (fun h => ?_) (fun h => ?_)
      · rw [if_pos (by show decide _ = true; exact decide_eq_true h)] at hx; cases hx; exact k2 hl
      · rw [if_neg (by show ¬ decide _ = true; rw [decide_eq_true_eq]; exact h)] at hx; cases hx; exact k2 hl
    · refine lv_if_le hx0 hb hd hg (fun h => ?_) (fun h => ?_)
      · rw [if_pos (by show decide _ = true; exact decide_eq_true h)] at hx; cases hx; exact k2 hl
      · rw [if_neg (by show ¬ decide _ = true; rw [decide_eq_true_eq]; exact h)] at hx; cases hx; exact k2 hl
  · have hX : X' = X := by split at hx <;> (cases hx; rfl)
    subst hX
    refine ⟨Nat.le_refl _, ?_⟩
    intro hK hW hS hA hE hl hc hs kk
    have hg := xgo_eq (of_decide_eq_true hI)
    simp only [Nat.sub_self, Nat.add_zero] at kk
    have k2 := kk H locs tys ad ca la (fun _ => rfl) (fun _ _ => rfl) hK hW hS
    rename_i cd off y x st
    cases cd
    · refine lv_icmp_eq hx0 hb hd hg (fun h => ?_) (fun h => ?_)
      · rw [if_pos (by show decide _ = true; exact decide_eq_true h)] at hx; cases hx; exact k2 hl
      · rw [if_neg (by show ¬ decide _ = true; rw [decide_eq_true_eq]; exact h)] at hx; cases hx; exact k2 hl
    · refine lv_icmp_ne hx0 hb hd hg (fun h => ?_) (fun h => ?_)
      · rw [if_pos (by show decide _ = true; exact decide_eq_true h)] at hx; cases hx; exact k2 hl
      · rw [if_neg (by show ¬ decide _ = true; rw [decide_eq_true_eq]; exact fun z => z h)] at hx; cases hx; exact k2 hl
    · refine lv_icmp_lt hx0 hb hd hg (fun h => ?_) (fun h => ?_)
      · rw [if_pos (by show decide _ = true; exact decide_eq_true h)] at hx; cases hx; exact k2 hl
      · rw [if_neg (by show ¬ decide _ = true; rw [decide_eq_true_eq]; exact h)] at hx; cases hx; exact k2 hl
    · refine lv_icmp_ge hx0 hb hd hg (fun h => ?_) (fun h => ?_)
      · rw [if_pos (by show decide _ = true; exact decide_eq_true h)] at hx; cases hx; exact k2 hl
      · rw [if_neg (by show ¬ decide _ = true; rw [decide_eq_true_eq]; exact h)] at hx; cases hx; exact k2 hl
    · refine lv_icmp_gt hx0 hb hd hg (fun h => ?_) (fun h => ?_)
      · rw [if_pos (by show decide _ = true; exact decide_eq_true h)] at hx; cases hx; exact k2 hl
      · rw [if_neg (by show ¬ decide _ = true; rw [decide_eq_true_eq]; exact h)] at hx; cases hx; exact k2 hl
    · refine lv_icmp_le hx0 hb hd hg (fun h => ?_) (fun h => ?_)
      · rw [if_pos (by show decide _ = true; exact decide_eq_true h)] at hx; cases hx; exact k2 hl
      · rw [if_neg (by show ¬ decide _ = true; rw [decide_eq_true_eq]; exact h)] at hx; cases hx; exact k2 hl
  · split at hx
    · rename_i dflt lo hi offs x st h
      cases hx
      refine ⟨Nat.le_refl _, ?_⟩
      intro hK hW hS hA hE hl hc hs kk
      simp only [xokI, Bool.and_eq_true, decide_eq_true_eq] at hI
      simp only [Nat.sub_self, Nat.add_zero] at kk
      exact lv_tableOut hx0 hb hd h (xgo_eq hI.1) (kk H locs tys ad ca la (fun _ => rfl) (fun _ _ => rfl) hK hW hS hl)
    · rename_i dflt lo hi offs x st h
      split at hx
      · rename_i off ho
        cases hx
        refine ⟨Nat.le_refl _, ?_⟩
        intro hK hW hS hA hE hl hc hs kk
        simp only [xokI, Bool.and_eq_true, decide_eq_true_eq, List.all_eq_true] at hI
        simp only [Nat.sub_self, Nat.add_zero] at kk
        have hm : off ∈ offs.toList := by
          rw [← Array.getElem?_toList] at ho
          exact List.mem_of_getElem? ho
        exact lv_tableIn hx0 hb hd (fun z => h (Or.inl z)) (fun z => h (Or.inr z)) ho (xgo_eq (hI.2 off hm)) (kk H locs tys ad ca la (fun _ => rfl) (fun _ _ => rfl) hK hW hS hl)
      · cases hx
  · split at hx
    · cases hx
    · rename_i h
      cases hx
      refine ⟨Nat.le_refl _, ?_⟩
      intro hK hW hS hA hE hl hc hs kk
      simp only [Nat.sub_self, Nat.add_zero] at kk
      exact lv_idiv hx0 hb hd h (kk H locs tys ad ca la (fun _ => rfl) (fun _ _ => rfl) hK hW hS hl)
  · split at hx
    · cases hx
    · rename_i h
      cases hx
      refine ⟨Nat.le_refl _, ?_⟩
      intro hK hW hS hA hE hl hc hs kk
      simp only [Nat.sub_self, Nat.add_zero] at kk
      exact lv_irem hx0 hb hd h (kk H locs tys ad ca la (fun _ => rfl) (fun _ _ => rfl) hK hW hS hl)
  · split at hx
    · cases hx
    · rename_i h
      cases hx
      refine ⟨Nat.le_refl _, ?_⟩
      intro hK hW hS hA hE hl hc hs kk
      simp only [Nat.sub_self, Nat.add_zero] at kk
      exact lv_ldiv hx0 hb hd h (kk H locs tys ad ca la (fun _ => rfl) (fun _ _ => rfl) hK hW hS hl)
  · split at hx
    · cases hx
    · rename_i h
      cases hx
      refine ⟨Nat.le_refl _, ?_⟩
      intro hK hW hS hA hE hl hc hs kk
      simp only [Nat.sub_self, Nat.add_zero] at kk
      exact lv_lrem hx0 hb hd h (kk H locs tys ad ca la (fun _ => rfl) (fun _ _ => rfl) hK hW hS hl)
  · cases hx
    refine ⟨Nat.le_refl _, ?_⟩
    intro hK hW hS hA hE hl hc hs kk
    simp only [Nat.sub_self, Nat.add_zero] at kk
    exact W.lcmp hx0 hb hd (kk H locs tys ad ca la (fun _ => rfl) (fun _ _ => rfl) hK hW hS hl)
  · split at hx
    · rename_i h900
      split at hx
      · rename_i ha
        cases hx
        refine ⟨Nat.le_refl _, ?_⟩
        intro hK hW hS hA hE hl hc hs kk
        simp only [Nat.sub_self, Nat.add_zero] at kk
        simp only [xokI, if_pos h900, decide_eq_true_eq] at hI
        exact x_sval hF hd hI ha hE hS (kk H locs tys ad ca la (fun _ => rfl) (fun _ _ => rfl) hK hW hS hl)
      · cases hx
    · rename_i h900
      split at hx
      · rename_i h901
        split at hx
        · rename_i ha
          cases hx
          refine ⟨Nat.le_refl _, ?_⟩
          intro hK hW hS hA hE hl hc hs kk
          simp only [Nat.sub_self, Nat.add_zero] at kk
          simp only [xokI, if_neg h900, if_pos h901, decide_eq_true_eq] at hI
          exact x_scod hF hd hI ha hE hS (kk H locs tys ad ca la (fun _ => rfl) (fun _ _ => rfl) hK hW hS hl)
        · cases hx
      · rename_i h901
        simp only [xokI, if_neg h900, if_neg h901] at hI
        split at hx
        · rename_i f hq
          split at hx
          · rename_i ha
            split at hx
            · rename_i v hv
              cases hx
              refine ⟨Nat.le_refl _, ?_⟩
              intro hK hW hS hA hE hl hc hs kk
              simp only [Nat.sub_self, Nat.add_zero] at kk
              exact x_getf hF hd hI hq ha.1 ha.2 hv hK hW (kk H locs tys ad ca la (fun _ => rfl) (fun _ _ => rfl) hK hW hS hl)
            · cases hx
          · cases hx
        · cases hx
  · split at hx
    · rename_i f hq
      split at hx
      · rename_i ha
        split at hx
        · rename_i X1 hv
          cases hx
          have h1 : X'.1 = X.1 := by
            unfold xput at hv
            split at hv
            · cases hv; rfl
            · split at hv
              · cases hv; rfl
              · cases hv
            · cases hv; rfl
            · split at hv
              · cases hv; rfl
              · cases hv
            · cases hv
          refine ⟨by rw [h1]; exact Nat.le_refl _, ?_⟩
          intro hK hW hS hA hE hl hc hs kk
          simp only [h1, Nat.sub_self, Nat.add_zero] at kk
          exact x_putf hF hd hI hq ha.1 ha.2.1 ha.2.2 hv hK hW hS (fun H1 locs1 hW1 hS1 => kk H1 locs1 tys ad ca la (fun _ => rfl) (fun _ _ => rfl) hK hW1 hS1 hl)
        · cases hx
      · cases hx
    · cases hx
  · split at hx
    · rename_i ha
      split at hx
      · rename_i hj
        cases hx
        refine ⟨Nat.le_refl _, ?_⟩
        intro hK hW hS hA hE hl hc hs kk
        simp only [Nat.sub_self, Nat.add_zero] at kk
        subst ha
        exact va_ti hx0 hb hE.2.2.2.2.1 hS (xinb_vp hj) rfl hd (kk H locs tys ad ca la (fun _ => rfl) (fun _ _ => rfl) hK hW hS hl)
      · cases hx
    · split at hx
      · rename_i ha
        split at hx
        · rename_i hj
          cases hx
          refine ⟨Nat.le_refl _, ?_⟩
          intro hK hW hS hA hE hl hc hs kk
          simp only [Nat.sub_self, Nat.add_zero] at kk
          subst ha
          exact va_sld hx0 hb hE.2.2.2.2.2.2.2.2.1 hE.2.2.2.2.2.2.2.2.2.1 hE.2.2.2.2.2.2.2.2.2.2 hS (xinb_vp hj) hd (kk H locs tys ad ca la (fun _ => rfl) (fun _ _ => rfl) hK hW hS hl)
        · cases hx
      · split at hx
        · rename_i ha
          cases hx
          refine ⟨Nat.le_refl _, ?_⟩
          intro hK hW hS hA hE hl hc hs kk
          simp only [Nat.sub_self, Nat.add_zero] at kk
          exact x_iald hF hd ha.1.1 ha.1.2 ha.2 hK hW (kk H locs tys ad ca la (fun _ => rfl) (fun _ _ => rfl) hK hW hS hl)
        · cases hx
  · split at hx
    · rename_i ha
      cases hx
      refine ⟨Nat.le_refl _, ?_⟩
      intro hK hW hS hA hE hl hc hs kk
      simp only [Nat.sub_self, Nat.add_zero] at kk
      exact x_bald hF hd ha.1 ha.2 hE hS (kk H locs tys ad ca la (fun _ => rfl) (fun _ _ => rfl) hK hW hS hl)
    · cases hx
  · split at hx
    · rename_i ha
      split at hx
      · rename_i r hr2
        cases hx
        refine ⟨Nat.le_refl _, ?_⟩
        intro hK hW hS hA hE hl hc hs kk
        simp only [Nat.sub_self, Nat.add_zero] at kk
        exact x_aald hF hd ha.1.1 ha.1.2.1 ha.1.2.2 ha.2 hr2 hK hW (kk H locs tys ad ca la (fun _ => rfl) (fun _ _ => rfl) hK hW hS hl)
      · cases hx
    · cases hx
  · split at hx
    · rename_i ha
      cases hx
      refine ⟨Nat.le_refl _, ?_⟩
      intro hK hW hS hA hE hl hc hs kk
      simp only [Nat.sub_self, Nat.add_zero] at kk
      subst ha
      exact va_slen hx0 hb hE.2.2.2.2.2.2.2.2.1 hE.2.2.2.2.2.2.2.2.2.1 hE.2.2.2.2.2.2.2.2.2.2 hS hd (kk H locs tys ad ca la (fun _ => rfl) (fun _ _ => rfl) hK hW hS hl)
    · split at hx
      · rename_i ha
        cases hx
        refine ⟨Nat.le_refl _, ?_⟩
        intro hK hW hS hA hE hl hc hs kk
        simp only [Nat.sub_self, Nat.add_zero] at kk
        exact x_blen hF hd ha hE hS (kk H locs tys ad ca la (fun _ => rfl) (fun _ _ => rfl) hK hW hS hl)
      · split at hx
        · rename_i ha
          cases hx
          refine ⟨Nat.le_refl _, ?_⟩
          intro hK hW hS hA hE hl hc hs kk
          simp only [Nat.sub_self, Nat.add_zero] at kk
          exact x_alenW hF hd ha.1 ha.2 hK hW (kk H locs tys ad ca la (fun _ => rfl) (fun _ _ => rfl) hK hW hS hl)
        · cases hx
  · split at hx
    · rename_i ha
      cases hx
      refine ⟨Nat.le_refl _, ?_⟩
      intro hK hW hS hA hE hl hc hs kk
      simp only [Nat.sub_self, Nat.add_zero] at kk
      exact x_iast hF hd ha.1.1 ha.1.2 ha.2 hK hW hS (fun H1 locs1 hW1 hS1 => kk H1 locs1 tys ad ca la (fun _ => rfl) (fun _ _ => rfl) hK hW1 hS1 hl)
    · cases hx
  · split at hx
    · rename_i ha
      cases hx
      refine ⟨Nat.le_refl _, ?_⟩
      intro hK hW hS hA hE hl hc hs kk
      simp only [Nat.sub_self, Nat.add_zero] at kk
      exact x_aast hF hd ha.1.1 ha.1.2.1 ha.1.2.2 ha.2.1 ha.2.2.1 ha.2.2.2 hK hW hS (fun H1 locs1 hW1 hS1 => kk H1 locs1 tys ad ca la (fun _ => rfl) (fun _ _ => rfl) hK hW1 hS1 hl)
    · cases hx
  · split at hx
    · rename_i n st ha
      cases hx
      refine ⟨Nat.le_succ _, ?_⟩
      intro hK hW hS hA hE hl hc hs kk
      have e1 : X.1 + 1 - X.1 = 1 := by omega
      have e2 : xss (X.1 + 1) - xss X.1 = n.toNatClampNeg := by
        show xss X.1 + (xkind X.1).2 - xss X.1 = _
        rw [(xsh_kind ha.1).1]
        omega
      simp only [e1, e2] at hc hs kk
      exact x_newa hF hd ha.1 ha.2.1 ha.2.2.1 ha.2.2.2 hK hW hS hA hl hc hs (fun H1 tys1 ad1 ca1 g1 g2 g3 g4 g5 => kk H1 locs tys1 ad1 ca1 la (fun z => absurd z (by omega)) g1 g2 g3 g4 g5)
    · cases hx
  · split at hx
    · rename_i idx n st ha
      cases hx
      refine ⟨Nat.le_succ _, ?_⟩
      intro hK hW hS hA hE hl hc hs kk
      have e1 : X.1 + 1 - X.1 = 1 := by omega
      have e2 : xss (X.1 + 1) - xss X.1 = n.toNatClampNeg := by
        show xss X.1 + (xkind X.1).2 - xss X.1 = _
        rw [(xsh_kind ha.1).1]
        omega
      simp only [e1, e2] at hc hs kk
      have hC := xcl_get ha.2.2.2.1
      simp only [xokI, hC, decide_eq_true_eq] at hI
      have hAO : rs ∈ [0, 2, 3, 5] := by
        have h94 : ∀ c, c < 94 → ∀ r, r < 9 → (xkind c).1 = 100 + r → r ∈ [0, 2, 3, 5] := by decide +kernel
        have hk := xsh_kind ha.1
        have hl94 : xSH.length = 94 := by decide +kernel
        exact h94 X.1 (by omega) rs ha.2.2.2.1 (by rw [hk.1])
      exact x_newq hF hd hC hI (hE.2.2.2.2.2.2.1 rs hAO) ha.1 ha.2.1 ha.2.2.1 ha.2.2.2.1 ha.2.2.2.2 hK hW hS hA hl hc hs (fun H1 tys1 ad1 ca1 g1 g2 g3 g4 g5 => kk H1 locs tys1 ad1 ca1 la (fun z => absurd z (by omega)) g1 g2 g3 g4 g5)
    · cases hx
  · split at hx
    · rename_i idx st ha
      cases hx
      refine ⟨Nat.le_succ _, ?_⟩
      intro hK hW hS hA hE hl hc hs kk
      have e1 : X.1 + 1 - X.1 = 1 := by omega
      have e2 : xss (X.1 + 1) - xss X.1 = xnf rs := by
        show xss X.1 + (xkind X.1).2 - xss X.1 = _
        rw [(xsh_kind ha.1).1]
        omega
      simp only [e1, e2] at hc hs kk
      have hC := xcl_get ha.2.1
      simp only [xokI, hC, decide_eq_true_eq] at hI
      exact x_new hF hd hC hI ha.1 ha.2.2 hK hW hS hA hl hc hs (fun H1 ad1 ca1 g1 g3 g4 g5 => kk H1 locs tys ad1 ca1 la (fun z => absurd z (by omega)) g1 hK g3 g4 g5)
    · cases hx
  · cases hq : xs0 i rs wp pc ls st with
    | none => rw [hq] at hx; cases hx
    | some q =>
      rw [hq] at hx
      cases hx
      refine ⟨Nat.le_refl _, ?_⟩
      intro hK hW hS hA hE hl hc hs kk
      simp only [Nat.sub_self, Nat.add_zero] at kk
      exact xs0_sound (S := S) hF hd hI hf hq hE.2.2.1 hE.2.2.2.1 hE.2.2.2.2.2.1 hE.2.1 hS hl (fun la' h' => kk H locs tys ad ca la' (fun _ => rfl) (fun _ _ => rfl) hK hW hS h')
theorem xput_le {X X' : XM} {c ci k : Nat} {v : Value} (hv : xput X c ci k v = some X') : X.1 ≤ X'.1 := by
  unfold xput at hv
  split at hv
  · cases hv; exact Nat.le_refl _
  · split at hv
    · cases hv; exact Nat.le_refl _
    · cases hv
  · cases hv; exact Nat.le_refl _
  · split at hv
    · cases hv; exact Nat.le_refl _
    · cases hv
  · cases hv
theorem xmap_le {X : XM} {o : Option (Nat × XL × List Value)} {q0 : Nat × XL × List Value × XM} (hx : o.map (fun q => (q.1, q.2.1, q.2.2, X)) = some q0) : X.1 ≤ q0.2.2.2.1 := by
  cases o with
  | none => cases hx
  | some q => cases hx; exact Nat.le_refl _
theorem xs1_le {S : XS} {kd : Nat} {i : Instr} {rs wp pc : Nat} {ls : XL} {st : List Value} {X : XM} {q0 : Nat × XL × List Value × XM} (hx : xs1 S kd i rs wp pc ls st X = some q0) : X.1 ≤ q0.2.2.2.1 := by
  unfold xs1 at hx
  split at hx
  all_goals repeat' (first | (exact xmap_le hx) | (cases hx; done) | (cases hx; exact Nat.le_refl _) | (cases hx; exact Nat.le_succ _) | (cases hx; exact xput_le (by assumption)) | split at hx)
end XS3
