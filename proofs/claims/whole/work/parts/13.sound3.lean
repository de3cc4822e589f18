/-! one step of ours that reads or writes the world -/
/-- what a field of a kind is, as a type -/
def xtk (k : Nat) (ty : FieldType) : Bool := match k, ty with
  | 0, .int => true
  | 3, .boolean => true
  | 1, .long => true
  | 2, .object _ => true
  | 2, .array _ => true
  | _, _ => false
def xcK (ci : Nat) (C : vw_C) : Prop :=
  ((∀ w ∈ u_ws C.1 C.2.1 C.2.2, w ∈ lw_tbl ∧ goodWord w = true) ∧ (Jvm.Cond.instantiable C.1 C.2.2 ∈ lw_tbl ∧ Jvm.Cond.initialized C.1 ∈ lw_tbl)) ∧
  (∀ a, a < C.2.2 → ∀ b, b < C.2.2 → a ≠ b → (C.2.1 a).2.1 ≠ (C.2.1 b).2.1) ∧ xnf ci = C.2.2 ∧
  (∀ k, k < C.2.2 → (C.2.1 k).2.2.2 = (xfk ci k).2) ∧
  ∃ ty : Nat → FieldType, (∀ k, k < C.2.2 → parseFieldDescriptor (C.2.1 k).2.2.1 = some (ty k)) ∧ ∀ k, k < C.2.2 → xtk (xfk ci k).1 (ty k) = true
set_option maxRecDepth 100000 in
theorem xcls {ci : Nat} {C : vw_C} (h : vwCl[ci]? = some C) : xcK ci C := by
  match ci, h with
  | 0, h => cases h; exact ⟨⟨by decide +kernel, by decide +kernel, by decide +kernel⟩, nmX0, by decide +kernel, by decide +kernel, tyX0, tyX0_ok, by decide +kernel⟩
  | 1, h => cases h; exact ⟨⟨by decide +kernel, by decide +kernel, by decide +kernel⟩, nmX1, by decide +kernel, by decide +kernel, tyX1, tyX1_ok, by decide +kernel⟩
  | 2, h => cases h; exact ⟨⟨by decide +kernel, by decide +kernel, by decide +kernel⟩, nmX2, by decide +kernel, by decide +kernel, tyX2, tyX2_ok, by decide +kernel⟩
  | 3, h => cases h; exact ⟨⟨by decide +kernel, by decide +kernel, by decide +kernel⟩, nmX3, by decide +kernel, by decide +kernel, tyX3, tyX3_ok, by decide +kernel⟩
  | 4, h => cases h; exact ⟨⟨by decide +kernel, by decide +kernel, by decide +kernel⟩, nmX4, by decide +kernel, by decide +kernel, tyX4, tyX4_ok, by decide +kernel⟩
  | 5, h => cases h; exact ⟨⟨by decide +kernel, by decide +kernel, by decide +kernel⟩, nmX5, by decide +kernel, by decide +kernel, tyX5, tyX5_ok, by decide +kernel⟩
  | 6, h => cases h; exact ⟨⟨by decide +kernel, by decide +kernel, by decide +kernel⟩, nmX6, by decide +kernel, by decide +kernel, tyX6, tyX6_ok, by decide +kernel⟩
  | 7, h => cases h; exact ⟨⟨by decide +kernel, by decide +kernel, by decide +kernel⟩, nmX7, by decide +kernel, by decide +kernel, tyX7, tyX7_ok, by decide +kernel⟩
  | 8, h => cases h; exact ⟨⟨by decide +kernel, by decide +kernel, by decide +kernel⟩, nmX8, by decide +kernel, by decide +kernel, tyX8, tyX8_ok, by decide +kernel⟩
  | k + 9, h => simp [vwCl] at h
theorem xcK.gt {ci : Nat} {C : vw_C} (h : xcK ci C) : ∀ w ∈ u_ws C.1 C.2.1 C.2.2, w ∈ xGT := fun w hw => xGT_in (h.1.1 w hw).1 (h.1.1 w hw).2
theorem xfs_get {ad : Nat → Nat} {X : XM} {c ci k : Nat} (h : k < xnf ci) : (xfs ad X c ci)[k]? = some (xfv ad X c ci k) := by
  simp [xfs, h]
theorem xget_fv {ad : Nat → Nat} {fmt : Value} {X : XM} {c ci k : Nat} {v : Value} (h : xget X c ci k = some v) : xfv ad X c ci k = xv ad fmt v := by
  unfold xget at h
  unfold xfv
  split at h
  · cases h; rename_i hk; rw [hk]; rfl
  · cases h; rename_i hk; rw [hk]; rfl
  · cases h; rename_i hk; rw [hk]; rfl
  · cases h
    rename_i hk
    rw [hk]
    show va_rf ((X.2.2.2 c k).map ad) = xv ad fmt (va_rf (X.2.2.2 c k))
    cases X.2.2.2 c k <;> rfl
  · cases h
theorem xce_obj {ad : Nat → Nat} {ca : Nat → ClassId} {X : XM} {c ci : Nat} (h : (xkind c).1 = 200 + ci) : xce ad ca X c = .inr (ci, xfs ad X c ci) := by
  unfold xce
  rw [if_neg (by omega), if_neg (by omega), h, Nat.add_sub_cancel_left]
theorem xce_int {ad : Nat → Nat} {ca : Nat → ClassId} {X : XM} {c : Nat} (h : (xkind c).1 = 0) : xce ad ca X c = .inl (ca c, (xkind c).2, .inl (X.2.1 c)) := by
  unfold xce
  rw [if_pos h]
theorem xce_ref {ad : Nat → Nat} {ca : Nat → ClassId} {X : XM} {c : Nat} (h : 100 ≤ (xkind c).1) (h2 : (xkind c).1 < 200) : xce ad ca X c = .inl (ca c, (xkind c).2, .inr (.inr (.inr (.inr (fun i => (X.2.2.2 c i).map ad))))) := by
  unfold xce
  rw [if_neg (by omega), if_pos h2]
theorem xput_spec {ad : Nat → Nat} {fmt : Value} {X X' : XM} {c ci k : Nat} {v : Value} (h : xput X c ci k v = some X') (hc : c < X.1) (hkN : k < xnf ci) :
    X'.1 = X.1 ∧ (∀ j, j ≠ c → X'.2.1 j = X.2.1 j ∧ X'.2.2.1 j = X.2.2.1 j ∧ X'.2.2.2 j = X.2.2.2 j) ∧ (xfs ad X c ci).set k (xv ad fmt v) = xfs ad X' c ci ∧
    ((∀ c k a, X.2.2.2 c k = some a → a < X.1) → ∀ c k a, X'.2.2.2 c k = some a → a < X.1) ∧
    ∀ ty, xtk (xfk ci k).1 ty = true → narrow ty (xv ad fmt v) = xv ad fmt v ∧ fits ty (xv ad fmt v) = true := by
  have key : ∀ (X' : XM) (w : Value), xfv ad X' c ci k = w → (∀ j, j ≠ k → xfv ad X' c ci j = xfv ad X c ci j) → (xfs ad X c ci).set k w = xfs ad X' c ci := by
    intro X' w h1 h2
    apply List.ext_getElem?
    intro j
    by_cases hj : j = k
    · subst hj
      rw [List.getElem?_set_self (by simp [xfs]; exact hkN), xfs_get hkN, h1]
    · rw [List.getElem?_set_ne (fun e => hj e.symm)]
      by_cases hl : j < xnf ci
      · rw [xfs_get hl, xfs_get hl, h2 j hj]
      · rw [List.getElem?_eq_none (by simp [xfs]; omega), List.getElem?_eq_none (by simp [xfs]; omega)]
  unfold xput at h
  split at h
  · cases h
    rename_i x hk
    refine ⟨rfl, fun j hj => ⟨xu_ne hj, rfl, rfl⟩, key _ _ (by unfold xfv; rw [hk]; simp [xu, xv]) (fun j hj => by unfold xfv; simp [xu, hj]), fun hw => hw, fun ty ht => ?_⟩
    rw [hk] at ht
    cases ty <;> simp [xtk] at ht
    exact ⟨rfl, rfl⟩
  · rename_i x hk
    split at h
    · cases h
      rename_i hx
      refine ⟨rfl, fun j hj => ⟨xu_ne hj, rfl, rfl⟩, key _ _ (by unfold xfv; rw [hk]; simp [xu, xv]) (fun j hj => by unfold xfv; simp [xu, hj]), fun hw => hw, fun ty ht => ?_⟩
      rw [hk] at ht
      cases ty <;> simp [xtk] at ht
      rcases hx with rfl | rfl
      · exact ⟨show narrow .boolean (.int 0) = .int 0 by decide, show fits .boolean (.int 0) = true by decide⟩
      · exact ⟨show narrow .boolean (.int 1) = .int 1 by decide, show fits .boolean (.int 1) = true by decide⟩
    · cases h
  · cases h
    rename_i x hk
    refine ⟨rfl, fun j hj => ⟨rfl, xu_ne hj, rfl⟩, key _ _ (by unfold xfv; rw [hk]; simp [xu, xv]) (fun j hj => by unfold xfv; simp [xu, hj]), fun hw => hw, fun ty ht => ?_⟩
    rw [hk] at ht
    cases ty <;> simp [xtk] at ht
    exact ⟨rfl, rfl⟩
  · rename_i a hk
    split at h
    · cases h
      rename_i ha
      refine ⟨rfl, fun j hj => ⟨rfl, rfl, xu_ne hj⟩, key _ _ (by unfold xfv; rw [hk]; simp [xu, xv, va_rf]) (fun j hj => by unfold xfv; simp [xu, hj]), fun hw c' k' a' h' => ?_, fun ty ht => ?_⟩
      · simp only [xu] at h'
        split at h'
        · split at h'
          · cases h'; exact ha
          · exact hw _ _ _ h'
        · exact hw _ _ _ h'
      · rw [hk] at ht
        cases ty <;> simp [xtk] at ht <;> exact ⟨rfl, rfl⟩
    · cases h
  · cases h
theorem xinb_vp {i : Int32} {n : Nat} (h : xinb i n) : vp_in i n := vp_in_iff.mpr h
theorem xW.put {D : va_G} {tys : List (ClassId × FieldType)} {ad : Nat → Nat} {ca : Nat → ClassId} {A : Nat → Prop} {X X' : XM} {H H1 : Heap} {c : Nat} {e : va_E} (h : xW D tys ad ca A X H) (h1 : X'.1 = X.1) (he : xce ad ca X' c = e) (hne : ∀ j, j ≠ c → X'.2.1 j = X.2.1 j ∧ X'.2.2.1 j = X.2.2.1 j ∧ X'.2.2.2 j = X.2.2.2 j)
    (hwf : ∀ c k a, X'.2.2.2 c k = some a → a < X.1) (hP : va_P D vwCl ((xw ad ca X).set c (ad c, e)) H1) (hD : va_D A ((xw ad ca X).set c (ad c, e))) : xW D tys ad ca A X' H1 := by
  rw [xw_set h1 he (fun j hj => xce_of (hne j hj).1 (hne j hj).2.1 (hne j hj).2.2)] at hP hD
  exact ⟨hP, hD, fun c hc => h.2.2.1 c (by rw [← h1]; exact hc), fun c k a ha => by rw [h1]; exact hwf c k a ha, by rw [h1]; exact h.2.2.2.2⟩
