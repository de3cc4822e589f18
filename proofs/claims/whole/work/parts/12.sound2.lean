/-! the world: our cells in the machine's heap -/
def xfv (ad : Nat → Nat) (X : XM) (c ci k : Nat) : Value := match (xfk ci k).1 with
  | 0 => .int (X.2.1 c k)
  | 3 => .int (X.2.1 c k)
  | 1 => .long (X.2.2.1 c k)
  | _ => va_rf ((X.2.2.2 c k).map ad)
def xfs (ad : Nat → Nat) (X : XM) (c ci : Nat) : List Value := (List.range (xnf ci)).map (xfv ad X c ci)
def xce (ad : Nat → Nat) (ca : Nat → ClassId) (X : XM) (c : Nat) : va_E :=
  if (xkind c).1 = 0 then .inl (ca c, (xkind c).2, .inl (X.2.1 c))
  else if (xkind c).1 < 200 then .inl (ca c, (xkind c).2, .inr (.inr (.inr (.inr (fun i => (X.2.2.2 c i).map ad)))))
  else .inr ((xkind c).1 - 200, xfs ad X c ((xkind c).1 - 200))
def xw (ad : Nat → Nat) (ca : Nat → ClassId) (X : XM) : va_W := (List.range X.1).map (fun c => (ad c, xce ad ca X c))
theorem xw_get {ad : Nat → Nat} {ca : Nat → ClassId} {X : XM} {c : Nat} (h : c < X.1) : (xw ad ca X)[c]? = some (ad c, xce ad ca X c) := by
  simp [xw, h]
theorem xw_len {ad : Nat → Nat} {ca : Nat → ClassId} {X : XM} : (xw ad ca X).length = X.1 := by simp [xw]
theorem xw_set {ad : Nat → Nat} {ca : Nat → ClassId} {X X' : XM} {c : Nat} {e : va_E} (h1 : X'.1 = X.1) (he : xce ad ca X' c = e) (hne : ∀ j, j ≠ c → xce ad ca X' j = xce ad ca X j) : (xw ad ca X).set c (ad c, e) = xw ad ca X' := by
  apply List.ext_getElem?
  intro j
  by_cases hj : j = c
  · subst hj
    by_cases hl : j < X.1
    · rw [List.getElem?_set_self (by rw [xw_len]; exact hl), xw_get (by rw [h1]; exact hl), he]
    · rw [List.getElem?_eq_none (by rw [List.length_set, xw_len]; omega), List.getElem?_eq_none (by rw [xw_len, h1]; omega)]
  · rw [List.getElem?_set_ne (fun e => hj e.symm)]
    by_cases hl : j < X.1
    · rw [xw_get hl, xw_get (by rw [h1]; exact hl), hne j hj]
    · rw [List.getElem?_eq_none (by rw [xw_len]; omega), List.getElem?_eq_none (by rw [xw_len, h1]; omega)]
theorem xw_push {ad ad1 : Nat → Nat} {ca ca1 : Nat → ClassId} {X X1 : XM} {q : Nat} {e : va_E} (h1 : X1.1 = X.1 + 1) (hq : ad1 X.1 = q) (he : xce ad1 ca1 X1 X.1 = e) (hne : ∀ j, j < X.1 → ad1 j = ad j ∧ xce ad1 ca1 X1 j = xce ad ca X j) : xw ad ca X ++ [(q, e)] = xw ad1 ca1 X1 := by
  unfold xw
  rw [h1, List.range_succ, List.map_append, List.map_cons, List.map_nil, hq, he]
  congr 1
  apply List.map_congr_left
  intro j hj
  obtain ⟨a1, a2⟩ := hne j (List.mem_range.mp hj)
  rw [a1, a2]
theorem xu_ne {α : Type} {f : Nat → Nat → α} {c k j : Nat} {v : α} (h : j ≠ c) : xu f c k v j = f j := by
  funext k'
  unfold xu
  rw [if_neg h]
theorem xur_ne {α : Type} {f : Nat → Nat → α} {c j : Nat} {g : Nat → α} (h : j ≠ c) : xur f c g j = f j := by
  funext k'
  unfold xur
  rw [if_neg h]
theorem xur_eq {α : Type} {f : Nat → Nat → α} {c : Nat} {g : Nat → α} : xur f c g c = g := by
  funext k'
  unfold xur
  rw [if_pos rfl]
theorem xu_eq {f : Nat → Nat → Int32} {c k : Nat} {v : Int32} : xu f c k v c = upd (f c) k v := by
  funext k'
  unfold xu upd
  simp
/-- a cell speaks of its own numbers alone -/
theorem xce_of {ad : Nat → Nat} {ca : Nat → ClassId} {X X' : XM} {c : Nat} (hI : X'.2.1 c = X.2.1 c) (hL : X'.2.2.1 c = X.2.2.1 c) (hR : X'.2.2.2 c = X.2.2.2 c) : xce ad ca X' c = xce ad ca X c := by
  have hv : ∀ ci, xfv ad X' c ci = xfv ad X c ci := by
    intro ci
    funext k
    unfold xfv
    rw [hI, hL, hR]
  unfold xce xfs
  rw [hI, hR]
  simp only [hv]
def xty (kd : Nat) : FieldType := if kd = 0 then .int else .object (vwCl.getD (kd - 100) ("", TX0, 0)).1
/-- our memory is the heap's cells -/
def xW (D : va_G) (tys : List (ClassId × FieldType)) (ad : Nat → Nat) (ca : Nat → ClassId) (A : Nat → Prop) (X : XM) (H : Heap) : Prop :=
  va_P D vwCl (xw ad ca X) H ∧ va_D A (xw ad ca X) ∧ (∀ c, c < X.1 → (xkind c).1 < 200 → ∃ t0 : Nat, tys[t0]? = some (ca c, xty (xkind c).1)) ∧ (∀ c k a, X.2.2.2 c k = some a → a < X.1) ∧ X.1 ≤ xSH.length
/-- what stands from the start, and nobody writes -/
def xE (S : XS) (ad : Nat → Nat) (fmt : Value) (A : Nat → Prop) (U : State) (H : Heap) : Prop :=
  vk_S 8 (xBYT.map List.length) xBYT (fun i => ad (10000 + i)) (fun i => ad (20000 + i)) A U H ∧
  (∀ (k : Nat) (q : String × Nat × String), xSTR[k]? = some q → vk_R q.1 q.2.1 q.2.2 (ad (10000 + k)) U) ∧
  va_Z "java/lang/String" "COMPACT_STRINGS" "Z" (.int 1) A U H ∧
  va_Z "BetweenThisAndThat$Saying" "ABOVE" "[I" (.ref (ad 30000)) A U H ∧
  va_T .int (ad 30000) 6 (fun j => .int (xabove.getD j 0)) A U H ∧
  va_Z "jdk/internal/util/Preconditions" "SIOOBE_FORMATTER" "Ljava/util/function/BiFunction;" fmt A U H ∧
  (∀ ci : Nat, ci ∈ [0, 2, 3, 5] → va_AO (vwCl.getD ci ("", TX0, 0)).1 U) ∧
  (∀ (a : String) (i : Nat) (y : MethodName) (h : String), Cond.methodLinkNest a i y h ∈ xNEST → va_Nw (.methodLinkNest a i y h) U) ∧
  (va_X (ad 40000) S.1 S.2 U H ∧ ad 40000 < H.size ∧ ¬ A (ad 40000))
theorem va_X.kept2 {b L : Nat} {xs : Nat → Int32} {U : State} {H H1 : Heap} (h : va_X b L xs U H) (hq : H1[b]? = H[b]?) : va_X b L xs U H1 := h.kept hq
/-- it moves on to a callee -/
theorem xE.go {S : XS} {ad : Nat → Nat} {fmt : Value} {A B : Nat → Prop} {s U : State} {H0 H : Heap} (h : xE S ad fmt A s H0) (hW : s.WarmedH U.vm) (hz : H0.size ≤ H.size) (hk : ∀ a : Nat, a < H0.size → ¬ A a → H[a]? = H0[a]?) (hAB : ∀ q, B q → A q) : xE S ad fmt B U H := by
  obtain ⟨h1, h2, h3, h4, h5, h6, h7, h8, h9, h10, h11⟩ := h
  have hm := hW.alike
  exact ⟨((vk_S.moved hm h1).kept hk).narrow hAB, fun k q hq => (h2 k q hq).warm hW, ((va_Z.moved hm h3).kept hk).narrow hAB, ((va_Z.moved hm h4).kept hk).narrow hAB, ((va_T.moved hm h5).kept hk).narrow hAB, ((va_Z.moved hm h6).kept hk).narrow hAB, fun ci hci => va_AO.moved hm (h7 ci hci), fun a i y hh hin => va_Nw.warmM hW (h8 a i y hh hin), (va_X.moved hm h9).kept (hk _ h10 h11), Nat.lt_of_lt_of_le h10 hz, fun z => h11 (hAB _ z)⟩
/-- addresses of what stands: only these matter -/
theorem xE.ad {S : XS} {ad ad1 : Nat → Nat} {fmt : Value} {A : Nat → Prop} {U : State} {H : Heap} (h : xE S ad fmt A U H) (hq : ∀ a, 10000 ≤ a → ad1 a = ad a) : xE S ad1 fmt A U H := by
  have e1 : (fun i => ad1 (10000 + i)) = (fun i => ad (10000 + i)) := funext fun i => hq _ (by omega)
  have e2 : (fun i => ad1 (20000 + i)) = (fun i => ad (20000 + i)) := funext fun i => hq _ (by omega)
  unfold xE at h ⊢
  rw [e1, e2, hq 30000 (by omega), hq 40000 (by omega)]
  refine ⟨h.1, fun k q hk => ?_, h.2.2⟩
  rw [hq _ (by omega)]
  exact h.2.1 k q hk
