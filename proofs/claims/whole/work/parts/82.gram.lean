/-! the grammar of texts, over tokens by number: what is read, how far, what it becomes (newest piece first) -/
abbrev pR : Type := Bool × Nat × List Int
abbrev pF : Type := Nat → List Int → pR
def sqL (K : Nat → Int) (op : Int → Int) (sub : pF) : Nat → pF
  | 0, i, c => (true, i, c)
  | j + 1, i, c => if op (K i) = 0 then (true, i, c) else if (sub (i + 1) c).1 = true then sqL K op sub j (sub (i + 1) c).2.1 (op (K i) :: (sub (i + 1) c).2.2) else sub (i + 1) c
def sqs (K : Nat → Int) (op : Int → Int) (sub : pF) : pF := fun i c => if (sub i c).1 = true then sqL K op sub 160 (sub i c).2.1 (sub i c).2.2 else sub i c
def opO (k : Int) : Int := if k = 4 then 11 else 0
def opA (k : Int) : Int := if k = 5 then 12 else 0
def opS (k : Int) : Int := if k = 43 then 16 else if k = 45 then 17 else 0
def opT (k : Int) : Int := if k = 42 then 18 else 0
def opC (k : Int) : Int := if k = 60 then 14 else if k = 61 then 15 else 0
def pOne (K V : Nat → Int) (lo la : pF) : pF := fun i c => if K i = 2 ∨ K i = 3 then (true, i + 1, V i :: c)
  else if K i = 45 then (if (lo i c).1 = true then (true, (lo i c).2.1, 19 :: (lo i c).2.2) else lo i c)
  else if K i = 40 then (if (la i c).1 = true then (if K (la i c).2.1 = 41 then (true, (la i c).2.1 + 1, (la i c).2.2) else (false, (la i c).2.1, (la i c).2.2)) else la i c)
  else (false, i, c)
def pNot (K : Nat → Int) (ln sum : pF) : pF := fun i c => if K i = 6 then (if (ln i c).1 = true then (true, (ln i c).2.1, 13 :: (ln i c).2.2) else ln i c)
  else if (sum i c).1 = true then (if opC (K (sum i c).2.1) = 0 then sum i c else if (sum ((sum i c).2.1 + 1) (sum i c).2.2).1 = true then (true, (sum ((sum i c).2.1 + 1) (sum i c).2.2).2.1, opC (K (sum i c).2.1) :: (sum ((sum i c).2.1 + 1) (sum i c).2.2).2.2) else sum ((sum i c).2.1 + 1) (sum i c).2.2)
  else sum i c
def pNil : pF := fun i c => (false, i, c)
def pSh (f : pF) : pF := fun i c => f (i + 1) c
abbrev mkOne (K V : Nat → Int) (lo la : pF) : pF := pOne K V lo la
abbrev mkTerm (K V : Nat → Int) (lo la : pF) : pF := sqs K opT (pOne K V lo la)
abbrev mkSum (K V : Nat → Int) (lo la : pF) : pF := sqs K opS (mkTerm K V lo la)
abbrev mkNot (K V : Nat → Int) (lo ln la : pF) : pF := pNot K ln (mkSum K V lo la)
abbrev mkAll (K V : Nat → Int) (lo ln la : pF) : pF := sqs K opA (mkNot K V lo ln la)
abbrev mkAny (K V : Nat → Int) (lo ln la : pF) : pF := sqs K opO (mkAll K V lo ln la)
/-- one, not, any: what is below them -/
def lwF (K V : Nat → Int) : Nat → pF × pF × pF
  | 0 => (pNil, pNil, pNil)
  | k + 1 => (pSh (mkOne K V (lwF K V k).1 (lwF K V k).2.2), pSh (mkNot K V (lwF K V k).1 (lwF K V k).2.1 (lwF K V k).2.2), pSh (mkAny K V (lwF K V k).1 (lwF K V k).2.1 (lwF K V k).2.2))
theorem pR_eta {r : pR} {i : Nat} {c : List Int} (h : r = (true, i, c)) : r.1 = true ∧ r.2.1 = i ∧ r.2.2 = c := by rw [h]; exact ⟨rfl, rfl, rfl⟩
theorem pR_mk {r : pR} {b : Bool} (h : r.1 = b) : r = (b, r.2.1, r.2.2) := by rw [← h]
/-- how deep the stack is behind so many pieces -/
def dpt : List Int → Int → Int → Prop
  | [], d, f => d = f
  | x :: e, d, f => ∃ g, dpt e d g ∧ ((x < 11 ∨ 100000 ≤ x) ∧ f = g + 1 ∨ (x = 13 ∨ x = 19) ∧ 1 ≤ g ∧ f = g ∨ tTwo x ∧ 2 ≤ g ∧ f = g - 1)
theorem dpt_app {e1 : List Int} {d g : Int} (h : dpt e1 d g) : ∀ {e2 : List Int} {f : Int}, dpt e2 g f → dpt (e2 ++ e1) d f := by
  intro e2
  induction e2 with
  | nil => intro f k; have e : g = f := k; rw [← e]; exact h
  | cons x e2 ih =>
    intro f k
    obtain ⟨y, k1, k2⟩ := k
    exact ⟨y, ih k1, k2⟩
def crep (R : Int → Int) (b : Int) : List Int → Prop
  | [] => True
  | x :: c => R (b + c.length) = x ∧ crep R b c
theorem crep_congr {R R' : Int → Int} {b : Int} {c : List Int} : (∀ k, b ≤ k → k < b + c.length → R' k = R k) → crep R b c → crep R' b c := by
  induction c with
  | nil => intro _ _; exact True.intro
  | cons x c ih =>
    intro h g
    have el : ((x :: c).length : Int) = c.length + 1 := by rw [List.length_cons]; rfl
    rw [el] at h
    exact ⟨by rw [h _ (by omega) (by omega)]; exact g.1, ih (fun k k0 k1 => h k k0 (by omega)) g.2⟩
theorem crep_app {R : Int → Int} {b : Int} {c : List Int} : ∀ {e : List Int}, crep R b (e ++ c) → crep R b c := by
  intro e
  induction e with
  | nil => intro h; exact h
  | cons x e ih => intro h; exact ih h.2
theorem dpt_tDp {C : Int → Int} {b : Int} {c : List Int} : ∀ {e : List Int} {d f : Int}, crep C b (e ++ c) → dpt e d f → tDp C e.length (b + c.length) d f := by
  intro e
  induction e with
  | nil => intro d f _ h; exact h
  | cons x e ih =>
    intro d f h k
    obtain ⟨g, k1, k2⟩ := k
    have a := ih h.2 k1
    refine tDp_app a ?_
    have hx : C (b + ((e ++ c).length : Int)) = x := h.1
    rw [show ((e ++ c).length : Int) = c.length + e.length by rw [List.length_append]; omega] at hx
    rw [show b + (c.length : Int) + e.length = b + (c.length + e.length) by omega]
    show tDp C 1 _ g f
    unfold tDp
    rw [hx]
    rcases k2 with ⟨k3, k4⟩ | ⟨k3, k4, k5⟩ | ⟨k3, k4, k5⟩
    · rw [if_pos k3]; exact k4.symm
    · rw [if_neg (by omega), if_pos k3]; exact ⟨k4, k5.symm⟩
    · rw [if_neg (by omega), if_neg (by omega)]; exact ⟨k4, k5.symm⟩
/-- what a reading leaves: no more pieces than tokens, good ones, one number more -/
def ext (i : Nat) (c : List Int) (i' : Nat) (c' : List Int) (z : Int) : Prop := ∃ e : List Int, c' = e ++ c ∧ e.length + i ≤ i' ∧ (∀ x ∈ e, tVal x) ∧ ∀ d : Int, 0 ≤ d → dpt e (d + 1 - z) (d + 1)
def gd (f : pF) : Prop := ∀ i c i' c', f i c = (true, i', c') → i < i' ∧ i' ≤ 160 ∧ ext i c i' c' 1
def gd0 (f : pF) : Prop := ∀ i c i' c', f i c = (true, i', c') → i ≤ i' ∧ (i ≤ 160 → i' ≤ 160) ∧ ext i c i' c' 0
theorem ext.two {i i1 i2 i3 : Nat} {c c1 c2 : List Int} {x z : Int} (h : ext i c i1 c1 z) (g : ext i2 c1 i3 c2 1) (hi : i1 < i2) (hx : tTwo x) : ext i c i3 (x :: c2) z := by
  obtain ⟨e, rfl, e2, e3, e4⟩ := h
  obtain ⟨f, rfl, f2, f3, f4⟩ := g
  refine ⟨x :: (f ++ e), by rw [List.cons_append, List.append_assoc], by rw [List.length_cons, List.length_append]; omega, fun y hy => ?_, fun d hd => ?_⟩
  · rcases List.mem_cons.mp hy with rfl | hy
    · exact Or.inr (Or.inr ⟨hx.1, by have := hx.2.1; omega⟩)
    · rcases List.mem_append.mp hy with hy | hy
      · exact f3 y hy
      · exact e3 y hy
  · have a := e4 d hd
    have b := f4 (d + 1) (by omega)
    rw [show d + 1 + 1 - 1 = d + 1 by omega] at b
    exact ⟨d + 1 + 1, dpt_app a b, Or.inr (Or.inr ⟨hx, by omega, by omega⟩)⟩
theorem ext.one {i i1 : Nat} {c c1 : List Int} {x : Int} (h : ext (i + 1) c i1 c1 1) (hx : x = 13 ∨ x = 19) : ext i c i1 (x :: c1) 1 := by
  obtain ⟨e, rfl, e2, e3, e4⟩ := h
  refine ⟨x :: e, rfl, by rw [List.length_cons]; omega, fun y hy => ?_, fun d hd => ?_⟩
  · rcases List.mem_cons.mp hy with rfl | hy
    · exact Or.inr (Or.inr ⟨by omega, by omega⟩)
    · exact e3 y hy
  · exact ⟨d + 1, e4 d hd, Or.inr (Or.inl ⟨hx, by omega, rfl⟩)⟩
theorem ext.more {i i1 i2 : Nat} {c c1 : List Int} {z : Int} (h : ext i c i1 c1 z) (hi : i1 ≤ i2) : ext i c i2 c1 z := by
  obtain ⟨e, e1, e2, e3⟩ := h
  exact ⟨e, e1, by omega, e3⟩
theorem ext.less {i i0 i1 : Nat} {c c1 : List Int} {z : Int} (h : ext i c i1 c1 z) (hi : i0 ≤ i) : ext i0 c i1 c1 z := by
  obtain ⟨e, e1, e2, e3⟩ := h
  exact ⟨e, e1, by omega, e3⟩
theorem ext.trans {i i1 i2 : Nat} {c c1 c2 : List Int} {z : Int} (h : ext i c i1 c1 z) (g : ext i1 c1 i2 c2 0) : ext i c i2 c2 z := by
  obtain ⟨e, rfl, e2, e3, e4⟩ := h
  obtain ⟨f, rfl, f2, f3, f4⟩ := g
  refine ⟨f ++ e, by rw [List.append_assoc], by rw [List.length_append]; omega, fun y hy => ?_, fun d hd => ?_⟩
  · rcases List.mem_append.mp hy with hy | hy
    · exact f3 y hy
    · exact e3 y hy
  · have b := f4 d hd
    rw [show d + 1 - 0 = d + 1 by omega] at b
    exact dpt_app (e4 d hd) b
theorem ext.nil {i : Nat} {c : List Int} : ext i c i c 0 := ⟨[], rfl, by rw [List.length_nil]; omega, fun x hx => absurd hx List.not_mem_nil, fun d hd => by show d + 1 - 0 = d + 1; omega⟩
theorem sqL_gd {K : Nat → Int} {op : Int → Int} {sub : pF} (h : gd sub) (ho : ∀ k, op k ≠ 0 → tTwo (op k)) {j : Nat} : gd0 (sqL K op sub j) := by
  induction j with
  | zero =>
    intro i c i' c' e
    have a := pR_eta e
    have a1 : i = i' := a.2.1
    have a2 : c = c' := a.2.2
    rw [← a1, ← a2]
    exact ⟨Nat.le_refl _, fun g => g, ext.nil⟩
  | succ j ih =>
    intro i c i' c' e
    unfold sqL at e
    split at e
    · have a := pR_eta e
      have a1 : i = i' := a.2.1
      have a2 : c = c' := a.2.2
      rw [← a1, ← a2]
      exact ⟨Nat.le_refl _, fun g => g, ext.nil⟩
    · rename_i h0
      split at e
      · rename_i h1
        have a := h _ _ _ _ (pR_mk h1)
        have b := ih _ _ _ _ e
        refine ⟨by omega, fun g => b.2.1 a.2.1, ?_⟩
        exact (ext.two (i2 := i + 1) (i := i) (i1 := i) ext.nil a.2.2 (by omega) (ho _ h0)).trans b.2.2
      · rename_i h1
        rw [e] at h1
        exact absurd rfl h1
theorem sqs_gd {K : Nat → Int} {op : Int → Int} {sub : pF} (h : gd sub) (ho : ∀ k, op k ≠ 0 → tTwo (op k)) : gd (sqs K op sub) := by
  intro i c i' c' e
  unfold sqs at e
  split at e
  · rename_i h1
    have a := h _ _ _ _ (pR_mk h1)
    have b := sqL_gd h ho _ _ _ _ e
    exact ⟨by omega, b.2.1 a.2.1, a.2.2.trans b.2.2⟩
  · exact h _ _ _ _ e
theorem opO_two : ∀ k, opO k ≠ 0 → tTwo (opO k) := fun k h => by
  unfold opO at h ⊢
  split at h
  · rename_i c; rw [if_pos c]; exact ⟨by decide, by decide, by decide⟩
  · exact absurd rfl h
theorem opA_two : ∀ k, opA k ≠ 0 → tTwo (opA k) := fun k h => by
  unfold opA at h ⊢
  split at h
  · rename_i c; rw [if_pos c]; exact ⟨by decide, by decide, by decide⟩
  · exact absurd rfl h
theorem opT_two : ∀ k, opT k ≠ 0 → tTwo (opT k) := fun k h => by
  unfold opT at h ⊢
  split at h
  · rename_i c; rw [if_pos c]; exact ⟨by decide, by decide, by decide⟩
  · exact absurd rfl h
theorem opS_two : ∀ k, opS k ≠ 0 → tTwo (opS k) := fun k h => by
  by_cases c : k = 43
  · unfold opS; rw [if_pos c]; exact ⟨by decide, by decide, by decide⟩
  · by_cases c2 : k = 45
    · unfold opS; rw [if_neg c, if_pos c2]; exact ⟨by decide, by decide, by decide⟩
    · unfold opS at h; rw [if_neg c, if_neg c2] at h; exact absurd rfl h
theorem opC_two : ∀ k, opC k ≠ 0 → tTwo (opC k) := fun k h => by
  by_cases c : k = 60
  · unfold opC; rw [if_pos c]; exact ⟨by decide, by decide, by decide⟩
  · by_cases c2 : k = 61
    · unfold opC; rw [if_neg c, if_pos c2]; exact ⟨by decide, by decide, by decide⟩
    · unfold opC at h; rw [if_neg c, if_neg c2] at h; exact absurd rfl h
/-- tokens that end: behind place 160 stands none -/
def tkOk (K V : Nat → Int) : Prop := (∀ i, K i ≠ 0 → i < 160) ∧ ∀ i, K i = 2 ∨ K i = 3 → (0 ≤ V i ∧ V i ≤ 5) ∨ (100000 ≤ V i ∧ V i ≤ 109999)
/-- what lies below: a token of its own is taken first -/
def gdL (f : pF) : Prop := ∀ i c i' c', f i c = (true, i', c') → i + 1 < i' ∧ i' ≤ 160 ∧ ext (i + 1) c i' c' 1
theorem pOne_gd {K V : Nat → Int} (hk : tkOk K V) {lo la : pF} (ho : gdL lo) (ha : gdL la) : gd (pOne K V lo la) := by
  intro i c i' c' e
  unfold pOne at e
  split at e
  · rename_i h0
    have a := pR_eta e
    have a1 : i + 1 = i' := a.2.1
    have a2 : V i :: c = c' := a.2.2
    have b := hk.1 i (by omega)
    have v := hk.2 i h0
    rw [← a1, ← a2]
    refine ⟨by omega, by omega, [V i], rfl, by rw [List.length_singleton]; omega, fun x hx => ?_, fun d hd => ?_⟩
    · rw [List.mem_singleton.mp hx]; omega
    · exact ⟨d, show d + 1 - 1 = d by omega, Or.inl ⟨by omega, rfl⟩⟩
  · split at e
    · split at e
      · rename_i h1
        have a := ho _ _ _ _ (pR_mk h1)
        have g := pR_eta e
        have a1 : (lo i c).2.1 = i' := g.2.1
        have a2 : 19 :: (lo i c).2.2 = c' := g.2.2
        rw [← a1, ← a2]
        exact ⟨by omega, a.2.1, a.2.2.one (Or.inr rfl)⟩
      · rename_i h1; rw [e] at h1; exact absurd rfl h1
    · split at e
      · split at e
        · rename_i h1
          split at e
          · rename_i h2
            have a := ha _ _ _ _ (pR_mk h1)
            have g := pR_eta e
            have a1 : (la i c).2.1 + 1 = i' := g.2.1
            have a2 : (la i c).2.2 = c' := g.2.2
            have b := hk.1 (la i c).2.1 (by omega)
            rw [← a1, ← a2]
            exact ⟨by omega, by omega, (a.2.2.less (by omega)).more (by omega)⟩
          · have g := (pR_eta e).1
            exact absurd (show false = true from g) (by decide)
        · rename_i h1; rw [e] at h1; exact absurd rfl h1
      · have g := (pR_eta e).1
        exact absurd (show false = true from g) (by decide)
theorem pNot_gd {K V : Nat → Int} (hk : tkOk K V) {ln sum : pF} (hn : gdL ln) (hs : gd sum) : gd (pNot K ln sum) := by
  intro i c i' c' e
  unfold pNot at e
  split at e
  · split at e
    · rename_i h1
      have a := hn _ _ _ _ (pR_mk h1)
      have g := pR_eta e
      have a1 : (ln i c).2.1 = i' := g.2.1
      have a2 : 13 :: (ln i c).2.2 = c' := g.2.2
      rw [← a1, ← a2]
      exact ⟨by omega, a.2.1, a.2.2.one (Or.inl rfl)⟩
    · rename_i h1; rw [e] at h1; exact absurd rfl h1
  · split at e
    · rename_i h1
      have a := hs _ _ _ _ (pR_mk h1)
      split at e
      · exact hs _ _ _ _ e
      · rename_i h2
        split at e
        · rename_i h3
          have b := hs _ _ _ _ (pR_mk h3)
          have g := pR_eta e
          have a1 : (sum ((sum i c).2.1 + 1) (sum i c).2.2).2.1 = i' := g.2.1
          have a2 : opC (K (sum i c).2.1) :: (sum ((sum i c).2.1 + 1) (sum i c).2.2).2.2 = c' := g.2.2
          rw [← a1, ← a2]
          exact ⟨by omega, b.2.1, a.2.2.two b.2.2 (by omega) (opC_two _ h2)⟩
        · rename_i h3; rw [e] at h3; exact absurd rfl h3
    · rename_i h1; rw [e] at h1; exact absurd rfl h1
theorem pSh_gd {f : pF} (h : gd f) : gdL (pSh f) := fun i c i' c' e => h (i + 1) c i' c' e
theorem pNil_gd : gdL pNil := fun i c i' c' e => absurd (show false = true from (pR_eta e).1) (by decide)
theorem lwF_gd {K V : Nat → Int} (hk : tkOk K V) {k : Nat} : gdL (lwF K V k).1 ∧ gdL (lwF K V k).2.1 ∧ gdL (lwF K V k).2.2 := by
  induction k with
  | zero => exact ⟨pNil_gd, pNil_gd, pNil_gd⟩
  | succ k ih =>
    obtain ⟨h1, h2, h3⟩ := ih
    have g1 := pOne_gd hk h1 h3
    have g2 := sqs_gd (K := K) (op := opS) (sqs_gd (K := K) (op := opT) g1 opT_two) opS_two
    have g3 := pNot_gd hk h2 g2
    exact ⟨pSh_gd g1, pSh_gd g3, pSh_gd (sqs_gd (sqs_gd g3 opA_two) opO_two)⟩
/-- all six, at a level -/
theorem mk_gd {K V : Nat → Int} (hk : tkOk K V) (k : Nat) : gd (mkOne K V (lwF K V k).1 (lwF K V k).2.2) ∧ gd (mkTerm K V (lwF K V k).1 (lwF K V k).2.2) ∧ gd (mkSum K V (lwF K V k).1 (lwF K V k).2.2) ∧ gd (mkNot K V (lwF K V k).1 (lwF K V k).2.1 (lwF K V k).2.2) ∧ gd (mkAll K V (lwF K V k).1 (lwF K V k).2.1 (lwF K V k).2.2) ∧ gd (mkAny K V (lwF K V k).1 (lwF K V k).2.1 (lwF K V k).2.2) := by
  obtain ⟨h1, h2, h3⟩ := @lwF_gd K V hk k
  have g1 := pOne_gd hk h1 h3
  have g2 := sqs_gd (K := K) (op := opT) g1 opT_two
  have g3 := sqs_gd (K := K) (op := opS) g2 opS_two
  have g4 := pNot_gd hk h2 g3
  have g5 := sqs_gd (K := K) (op := opA) g4 opA_two
  exact ⟨g1, g2, g3, g4, g5, sqs_gd g5 opO_two⟩
theorem sqL_stop {K : Nat → Int} {op : Int → Int} {sub : pF} (hk : ∀ i, K i ≠ 0 → i < 160) (h : gd sub) (h0 : op 0 = 0) {j : Nat} : ∀ {i : Nat} {c : List Int} {i' : Nat} {c' : List Int}, 160 ≤ i + j → sqL K op sub j i c = (true, i', c') → op (K i') = 0 := by
  induction j with
  | zero =>
    intro i c i' c' hj e
    have a1 : i = i' := (pR_eta e).2.1
    by_cases g : K i' = 0
    · rw [g]; exact h0
    · have := hk i' g; omega
  | succ j ih =>
    intro i c i' c' hj e
    unfold sqL at e
    split at e
    · rename_i g
      have a1 : i = i' := (pR_eta e).2.1
      rw [← a1]; exact g
    · split at e
      · rename_i h1
        have a := h _ _ _ _ (pR_mk h1)
        exact ih (by omega) e
      · rename_i h1; rw [e] at h1; exact absurd rfl h1
