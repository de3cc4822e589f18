/-- a piece of code of the reference, in the class's numbers -/
def tEnc (c : Int) : Int := if 100000 ≤ c then c - 100000 else if c < 11 then 10000 + c else if c = 11 then -1 else if c = 12 then -2 else if c = 13 then -3 else if c = 14 then -4 else if c = 15 then -5 else if c = 16 then -6 else if c = 17 then -7 else if c = 18 then -8 else -9
abbrev tVal (c : Int) : Prop := (100000 ≤ c ∧ c ≤ 109999) ∨ (0 ≤ c ∧ c ≤ 5) ∨ (11 ≤ c ∧ c ≤ 19)
/-- from depth d to depth f in so many pieces, from place k on -/
def tDp (C : Int → Int) : Nat → Int → Int → Int → Prop
  | 0, _, d, f => d = f
  | j + 1, k, d, f => if C k < 11 ∨ 100000 ≤ C k then tDp C j (k + 1) (d + 1) f else if C k = 13 ∨ C k = 19 then 1 ≤ d ∧ tDp C j (k + 1) d f else 2 ≤ d ∧ tDp C j (k + 1) (d - 1) f
theorem tDp_congr {C C' : Int → Int} {j : Nat} : ∀ {k d f : Int}, (∀ i, k ≤ i → i < k + j → C' i = C i) → tDp C j k d f → tDp C' j k d f := by
  induction j with
  | zero => intro k d f _ h; exact h
  | succ j ih =>
    intro k d f h g
    unfold tDp at g ⊢
    rw [h k (by omega) (by omega)]
    have h2 : ∀ i, k + 1 ≤ i → i < k + 1 + j → C' i = C i := fun i i0 i1 => h i (by omega) (by omega)
    split
    · rename_i c
      rw [if_pos c] at g
      exact ih h2 g
    · rename_i c
      rw [if_neg c] at g
      split
      · rename_i c2
        rw [if_pos c2] at g
        exact ⟨g.1, ih h2 g.2⟩
      · rename_i c2
        rw [if_neg c2] at g
        exact ⟨g.1, ih h2 g.2⟩
theorem tDp_app {C : Int → Int} {j j2 : Nat} : ∀ {k d f g : Int}, tDp C j k d f → tDp C j2 (k + j) f g → tDp C (j + j2) k d g := by
  induction j with
  | zero =>
    intro k d f g h h2
    have e : d = f := h
    rw [Nat.zero_add]
    rw [show k + ((0 : Nat) : Int) = k by omega] at h2
    rw [e]
    exact h2
  | succ j ih =>
    intro k d f g h h2
    rw [show j + 1 + j2 = (j + j2) + 1 by omega]
    rw [show k + ((j + 1 : Nat) : Int) = (k + 1) + j by omega] at h2
    unfold tDp at h ⊢
    split
    · rename_i c
      rw [if_pos c] at h
      exact ih h h2
    · rename_i c
      rw [if_neg c] at h
      split
      · rename_i c2
        rw [if_pos c2] at h
        exact ⟨h.1, ih h.2 h2⟩
      · rename_i c2
        rw [if_neg c2] at h
        exact ⟨h.1, ih h.2 h2⟩
theorem tDp_up {C : Int → Int} {j : Nat} {x : Int} (hx : 0 ≤ x) : ∀ {k d f : Int}, tDp C j k d f → tDp C j k (d + x) (f + x) := by
  induction j with
  | zero => intro k d f h; have e : d = f := h; show d + x = f + x; rw [e]
  | succ j ih =>
    intro k d f h
    unfold tDp at h ⊢
    split
    · rename_i c
      rw [if_pos c] at h
      rw [show d + x + 1 = d + 1 + x by omega]
      exact ih h
    · rename_i c
      rw [if_neg c] at h
      split
      · rename_i c2
        rw [if_pos c2] at h
        exact ⟨by omega, ih h.2⟩
      · rename_i c2
        rw [if_neg c2] at h
        rw [show d + x - 1 = d - 1 + x by omega]
        exact ⟨by omega, ih h.2⟩
/-- a text of the class (names nm, code a, ends e), of the reference (code C, starts st) -/
def tRel (nm : Int) (a e C st : Int → Int) : Prop := st 0 = 0 ∧ (∀ p, 0 ≤ p → p < 3 → e p = st (p + 1) ∧ st p ≤ st (p + 1) ∧ st (p + 1) ≤ 160 ∧ tDp C (st (p + 1) - st p).toNat (st p) 0 1) ∧
  (∀ k, 0 ≤ k → k < st 3 → a k = tEnc (C k) ∧ tVal (C k)) ∧ (0 ≤ nm ∧ nm < 64) ∧ ∀ k, 0 ≤ k → k < st 1 → C k ≤ 5 → nm / 2 ^ (C k).toNat % 2 = 1
def RT (A B : YM) : Prop := A 0 5 = B 75 9 ∧ (1 ≤ B 75 9 ∧ B 75 9 ≤ 6) ∧ A 1 4 = B 75 10 ∧ (0 ≤ B 75 10 ∧ B 75 10 < B 75 9) ∧
  ∀ t : Int, 0 ≤ t → t < B 75 9 → tRel (A (49 + 3 * t) 3) (A (50 + 3 * t)) (A (51 + 3 * t)) (fun k => B 79 (200 * t + k)) (fun p => B 80 (4 * t + p))
theorem RT.congr {A B A' B' : YM} (h : RT A B) (ha : eqc A A') (hb : eqm B B') : RT A' B' := by
  have b9 := hb 75 9 (by omega) (by unfold sc; omega)
  have b10 := hb 75 10 (by omega) (by unfold sc; omega)
  have c9 : ∀ t, (fun k => B' 79 (200 * t + k)) = fun k => B 79 (200 * t + k) := fun t => funext fun k => hb 79 _ (by omega) (by unfold sc; omega)
  have c0 : ∀ t, (fun k => B' 80 (4 * t + k)) = fun k => B 80 (4 * t + k) := fun t => funext fun k => hb 80 _ (by omega) (by unfold sc; omega)
  unfold RT
  rw [ha 0 5 (by omega) (by unfold sc; omega), ha 1 4 (by omega) (by unfold sc; omega), b9, b10]
  refine ⟨h.1, h.2.1, h.2.2.1, h.2.2.2.1, fun t t0 t1 => ?_⟩
  rw [c9, c0]
  have h1 := h.2.1
  have a0 : A' (49 + 3 * t) 3 = A (49 + 3 * t) 3 := ha _ _ (by omega) (by unfold sc; omega)
  have a1 : A' (50 + 3 * t) = A (50 + 3 * t) := funext fun k => ha _ _ (by omega) (by unfold sc; omega)
  have a2 : A' (51 + 3 * t) = A (51 + 3 * t) := funext fun k => ha _ _ (by omega) (by unfold sc; omega)
  rw [a0, a1, a2]
  exact h.2.2.2.2 t t0 t1
def xwords : List Int := [114, 101, 99, 107, 111, 110, 115, 32, 99, 111, 115, 116, 115, 32, 32, 32, 109, 101, 101, 116, 115, 32, 32, 32, 97, 32, 32, 32, 32, 32, 32, 32, 98, 32, 32, 32, 32, 32, 32, 32, 99, 32, 32, 32, 32, 32, 32, 32, 100, 32, 32, 32, 32, 32, 32, 32, 101, 32, 32, 32, 32, 32, 32, 32, 102, 32, 32, 32, 32, 32, 32, 32, 111, 114, 32, 32, 32, 32, 32, 32, 97, 110, 100, 32, 32, 32, 32, 32, 110, 111, 116, 32, 32, 32, 32, 32]
def RW (B : YM) : Prop := ∀ k : Nat, k < 96 → B 86 (k : Int) = xwords.getD k 0
/-- all -/
def Rel2 (A B : YM) : Prop := RS A B ∧ RL A B ∧ RH A B ∧ RI A B ∧ RT A B ∧ RR A B ∧ RW B
theorem Rel2.congr {A B A' B' : YM} (h : Rel2 A B) (ha : eqc A A') (hb : eqm B B') : Rel2 A' B' :=
  ⟨h.1.congr ha hb, h.2.1.congr ha hb, h.2.2.1.congr ha hb, h.2.2.2.1.congr ha hb, h.2.2.2.2.1.congr ha hb, h.2.2.2.2.2.1.congr ha hb, fun k hk => (hb 86 k (by omega) (by unfold sc; omega)).trans (h.2.2.2.2.2.2 k hk)⟩
def Rel (M : YM) : Prop := Rel2 M M
theorem Rel.congr {M M' : YM} (h : Rel M) (g : eqn M M') : Rel M' := Rel2.congr h g.c g.m
/-- a call of both: ints, longs -/
def pri (S : XS) (mc mm : Nat) (as : List YV) (M N : YM) : Prop := rm S 40 mc (yr 0 :: as) M N (fun r M1 N1 => ∃ v : Int, some (yi v) = r ∧ rm S 40 mm (yr 75 :: as) M1 N1 (fun r2 M2 _ => some (yi v) = r2 ∧ Rel M2))
def prl (S : XS) (mc mm : Nat) (as : List YV) (M N : YM) : Prop := rm S 40 mc (yr 0 :: as) M N (fun r M1 N1 => ∃ v : Int, some (yj v) = r ∧ rm S 40 mm (yr 75 :: as) M1 N1 (fun r2 M2 _ => some (yj v) = r2 ∧ Rel M2))
theorem Rel.s {M : YM} (h : Rel M) : RS M M := h.1
theorem Rel.l {M : YM} (h : Rel M) : RL M M := h.2.1
theorem Rel.h {M : YM} (h : Rel M) : RH M M := h.2.2.1
theorem Rel.i {M : YM} (h : Rel M) : RI M M := h.2.2.2.1
theorem Rel.t {M : YM} (h : Rel M) : RT M M := h.2.2.2.2.1
theorem Rel.r {M : YM} (h : Rel M) : RR M M := h.2.2.2.2.2.1
theorem Rel.w {M : YM} (h : Rel M) : RW M := h.2.2.2.2.2.2
