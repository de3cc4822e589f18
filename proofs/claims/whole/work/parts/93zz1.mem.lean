/-! the memory behind the constructors -/
def M0 : YM := fun c k => (zgI Z94.2.1 c.toNat k.toNat).toInt
def N0 : YM := fun _ _ => 0
theorem zgR_mem : ∀ {D : ZR} {c k v : Nat}, zgR D c k = some v → (c, k, v) ∈ D
  | [], _, _, _, h => by cases h
  | e :: r, c, k, v, h => by
    have h2 : (if e.1 = c ∧ e.2.1 = k then some e.2.2 else zgR r c k) = some v := h
    by_cases g : e.1 = c ∧ e.2.1 = k
    · rw [if_pos g] at h2
      have h3 : e.2.2 = v := Option.some.inj h2
      rw [← g.1, ← g.2, ← h3]
      exact List.mem_cons_self
    · rw [if_neg g] at h2
      exact List.mem_cons_of_mem _ (zgR_mem h2)
def zab (D : ZI) (c : Nat) : Bool := D.all fun e => !Nat.beq e.1 c
theorem zgI_abs : ∀ {D : ZI} {c k : Nat}, zab D c = true → zgI D c k = 0
  | [], _, _, _ => rfl
  | e :: r, c, k, h => by
    unfold zab at h
    rw [List.all_cons, Bool.and_eq_true] at h
    have h1 : ¬ e.1 = c := fun g => by
      have h2 := h.1
      rw [g, Nat.beq_refl] at h2
      cases h2
    show (if e.1 = c ∧ e.2.1 = k then e.2.2 else zgI r c k) = 0
    rw [if_neg (fun g => h1 g.1)]
    exact zgI_abs h.2
theorem xRF_lt {c k v : Nat} (h : xRF c k = some v) : c < 94 ∧ k < 40 := by
  unfold xRF at h
  have hr : (xRFL.all fun r => decide (r.length ≤ 40)) = true := by decide +kernel
  by_cases hc : c < xRFL.length
  · have h2 := List.all_eq_true.mp hr _ (List.getElem_mem hc)
    rw [decide_eq_true_eq] at h2
    rw [List.getD_eq_getElem?_getD, List.getD_eq_getElem?_getD, List.getElem?_eq_getElem hc, Option.getD_some] at h
    refine ⟨Nat.lt_of_lt_of_eq hc (by decide +kernel), ?_⟩
    by_cases hk : k < xRFL[c].length
    · omega
    · rw [List.getElem?_eq_none (by omega)] at h
      cases h
  · rw [List.getD_eq_getElem?_getD, List.getD_eq_getElem?_getD, List.getElem?_eq_none (l := xRFL) (by omega)] at h
    cases h
theorem z_refs : zgR Z94.2.2 = xRF := by
  have h1 : (Z94.2.2.all fun e => decide (xRF e.1 e.2.1 = some e.2.2)) = true := by decide +kernel
  have h2 : ∀ c, c < 94 → ∀ k, k < 40 → (xRF c k).isSome = true → (zgR Z94.2.2 c k).isSome = true := by decide +kernel
  funext c k
  cases h : zgR Z94.2.2 c k with
  | some v =>
    have h3 := List.all_eq_true.mp h1 _ (zgR_mem h)
    exact (of_decide_eq_true h3).symm
  | none =>
    cases g : xRF c k with
    | none => rfl
    | some v =>
      have h3 := h2 c (xRF_lt g).1 k (xRF_lt g).2 (by rw [g]; rfl)
      rw [h] at h3
      cases h3
theorem z_ym : ym M0 N0 = zm Z94 := by
  unfold ym zm
  have e1 : (fun (c k : Nat) => Int32.ofInt (M0 c k)) = zgI Z94.2.1 := by
    funext c k
    show Int32.ofInt (zgI Z94.2.1 ((c : Int)).toNat ((k : Int)).toNat).toInt = _
    rw [Int32.ofInt_toInt, Int.toNat_natCast, Int.toNat_natCast]
  rw [e1, z_refs]
  rfl
theorem M0_abs {c k : Int} (h : zab Z94.2.1 c.toNat = true) : M0 c k = 0 := by
  show (zgI Z94.2.1 c.toNat k.toNat).toInt = 0
  rw [zgI_abs h]
  rfl
theorem z_abs : ∀ c, c < 94 → ((41 ≤ c ∧ c ≤ 48) ∨ c = 68 ∨ c = 70 ∨ c = 72 ∨ c = 74 ∨ c = 77 ∨ c = 83 ∨ c = 84) → zab Z94.2.1 c = true := by decide +kernel
theorem M0_z {c k : Int} (h : (41 ≤ c ∧ c ≤ 48) ∨ c = 68 ∨ c = 70 ∨ c = 72 ∨ c = 74 ∨ c = 77 ∨ c = 83 ∨ c = 84) : M0 c k = 0 := M0_abs (z_abs _ (by omega) (by omega))
theorem z_RS : RS M0 M0 := by
  have e : M0 75 0 = 0 := by decide +kernel
  refine ⟨by decide +kernel, by rw [e]; decide, by decide +kernel, by decide +kernel, fun s h0 h1 => ?_⟩
  rw [e] at h1
  omega
theorem z_RL : RL M0 M0 := by
  refine ⟨by decide +kernel, by decide +kernel, fun k h0 h1 => ?_⟩
  have e : ∀ j, M0 (41 + k) j = 0 := fun j => M0_z (by omega)
  have e2 : ∀ j, M0 77 j = 0 := fun j => M0_z (by omega)
  rw [e, e, e, e, e2, e2, e2, e2]
  decide
theorem z_RH : RH M0 M0 := by
  intro s h0 h1
  have hd : ∀ s : Nat, s < 4 → M0 (67 + 2 * (s : Int)) 1 = M0 82 s ∧ M0 (67 + 2 * (s : Int)) 2 = M0 83 s ∧ (-1 ≤ M0 82 s ∧ M0 82 s ≤ 2) ∧ (0 ≤ M0 83 s ∧ M0 83 s ≤ 40) := by decide +kernel
  obtain ⟨n, rfl⟩ : ∃ n : Nat, s = n := ⟨s.toNat, by omega⟩
  have h := hd n (by omega)
  refine ⟨h.1, h.2.1, h.2.2.1, h.2.2.2, fun i i0 i1 => ?_⟩
  rw [M0_z (c := 68 + 2 * (n : Int)) (by omega), M0_z (c := 84) (by omega)]
  decide
theorem z_RI : RI M0 M0 := by
  have e : M0 75 11 = 0 := by decide +kernel
  refine ⟨by decide +kernel, Or.inl e, fun h => ?_⟩
  rw [e] at h
  omega
def tdb (C : Int → Int) : Nat → Int → Int → Int → Bool
  | 0, _, d, f => decide (d = f)
  | j + 1, k, d, f => if C k < 11 ∨ 100000 ≤ C k then tdb C j (k + 1) (d + 1) f else if C k = 13 ∨ C k = 19 then decide (1 ≤ d) && tdb C j (k + 1) d f else decide (2 ≤ d) && tdb C j (k + 1) (d - 1) f
theorem tdb_ok {C : Int → Int} {j : Nat} : ∀ {k d f : Int}, tdb C j k d f = true → tDp C j k d f := by
  induction j with
  | zero => intro k d f h; exact (of_decide_eq_true (p := d = f) h)
  | succ j ih =>
    intro k d f h
    unfold tdb at h
    unfold tDp
    split
    · rename_i c
      rw [if_pos c] at h
      exact ih h
    · rename_i c
      rw [if_neg c] at h
      split
      · rename_i c2
        rw [if_pos c2, Bool.and_eq_true] at h
        exact ⟨of_decide_eq_true h.1, ih h.2⟩
      · rename_i c2
        rw [if_neg c2, Bool.and_eq_true] at h
        exact ⟨of_decide_eq_true h.1, ih h.2⟩
theorem rt_of {A : YM} (e0 : A 0 5 = A 75 9) (e : A 75 9 = 1) (e1 : A 1 4 = A 75 10) (e2 : 0 ≤ A 75 10 ∧ A 75 10 < A 75 9) (s0 : A 80 (4 * 0 + 0) = 0)
    (hp : ∀ p : Nat, p < 3 → A (51 + 3 * 0) p = A 80 (4 * 0 + ((p : Int) + 1)) ∧ A 80 (4 * 0 + (p : Int)) ≤ A 80 (4 * 0 + ((p : Int) + 1)) ∧ A 80 (4 * 0 + ((p : Int) + 1)) ≤ 160 ∧ tdb (fun k => A 79 (200 * 0 + k)) (A 80 (4 * 0 + ((p : Int) + 1)) - A 80 (4 * 0 + (p : Int))).toNat (A 80 (4 * 0 + (p : Int))) 0 1 = true)
    (s3 : A 80 (4 * 0 + 3) = 5) (hk : ∀ k : Nat, k < 5 → A (50 + 3 * 0) k = tEnc (A 79 (200 * 0 + (k : Int))) ∧ tVal (A 79 (200 * 0 + (k : Int)))) (hn : 0 ≤ A (49 + 3 * 0) 3 ∧ A (49 + 3 * 0) 3 < 64) (s1 : A 80 (4 * 0 + 1) = 3)
    (hm : ∀ k : Nat, k < 3 → A 79 (200 * 0 + (k : Int)) ≤ 5 → A (49 + 3 * 0) 3 / 2 ^ (A 79 (200 * 0 + (k : Int))).toNat % 2 = 1) : RT A A := by
  refine ⟨e0, by omega, e1, e2, fun t h0 h1 => ?_⟩
  rw [e] at h1
  obtain rfl : t = 0 := by omega
  refine ⟨s0, fun p p0 p1 => ?_, fun k k0 k1 => ?_, hn, fun k k0 k1 => ?_⟩
  · obtain ⟨n, rfl⟩ : ∃ n : Nat, p = n := ⟨p.toNat, by omega⟩
    have h := hp n (by omega)
    exact ⟨h.1, h.2.1, h.2.2.1, tdb_ok h.2.2.2⟩
  · have k2 : k < A 80 (4 * 0 + 3) := k1
    rw [s3] at k2
    obtain ⟨n, rfl⟩ : ∃ n : Nat, k = n := ⟨k.toNat, by omega⟩
    exact hk n (by omega)
  · have k2 : k < A 80 (4 * 0 + 1) := k1
    rw [s1] at k2
    obtain ⟨n, rfl⟩ : ∃ n : Nat, k = n := ⟨k.toNat, by omega⟩
    exact hm n (by omega)
theorem z_RT : RT M0 M0 := rt_of (by decide +kernel) (by decide +kernel) (by decide +kernel) (by decide +kernel) (by decide +kernel) (by decide +kernel) (by decide +kernel) (by decide +kernel) (by decide +kernel) (by decide +kernel) (by decide +kernel)
theorem z_RR : RR M0 M0 := by
  have e : M0 75 6 = 0 := by decide +kernel
  refine ⟨by decide +kernel, by rw [e]; decide, fun k h0 h1 => ?_⟩
  rw [e] at h1
  omega
theorem z_RW : RW M0 := by
  unfold RW
  decide +kernel
theorem z_Rel : Rel M0 := ⟨z_RS, z_RL, z_RH, z_RI, z_RT, z_RR, z_RW⟩
