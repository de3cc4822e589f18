def xfind : List XIn → Nat → Option (Instr × Nat × Nat)
  | [], _ => none
  | q :: l, pc => if Nat.beq q.1 pc then some q.2 else xfind l pc
def xi (mi pc : Nat) : Option (Instr × Nat × Nat) := match XT[mi]? with
  | some q => xfind q.2 pc
  | none => none
/-- what the tables' checks say (they stand behind, for they take long) -/
def xCK : Prop := (∀ q ∈ XT, q.2.all (xokE q.1) = true) ∧ ∀ q ∈ XT.drop 1, xokM q.1 = true ∧ Cond.code q.1.2.1 q.1.2.2.1 q.1.2.2.2.1 q.1.2.2.2.2.1 ∈ lw_tbl
theorem xfind_mem : ∀ (l : List XIn) (pc : Nat) (r : Instr × Nat × Nat), xfind l pc = some r → (pc, r) ∈ l
  | [], _, _, h => by cases h
  | q :: l, pc, r, h => by
    unfold xfind at h
    split at h
    · rename_i hq
      have h1 : q.1 = pc := Nat.eq_of_beq_eq_true hq
      have h2 : q.2 = r := Option.some.inj h
      have h3 : q = (pc, r) := by rw [← h1, ← h2]
      rw [h3]
      exact List.mem_cons_self
    · exact List.mem_cons_of_mem _ (xfind_mem l pc r h)
theorem xi_ok (hck : xCK) {mi pc : Nat} {e : XMe} {i : Instr} {rs wp : Nat} (hm : xme mi = some e) (hi : xi mi pc = some (i, rs, wp)) : decode e.2.2.1 pc = .ok (i, xlen i pc) ∧ xokI e.1 pc i rs wp = true := by
  unfold xme at hm
  unfold xi at hi
  cases hq : XT[mi]? with
  | none => rw [hq] at hm; cases hm
  | some q =>
    rw [hq] at hm hi
    have he : q.1 = e := Option.some.inj hm
    have h1 := hck.1 q (List.mem_of_getElem? hq)
    have h2 := List.all_eq_true.mp h1 _ (xfind_mem _ _ _ hi)
    unfold xokE at h2
    rw [Bool.and_eq_true, he] at h2
    exact ⟨of_decide_eq_true h2.1, h2.2⟩
theorem xme_ok (hck : xCK) {mi : Nat} {e : XMe} (hm : xme mi = some e) (h0 : mi ≠ 0) : xokM e = true ∧ Cond.code e.2.1 e.2.2.1 e.2.2.2.1 e.2.2.2.2.1 ∈ lw_tbl := by
  unfold xme at hm
  cases hq : XT[mi]? with
  | none => rw [hq] at hm; cases hm
  | some q =>
    rw [hq] at hm
    have he : q.1 = e := Option.some.inj hm
    obtain ⟨k, rfl⟩ : ∃ k, mi = k + 1 := ⟨mi - 1, by omega⟩
    have hd : (XT.drop 1)[k]? = some q := by rw [List.getElem?_drop, Nat.add_comm]; exact hq
    have h1 := hck.2 q (List.mem_of_getElem? hd)
    rw [he] at h1
    exact h1
