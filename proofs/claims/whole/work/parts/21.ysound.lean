theorem t32 {a : Int} (h : -2147483648 ≤ a ∧ a < 2147483648) : (Int32.ofInt a).toInt = a := Int32.toInt_ofInt_of_le (by omega) (by omega)
theorem t64 {a : Int} (h : -9223372036854775808 ≤ a ∧ a < 9223372036854775808) : (Int64.ofInt a).toInt = a := Int64.toInt_ofInt_of_le (by omega) (by omega)
theorem yo_get (ls : YL) (k : Nat) : (yo ls)[k]? = (ls[k]?).map (Option.map yv) := by
  unfold yo
  rw [List.getElem?_map]
theorem yo_len (ls : YL) : (yo ls).length = ls.length := by simp [yo]
theorem ycat_eq (o : Option YV) : xcat2 (o.map yv) = ycat2 o := by
  rcases o with _ | a | a | a <;> rfl
theorem yo_getD (ls : YL) (k : Nat) : (yo ls).getD k none = (ls.getD k none).map yv := by
  rw [List.getD_eq_getElem?_getD, List.getD_eq_getElem?_getD, yo_get]
  cases ls[k]? <;> rfl
theorem yo_set (ls : YL) (k : Nat) (o : Option YV) : yo (ls.set k o) = (yo ls).set k (o.map yv) := by
  unfold yo
  rw [List.map_set]
theorem yo_kill (ls : YL) (i : Nat) : yo (if ycat2 (ls.getD (i - 1) none) then ls.set (i - 1) none else ls) = (if xcat2 ((yo ls).getD (i - 1) none) then (yo ls).set (i - 1) none else yo ls) := by
  rw [yo_getD, ycat_eq]
  split
  · rw [yo_set]; rfl
  · rfl
theorem yo_st1 (ls : YL) (i : Nat) (v : YV) : yo (yst1 ls i v) = xst1 (yo ls) i (yv v) := by
  unfold yst1 xst1
  rw [yo_set, yo_kill]
  rfl
theorem yo_st2 (ls : YL) (i : Nat) (v : YV) : yo (yst2 ls i v) = xst2 (yo ls) i (yv v) := by
  unfold yst2 xst2
  rw [yo_set, yo_set, yo_kill]
  rfl
theorem yo_load {ls : YL} {k : Nat} {v : YV} (h : ls[k]? = some (some v)) : (yo ls)[k]? = some (some (yv v)) := by
  rw [yo_get, h]
  rfl
theorem ym_put {M N : YM} {c k v : Int} (hc : 0 ≤ c) (hk : 0 ≤ k) : ym (yu M c k v) N = (94, xu (ym M N).2.1 c.toNat k.toNat (Int32.ofInt v), (ym M N).2.2.1, xRF) := by
  unfold ym
  congr 2
  funext c' k'
  unfold yu xu
  by_cases h1 : c' = c.toNat
  · by_cases h2 : k' = k.toNat
    · subst h1; subst h2
      rw [if_pos rfl, if_pos rfl, if_pos ⟨by omega, by omega⟩]
    · rw [if_pos h1, if_neg h2, if_neg (by omega)]
  · rw [if_neg h1, if_neg (by omega)]
theorem ym_putN {M N : YM} {c k v : Int} (hc : 0 ≤ c) (hk : 0 ≤ k) : ym M (yu N c k v) = (94, (ym M N).2.1, xu (ym M N).2.2.1 c.toNat k.toNat (Int64.ofInt v), xRF) := by
  unfold ym
  congr 3
  funext c' k'
  unfold yu xu
  by_cases h1 : c' = c.toNat
  · by_cases h2 : k' = k.toNat
    · subst h1; subst h2
      rw [if_pos rfl, if_pos rfl, if_pos ⟨by omega, by omega⟩]
    · rw [if_pos h1, if_neg h2, if_neg (by omega)]
  · rw [if_neg h1, if_neg (by omega)]
theorem yk_eq {a : Int} (h : 0 ≤ a) : xkind a.toNat = yk a := by
  unfold yk
  rw [if_pos h]
theorem b8 {n : Int} (h : -128 ≤ n ∧ n < 128) : (Int8.ofInt n).toInt32 = Int32.ofInt n := Int32.toInt_inj.mp (by rw [Int8.toInt_toInt32, Int8.toInt_ofInt_of_le (by omega) (by omega), t32 (by omega)])
theorem b16 {n : Int} (h : -32768 ≤ n ∧ n < 32768) : (Int16.ofInt n).toInt32 = Int32.ofInt n := Int32.toInt_inj.mp (by rw [Int16.toInt_toInt32, Int16.toInt_ofInt_of_le (by omega) (by omega), t32 (by omega)])
set_option maxHeartbeats 4000000 in
theorem ys_sound {i : Instr} {rs wp pc pc' : Nat} {ls ls' : YL} {st st' : List YV} {M N M' N' : YM} (h : ys i rs wp pc ls st M N = some (pc', ls', st', M', N')) : xcl i = 0 ∧ ∀ (S : XS) (kd : Nat), xs1 S kd i rs wp pc (yo ls) (st.map yv) (ym M N) = some (pc', yo ls', st'.map yv, ym M' N') := by
  unfold ys at h
  split at h
  · cases h
    exact ⟨rfl, fun S kd => rfl⟩
  · split at h
    · rename_i hn
      cases h
      refine ⟨rfl, fun S kd => ?_⟩
      show some (_, _, Value.int _ :: _, _) = some _
      rw [b8 hn]
      rfl
    · cases h
  · split at h
    · rename_i hn
      cases h
      refine ⟨rfl, fun S kd => ?_⟩
      show some (_, _, Value.int _ :: _, _) = some _
      rw [b16 hn]
      rfl
    · cases h
  · cases h
    exact ⟨rfl, fun S kd => rfl⟩
  · split at h
    · rename_i hl
      cases h
      refine ⟨rfl, fun S kd => ?_⟩
      simp only [xs1, xs0, yo_load hl, yv]
      rfl
    · cases h
  · split at h
    · rename_i hl
      cases h
      refine ⟨rfl, fun S kd => ?_⟩
      simp only [xs1, xs0, yo_load hl, yv]
      rfl
    · cases h
  · split at h
    · rename_i hl
      cases h
      refine ⟨rfl, fun S kd => ?_⟩
      simp only [xs1, xs0, yo_load hl, yv]
      rfl
    · cases h
  · split at h
    · rename_i hl
      cases h
      refine ⟨rfl, fun S kd => ?_⟩
      simp only [xs1, xs0, yo_load hl, yv]
      rfl
    · cases h
  · split at h
    · rename_i hl
      cases h
      refine ⟨rfl, fun S kd => ?_⟩
      simp only [xs1, xs0, yo_load hl, yv]
      rfl
    · cases h
  · split at h
    · rename_i hl
      cases h
      refine ⟨rfl, fun S kd => ?_⟩
      simp only [xs1, xs0, yo_load hl, yv]
      rfl
    · cases h
  · split at h
    · rename_i hl
      cases h
      refine ⟨rfl, fun S kd => ?_⟩
      simp only [xs1, xs0, List.map_cons, yv, yo_len, if_pos hl, yo_st1]
      rfl
    · cases h
  · split at h
    · rename_i hl
      cases h
      refine ⟨rfl, fun S kd => ?_⟩
      simp only [xs1, xs0, List.map_cons, yv, yo_len, if_pos hl, yo_st1]
      rfl
    · cases h
  · split at h
    · rename_i hl
      cases h
      refine ⟨rfl, fun S kd => ?_⟩
      simp only [xs1, xs0, List.map_cons, yv, yo_len, if_pos hl, yo_st2]
      rfl
    · cases h
  · split at h
    · rename_i hl
      cases h
      refine ⟨rfl, fun S kd => ?_⟩
      simp only [xs1, xs0, List.map_cons, yv, yo_len, if_pos hl, yo_st2]
      rfl
    · cases h
  · split at h
    · rename_i hl
      cases h
      refine ⟨rfl, fun S kd => ?_⟩
      simp only [xs1, xs0, List.map_cons, yv, yo_len, if_pos hl, yo_st1]
      rfl
    · cases h
  · split at h
    · rename_i hl
      cases h
      refine ⟨rfl, fun S kd => ?_⟩
      simp only [xs1, xs0, List.map_cons, yv, yo_len, if_pos hl, yo_st1]
      rfl
    · cases h
  · split at h
    · rename_i hl
      cases h
      refine ⟨rfl, fun S kd => ?_⟩
      simp only [xs1, xs0, yo_load hl, yv, yo_st1, Int32.ofInt_add]
      rfl
    · cases h
  · cases h
    refine ⟨rfl, fun S kd => ?_⟩
    simp only [xs1, xs0, List.map_cons, yv, Int32.ofInt_add]
    rfl
  · cases h
    refine ⟨rfl, fun S kd => ?_⟩
    simp only [xs1, xs0, List.map_cons, yv, Int32.ofInt_sub]
    rfl
  · cases h
    refine ⟨rfl, fun S kd => ?_⟩
    simp only [xs1, xs0, List.map_cons, yv, Int32.ofInt_mul]
    rfl
  · cases h
    refine ⟨rfl, fun S kd => ?_⟩
    simp only [xs1, xs0, List.map_cons, yv, Int32.ofInt_neg]
    rfl
  · cases h
    refine ⟨rfl, fun S kd => ?_⟩
    simp only [xs1, xs0, List.map_cons, yv, Int32.ofInt_toInt]
    rfl
  · cases h
    refine ⟨rfl, fun S kd => ?_⟩
    simp only [xs1, xs0, List.map_cons, yv, Int32.ofInt_toInt]
    rfl
  · cases h
    refine ⟨rfl, fun S kd => ?_⟩
    simp only [xs1, xs0, List.map_cons, yv, Int32.ofInt_toInt]
    rfl
  · cases h
    refine ⟨rfl, fun S kd => ?_⟩
    simp only [xs1, xs0, List.map_cons, yv, Int32.ofInt_toInt]
    rfl
  · cases h
    refine ⟨rfl, fun S kd => ?_⟩
    simp only [xs1, xs0, List.map_cons, yv, Int32.ofInt_toInt]
    rfl
  · cases h
    refine ⟨rfl, fun S kd => ?_⟩
    simp only [xs1, xs0, List.map_cons, yv, Int64.ofInt_add]
    rfl
  · cases h
    refine ⟨rfl, fun S kd => ?_⟩
    simp only [xs1, xs0, List.map_cons, yv, Int64.ofInt_sub]
    rfl
  · cases h
    refine ⟨rfl, fun S kd => ?_⟩
    simp only [xs1, xs0, List.map_cons, yv, Int64.ofInt_mul]
    rfl
  · cases h
    refine ⟨rfl, fun S kd => ?_⟩
    simp only [xs1, xs0, List.map_cons, yv, Int64.toInt32_ofInt]
    rfl
  · cases h
    refine ⟨rfl, fun S kd => ?_⟩
    rename_i x st
    have hx : (Int32.ofInt x).toInt8.toInt32 = Int32.ofInt (Int32.ofInt x).toInt8.toInt := by rw [← Int8.toInt_toInt32, Int32.ofInt_toInt]
    simp only [xs1, xs0, List.map_cons, yv, hx]
    rfl
  · cases h
    refine ⟨rfl, fun S kd => ?_⟩
    rename_i x st
    have hx : (Int32.ofInt x).toInt16.toInt32 = Int32.ofInt (Int32.ofInt x).toInt16.toInt := by rw [← Int16.toInt_toInt32, Int32.ofInt_toInt]
    simp only [xs1, xs0, List.map_cons, yv, hx]
    rfl
  · cases h
    exact ⟨rfl, fun S kd => rfl⟩
  · cases h
    exact ⟨rfl, fun S kd => rfl⟩
  · cases h
    exact ⟨rfl, fun S kd => rfl⟩
  · cases h
    exact ⟨rfl, fun S kd => rfl⟩
  · cases h
    exact ⟨rfl, fun S kd => rfl⟩
  · split at h
    · cases h
      exact ⟨rfl, fun S kd => rfl⟩
    · cases h
  · split at h
    · split at h
      · rename_i q hq
        cases h
        refine ⟨rfl, fun S kd => ?_⟩
        simp only [xs1, xs0, hq, List.map_cons, yv, Int32.ofInt_toInt]
        rfl
      · cases h
    · split at h
      · rename_i k hk
        cases h
        refine ⟨rfl, fun S kd => ?_⟩
        simp only [xs1, xs0, if_pos hk]
        rfl
      · cases h
  · split at h
    · rename_i q hq
      cases h
      refine ⟨rfl, fun S kd => ?_⟩
      simp only [xs1, xs0, hq, List.map_cons, yv, Int32.ofInt_toInt]
      rfl
    · cases h
  · split at h
    · rename_i q hq
      cases h
      refine ⟨rfl, fun S kd => ?_⟩
      simp only [xs1, xs0, hq, List.map_cons, yv, Int64.ofInt_toInt]
      rfl
    · cases h
  · split at h
    · cases h
    · rename_i hrs
      split at h
      · rename_i f hf
        split at h
        · rename_i ha
          obtain ⟨a0, a1, a2⟩ := ha
          rw [← yk_eq a0] at a2
          have hc : ∀ a : Int, 0 ≤ a → a < 94 → a.toNat < 94 := fun a h1 h2 => by omega
          have hc1 := hc _ a0 a1
          have key : ∀ (v : Value) (S : XS) (kd : Nat) (M N : YM) (a : Int) (st : List YV), a.toNat < (ym M N).1 → (xkind a.toNat).1 = 200 + f.1 → xget (ym M N) a.toNat f.1 f.2 = some v → xs1 S kd (.getfield 0) rs wp pc (yo ls) ((Sum.inr (Sum.inr a) :: st).map yv) (ym M N) = some (pc + 3, yo ls, v :: st.map yv, ym M N) := by
            intro v S kd M N a st h1 h2 h3
            simp only [xs1, List.map_cons, yv, if_neg (fun z => hrs (Or.inl z)), if_neg (fun z => hrs (Or.inr z)), hf, if_pos (And.intro h1 h2), h3]
          split at h
          · rename_i hk
            cases h
            exact ⟨rfl, fun S kd => key _ S kd _ _ _ _ hc1 a2 (by unfold xget; rw [hk]; show some (Value.int (Int32.ofInt (M ((Int.toNat _ : Nat) : Int) _))) = _; rw [Int.toNat_of_nonneg a0]; rfl)⟩
          · rename_i hk
            cases h
            exact ⟨rfl, fun S kd => key _ S kd _ _ _ _ hc1 a2 (by unfold xget; rw [hk]; show some (Value.int (Int32.ofInt (M ((Int.toNat _ : Nat) : Int) _))) = _; rw [Int.toNat_of_nonneg a0]; rfl)⟩
          · rename_i hk
            cases h
            exact ⟨rfl, fun S kd => key _ S kd _ _ _ _ hc1 a2 (by unfold xget; rw [hk]; show some (Value.long (Int64.ofInt (N ((Int.toNat _ : Nat) : Int) _))) = _; rw [Int.toNat_of_nonneg a0]; rfl)⟩
          · rename_i hk
            split at h
            · rename_i r hr
              cases h
              exact ⟨rfl, fun S kd => key _ S kd _ _ _ _ hc1 a2 (by unfold xget; rw [hk]; show some (va_rf (xRF _ _)) = _; rw [hr]; rfl)⟩
            · cases h
          · cases h
        · cases h
      · cases h
  · split at h
    · rename_i f hf
      split at h
      · rename_i ha
        obtain ⟨a0, a1, a2, a3⟩ := ha
        rw [← yk_eq a0] at a2
        have hc : ∀ a : Int, 0 ≤ a → a < 94 → a.toNat < 94 := fun a h1 h2 => by omega
        have hc1 := hc _ a0 a1
        cases h
        refine ⟨rfl, fun S kd => ?_⟩
        rw [ym_put a0 (Int.natCast_nonneg _)]
        have h1 : (xfk f.1 f.2).1 = 0 := by rw [a3]
        have h2 : (xfk f.1 f.2).2 = false := by rw [a3]
        simp only [xs1, List.map_cons, yv, hf, xput, h1]
        rw [if_pos ⟨hc1, a2, Or.inl h2⟩]
        rfl
      · cases h
    · cases h
  · split at h
    · rename_i f hf
      split at h
      · rename_i ha
        obtain ⟨a0, a1, a2, a3⟩ := ha
        rw [← yk_eq a0] at a2
        have hc : ∀ a : Int, 0 ≤ a → a < 94 → a.toNat < 94 := fun a h1 h2 => by omega
        have hc1 := hc _ a0 a1
        cases h
        refine ⟨rfl, fun S kd => ?_⟩
        rw [ym_putN a0 (Int.natCast_nonneg _)]
        have h1 : (xfk f.1 f.2).1 = 1 := by rw [a3]
        have h2 : (xfk f.1 f.2).2 = false := by rw [a3]
        simp only [xs1, List.map_cons, yv, hf, xput, h1]
        rw [if_pos ⟨hc1, a2, Or.inl h2⟩]
        rfl
      · cases h
    · cases h
  · cases h
