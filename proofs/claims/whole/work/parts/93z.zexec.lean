/-! the machine over a memory of written pairs: for runs that ask nothing of the script -/
abbrev ZI : Type := List (Nat × Nat × Int32)
abbrev ZR : Type := List (Nat × Nat × Nat)
abbrev ZM : Type := Nat × ZI × ZR
def zgI : ZI → Nat → Nat → Int32
  | [], _, _ => 0
  | e :: r, c, k => if e.1 = c ∧ e.2.1 = k then e.2.2 else zgI r c k
def zqI : ZI → Nat → Nat → Int32 → ZI
  | [], c, k, v => [(c, k, v)]
  | e :: r, c, k, v => if e.1 = c ∧ e.2.1 = k then (c, k, v) :: r else e :: zqI r c k v
def zpI (D : ZI) (c k : Nat) (v : Int32) : ZI := if zgI D c k = v then D else zqI D c k v
def zgR : ZR → Nat → Nat → Option Nat
  | [], _, _ => none
  | e :: r, c, k => if e.1 = c ∧ e.2.1 = k then some e.2.2 else zgR r c k
def zpR : ZR → Nat → Nat → Nat → ZR
  | [], c, k, v => [(c, k, v)]
  | e :: r, c, k, v => if e.1 = c ∧ e.2.1 = k then (c, k, v) :: r else e :: zpR r c k v
def zdI (D : ZI) (c : Nat) : ZI := D.filter fun e => !decide (e.1 = c)
def zdR (D : ZR) (c : Nat) : ZR := D.filter fun e => !decide (e.1 = c)
def zm (Z : ZM) : XM := (Z.1, zgI Z.2.1, fun _ _ => 0, zgR Z.2.2)
theorem zgI_q {D : ZI} {c k : Nat} {v : Int32} : zgI (zqI D c k v) = xu (zgI D) c k v := by
  funext c' k'
  unfold xu
  induction D with
  | nil =>
    show (if c = c' ∧ k = k' then v else 0) = _
    by_cases h1 : c' = c
    · by_cases h2 : k' = k
      · rw [if_pos ⟨h1.symm, h2.symm⟩, if_pos h1, if_pos h2]
      · rw [if_neg (fun h => h2 h.2.symm), if_pos h1, if_neg h2]; rfl
    · rw [if_neg (fun h => h1 h.1.symm), if_neg h1]; rfl
  | cons e r ih =>
    by_cases g : e.1 = c ∧ e.2.1 = k
    · rw [show zqI (e :: r) c k v = (c, k, v) :: r from if_pos g]
      show (if c = c' ∧ k = k' then v else zgI r c' k') = _
      by_cases h : c = c' ∧ k = k'
      · rw [if_pos h, if_pos h.1.symm, if_pos h.2.symm]
      · rw [if_neg h]
        have e1 : zgI (e :: r) c' k' = zgI r c' k' := if_neg (fun q => h ⟨g.1.symm.trans q.1, g.2.symm.trans q.2⟩)
        rw [e1]
        by_cases h1 : c' = c
        · rw [if_pos h1, if_neg (fun h2 => h ⟨h1.symm, h2.symm⟩)]
        · rw [if_neg h1]
    · rw [show zqI (e :: r) c k v = e :: zqI r c k v from if_neg g]
      show (if e.1 = c' ∧ e.2.1 = k' then e.2.2 else zgI (zqI r c k v) c' k') = _
      by_cases h : e.1 = c' ∧ e.2.1 = k'
      · have e1 : zgI (e :: r) c' k' = e.2.2 := if_pos h
        rw [if_pos h, e1]
        by_cases h1 : c' = c
        · rw [if_pos h1, if_neg (fun h2 => g ⟨h.1.trans h1, h.2.trans h2⟩)]
        · rw [if_neg h1]
      · have e1 : zgI (e :: r) c' k' = zgI r c' k' := if_neg h
        rw [if_neg h, e1]
        exact ih
theorem zgI_p {D : ZI} {c k : Nat} {v : Int32} : zgI (zpI D c k v) = xu (zgI D) c k v := by
  unfold zpI
  by_cases h : zgI D c k = v
  · rw [if_pos h]
    funext c' k'
    unfold xu
    by_cases h1 : c' = c
    · by_cases h2 : k' = k
      · rw [if_pos h1, if_pos h2, h1, h2, h]
      · rw [if_pos h1, if_neg h2]
    · rw [if_neg h1]
  · rw [if_neg h]; exact zgI_q
theorem zgR_p {D : ZR} {c k : Nat} {v : Nat} : zgR (zpR D c k v) = xu (zgR D) c k (some v) := by
  funext c' k'
  unfold xu
  induction D with
  | nil =>
    show (if c = c' ∧ k = k' then some v else none) = _
    by_cases h1 : c' = c
    · by_cases h2 : k' = k
      · rw [if_pos ⟨h1.symm, h2.symm⟩, if_pos h1, if_pos h2]
      · rw [if_neg (fun h => h2 h.2.symm), if_pos h1, if_neg h2]; rfl
    · rw [if_neg (fun h => h1 h.1.symm), if_neg h1]; rfl
  | cons e r ih =>
    by_cases g : e.1 = c ∧ e.2.1 = k
    · rw [show zpR (e :: r) c k v = (c, k, v) :: r from if_pos g]
      show (if c = c' ∧ k = k' then some v else zgR r c' k') = _
      by_cases h : c = c' ∧ k = k'
      · rw [if_pos h, if_pos h.1.symm, if_pos h.2.symm]
      · rw [if_neg h]
        have e1 : zgR (e :: r) c' k' = zgR r c' k' := if_neg (fun q => h ⟨g.1.symm.trans q.1, g.2.symm.trans q.2⟩)
        rw [e1]
        by_cases h1 : c' = c
        · rw [if_pos h1, if_neg (fun h2 => h ⟨h1.symm, h2.symm⟩)]
        · rw [if_neg h1]
    · rw [show zpR (e :: r) c k v = e :: zpR r c k v from if_neg g]
      show (if e.1 = c' ∧ e.2.1 = k' then some e.2.2 else zgR (zpR r c k v) c' k') = _
      by_cases h : e.1 = c' ∧ e.2.1 = k'
      · have e1 : zgR (e :: r) c' k' = some e.2.2 := if_pos h
        rw [if_pos h, e1]
        by_cases h1 : c' = c
        · rw [if_pos h1, if_neg (fun h2 => g ⟨h.1.trans h1, h.2.trans h2⟩)]
        · rw [if_neg h1]
      · have e1 : zgR (e :: r) c' k' = zgR r c' k' := if_neg h
        rw [if_neg h, e1]
        exact ih
theorem zgI_d {D : ZI} {c : Nat} : zgI (zdI D c) = xur (zgI D) c (fun _ => 0) := by
  funext c' k'
  unfold xur zdI
  induction D with
  | nil => show (0 : Int32) = if c' = c then 0 else 0; split <;> rfl
  | cons e r ih =>
    rw [List.filter_cons]
    by_cases g : e.1 = c
    · rw [if_neg (by rw [decide_eq_true g]; decide), ih]
      by_cases h1 : c' = c
      · rw [if_pos h1, if_pos h1]
      · rw [if_neg h1, if_neg h1]
        exact (if_neg (fun q => h1 (q.1.symm.trans g))).symm
    · rw [if_pos (by rw [decide_eq_false g]; rfl)]
      show (if e.1 = c' ∧ e.2.1 = k' then e.2.2 else zgI _ c' k') = if c' = c then 0 else (if e.1 = c' ∧ e.2.1 = k' then e.2.2 else zgI r c' k')
      rw [ih]
      by_cases h1 : c' = c
      · rw [if_pos h1, if_pos h1, if_neg (fun q => g (q.1.trans h1))]
      · rw [if_neg h1, if_neg h1]
theorem zgR_d {D : ZR} {c : Nat} : zgR (zdR D c) = xur (zgR D) c (fun _ => none) := by
  funext c' k'
  unfold xur zdR
  induction D with
  | nil => show (none : Option Nat) = if c' = c then none else none; split <;> rfl
  | cons e r ih =>
    rw [List.filter_cons]
    by_cases g : e.1 = c
    · rw [if_neg (by rw [decide_eq_true g]; decide), ih]
      by_cases h1 : c' = c
      · rw [if_pos h1, if_pos h1]
      · rw [if_neg h1, if_neg h1]
        exact (if_neg (fun q => h1 (q.1.symm.trans g))).symm
    · rw [if_pos (by rw [decide_eq_false g]; rfl)]
      show (if e.1 = c' ∧ e.2.1 = k' then some e.2.2 else zgR _ c' k') = if c' = c then none else (if e.1 = c' ∧ e.2.1 = k' then some e.2.2 else zgR r c' k')
      rw [ih]
      by_cases h1 : c' = c
      · rw [if_pos h1, if_pos h1, if_neg (fun q => g (q.1.trans h1))]
      · rw [if_neg h1, if_neg h1]
theorem zL_d {c : Nat} : xur (fun _ _ => (0 : Int64)) c (fun _ => 0) = fun _ _ => 0 := by
  funext c' k'
  unfold xur
  split <;> rfl
def zput (Z : ZM) (c ci k : Nat) (v : Value) : Option ZM := match (xfk ci k).1, v with
  | 0, .int x => some (Z.1, zpI Z.2.1 c k x, Z.2.2)
  | 3, .int x => if x = 0 ∨ x = 1 then some (Z.1, zpI Z.2.1 c k x, Z.2.2) else none
  | 2, .ref a => if a < Z.1 then some (Z.1, Z.2.1, zpR Z.2.2 c k a) else none
  | _, _ => none
def zs1 (kd : Nat) (i : Instr) (rs wp pc : Nat) (ls : XL) (st : List Value) (Z : ZM) : Option (Nat × XL × List Value × ZM) := match i, st with
  | .putfield _, v :: .ref a :: st => match xFT[rs]? with
      | some f => if a < Z.1 ∧ (xkind a).1 = 200 + f.1 ∧ ((xfk f.1 f.2).2 = false ∨ kd = 200 + f.1) then (match zput Z a f.1 f.2 v with
        | some Z' => some (pc + 3, ls, st, Z')
        | none => none) else none
      | none => none
  | .iastore, .int v :: .int j :: .ref a :: st => if (a < Z.1 ∧ (xkind a).1 = 0) ∧ xinb j (xkind a).2 then some (pc + 1, ls, st, (Z.1, zpI Z.2.1 a j.toNatClampNeg v, Z.2.2)) else none
  | .aastore, .ref v :: .int j :: .ref a :: st => if (a < Z.1 ∧ 100 ≤ (xkind a).1 ∧ (xkind a).1 < 200) ∧ xinb j (xkind a).2 ∧ v < Z.1 ∧ (xkind v).1 = (xkind a).1 + 100 then some (pc + 1, ls, st, (Z.1, Z.2.1, zpR Z.2.2 a j.toNatClampNeg v)) else none
  | .newarray .int, .int n :: st => if xSH[Z.1]? = some (0, n.toNatClampNeg) ∧ 0 ≤ n.toInt ∧ n.toInt < 100000 ∧ xoks Z.1 st ls = true then some (pc + 2, ls, .ref Z.1 :: st, (Z.1 + 1, zdI Z.2.1 Z.1, Z.2.2)) else none
  | .anewarray _, .int n :: st => if xSH[Z.1]? = some (100 + rs, n.toNatClampNeg) ∧ 0 ≤ n.toInt ∧ n.toInt < 100000 ∧ rs < 9 ∧ xoks Z.1 st ls = true then some (pc + 3, ls, .ref Z.1 :: st, (Z.1 + 1, Z.2.1, zdR Z.2.2 Z.1)) else none
  | .new _, st => if xSH[Z.1]? = some (200 + rs, xnf rs) ∧ rs < 9 ∧ xoks Z.1 st ls = true then some (pc + 3, ls, .ref Z.1 :: st, (Z.1 + 1, zdI Z.2.1 Z.1, zdR Z.2.2 Z.1)) else none
  | .arraylength, .ref a :: st => if a = 40000 then none else (xs1 (0, fun _ => 0) kd .arraylength rs wp pc ls (.ref a :: st) (zm Z)).map (fun q => (q.1, q.2.1, q.2.2.1, Z))
  | i, st => (xs1 (0, fun _ => 0) kd i rs wp pc ls st (zm Z)).map (fun q => (q.1, q.2.1, q.2.2.1, Z))
theorem zput_sound {Z : ZM} {c ci k : Nat} {v : Value} {Z' : ZM} (h : zput Z c ci k v = some Z') : xput (zm Z) c ci k v = some (zm Z') := by
  unfold zput at h
  unfold xput
  generalize (xfk ci k).1 = t at h ⊢
  split at h
  · cases h
    show some _ = some _
    unfold zm
    rw [zgI_p]
  · split at h
    · rename_i g
      cases h
      show (if _ then some _ else none) = some _
      rw [if_pos g]
      unfold zm
      rw [zgI_p]
    · exact absurd h (by intro h; cases h)
  · split at h
    · rename_i g
      cases h
      show (if _ then some _ else none) = some _
      rw [if_pos (show _ < (zm Z).1 from g)]
      unfold zm
      rw [zgR_p]
    · exact absurd h (by intro h; cases h)
  · exact absurd h (by intro h; cases h)
theorem zs1_keep {kd : Nat} {i : Instr} {rs wp pc : Nat} {ls : XL} {st : List Value} {X : XM} {q : Nat × XL × List Value × XM} (h : xs1 (0, fun _ => 0) kd i rs wp pc ls st X = some q)
    (n1 : ∀ k v a r, i = .putfield k → st = v :: .ref a :: r → False) (n2 : ∀ v j a r, i = .iastore → st = .int v :: .int j :: .ref a :: r → False) (n3 : ∀ v j a r, i = .aastore → st = .ref v :: .int j :: .ref a :: r → False)
    (n4 : ∀ n r, i = .newarray .int → st = .int n :: r → False) (n5 : ∀ k n r, i = .anewarray k → st = .int n :: r → False) (n6 : ∀ k, i = .new k → False) (n7 : ∀ a r, i = .arraylength → st = .ref a :: r → a = 40000 → False) : q.2.2.2 = X ∧ ∀ S, xs1 S kd i rs wp pc ls st X = some q := by
  unfold xs1 at h ⊢
  split at h
  · refine ⟨?_, fun S => h⟩
    split at h <;> (cases h; rfl)
  · refine ⟨?_, fun S => h⟩
    split at h <;> (cases h; rfl)
  · refine ⟨?_, fun S => h⟩
    split at h
    · cases h; rfl
    · split at h
      · cases h; rfl
      · cases h
  · refine ⟨?_, fun S => h⟩
    split at h
    · cases h
    · cases h; rfl
  · refine ⟨?_, fun S => h⟩
    split at h
    · cases h
    · cases h; rfl
  · refine ⟨?_, fun S => h⟩
    split at h
    · cases h
    · cases h; rfl
  · refine ⟨?_, fun S => h⟩
    split at h
    · cases h
    · cases h; rfl
  · refine ⟨?_, fun S => h⟩
    cases h; rfl
  · refine ⟨?_, fun S => h⟩
    (repeat' split at h) <;> first | (cases h; rfl) | cases h
  · exact (n1 _ _ _ _ rfl rfl).elim
  · split at h
    · rename_i c
      refine ⟨?_, fun S => ?_⟩
      · split at h
        · cases h; rfl
        · cases h
      · exact (if_pos c).trans h
    · rename_i c
      split at h
      · rename_i c2
        split at h
        · rename_i c3
          exact absurd c3 (by unfold xinb; intro g; have g2 : _ < ((0 : Nat) : Int) := g.2; have g1 := g.1; omega)
        · cases h
      · rename_i c2
        refine ⟨?_, fun S => ?_⟩
        · split at h
          · cases h; rfl
          · cases h
        · exact (if_neg c).trans ((if_neg c2).trans h)
  · refine ⟨?_, fun S => h⟩
    split at h
    · cases h; rfl
    · cases h
  · refine ⟨?_, fun S => h⟩
    split at h
    · split at h
      · cases h; rfl
      · cases h
    · cases h
  · split at h
    · rename_i c
      exact (n7 _ _ rfl rfl c).elim
    · rename_i c
      refine ⟨?_, fun S => (if_neg c).trans h⟩
      (repeat' split at h) <;> first | (cases h; rfl) | cases h
  · exact (n2 _ _ _ _ rfl rfl).elim
  · exact (n3 _ _ _ _ rfl rfl).elim
  · exact (n4 _ _ rfl rfl).elim
  · exact (n5 _ _ _ rfl rfl).elim
  · exact (n6 _ rfl).elim
  · refine ⟨?_, fun S => h⟩
    obtain ⟨a, -, hb⟩ := Option.map_eq_some_iff.mp h
    rw [← hb]
theorem zs1_sound {kd : Nat} {i : Instr} {rs wp pc : Nat} {ls : XL} {st : List Value} {Z : ZM} {q : Nat × XL × List Value × ZM} (h : zs1 kd i rs wp pc ls st Z = some q) (S : XS) : xs1 S kd i rs wp pc ls st (zm Z) = some (q.1, q.2.1, q.2.2.1, zm q.2.2.2) := by
  unfold zs1 at h
  split at h
  · unfold xs1
    dsimp only
    split at h
    · rename_i f hf
      rw [hf]
      dsimp only
      split at h
      · rename_i g
        rw [if_pos (show _ < (zm Z).1 ∧ _ ∧ _ from g)]
        split at h
        · rename_i Z' hz
          cases h
          rw [zput_sound hz]
        · cases h
      · cases h
    · cases h
  · unfold xs1
    dsimp only
    split at h
    · rename_i g
      cases h
      rw [if_pos (show (_ < (zm Z).1 ∧ _) ∧ _ from g)]
      show some (_, _, _, ((zm Z).1, xu (zm Z).2.1 _ _ _, (zm Z).2.2.1, (zm Z).2.2.2)) = some (_, _, _, zm _)
      unfold zm
      rw [zgI_p]
    · cases h
  · unfold xs1
    dsimp only
    split at h
    · rename_i g
      cases h
      rw [if_pos (show (_ < (zm Z).1 ∧ _) ∧ _ ∧ _ < (zm Z).1 ∧ _ from g)]
      show some (_, _, _, ((zm Z).1, (zm Z).2.1, (zm Z).2.2.1, xu (zm Z).2.2.2 _ _ _)) = some (_, _, _, zm _)
      unfold zm
      rw [zgR_p]
    · cases h
  · unfold xs1
    dsimp only
    split at h
    · rename_i g
      cases h
      refine Eq.trans (if_pos g) ?_
      show some (_, _, _, ((zm Z).1 + 1, xur (zm Z).2.1 (zm Z).1 _, (zm Z).2.2.1, (zm Z).2.2.2)) = some (_, _, _, zm _)
      unfold zm
      rw [zgI_d]
    · cases h
  · unfold xs1
    dsimp only
    split at h
    · rename_i g
      cases h
      refine Eq.trans (if_pos g) ?_
      show some (_, _, _, ((zm Z).1 + 1, (zm Z).2.1, (zm Z).2.2.1, xur (zm Z).2.2.2 (zm Z).1 _)) = some (_, _, _, zm _)
      unfold zm
      rw [zgR_d]
    · cases h
  · unfold xs1
    dsimp only
    split at h
    · rename_i g
      cases h
      refine Eq.trans (if_pos g) ?_
      show some (_, _, _, ((zm Z).1 + 1, xur (zm Z).2.1 (zm Z).1 _, xur (zm Z).2.2.1 (zm Z).1 _, xur (zm Z).2.2.2 (zm Z).1 _)) = some (_, _, _, zm _)
      unfold zm
      rw [zgI_d, zgR_d, zL_d]
    · cases h
  · split at h
    · cases h
    · rename_i g
      obtain ⟨a, ha, rfl⟩ := Option.map_eq_some_iff.mp h
      have k := zs1_keep ha (fun _ _ _ _ e => by cases e) (fun _ _ _ _ e => by cases e) (fun _ _ _ _ e => by cases e) (fun _ _ e => by cases e) (fun _ _ _ e => by cases e) (fun _ e => by cases e) (fun _ _ _ e1 e2 => by cases e1; exact g e2)
      rw [k.2 S, ← k.1]
  · rename_i c1 c2 c3 c4 c5 c6 c7
    obtain ⟨a, ha, rfl⟩ := Option.map_eq_some_iff.mp h
    have k := zs1_keep ha
      (fun k v a r e1 e2 => by first | exact c1 k v a r e1 e2 | exact c2 k v a r e1 e2 | exact c3 k v a r e1 e2 | exact c4 k v a r e1 e2 | exact c5 k v a r e1 e2 | exact c6 k v a r e1 e2 | exact c7 k v a r e1 e2)
      (fun v j a r e1 e2 => by first | exact c1 v j a r e1 e2 | exact c2 v j a r e1 e2 | exact c3 v j a r e1 e2 | exact c4 v j a r e1 e2 | exact c5 v j a r e1 e2 | exact c6 v j a r e1 e2 | exact c7 v j a r e1 e2)
      (fun v j a r e1 e2 => by first | exact c1 v j a r e1 e2 | exact c2 v j a r e1 e2 | exact c3 v j a r e1 e2 | exact c4 v j a r e1 e2 | exact c5 v j a r e1 e2 | exact c6 v j a r e1 e2 | exact c7 v j a r e1 e2)
      (fun n r e1 e2 => by first | exact c1 n r e1 e2 | exact c2 n r e1 e2 | exact c3 n r e1 e2 | exact c4 n r e1 e2 | exact c5 n r e1 e2 | exact c6 n r e1 e2 | exact c7 n r e1 e2)
      (fun k n r e1 e2 => by first | exact c1 k n r e1 e2 | exact c2 k n r e1 e2 | exact c3 k n r e1 e2 | exact c4 k n r e1 e2 | exact c5 k n r e1 e2 | exact c6 k n r e1 e2 | exact c7 k n r e1 e2)
      (fun k e1 => by first | exact c1 k e1 | exact c2 k e1 | exact c3 k e1 | exact c4 k e1 | exact c5 k e1 | exact c6 k e1 | exact c7 k e1)
      (fun a r e1 e2 _ => by first | exact c1 a r e1 e2 | exact c2 a r e1 e2 | exact c3 a r e1 e2 | exact c4 a r e1 e2 | exact c5 a r e1 e2 | exact c6 a r e1 e2 | exact c7 a r e1 e2)
    rw [k.2 S, ← k.1]
/-- arraycopy between two rows -/
def zcp (D : ZI) (a b sp dp : Nat) : Nat → ZI
  | 0 => D
  | j + 1 => zpI (zcp D a b sp dp j) a (dp + j) (zgI D b (sp + j))
theorem zgI_c {D : ZI} {a b sp dp n : Nat} : zgI (zcp D a b sp dp n) = xur (zgI D) a (va_cpy (zgI D b) (zgI D a) sp dp n) := by
  induction n with
  | zero =>
    funext c k
    unfold xur va_cpy
    by_cases h : c = a
    · rw [if_pos h, if_neg (by omega), h]; rfl
    · rw [if_neg h]; rfl
  | succ n ih =>
    show zgI (zpI (zcp D a b sp dp n) a (dp + n) (zgI D b (sp + n))) = _
    rw [zgI_p, ih]
    funext c k
    unfold xu xur va_cpy
    by_cases h : c = a
    · rw [if_pos h, if_pos h, if_pos h]
      by_cases g : k = dp + n
      · rw [if_pos g, if_pos (by omega), show sp + (k - dp) = sp + n by omega]
      · rw [if_neg g]
        by_cases g2 : dp ≤ k ∧ k < dp + n
        · rw [if_pos g2, if_pos (by omega)]
        · rw [if_neg g2, if_neg (by omega)]
    · rw [if_neg h, if_neg h, if_neg h]
def zcopy (st : List Value) (Z : ZM) : Option (List Value × ZM) := match st with
  | .int n :: .int dp :: .ref a :: .int sp :: .ref b :: rest => if (a < Z.1 ∧ (xkind a).1 = 0) ∧ (b < Z.1 ∧ (xkind b).1 = 0) ∧ 0 ≤ sp.toInt ∧ 0 ≤ dp.toInt ∧ 0 ≤ n.toInt ∧ sp.toInt + n.toInt ≤ ((xkind b).2 : Int) ∧ dp.toInt + n.toInt ≤ ((xkind a).2 : Int) ∧ (rest.map fun v => v.category).sum ≤ 8 then
      some (rest, (Z.1, zcp Z.2.1 a b sp.toNatClampNeg dp.toNatClampNeg n.toNatClampNeg, Z.2.2)) else none
  | _ => none
theorem zcopy_sound {st : List Value} {Z : ZM} {q : List Value × ZM} (h : zcopy st Z = some q) : xcopy st (zm Z) = some (q.1, zm q.2) := by
  unfold zcopy at h
  split at h
  · split at h
    · rename_i g
      cases h
      unfold xcopy
      dsimp only
      rw [if_pos (show (_ < (zm Z).1 ∧ _) ∧ (_ < (zm Z).1 ∧ _) ∧ _ from g)]
      show some (_, ((zm Z).1, xur (zm Z).2.1 _ _, (zm Z).2.2.1, (zm Z).2.2.2)) = some (_, zm _)
      unfold zm
      rw [zgI_c]
    · cases h
  · cases h
def zexec : Nat → Nat → Nat → Nat → XL → List Value → ZM → Option (Option Value × ZM)
  | 0, _, _, _, _, _, _ => none
  | n + 1, d, mi, pc, ls, st, Z => match xme mi, xi mi pc with
    | some e, some (i, rs, wp) =>
      if xcl i = 0 then match zs1 e.2.2.2.2.2.1 i rs wp pc ls st Z with
        | some q => zexec n d mi q.1 q.2.1 q.2.2.1 q.2.2.2
        | none => none
      else if xcl i = 1 then (xret i e.2.2.2.2.1 st).map (fun r => (r, Z))
      else match d with
        | 0 => none
        | d' + 1 =>
          if rs = 8888 then (match st with
            | .ref _ :: rest => if (rest.map fun v => v.category).sum ≤ 8 then zexec n (d' + 1) mi (pc + 3) ls rest Z else none
            | _ => none)
          else if rs = 9999 then (match zcopy st Z with
            | some q => zexec n (d' + 1) mi (pc + 3) ls q.1 q.2
            | none => none)
          else if rs = 9997 then (match st with
            | .int y :: .int x :: rest => if (rest.map fun v => v.category).sum ≤ 8 then zexec n (d' + 1) mi (pc + 3) ls (.int (if x < y then y else x) :: rest) Z else none
            | _ => none)
          else if rs = 9998 then (match st with
            | .int y :: .int x :: rest => if (rest.map fun v => v.category).sum ≤ 8 then zexec n (d' + 1) mi (pc + 3) ls (.int (if y < x then y else x) :: rest) Z else none
            | _ => none)
          else match xinv i rs st (zm Z) with
            | some (mj, e2, as, rest) => (match zexec n d' mj 0 (xpad e2.2.2.2.1 (xlocs as)) [] Z with
              | some (r, Z1) => if Z1.1 = Z.1 ∨ xoks Z.1 rest ls = true then zexec n (d' + 1) mi (pc + 3) ls (r.toList ++ rest) Z1 else none
              | none => none)
            | none => none
    | _, _ => none
theorem zexec_sound (S : XS) : ∀ (n d mi pc : Nat) (ls : XL) (st : List Value) (Z : ZM) (r : Option Value) (Z' : ZM), zexec n d mi pc ls st Z = some (r, Z') → xexec S n d mi pc ls st (zm Z) = some (r, zm Z') := by
  intro n
  induction n with
  | zero => intro d mi pc ls st Z r Z' h; cases h
  | succ n ih =>
    intro d mi pc ls st Z r Z' h
    unfold zexec at h
    unfold xexec
    split at h
    · rename_i e i rs wp h1 h2
      rw [h1, h2]
      dsimp only
      split at h
      · rename_i c0
        rw [if_pos c0]
        split at h
        · rename_i q hq
          rw [zs1_sound hq S]
          exact ih _ _ _ _ _ _ _ _ h
        · cases h
      · rename_i c0
        rw [if_neg c0]
        split at h
        · rename_i c1
          rw [if_pos c1]
          obtain ⟨a, ha, hb⟩ := Option.map_eq_some_iff.mp h
          rw [ha]
          cases hb
          rfl
        · rename_i c1
          rw [if_neg c1]
          cases d with
          | zero => cases h
          | succ d' =>
            dsimp only at h ⊢
            split at h
            · rename_i c2
              rw [if_pos c2]
              split at h
              · split at h
                · rename_i c3
                  refine Eq.trans (if_pos c3) ?_
                  exact ih _ _ _ _ _ _ _ _ h
                · cases h
              · cases h
            · rename_i c2
              rw [if_neg c2]
              split at h
              · rename_i c3
                rw [if_pos c3]
                split at h
                · rename_i q hq
                  rw [zcopy_sound hq]
                  exact ih _ _ _ _ _ _ _ _ h
                · cases h
              · rename_i c3
                rw [if_neg c3]
                by_cases c4 : rs = 9997
                · rw [if_pos c4] at h ⊢
                  split at h
                  · split at h
                    · rename_i c6
                      refine Eq.trans (if_pos c6) ?_
                      exact ih _ _ _ _ _ _ _ _ h
                    · cases h
                  · cases h
                · rw [if_neg c4] at h ⊢
                  by_cases c5 : rs = 9998
                  · rw [if_pos c5] at h ⊢
                    split at h
                    · split at h
                      · rename_i c6
                        refine Eq.trans (if_pos c6) ?_
                        exact ih _ _ _ _ _ _ _ _ h
                      · cases h
                    · cases h
                  · rw [if_neg c5] at h ⊢
                    split at h
                    · rename_i mj e2 as rest hx
                      rw [hx]
                      dsimp only
                      split at h
                      · rename_i r1 Z1 hz
                        rw [ih _ _ _ _ _ _ _ _ hz]
                        dsimp only
                        split at h
                        · rename_i c6
                          rw [if_pos (show (zm Z1).1 = (zm Z).1 ∨ xoks (zm Z).1 rest ls = true from c6)]
                          exact ih _ _ _ _ _ _ _ _ h
                        · cases h
                      · cases h
                    · cases h
    · cases h
