/-! the reference's reading: signs held, taken off by rank; that it reads as the grammar does -/
def rk (s : Int) : Int := if s = 0 then 0 else if s = 11 then 1 else if s = 12 then 2 else if s = 13 then 3 else if s ≤ 15 then 4 else if s ≤ 17 then 5 else if s = 18 then 6 else 7
theorem rk_le (s : Int) : rk s ≤ 7 := by
  unfold rk
  (repeat' split) <;> decide
abbrev zU : Type := List Int × Int × List Int
abbrev zS : Type := Bool × Bool × Nat × zU
def uw (l : Int) : List Int → Int → List Int → zU
  | [], o, c => ([], o, c)
  | s :: H, o, c => if l ≤ rk s then uw l H (if s = 13 ∨ s = 19 then o - 1 else o) (s :: c) else (s :: H, o, c)
abbrev ux (l : Int) (X : zU) : zU := uw l X.1 X.2.1 X.2.2
def tr : List Int → Int
  | [] => -1
  | s :: _ => rk s
theorem uw_stop {l : Int} {H : List Int} {o : Int} {c : List Int} (h : tr H < l) : uw l H o c = (H, o, c) := by
  cases H with
  | nil => rfl
  | cons s H => exact if_neg (show ¬ l ≤ rk s by have h : rk s < l := h; omega)
theorem uw_push {l s : Int} {H : List Int} {o : Int} {c : List Int} (h : l ≤ rk s) : uw l (s :: H) o c = uw l H (if s = 13 ∨ s = 19 then o - 1 else o) (s :: c) := if_pos h
theorem ux_idem {l l' : Int} (h : l ≤ l') {H : List Int} : ∀ {o : Int} {c : List Int}, ux l (uw l' H o c) = uw l H o c := by
  induction H with
  | nil => intro o c; rfl
  | cons s H ih =>
    intro o c
    by_cases g : l' ≤ rk s
    · rw [uw_push g, uw_push (by omega)]
      exact ih
    · rw [show uw l' (s :: H) o c = (s :: H, o, c) from if_neg g]
def sgO (k : Int) : Int := if k = 4 then 11 else if k = 5 then 12 else if k = 60 then 14 else if k = 61 then 15 else if k = 43 then 16 else if k = 45 then 17 else if k = 42 then 18 else -1
def mst (K V : Nat → Int) (w m : Bool) (i : Nat) (H : List Int) (o : Int) (c : List Int) : pR ⊕ zS :=
  if w = true then
    (if K i = 2 ∨ K i = 3 then .inr (false, m, i + 1, uw 7 H o (V i :: c))
    else if K i = 6 ∧ m = true then (if o = 5 then .inl (false, i, c) else .inr (true, m, i + 1, 13 :: H, o + 1, c))
    else if K i = 45 then (if o = 5 then .inl (false, i, c) else .inr (true, false, i + 1, 19 :: H, o + 1, c))
    else if K i = 40 then (if o = 5 then .inl (false, i, c) else .inr (true, true, i + 1, 0 :: H, o + 1, c))
    else .inl (false, i, c))
  else if K i = 59 then .inl (decide ((uw 1 H o c).1 = []), i, (uw 1 H o c).2.2)
  else if K i = 41 then (if (uw 1 H o c).1 = [] then .inl (false, i, c) else .inr (false, m, i + 1, uw 7 (uw 1 H o c).1.tail ((uw 1 H o c).2.1 - 1) (uw 1 H o c).2.2))
  else if sgO (K i) = -1 then .inl (false, i, c)
  else if rk (sgO (K i)) = 4 then (if tr (uw 5 H o c).1 = 4 then .inl (false, i, c) else .inr (true, decide (sgO (K i) ≤ 12), i + 1, sgO (K i) :: (uw 5 H o c).1, (uw 5 H o c).2.1, (uw 5 H o c).2.2))
  else .inr (true, decide (sgO (K i) ≤ 12), i + 1, sgO (K i) :: (uw (rk (sgO (K i))) H o c).1, (uw (rk (sgO (K i))) H o c).2.1, (uw (rk (sgO (K i))) H o c).2.2)
def mrun (K V : Nat → Int) : Nat → zS → Option pR
  | 0, _ => none
  | f + 1, s => match mst K V s.1 s.2.1 s.2.2.1 s.2.2.2.1 s.2.2.2.2.1 s.2.2.2.2.2 with
    | .inl r => some r
    | .inr s' => mrun K V f s'
def Ends (K V : Nat → Int) (s : zS) (r : pR) : Prop := ∃ f, mrun K V f s = some r
def Fails (K V : Nat → Int) (s : zS) (i : Nat) : Prop := ∃ c, Ends K V s (false, i, c)
section ME
variable {K V : Nat → Int}
theorem Ends.l {w m : Bool} {i : Nat} {H : List Int} {o : Int} {c : List Int} {r : pR} (h : mst K V w m i H o c = .inl r) : Ends K V (w, m, i, H, o, c) r := ⟨1, by
  show (match mst K V w m i H o c with
    | .inl r => some r
    | .inr s' => mrun K V 0 s') = _
  rw [h]⟩
theorem Ends.r {w m : Bool} {i : Nat} {H : List Int} {o : Int} {c : List Int} {s' : zS} {r : pR} (h : mst K V w m i H o c = .inr s') (g : Ends K V s' r) : Ends K V (w, m, i, H, o, c) r := by
  obtain ⟨f, hf⟩ := g
  refine ⟨f + 1, ?_⟩
  show (match mst K V w m i H o c with
    | .inl r => some r
    | .inr s' => mrun K V f s') = _
  rw [h]
  exact hf
theorem Fails.of {s s' : zS} {i : Nat} (h : ∀ r, Ends K V s' r → Ends K V s r) (g : Fails K V s' i) : Fails K V s i := by
  obtain ⟨c, g⟩ := g
  exact ⟨c, h _ g⟩
/-- a reader told as the machine's run: what it begins from (rank of the top), what it leaves -/
def Sp (K V : Nat → Int) (k : Nat) (f : pF) (ρ ls : Int) (Pm : Nat → Bool → Prop) (St : Nat → Bool → zU → Prop) : Prop := ∀ (m : Bool) (i : Nat) (H : List Int) (o : Int) (c : List Int), o = 5 - (k : Int) → Pm i m → tr H < ρ →
  (∀ i' c', f i c = (true, i', c') → ∃ m' X, (∀ r, Ends K V (false, m', i', X) r → Ends K V (true, m, i, H, o, c) r) ∧ (∀ l, 1 ≤ l → l ≤ ls → ux l X = uw l H o c') ∧ St i' m' X) ∧
  (∀ i' c', f i c = (false, i', c') → Fails K V (true, m, i, H, o, c) i')
/-- between: signs of one rank -/
def opOk (op : Int → Int) (ρ : Int) : Prop := ∀ κ, op κ ≠ 0 → sgO κ = op κ ∧ rk (op κ) = ρ ∧ κ ≠ 59 ∧ κ ≠ 41 ∧ 11 ≤ op κ ∧ op κ ≠ 13 ∧ op κ ≠ 19
theorem mst_op {op : Int → Int} {ρ : Int} (ho : opOk op ρ) (h4 : ρ ≠ 4) {m : Bool} {i : Nat} {X : zU} {H : List Int} {o : Int} {c : List Int} (h : op (K i) ≠ 0) (hX : ux ρ X = (H, o, c)) : mst K V false m i X.1 X.2.1 X.2.2 = .inr (true, decide (op (K i) ≤ 12), i + 1, op (K i) :: H, o, c) := by
  obtain ⟨h1, h2, h3, h5, h6, -⟩ := ho _ h
  unfold mst
  rw [if_neg (by decide), if_neg h3, if_neg h5, h1, if_neg (by omega), if_neg (by rw [h2]; exact h4), h2, show uw ρ X.1 X.2.1 X.2.2 = (H, o, c) from hX]
theorem sqL_Sp {k : Nat} {sub : pF} {ρs ls ρ : Int} {op : Int → Int} {Pm : Nat → Bool → Prop} {St : Nat → Bool → zU → Prop} (hs : Sp K V k sub ρs ls Pm St) (ho : opOk op ρ) (h4 : ρ ≠ 4) (h1 : 1 ≤ ρ) (h2 : ρ ≤ ls) (h3 : ρ < ρs) (hPm : ∀ κ i, op κ ≠ 0 → Pm i (decide (op κ ≤ 12))) {H : List Int} {o : Int} (hk : o = 5 - (k : Int)) (hH : tr H < ρ) {j : Nat} : ∀ {i1 : Nat} {c1 : List Int} {m1 : Bool} {X1 : zU}, (∀ l, 1 ≤ l → l ≤ ρ → ux l X1 = uw l H o c1) → St i1 m1 X1 →
    (∀ i' c', sqL K op sub j i1 c1 = (true, i', c') → ∃ m' X, (∀ r, Ends K V (false, m', i', X) r → Ends K V (false, m1, i1, X1) r) ∧ (∀ l, 1 ≤ l → l ≤ ρ → ux l X = uw l H o c') ∧ St i' m' X) ∧
    (∀ i' c', sqL K op sub j i1 c1 = (false, i', c') → Fails K V (false, m1, i1, X1) i') := by
  induction j with
  | zero =>
    intro i1 c1 m1 X1 e s
    refine ⟨fun i' c' q => ?_, fun i' c' q => absurd (show true = false from congrArg Prod.fst q) (by decide)⟩
    have a := pR_eta q
    have a1 : i1 = i' := a.2.1
    have a2 : c1 = c' := a.2.2
    rw [← a1, ← a2]
    exact ⟨m1, X1, fun r g => g, e, s⟩
  | succ j ih =>
    intro i1 c1 m1 X1 e s
    by_cases c0 : op (K i1) = 0
    · have q0 : sqL K op sub (j + 1) i1 c1 = (true, i1, c1) := if_pos c0
      rw [q0]
      refine ⟨fun i' c' q => ?_, fun i' c' q => absurd (show true = false from congrArg Prod.fst q) (by decide)⟩
      have a := pR_eta q
      have a1 : i1 = i' := a.2.1
      have a2 : c1 = c' := a.2.2
      rw [← a1, ← a2]
      exact ⟨m1, X1, fun r g => g, e, s⟩
    · have eX : ux ρ X1 = (H, o, c1) := by rw [e ρ h1 (Int.le_refl _), uw_stop hH]
      have st := mst_op (V := V) ho h4 (m := m1) c0 eX
      obtain ⟨o1, o2, -, -, o5, o6, o7⟩ := ho _ c0
      have sp := hs (decide (op (K i1) ≤ 12)) (i1 + 1) (op (K i1) :: H) o c1 hk (hPm _ _ c0) (by show rk (op (K i1)) < ρs; rw [o2]; exact h3)
      by_cases g : (sub (i1 + 1) c1).1 = true
      · obtain ⟨m2, X2, r2, e2, s2⟩ := sp.1 _ _ (pR_mk g)
        have e3 : ∀ l, 1 ≤ l → l ≤ ρ → ux l X2 = uw l H o (op (K i1) :: (sub (i1 + 1) c1).2.2) := fun l l1 l2 => by
          rw [e2 l l1 (by omega), uw_push (by rw [o2]; exact l2), if_neg (by omega)]
        have q0 : sqL K op sub (j + 1) i1 c1 = sqL K op sub j (sub (i1 + 1) c1).2.1 (op (K i1) :: (sub (i1 + 1) c1).2.2) := (if_neg c0).trans (if_pos g)
        rw [q0]
        have z := ih e3 s2
        refine ⟨fun i' c' q => ?_, fun i' c' q => Fails.of (fun r h => Ends.r st (r2 r h)) (z.2 i' c' q)⟩
        obtain ⟨m3, X3, r3, e4, s3⟩ := z.1 i' c' q
        exact ⟨m3, X3, fun r h => Ends.r st (r2 r (r3 r h)), e4, s3⟩
      · have g : (sub (i1 + 1) c1).1 = false := Bool.eq_false_iff.mpr g
        have q0 : sqL K op sub (j + 1) i1 c1 = sub (i1 + 1) c1 := (if_neg c0).trans (if_neg (by rw [g]; decide))
        rw [q0]
        refine ⟨fun i' c' q => ?_, fun i' c' q => Fails.of (fun r h => Ends.r st h) (sp.2 i' c' q)⟩
        rw [q] at g
        exact absurd (show true = false from g) (by decide)
theorem sqs_Sp {k : Nat} {sub : pF} {ρs ls ρ : Int} {op : Int → Int} {Pm : Nat → Bool → Prop} {St : Nat → Bool → zU → Prop} (hK : ∀ i, K i ≠ 0 → i < 160) (hg : gd sub) (hs : Sp K V k sub ρs ls Pm St) (ho : opOk op ρ) (h4 : ρ ≠ 4) (h1 : 1 ≤ ρ) (h2 : ρ ≤ ls) (h3 : ρ < ρs) (hPm : ∀ κ i, op κ ≠ 0 → Pm i (decide (op κ ≤ 12))) (h0 : op 0 = 0) : Sp K V k (sqs K op sub) ρ ρ Pm (fun i' m' X => St i' m' X ∧ op (K i') = 0) := by
  intro m i H o c hk hm hH
  have sp := hs m i H o c hk hm (by omega)
  by_cases g : (sub i c).1 = true
  · have q0 : sqs K op sub i c = sqL K op sub 160 (sub i c).2.1 (sub i c).2.2 := if_pos g
    rw [q0]
    obtain ⟨m1, X1, r1, e1, s1⟩ := sp.1 _ _ (pR_mk g)
    have z := sqL_Sp hs ho h4 h1 h2 h3 hPm hk hH (j := 160) (fun l l1 l2 => e1 l l1 (by omega)) s1
    refine ⟨fun i' c' q => ?_, fun i' c' q => Fails.of r1 (z.2 i' c' q)⟩
    obtain ⟨m3, X3, r3, e4, s3⟩ := z.1 i' c' q
    exact ⟨m3, X3, fun r h => r1 r (r3 r h), e4, s3, sqL_stop hK hg h0 (by omega) q⟩
  · have g : (sub i c).1 = false := Bool.eq_false_iff.mpr g
    have q0 : sqs K op sub i c = sub i c := if_neg (by rw [g]; decide)
    rw [q0]
    refine ⟨fun i' c' q => ?_, sp.2⟩
    rw [q] at g
    exact absurd (show true = false from g) (by decide)
/-- what lies below a level -/
def Lo (k : Nat) (f : pF) (P : Nat → pF → Prop) : Prop := (k = 0 ∧ f = pNil) ∨ ∃ k' g, k = k' + 1 ∧ f = pSh g ∧ P k' g
def Pm1 (K : Nat → Int) : Nat → Bool → Prop := fun i m => K i ≠ 6 ∨ m = false
def Pm2 : Nat → Bool → Prop := fun _ m => m = true
def St1 : Nat → Bool → zU → Prop := fun _ _ _ => True
/-- behind a whole Not: what may not stand, what fails -/
def StN (K V : Nat → Int) : Nat → Bool → zU → Prop := fun i m X => (opT (K i) = 0 ∧ opS (K i) = 0) ∧ (opC (K i) ≠ 0 → Fails K V (false, m, i, X) i)
def StA (K V : Nat → Int) : Nat → Bool → zU → Prop := fun i m X => (StN K V i m X ∧ opA (K i) = 0) ∧ opO (K i) = 0
/-- behind a whole E: only ; and ) can stand -/
theorem StA.fails {i : Nat} {m : Bool} {X : zU} (h : StA K V i m X) (h1 : K i ≠ 59) (h2 : K i ≠ 41) : Fails K V (false, m, i, X) i := by
  obtain ⟨⟨⟨⟨a, b⟩, f⟩, c⟩, d⟩ := h
  by_cases e : opC (K i) = 0
  · refine ⟨X.2.2, Ends.l (H := X.1) (o := X.2.1) (c := X.2.2) ?_⟩
    have n4 : K i ≠ 4 := fun g => by rw [g] at d; exact absurd d (by decide)
    have n5 : K i ≠ 5 := fun g => by rw [g] at c; exact absurd c (by decide)
    have n60 : K i ≠ 60 := fun g => by rw [g] at e; exact absurd e (by decide)
    have n61 : K i ≠ 61 := fun g => by rw [g] at e; exact absurd e (by decide)
    have n43 : K i ≠ 43 := fun g => by rw [g] at b; exact absurd b (by decide)
    have n45 : K i ≠ 45 := fun g => by rw [g] at b; exact absurd b (by decide)
    have n42 : K i ≠ 42 := fun g => by rw [g] at a; exact absurd a (by decide)
    have s : sgO (K i) = -1 := by
      unfold sgO
      rw [if_neg n4, if_neg n5, if_neg n60, if_neg n61, if_neg n43, if_neg n45, if_neg n42]
    unfold mst
    rw [if_neg (by decide), if_neg h1, if_neg h2, if_pos s]
  · exact f e
theorem pOne_Sp {k : Nat} {lo la : pF} (hl : Lo k lo fun k' g => Sp K V k' g 8 7 (Pm1 K) St1) (ha : Lo k la fun k' g => Sp K V k' g 1 1 Pm2 (StA K V)) : Sp K V k (pOne K V lo la) 8 7 (Pm1 K) St1 := by
  intro m i H o c hk hm hH
  by_cases k1 : K i = 2 ∨ K i = 3
  · have q0 : pOne K V lo la i c = (true, i + 1, V i :: c) := if_pos k1
    rw [q0]
    refine ⟨fun i' c' q => ?_, fun i' c' q => absurd (show true = false from congrArg Prod.fst q) (by decide)⟩
    have a := pR_eta q
    have a1 : i + 1 = i' := a.2.1
    have a2 : V i :: c = c' := a.2.2
    rw [← a1, ← a2]
    refine ⟨m, uw 7 H o (V i :: c), fun r g => Ends.r ?_ g, fun l l1 l2 => ux_idem l2, True.intro⟩
    unfold mst
    rw [if_pos rfl, if_pos k1]
  · have n6 : ¬ (K i = 6 ∧ m = true) := fun h => by
      rcases hm with g | g
      · exact g h.1
      · rw [g] at h; exact absurd h.2 (by decide)
    by_cases k2 : K i = 45
    · rcases hl with ⟨rfl, rfl⟩ | ⟨k', g, rfl, rfl, hg⟩
      · have q0 : pOne K V pNil la i c = (false, i, c) := by
          unfold pOne
          rw [if_neg k1, if_pos k2]
          exact if_neg (by show ¬ (false = true); decide)
        rw [q0]
        refine ⟨fun i' c' q => absurd (show false = true from congrArg Prod.fst q) (by decide), fun i' c' q => ?_⟩
        have a1 : i = i' := (congrArg (fun z : pR => z.2.1) q)
        rw [← a1]
        refine ⟨c, Ends.l ?_⟩
        unfold mst
        rw [if_pos rfl, if_neg k1, if_neg n6, if_pos k2, if_pos (by rw [hk]; rfl)]
      · have st : mst K V true m i H o c = .inr (true, false, i + 1, 19 :: H, o + 1, c) := by
          unfold mst
          rw [if_pos rfl, if_neg k1, if_neg n6, if_pos k2, if_neg (by omega)]
        have sp := hg false (i + 1) (19 :: H) (o + 1) c (by omega) (Or.inr rfl) (by show rk 19 < 8; decide)
        by_cases g1 : (g (i + 1) c).1 = true
        · have q0 : pOne K V (pSh g) la i c = (true, (g (i + 1) c).2.1, 19 :: (g (i + 1) c).2.2) := by
            unfold pOne
            rw [if_neg k1, if_pos k2]
            exact if_pos g1
          rw [q0]
          refine ⟨fun i' c' q => ?_, fun i' c' q => absurd (show true = false from congrArg Prod.fst q) (by decide)⟩
          have a := pR_eta q
          have a1 : (g (i + 1) c).2.1 = i' := a.2.1
          have a2 : 19 :: (g (i + 1) c).2.2 = c' := a.2.2
          rw [← a1, ← a2]
          obtain ⟨m2, X2, r2, e2, -⟩ := sp.1 _ _ (pR_mk g1)
          refine ⟨m2, X2, fun r h => Ends.r st (r2 r h), fun l l1 l2 => ?_, True.intro⟩
          rw [e2 l l1 l2, uw_push (by show l ≤ rk 19; exact l2), if_pos (Or.inr rfl), show o + 1 - 1 = o by omega]
        · have g1 : (g (i + 1) c).1 = false := Bool.eq_false_iff.mpr g1
          have q0 : pOne K V (pSh g) la i c = g (i + 1) c := by
            unfold pOne
            rw [if_neg k1, if_pos k2]
            exact if_neg (by show ¬ (g (i + 1) c).1 = true; rw [g1]; decide)
          rw [q0]
          refine ⟨fun i' c' q => ?_, fun i' c' q => Fails.of (fun r h => Ends.r st h) (sp.2 i' c' q)⟩
          rw [q] at g1
          exact absurd (show true = false from g1) (by decide)
    · by_cases k3 : K i = 40
      · rcases ha with ⟨rfl, rfl⟩ | ⟨k', g, rfl, rfl, hg⟩
        · have q0 : pOne K V lo pNil i c = (false, i, c) := by
            unfold pOne
            rw [if_neg k1, if_neg k2, if_pos k3]
            exact if_neg (by show ¬ (false = true); decide)
          rw [q0]
          refine ⟨fun i' c' q => absurd (show false = true from congrArg Prod.fst q) (by decide), fun i' c' q => ?_⟩
          have a1 : i = i' := (congrArg (fun z : pR => z.2.1) q)
          rw [← a1]
          refine ⟨c, Ends.l ?_⟩
          unfold mst
          rw [if_pos rfl, if_neg k1, if_neg n6, if_neg k2, if_pos k3, if_pos (by rw [hk]; rfl)]
        · have st : mst K V true m i H o c = .inr (true, true, i + 1, 0 :: H, o + 1, c) := by
            unfold mst
            rw [if_pos rfl, if_neg k1, if_neg n6, if_neg k2, if_pos k3, if_neg (by omega)]
          have sp := hg true (i + 1) (0 :: H) (o + 1) c (by omega) rfl (by show rk 0 < 1; decide)
          by_cases g1 : (g (i + 1) c).1 = true
          · obtain ⟨m2, X2, r2, e2, s2⟩ := sp.1 _ _ (pR_mk g1)
            have e1 := e2 1 (by decide) (by decide)
            rw [uw_stop (show tr (0 :: H) < 1 by show rk 0 < 1; decide)] at e1
            by_cases g2 : K (g (i + 1) c).2.1 = 41
            · have q0 : pOne K V lo (pSh g) i c = (true, (g (i + 1) c).2.1 + 1, (g (i + 1) c).2.2) := by
                unfold pOne
                rw [if_neg k1, if_neg k2, if_pos k3]
                exact (if_pos g1).trans (if_pos g2)
              rw [q0]
              refine ⟨fun i' c' q => ?_, fun i' c' q => absurd (show true = false from congrArg Prod.fst q) (by decide)⟩
              have a := pR_eta q
              have a1 : (g (i + 1) c).2.1 + 1 = i' := a.2.1
              have a2 : (g (i + 1) c).2.2 = c' := a.2.2
              rw [← a1, ← a2]
              have st2 : mst K V false m2 (g (i + 1) c).2.1 X2.1 X2.2.1 X2.2.2 = .inr (false, m2, (g (i + 1) c).2.1 + 1, uw 7 H o (g (i + 1) c).2.2) := by
                unfold mst
                rw [if_neg (by decide), if_neg (by rw [g2]; decide), if_pos g2, show uw 1 X2.1 X2.2.1 X2.2.2 = _ from e1, if_neg (by intro h; exact absurd h (List.cons_ne_nil _ _)), show o + 1 - 1 = o by omega]
                rfl
              exact ⟨m2, uw 7 H o (g (i + 1) c).2.2, fun r h => Ends.r st (r2 r (Ends.r (H := X2.1) (o := X2.2.1) (c := X2.2.2) st2 h)), fun l l1 l2 => ux_idem l2, True.intro⟩
            · have q0 : pOne K V lo (pSh g) i c = (false, (g (i + 1) c).2.1, (g (i + 1) c).2.2) := by
                unfold pOne
                rw [if_neg k1, if_neg k2, if_pos k3]
                exact (if_pos g1).trans (if_neg g2)
              rw [q0]
              refine ⟨fun i' c' q => absurd (show false = true from congrArg Prod.fst q) (by decide), fun i' c' q => ?_⟩
              have a1 : (g (i + 1) c).2.1 = i' := (congrArg (fun z : pR => z.2.1) q)
              rw [← a1]
              refine Fails.of (fun r h => Ends.r st (r2 r h)) ?_
              by_cases g3 : K (g (i + 1) c).2.1 = 59
              · refine ⟨(g (i + 1) c).2.2, Ends.l (H := X2.1) (o := X2.2.1) (c := X2.2.2) ?_⟩
                unfold mst
                rw [if_neg (by decide), if_pos g3, show uw 1 X2.1 X2.2.1 X2.2.2 = _ from e1, decide_eq_false (by intro h; exact absurd h (List.cons_ne_nil _ _))]
              · exact s2.fails g3 g2
          · have g1 : (g (i + 1) c).1 = false := Bool.eq_false_iff.mpr g1
            have q0 : pOne K V lo (pSh g) i c = g (i + 1) c := by
              unfold pOne
              rw [if_neg k1, if_neg k2, if_pos k3]
              exact if_neg (by show ¬ (g (i + 1) c).1 = true; rw [g1]; decide)
            rw [q0]
            refine ⟨fun i' c' q => ?_, fun i' c' q => Fails.of (fun r h => Ends.r st h) (sp.2 i' c' q)⟩
            rw [q] at g1
            exact absurd (show true = false from g1) (by decide)
      · have q0 : pOne K V lo la i c = (false, i, c) := by
          unfold pOne
          rw [if_neg k1, if_neg k2, if_neg k3]
        rw [q0]
        refine ⟨fun i' c' q => absurd (show false = true from congrArg Prod.fst q) (by decide), fun i' c' q => ?_⟩
        have a1 : i = i' := (congrArg (fun z : pR => z.2.1) q)
        rw [← a1]
        refine ⟨c, Ends.l ?_⟩
        unfold mst
        rw [if_pos rfl, if_neg k1, if_neg n6, if_neg k2, if_neg k3]
theorem opC_is {κ : Int} (h : opC κ ≠ 0) : sgO κ = opC κ ∧ rk (opC κ) = 4 ∧ κ ≠ 59 ∧ κ ≠ 41 ∧ 14 ≤ opC κ ∧ opC κ ≤ 15 := by
  by_cases c : κ = 60
  · rw [c]; exact ⟨rfl, rfl, by decide, by decide, by decide, by decide⟩
  · by_cases c2 : κ = 61
    · rw [c2]; exact ⟨rfl, rfl, by decide, by decide, by decide, by decide⟩
    · unfold opC at h; rw [if_neg c, if_neg c2] at h; exact absurd rfl h
theorem mst_cmp {m : Bool} {i : Nat} {X : zU} {H : List Int} {o : Int} {c : List Int} (h : opC (K i) ≠ 0) (hX : ux 5 X = (H, o, c)) : mst K V false m i X.1 X.2.1 X.2.2 = if tr H = 4 then .inl (false, i, X.2.2) else .inr (true, false, i + 1, opC (K i) :: H, o, c) := by
  obtain ⟨h1, h2, h3, h5, h6, h7⟩ := opC_is h
  unfold mst
  rw [if_neg (by decide), if_neg h3, if_neg h5, h1, if_neg (by omega), if_pos h2, show uw 5 X.1 X.2.1 X.2.2 = (H, o, c) from hX, decide_eq_false (by omega)]
theorem pNot_Sp {k : Nat} {ln sum : pF} (hl : Lo k ln fun k' g => Sp K V k' g 4 3 Pm2 (StN K V)) (hs : Sp K V k sum 5 5 (Pm1 K) (fun i m X => (St1 i m X ∧ opT (K i) = 0) ∧ opS (K i) = 0)) : Sp K V k (pNot K ln sum) 4 3 Pm2 (StN K V) := by
  intro m i H o c hk hm hH
  have hm : m = true := hm
  subst hm
  by_cases k6 : K i = 6
  · have k1 : ¬ (K i = 2 ∨ K i = 3) := by omega
    rcases hl with ⟨rfl, rfl⟩ | ⟨k', g, rfl, rfl, hg⟩
    · have q0 : pNot K pNil sum i c = (false, i, c) := by
        unfold pNot
        rw [if_pos k6]
        exact if_neg (by show ¬ (false = true); decide)
      rw [q0]
      refine ⟨fun i' c' q => absurd (show false = true from congrArg Prod.fst q) (by decide), fun i' c' q => ?_⟩
      have a1 : i = i' := (congrArg (fun z : pR => z.2.1) q)
      rw [← a1]
      refine ⟨c, Ends.l ?_⟩
      unfold mst
      rw [if_pos rfl, if_neg k1, if_pos ⟨k6, rfl⟩, if_pos (by rw [hk]; rfl)]
    · have st : mst K V true true i H o c = .inr (true, true, i + 1, 13 :: H, o + 1, c) := by
        unfold mst
        rw [if_pos rfl, if_neg k1, if_pos ⟨k6, rfl⟩, if_neg (by omega)]
      have sp := hg true (i + 1) (13 :: H) (o + 1) c (by omega) rfl (by show rk 13 < 4; decide)
      by_cases g1 : (g (i + 1) c).1 = true
      · have q0 : pNot K (pSh g) sum i c = (true, (g (i + 1) c).2.1, 13 :: (g (i + 1) c).2.2) := by
          unfold pNot
          rw [if_pos k6]
          exact if_pos g1
        rw [q0]
        refine ⟨fun i' c' q => ?_, fun i' c' q => absurd (show true = false from congrArg Prod.fst q) (by decide)⟩
        have a := pR_eta q
        have a1 : (g (i + 1) c).2.1 = i' := a.2.1
        have a2 : 13 :: (g (i + 1) c).2.2 = c' := a.2.2
        rw [← a1, ← a2]
        obtain ⟨m2, X2, r2, e2, s2⟩ := sp.1 _ _ (pR_mk g1)
        refine ⟨m2, X2, fun r h => Ends.r st (r2 r h), fun l l1 l2 => ?_, s2⟩
        rw [e2 l l1 l2, uw_push (by show l ≤ rk 13; exact l2), if_pos (Or.inl rfl), show o + 1 - 1 = o by omega]
      · have g1 : (g (i + 1) c).1 = false := Bool.eq_false_iff.mpr g1
        have q0 : pNot K (pSh g) sum i c = g (i + 1) c := by
          unfold pNot
          rw [if_pos k6]
          exact if_neg (by show ¬ (g (i + 1) c).1 = true; rw [g1]; decide)
        rw [q0]
        refine ⟨fun i' c' q => ?_, fun i' c' q => Fails.of (fun r h => Ends.r st h) (sp.2 i' c' q)⟩
        rw [q] at g1
        exact absurd (show true = false from g1) (by decide)
  · have sp := hs true i H o c hk (Or.inl k6) (by omega)
    by_cases g : (sum i c).1 = true
    · obtain ⟨m1, X1, r1, e1, ⟨⟨-, t1⟩, t2⟩⟩ := sp.1 _ _ (pR_mk g)
      by_cases c0 : opC (K (sum i c).2.1) = 0
      · have q0 : pNot K ln sum i c = (true, (sum i c).2.1, (sum i c).2.2) := by
          unfold pNot
          rw [if_neg k6, if_pos g, if_pos c0]
          exact pR_mk g
        rw [q0]
        refine ⟨fun i' c' q => ?_, fun i' c' q => absurd (show true = false from congrArg Prod.fst q) (by decide)⟩
        have a := pR_eta q
        have a1 : (sum i c).2.1 = i' := a.2.1
        have a2 : (sum i c).2.2 = c' := a.2.2
        rw [← a1, ← a2]
        exact ⟨m1, X1, r1, fun l l1 l2 => e1 l l1 (by omega), ⟨t1, t2⟩, fun h => absurd c0 h⟩
      · obtain ⟨o1, o2, -, -, o5, o6⟩ := opC_is c0
        have eX : ux 5 X1 = (H, o, (sum i c).2.2) := by rw [e1 5 (by decide) (by decide), uw_stop (by omega)]
        have st : mst K V false m1 (sum i c).2.1 X1.1 X1.2.1 X1.2.2 = .inr (true, false, (sum i c).2.1 + 1, opC (K (sum i c).2.1) :: H, o, (sum i c).2.2) := by
          rw [mst_cmp c0 eX, if_neg (by omega)]
        have sp2 := hs false ((sum i c).2.1 + 1) (opC (K (sum i c).2.1) :: H) o (sum i c).2.2 hk (Or.inr rfl) (by show rk (opC (K (sum i c).2.1)) < 5; rw [o2]; decide)
        have rr : ∀ r, Ends K V (true, false, (sum i c).2.1 + 1, opC (K (sum i c).2.1) :: H, o, (sum i c).2.2) r → Ends K V (true, true, i, H, o, c) r := fun r h => r1 r (Ends.r (H := X1.1) (o := X1.2.1) (c := X1.2.2) st h)
        by_cases g2 : (sum ((sum i c).2.1 + 1) (sum i c).2.2).1 = true
        · have q0 : pNot K ln sum i c = (true, (sum ((sum i c).2.1 + 1) (sum i c).2.2).2.1, opC (K (sum i c).2.1) :: (sum ((sum i c).2.1 + 1) (sum i c).2.2).2.2) := by
            unfold pNot
            rw [if_neg k6, if_pos g, if_neg c0, if_pos g2]
          rw [q0]
          refine ⟨fun i' c' q => ?_, fun i' c' q => absurd (show true = false from congrArg Prod.fst q) (by decide)⟩
          have a := pR_eta q
          have a1 : (sum ((sum i c).2.1 + 1) (sum i c).2.2).2.1 = i' := a.2.1
          have a2 : opC (K (sum i c).2.1) :: (sum ((sum i c).2.1 + 1) (sum i c).2.2).2.2 = c' := a.2.2
          rw [← a1, ← a2]
          obtain ⟨m2, X2, r2, e2, ⟨⟨-, u1⟩, u2⟩⟩ := sp2.1 _ _ (pR_mk g2)
          refine ⟨m2, X2, fun r h => rr r (r2 r h), fun l l1 l2 => ?_, ⟨u1, u2⟩, fun h => ?_⟩
          · rw [e2 l l1 (by omega), uw_push (by rw [o2]; omega), if_neg (by omega)]
          · have eX2 := e2 5 (by decide) (by decide)
            rw [uw_stop (show tr (opC (K (sum i c).2.1) :: H) < 5 by show rk (opC (K (sum i c).2.1)) < 5; rw [o2]; decide)] at eX2
            refine ⟨X2.2.2, Ends.l (H := X2.1) (o := X2.2.1) (c := X2.2.2) ?_⟩
            rw [mst_cmp h eX2, if_pos (show tr (opC (K (sum i c).2.1) :: H) = 4 from o2)]
        · have g2 : (sum ((sum i c).2.1 + 1) (sum i c).2.2).1 = false := Bool.eq_false_iff.mpr g2
          have q0 : pNot K ln sum i c = sum ((sum i c).2.1 + 1) (sum i c).2.2 := by
            unfold pNot
            rw [if_neg k6, if_pos g, if_neg c0, if_neg (by rw [g2]; decide)]
          rw [q0]
          refine ⟨fun i' c' q => ?_, fun i' c' q => Fails.of rr (sp2.2 i' c' q)⟩
          rw [q] at g2
          exact absurd (show true = false from g2) (by decide)
    · have g : (sum i c).1 = false := Bool.eq_false_iff.mpr g
      have q0 : pNot K ln sum i c = sum i c := by
        unfold pNot
        rw [if_neg k6, if_neg (by rw [g]; decide)]
      rw [q0]
      refine ⟨fun i' c' q => ?_, sp.2⟩
      rw [q] at g
      exact absurd (show true = false from g) (by decide)
theorem opT_ok : opOk opT 6 := fun κ h => by
  have e : κ = 42 := by
    by_cases c : κ = 42
    · exact c
    · exact absurd (if_neg c) h
  rw [e]; exact ⟨rfl, rfl, by decide, by decide, by decide, by decide, by decide⟩
theorem opA_ok : opOk opA 2 := fun κ h => by
  have e : κ = 5 := by
    by_cases c : κ = 5
    · exact c
    · exact absurd (if_neg c) h
  rw [e]; exact ⟨rfl, rfl, by decide, by decide, by decide, by decide, by decide⟩
theorem opO_ok : opOk opO 1 := fun κ h => by
  have e : κ = 4 := by
    by_cases c : κ = 4
    · exact c
    · exact absurd (if_neg c) h
  rw [e]; exact ⟨rfl, rfl, by decide, by decide, by decide, by decide, by decide⟩
theorem opS_ok : opOk opS 5 := fun κ h => by
  have e : κ = 43 ∨ κ = 45 := by
    by_cases c : κ = 43
    · exact Or.inl c
    · by_cases c2 : κ = 45
      · exact Or.inr c2
      · exact absurd ((if_neg c).trans (if_neg c2)) h
  rcases e with e | e <;> (rw [e]; exact ⟨rfl, rfl, by decide, by decide, by decide, by decide, by decide⟩)
theorem opT_big {κ : Int} (h : opT κ ≠ 0) : decide (opT κ ≤ 12) = false := by
  have a := opT_ok κ h
  refine decide_eq_false fun g => ?_
  have b : rk (opT κ) = 6 := a.2.1
  have c := a.2.2.2.2
  rcases (show opT κ = 11 ∨ opT κ = 12 by omega) with e | e <;> (rw [e] at b; exact absurd b (by decide))
theorem opS_big {κ : Int} (h : opS κ ≠ 0) : decide (opS κ ≤ 12) = false := by
  have a := opS_ok κ h
  refine decide_eq_false fun g => ?_
  have b : rk (opS κ) = 5 := a.2.1
  have c := a.2.2.2.2
  rcases (show opS κ = 11 ∨ opS κ = 12 by omega) with e | e <;> (rw [e] at b; exact absurd b (by decide))
theorem opA_small {κ : Int} (h : opA κ ≠ 0) : decide (opA κ ≤ 12) = true := by
  unfold opA at h ⊢
  split at h
  · rename_i c; rw [if_pos c]; rfl
  · exact absurd rfl h
theorem opO_small {κ : Int} (h : opO κ ≠ 0) : decide (opO κ ≤ 12) = true := by
  unfold opO at h ⊢
  split at h
  · rename_i c; rw [if_pos c]; rfl
  · exact absurd rfl h
theorem lev_Sp (hk : tkOk K V) {k : Nat} {lo ln la : pF} (go : gd (mkOne K V lo la)) (gn : gdL ln) (h1 : Lo k lo fun k' g => Sp K V k' g 8 7 (Pm1 K) St1) (h2 : Lo k ln fun k' g => Sp K V k' g 4 3 Pm2 (StN K V)) (h3 : Lo k la fun k' g => Sp K V k' g 1 1 Pm2 (StA K V)) :
    Sp K V k (mkOne K V lo la) 8 7 (Pm1 K) St1 ∧ Sp K V k (mkNot K V lo ln la) 4 3 Pm2 (StN K V) ∧ Sp K V k (mkAny K V lo ln la) 1 1 Pm2 (StA K V) := by
  have a1 := pOne_Sp (K := K) (V := V) h1 h3
  have g2 := sqs_gd (K := K) (op := opT) go opT_two
  have a2 := sqs_Sp hk.1 go a1 opT_ok (by decide) (by decide) (by decide) (by decide) (fun κ i h => Or.inr (opT_big h)) rfl
  have g3 := sqs_gd (K := K) (op := opS) g2 opS_two
  have a3 := sqs_Sp hk.1 g2 a2 opS_ok (by decide) (by decide) (by decide) (by decide) (fun κ i h => Or.inr (opS_big h)) rfl
  have a4 := pNot_Sp h2 a3
  have g4 := pNot_gd hk gn g3
  have a5 := sqs_Sp hk.1 g4 a4 opA_ok (by decide) (by decide) (by decide) (by decide) (fun κ i h => opA_small h) rfl
  have g5 := sqs_gd (K := K) (op := opA) g4 opA_two
  have a6 := sqs_Sp hk.1 g5 a5 opO_ok (by decide) (by decide) (by decide) (by decide) (fun κ i h => opO_small h) rfl
  exact ⟨a1, a4, a6⟩
theorem lwF_Sp (hk : tkOk K V) {k : Nat} : Lo k (lwF K V k).1 (fun k' g => Sp K V k' g 8 7 (Pm1 K) St1) ∧ Lo k (lwF K V k).2.1 (fun k' g => Sp K V k' g 4 3 Pm2 (StN K V)) ∧ Lo k (lwF K V k).2.2 (fun k' g => Sp K V k' g 1 1 Pm2 (StA K V)) := by
  induction k with
  | zero => exact ⟨Or.inl ⟨rfl, rfl⟩, Or.inl ⟨rfl, rfl⟩, Or.inl ⟨rfl, rfl⟩⟩
  | succ k ih =>
    obtain ⟨h1, h2, h3⟩ := ih
    have z := lev_Sp hk (mk_gd hk k).1 (lwF_gd hk).2.1 h1 h2 h3
    exact ⟨Or.inr ⟨k, _, rfl, rfl, z.1⟩, Or.inr ⟨k, _, rfl, rfl, z.2.1⟩, Or.inr ⟨k, _, rfl, rfl, z.2.2⟩⟩
/-- an E: from here to its ; -/
abbrev gE (K V : Nat → Int) : pF := mkAny K V (lwF K V 5).1 (lwF K V 5).2.1 (lwF K V 5).2.2
def pE (K V : Nat → Int) : pF := fun i c => if (gE K V i c).1 = true then (if K (gE K V i c).2.1 = 59 then (true, (gE K V i c).2.1, (gE K V i c).2.2) else (false, (gE K V i c).2.1, (gE K V i c).2.2)) else gE K V i c
theorem pE_run (hk : tkOk K V) (i : Nat) (c : List Int) : (∀ i' c', pE K V i c = (true, i', c') → Ends K V (true, true, i, [], 0, c) (true, i', c')) ∧ (∀ i' c', pE K V i c = (false, i', c') → Fails K V (true, true, i, [], 0, c) i') := by
  obtain ⟨h1, h2, h3⟩ := @lwF_Sp K V hk 5
  have sp := (lev_Sp hk (mk_gd hk 5).1 (lwF_gd hk).2.1 h1 h2 h3).2.2 true i [] 0 c rfl rfl (by show (-1 : Int) < 1; decide)
  by_cases g : (gE K V i c).1 = true
  · obtain ⟨m1, X1, r1, e1, s1⟩ := sp.1 _ _ (pR_mk g)
    have eX : ux 1 X1 = ([], 0, (gE K V i c).2.2) := e1 1 (by decide) (by decide)
    by_cases g2 : K (gE K V i c).2.1 = 59
    · have q0 : pE K V i c = (true, (gE K V i c).2.1, (gE K V i c).2.2) := (if_pos g).trans (if_pos g2)
      rw [q0]
      refine ⟨fun i' c' q => ?_, fun i' c' q => absurd (show true = false from congrArg Prod.fst q) (by decide)⟩
      rw [← q]
      refine r1 _ (Ends.l (H := X1.1) (o := X1.2.1) (c := X1.2.2) ?_)
      unfold mst
      rw [if_neg (by decide), if_pos g2, show uw 1 X1.1 X1.2.1 X1.2.2 = _ from eX]
      rfl
    · have q0 : pE K V i c = (false, (gE K V i c).2.1, (gE K V i c).2.2) := (if_pos g).trans (if_neg g2)
      rw [q0]
      refine ⟨fun i' c' q => absurd (show false = true from congrArg Prod.fst q) (by decide), fun i' c' q => ?_⟩
      have a1 : (gE K V i c).2.1 = i' := (congrArg (fun z : pR => z.2.1) q)
      rw [← a1]
      refine Fails.of r1 ?_
      by_cases g3 : K (gE K V i c).2.1 = 41
      · refine ⟨X1.2.2, Ends.l (H := X1.1) (o := X1.2.1) (c := X1.2.2) ?_⟩
        unfold mst
        rw [if_neg (by decide), if_neg g2, if_pos g3, show uw 1 X1.1 X1.2.1 X1.2.2 = _ from eX, if_pos rfl]
      · exact s1.fails g2 g3
  · have g : (gE K V i c).1 = false := Bool.eq_false_iff.mpr g
    have q0 : pE K V i c = gE K V i c := if_neg (by rw [g]; decide)
    rw [q0]
    refine ⟨fun i' c' q => ?_, sp.2⟩
    rw [q] at g
    exact absurd (show true = false from g) (by decide)
end ME
