/-! inches bought: ways, rows -/
def p6 : Nat → Int
  | 0 => 1
  | j + 1 => p6 j * 6
/-- the digit at a place, from the least on -/
def dgt : Nat → Int → Int
  | 0, w => w % 6
  | j + 1, w => dgt j (w / 6)
def srtB : Nat → Int → Int → Bool
  | 0, _, _ => true
  | j + 1, w, b => decide (w % 6 ≤ b) && srtB j (w / 6) (w % 6)
def cnt : Nat → Int → Int → Int
  | 0, _, _ => 0
  | j + 1, w, q => (if w % 6 = q then 1 else 0) + cnt j (w / 6) q
def dgs : Nat → Int → Int → Int → Int
  | 0, _, _, a => a
  | j + 1, w, pl, a => dgs j (w / 6) (pl * 10) (a + pl * (w % 6 + 1))
def mcn (R : Int → Int) (q : Int) : Nat → Int → Int → Int
  | 0, _, a => a
  | j + 1, k, a => mcn R q j (k + 1) (a + if R k = q then 1 else 0)
def mdg (R : Int → Int) : Nat → Int → Int → Int
  | 0, _, a => a
  | j + 1, k, a => mdg R j (k + 1) (10 * a + R k + 1)
def nxF (R : Int → Int) : Nat → Int
  | 0 => -1
  | j + 1 => if R j < 5 then j else nxF R j
def nxR (R : Int → Int) (n k : Int) : Int → Int := fun o => if k ≤ o ∧ o < n then R k + 1 else R o
/-- a row tells a way -/
def rwF (n w : Int) : Int → Int := fun k => dgt (n - 1 - k).toNat w
def repR (n w : Int) (R : Int → Int) : Prop := ∀ k, 0 ≤ k → k < n → R k = rwF n w k
def nsk (n : Nat) : Nat → Int → Nat
  | 0, _ => 0
  | j + 1, u => if srtB n u 5 = true then 0 else nsk n j (u + 1) + 1
theorem nsk_no {n : Nat} {j : Nat} : ∀ {u : Int} {i : Int}, u ≤ i → i < u + nsk n j u → srtB n i 5 = false := by
  induction j with
  | zero => intro u i h g; exfalso; have e : nsk n 0 u = 0 := rfl; rw [e] at g; omega
  | succ j ih =>
    intro u i h g
    by_cases c : srtB n u 5 = true
    · exfalso; have e : nsk n (j + 1) u = 0 := if_pos c
      rw [e] at g; omega
    · have e : nsk n (j + 1) u = nsk n j (u + 1) + 1 := if_neg c
      rw [e] at g
      by_cases hi : i = u
      · rw [hi]; exact Bool.eq_false_iff.mpr c
      · exact ih (u := u + 1) (by omega) (by omega)
theorem cnt_in {j : Nat} : ∀ {w q : Int}, 0 ≤ cnt j w q ∧ cnt j w q ≤ j := by
  induction j with
  | zero => intro w q; exact ⟨Int.le_refl _, Int.le_refl _⟩
  | succ j ih =>
    intro w q
    have := @ih (w / 6) q
    show 0 ≤ (if w % 6 = q then 1 else 0) + cnt j (w / 6) q ∧ (if w % 6 = q then 1 else 0) + cnt j (w / 6) q ≤ _
    split <;> omega
theorem mcn_rep {n w q : Int} {R : Int → Int} (hn : 0 ≤ n ∧ n ≤ 4) (h : repR n w R) : mcn R q n.toNat 0 0 = cnt n.toNat w q := by
  rcases (show n = 0 ∨ n = 1 ∨ n = 2 ∨ n = 3 ∨ n = 4 by omega) with rfl | rfl | rfl | rfl | rfl
  · rfl
  · have h0 : R 0 = w % 6 := h 0 (by omega) (by omega)
    show 0 + (if R 0 = q then 1 else 0) = (if w % 6 = q then 1 else 0) + 0
    rw [h0]; omega
  · have h0 : R 0 = w / 6 % 6 := h 0 (by omega) (by omega)
    have h1 : R (0 + 1) = w % 6 := h 1 (by omega) (by omega)
    show 0 + (if R 0 = q then 1 else 0) + (if R (0 + 1) = q then 1 else 0) = (if w % 6 = q then 1 else 0) + ((if w / 6 % 6 = q then 1 else 0) + 0)
    rw [h0, h1]; generalize (if w % 6 = q then (1 : Int) else 0) = a; generalize (if w / 6 % 6 = q then (1 : Int) else 0) = b; omega
  · have h0 : R 0 = w / 6 / 6 % 6 := h 0 (by omega) (by omega)
    have h1 : R (0 + 1) = w / 6 % 6 := h 1 (by omega) (by omega)
    have h2 : R (0 + 1 + 1) = w % 6 := h 2 (by omega) (by omega)
    show 0 + (if R 0 = q then 1 else 0) + (if R (0 + 1) = q then 1 else 0) + (if R (0 + 1 + 1) = q then 1 else 0) = (if w % 6 = q then 1 else 0) + ((if w / 6 % 6 = q then 1 else 0) + ((if w / 6 / 6 % 6 = q then 1 else 0) + 0))
    rw [h0, h1, h2]; generalize (if w % 6 = q then (1 : Int) else 0) = a; generalize (if w / 6 % 6 = q then (1 : Int) else 0) = b; generalize (if w / 6 / 6 % 6 = q then (1 : Int) else 0) = c; omega
  · have h0 : R 0 = w / 6 / 6 / 6 % 6 := h 0 (by omega) (by omega)
    have h1 : R (0 + 1) = w / 6 / 6 % 6 := h 1 (by omega) (by omega)
    have h2 : R (0 + 1 + 1) = w / 6 % 6 := h 2 (by omega) (by omega)
    have h3 : R (0 + 1 + 1 + 1) = w % 6 := h 3 (by omega) (by omega)
    show 0 + (if R 0 = q then 1 else 0) + (if R (0 + 1) = q then 1 else 0) + (if R (0 + 1 + 1) = q then 1 else 0) + (if R (0 + 1 + 1 + 1) = q then 1 else 0) = (if w % 6 = q then 1 else 0) + ((if w / 6 % 6 = q then 1 else 0) + ((if w / 6 / 6 % 6 = q then 1 else 0) + ((if w / 6 / 6 / 6 % 6 = q then 1 else 0) + 0)))
    rw [h0, h1, h2, h3]; generalize (if w % 6 = q then (1 : Int) else 0) = a; generalize (if w / 6 % 6 = q then (1 : Int) else 0) = b; generalize (if w / 6 / 6 % 6 = q then (1 : Int) else 0) = c; generalize (if w / 6 / 6 / 6 % 6 = q then (1 : Int) else 0) = e; omega
theorem mdg_rep {n w : Int} {R : Int → Int} (hn : 0 ≤ n ∧ n ≤ 4) (h : repR n w R) : mdg R n.toNat 0 0 = dgs n.toNat w 1 0 := by
  rcases (show n = 0 ∨ n = 1 ∨ n = 2 ∨ n = 3 ∨ n = 4 by omega) with rfl | rfl | rfl | rfl | rfl
  · rfl
  · have h0 : R 0 = w % 6 := h 0 (by omega) (by omega)
    show 10 * 0 + R 0 + 1 = 0 + 1 * (w % 6 + 1)
    omega
  · have h0 : R 0 = w / 6 % 6 := h 0 (by omega) (by omega)
    have h1 : R (0 + 1) = w % 6 := h 1 (by omega) (by omega)
    show 10 * (10 * 0 + R 0 + 1) + R (0 + 1) + 1 = 0 + 1 * (w % 6 + 1) + 1 * 10 * (w / 6 % 6 + 1)
    omega
  · have h0 : R 0 = w / 6 / 6 % 6 := h 0 (by omega) (by omega)
    have h1 : R (0 + 1) = w / 6 % 6 := h 1 (by omega) (by omega)
    have h2 : R (0 + 1 + 1) = w % 6 := h 2 (by omega) (by omega)
    show 10 * (10 * (10 * 0 + R 0 + 1) + R (0 + 1) + 1) + R (0 + 1 + 1) + 1 = 0 + 1 * (w % 6 + 1) + 1 * 10 * (w / 6 % 6 + 1) + 1 * 10 * 10 * (w / 6 / 6 % 6 + 1)
    omega
  · have h0 : R 0 = w / 6 / 6 / 6 % 6 := h 0 (by omega) (by omega)
    have h1 : R (0 + 1) = w / 6 / 6 % 6 := h 1 (by omega) (by omega)
    have h2 : R (0 + 1 + 1) = w / 6 % 6 := h 2 (by omega) (by omega)
    have h3 : R (0 + 1 + 1 + 1) = w % 6 := h 3 (by omega) (by omega)
    show 10 * (10 * (10 * (10 * 0 + R 0 + 1) + R (0 + 1) + 1) + R (0 + 1 + 1) + 1) + R (0 + 1 + 1 + 1) + 1 = 0 + 1 * (w % 6 + 1) + 1 * 10 * (w / 6 % 6 + 1) + 1 * 10 * 10 * (w / 6 / 6 % 6 + 1) + 1 * 10 * 10 * 10 * (w / 6 / 6 / 6 % 6 + 1)
    omega
theorem nxF_congr {R R' : Int → Int} {j : Nat} (h : ∀ k : Int, 0 ≤ k → k < j → R k = R' k) : nxF R j = nxF R' j := by
  induction j with
  | zero => rfl
  | succ j ih =>
    have e := ih (fun k k0 k1 => h k k0 (by omega))
    unfold nxF
    rw [h j (by omega) (by omega), e]
theorem nxF_in {R : Int → Int} {j : Nat} : -1 ≤ nxF R j ∧ nxF R j < j := by
  induction j with
  | zero => exact ⟨Int.le_refl (-1), (by show (-1 : Int) < 0; decide)⟩
  | succ j ih =>
    unfold nxF
    split <;> omega
/-- what comes next: checked way by way -/
def nxOk (n : Nat) (w : Int) : Bool := !(srtB n w 5) || (let s := nsk n (p6 n - (w + 1)).toNat (w + 1)
  let k := nxF (rwF n w) n
  if k = -1 then decide (w + 1 + s = p6 n) else decide (w + 1 + s < p6 n) && srtB n (w + 1 + s) 5 && (List.range n).all (fun o => decide (nxR (rwF n w) n k o = rwF n (w + 1 + s) o)))
set_option maxRecDepth 1000000 in
theorem nxOk_fin : (List.range 5).all (fun n => (List.range (p6 n).toNat).all (fun w => nxOk n (w : Int))) = true := by decide +kernel
theorem p6_in {n : Int} (h : 0 ≤ n ∧ n ≤ 4) : 1 ≤ p6 n.toNat ∧ p6 n.toNat ≤ 1296 := by
  rcases (show n = 0 ∨ n = 1 ∨ n = 2 ∨ n = 3 ∨ n = 4 by omega) with rfl | rfl | rfl | rfl | rfl <;> decide
theorem nx_next {n w : Int} {R : Int → Int} (hn : 0 ≤ n ∧ n ≤ 4) (hw : 0 ≤ w ∧ w < p6 n.toNat) (hs : srtB n.toNat w 5 = true) (h : repR n w R) :
    (nxF R n.toNat = -1 ∧ ∀ i, w + 1 ≤ i → i < p6 n.toNat → srtB n.toNat i 5 = false) ∨
    (0 ≤ nxF R n.toNat ∧ ∃ w', w < w' ∧ w' < p6 n.toNat ∧ srtB n.toNat w' 5 = true ∧ repR n w' (nxR R n (nxF R n.toNat)) ∧ ∀ i, w + 1 ≤ i → i < w' → srtB n.toNat i 5 = false) := by
  have e : nxF R n.toNat = nxF (rwF n w) n.toNat := nxF_congr (fun k k0 k1 => h k k0 (by omega))
  have en : ((n.toNat : Nat) : Int) = n := by omega
  have ew : ((w.toNat : Nat) : Int) = w := by omega
  have a := List.all_eq_true.mp nxOk_fin n.toNat (List.mem_range.mpr (by omega))
  have b := List.all_eq_true.mp a w.toNat (List.mem_range.mpr (by omega))
  rw [ew] at b
  unfold nxOk at b
  rw [hs, en] at b
  simp only [Bool.not_true, Bool.false_or] at b
  have hi := @nxF_in (rwF n w) n.toNat
  rw [e]
  split at b
  · rename_i hk
    exact Or.inl ⟨hk, fun i i0 i1 => nsk_no (j := (p6 n.toNat - (w + 1)).toNat) (u := w + 1) i0 (by have := of_decide_eq_true b; omega)⟩
  · rename_i hk
    rw [Bool.and_eq_true, Bool.and_eq_true] at b
    obtain ⟨⟨b1, b2⟩, b3⟩ := b
    have b1 := of_decide_eq_true b1
    refine Or.inr ⟨by omega, _, by omega, b1, b2, fun k k0 k1 => ?_, fun i i0 i1 => nsk_no (j := (p6 n.toNat - (w + 1)).toNat) (u := w + 1) i0 i1⟩
    have c := List.all_eq_true.mp b3 k.toNat (List.mem_range.mpr (by omega))
    have ek : ((k.toNat : Nat) : Int) = k := by omega
    rw [ek] at c
    have c := of_decide_eq_true c
    rw [← c]
    unfold nxR
    split
    · rw [h _ (by omega) (by omega)]
    · exact h k k0 k1
/-- what is left by a way -/
def bB (M : YM) (n w : Int) : Int → Int := fun q => lB M 0 q + cnt n.toNat w q / 2
def bE (M : YM) (n w : Int) : Int → Int := fun q => lE M 0 q - (cnt n.toNat w q + 1) / 2
theorem bB_in {M : YM} (R : Rel M) {n w : Int} (hn : 0 ≤ n ∧ n ≤ 4) : ∀ q, in6 q → (0 ≤ bB M n w q ∧ bB M n w q ≤ 1001) ∧ (-2 ≤ bE M n w q ∧ bE M n w q ≤ 999) := fun q hq => by
  have a := lB_in R.s 0 q hq
  have b := lE_in R.s 0 q hq
  have c := @cnt_in n.toNat w q
  unfold bB bE
  omega
theorem eqs.eBB {M M' : YM} (h : eqs M M') : bB M' = bB M ∧ bE M' = bE M := by
  constructor <;> funext n w q
  · unfold bB; rw [h.eB]
  · unfold bE; rw [h.eE]
def nIn (M : YM) (O : Int → Int → Int) (c : Int) : Int := if cost M O = 0 then 4 else imin 4 (c / cost M O)
theorem nIn_in {M : YM} {O : Int → Int → Int} {c : Int} (h : 0 ≤ c) : 0 ≤ nIn M O c ∧ nIn M O c ≤ 4 := by
  have h1 := cost_in M O
  unfold nIn
  split
  · omega
  · have h2 : 0 ≤ c / cost M O := Int.ediv_nonneg h h1.1
    unfold imin
    split <;> omega
theorem eqn.eN {M M' : YM} (e : eqn M M') : nIn M' = nIn M := by
  funext O c
  unfold nIn
  rw [e.eC]
theorem div_in {c k : Int} (h : 0 ≤ c ∧ c ≤ 999) (hk : 0 < k) : 0 ≤ c / k ∧ c / k ≤ 999 := ⟨Int.ediv_nonneg h.1 (by omega), Int.le_trans (Int.ediv_le_self _ h.1) h.2⟩
theorem c_pow_l {S : XS} {d : Nat} {n : Int} {M N : YM} {Q : Option YV → YM → YM → Prop} (hn : 0 ≤ n ∧ n ≤ 4) {j : Nat} : ∀ {i z : Int}, 0 ≤ i → i + j = n → z = p6 i.toNat → Q (some (yi (p6 n.toNat))) M N → ry S d 106 4 [some (yi 6), some (yi n), some (yi z), some (yi i)] [] M N Q := by
  induction j with
  | zero =>
    intro i z h0 h1 hz kk
    refine r_run 2 (pc' := 6) (ls' := [some (yi 6), some (yi n), some (yi z), some (yi i)]) (st' := [yi n, yi i]) (M' := M) (N' := N) rfl ?_
    refine r_icmp_ge (pc := 6) f_106_6 (by omega) (by omega) (fun h6 => ?_) (fun h6 => ?_)
    · refine r_run 1 (pc' := 20) (ls' := [some (yi 6), some (yi n), some (yi z), some (yi i)]) (st' := [yi z]) (M' := M) (N' := N) rfl ?_
      refine r_iret m_106 rfl f_106_20 ?_
      rw [show i = n by omega] at hz
      rw [hz]
      exact kk
    · exfalso; omega
  | succ j ih =>
    intro i z h0 h1 hz kk
    refine r_run 2 (pc' := 6) (ls' := [some (yi 6), some (yi n), some (yi z), some (yi i)]) (st' := [yi n, yi i]) (M' := M) (N' := N) rfl ?_
    refine r_icmp_ge (pc := 6) f_106_6 (by omega) (by omega) (fun h6 => ?_) (fun h6 => ?_)
    · exfalso; omega
    · refine r_run 6 (pc' := 4) (ls' := [some (yi 6), some (yi n), some (yi (z * 6)), some (yi (i + 1))]) (st' := []) (M' := M) (N' := N) rfl ?_
      refine ih (by omega) (by omega) ?_ kk
      rw [show (i + 1).toNat = i.toNat + 1 by omega, hz]
      rfl
theorem c_power {S : XS} {M N : YM} {n : Int} (hn : 0 ≤ n ∧ n ≤ 4) : rm S 0 106 [yi 6, yi n] M N (fun r M' N' => ∃ v : Int, some (yi v) = r ∧ (v = p6 n.toNat) ∧ M = M' ∧ N = N') := by
  refine ⟨xe_106, m_106, Nat.le_of_ble_eq_true rfl, ?_⟩
  refine r_run 4 (pc' := 4) (ls' := [some (yi 6), some (yi n), some (yi 1), some (yi 0)]) (st' := []) (M' := M) (N' := N) rfl ?_
  exact c_pow_l (j := n.toNat) hn (Int.le_refl 0) (by omega) rfl ⟨_, rfl, rfl, rfl, rfl⟩
theorem c_srt_l {S : XS} {d : Nat} {w n : Int} {M N : YM} (hn : 0 ≤ n ∧ n ≤ 4) {j : Nat} : ∀ {i r b : Int}, 0 ≤ i → i + j = n → (0 ≤ r ∧ r < 2147483648) → (0 ≤ b ∧ b ≤ 5) → ry S d 103 7 [some (yi w), some (yi n), some (yi r), some (yi b), some (yi i)] [] M N (fun r' M' N' => ∃ v : Int, some (yi v) = r' ∧ ((v = 1 ∧ srtB j r b = true) ∨ (v = 0 ∧ srtB j r b = false)) ∧ M = M' ∧ N = N') := by
  induction j with
  | zero =>
    intro i r b h0 h1 hr hb
    refine r_run 2 (pc' := 10) (ls' := [some (yi w), some (yi n), some (yi r), some (yi b), some (yi i)]) (st' := [yi n, yi i]) (M' := M) (N' := N) rfl ?_
    refine r_icmp_ge (pc := 10) f_103_10 (by omega) (by omega) (fun h10 => ?_) (fun h10 => ?_)
    · refine r_run 1 (pc' := 40) (ls' := [some (yi w), some (yi n), some (yi r), some (yi b), some (yi i)]) (st' := [yi 1]) (M' := M) (N' := N) rfl ?_
      refine r_zret m_103 rfl f_103_40 (by omega) ?_
      exact ⟨_, rfl, Or.inl ⟨rfl, rfl⟩, rfl, rfl⟩
    · exfalso; omega
  | succ j ih =>
    intro i r b h0 h1 hr hb
    refine r_run 2 (pc' := 10) (ls' := [some (yi w), some (yi n), some (yi r), some (yi b), some (yi i)]) (st' := [yi n, yi i]) (M' := M) (N' := N) rfl ?_
    refine r_icmp_ge (pc := 10) f_103_10 (by omega) (by omega) (fun h10 => ?_) (fun h10 => ?_)
    · exfalso; omega
    · refine r_run 2 (pc' := 16) (ls' := [some (yi w), some (yi n), some (yi r), some (yi b), some (yi i)]) (st' := [yi 6, yi r]) (M' := M) (N' := N) rfl ?_
      refine r_irem f_103_16 (by omega) (by omega) ?_
      refine r_run 1 (pc' := 18) (ls' := [some (yi w), some (yi n), some (yi r), some (yi b), some (yi i)]) (st' := [yi b, yi (r % 6)]) (M' := M) (N' := N) rfl ?_
      refine r_icmp_le (pc := 18) f_103_18 (by omega) (by omega) (fun h18 => ?_) (fun h18 => ?_)
      · refine r_run 2 (pc' := 26) (ls' := [some (yi w), some (yi n), some (yi r), some (yi b), some (yi i)]) (st' := [yi 6, yi r]) (M' := M) (N' := N) rfl ?_
        refine r_irem f_103_26 (by omega) (by omega) ?_
        refine r_run 3 (pc' := 31) (ls' := [some (yi w), some (yi n), some (yi r), some (yi (r % 6)), some (yi i)]) (st' := [yi 6, yi r]) (M' := M) (N' := N) rfl ?_
        refine r_idiv f_103_31 (by omega) (by omega) ?_
        refine r_run 3 (pc' := 7) (ls' := [some (yi w), some (yi n), some (yi (r / 6)), some (yi (r % 6)), some (yi (i + 1))]) (st' := []) (M' := M) (N' := N) rfl ?_
        refine r_post (ih (by omega) (by omega) (by omega) (by omega)) ?_
        rintro _ M' N' ⟨v, rfl, hv, rfl, rfl⟩
        refine ⟨v, rfl, ?_, rfl, rfl⟩
        have e : srtB (j + 1) r b = srtB j (r / 6) (r % 6) := by
          show (decide (r % 6 ≤ b) && _) = _
          rw [decide_eq_true (show r % 6 ≤ b by omega), Bool.true_and]
        rw [e]
        exact hv
      · refine r_run 1 (pc' := 22) (ls' := [some (yi w), some (yi n), some (yi r), some (yi b), some (yi i)]) (st' := [yi 0]) (M' := M) (N' := N) rfl ?_
        refine r_zret m_103 rfl f_103_22 (by omega) ?_
        refine ⟨_, rfl, Or.inr ⟨rfl, ?_⟩, rfl, rfl⟩
        show (decide (r % 6 ≤ b) && _) = _
        rw [decide_eq_false (show ¬ r % 6 ≤ b by omega), Bool.false_and]
theorem c_sorted {S : XS} {M N : YM} {w n : Int} (hn : 0 ≤ n ∧ n ≤ 4) (hw : 0 ≤ w ∧ w < 2147483648) : rm S 0 103 [yi w, yi n] M N (fun r M' N' => ∃ v : Int, some (yi v) = r ∧ ((v = 1 ∧ srtB n.toNat w 5 = true) ∨ (v = 0 ∧ srtB n.toNat w 5 = false)) ∧ M = M' ∧ N = N') := by
  refine ⟨xe_103, m_103, Nat.le_of_ble_eq_true rfl, ?_⟩
  refine r_run 6 (pc' := 7) (ls' := [some (yi w), some (yi n), some (yi w), some (yi 5), some (yi 0)]) (st' := []) (M' := M) (N' := N) rfl ?_
  exact c_srt_l (j := n.toNat) hn (Int.le_refl 0) (by omega) hw (by omega)
theorem c_dgs_l {S : XS} {d : Nat} {w n : Int} {M N : YM} {Q : Option YV → YM → YM → Prop} (hn : 0 ≤ n ∧ n ≤ 4) {j : Nat} : ∀ {i r a pl : Int}, 0 ≤ i → i + j = n → (0 ≤ r ∧ r < 2147483648) → Q (some (yi (dgs j r pl a))) M N → ry S d 105 10 [some (yi w), some (yi n), some (yi a), some (yi r), some (yi pl), some (yi i)] [] M N Q := by
  induction j with
  | zero =>
    intro i r a pl h0 h1 hr kk
    refine r_run 2 (pc' := 13) (ls' := [some (yi w), some (yi n), some (yi a), some (yi r), some (yi pl), some (yi i)]) (st' := [yi n, yi i]) (M' := M) (N' := N) rfl ?_
    refine r_icmp_ge (pc := 13) f_105_13 (by omega) (by omega) (fun h13 => ?_) (fun h13 => ?_)
    · refine r_run 1 (pc' := 47) (ls' := [some (yi w), some (yi n), some (yi a), some (yi r), some (yi pl), some (yi i)]) (st' := [yi a]) (M' := M) (N' := N) rfl ?_
      refine r_iret m_105 rfl f_105_47 ?_
      exact kk
    · exfalso; omega
  | succ j ih =>
    intro i r a pl h0 h1 hr kk
    refine r_run 2 (pc' := 13) (ls' := [some (yi w), some (yi n), some (yi a), some (yi r), some (yi pl), some (yi i)]) (st' := [yi n, yi i]) (M' := M) (N' := N) rfl ?_
    refine r_icmp_ge (pc := 13) f_105_13 (by omega) (by omega) (fun h13 => ?_) (fun h13 => ?_)
    · exfalso; omega
    · refine r_run 4 (pc' := 22) (ls' := [some (yi w), some (yi n), some (yi a), some (yi r), some (yi pl), some (yi i)]) (st' := [yi 6, yi r, yi pl, yi a]) (M' := M) (N' := N) rfl ?_
      refine r_irem f_105_22 (by omega) (by omega) ?_
      refine r_run 7 (pc' := 31) (ls' := [some (yi w), some (yi n), some (yi (a + (pl * ((r % 6) + 1)))), some (yi r), some (yi pl), some (yi i)]) (st' := [yi 6, yi r]) (M' := M) (N' := N) rfl ?_
      refine r_idiv f_105_31 (by omega) (by omega) ?_
      refine r_run 7 (pc' := 10) (ls' := [some (yi w), some (yi n), some (yi (a + (pl * ((r % 6) + 1)))), some (yi (r / 6)), some (yi (pl * 10)), some (yi (i + 1))]) (st' := []) (M' := M) (N' := N) rfl ?_
      exact ih (by omega) (by omega) (by omega) kk
theorem c_digits {S : XS} {M N : YM} {w n : Int} (hn : 0 ≤ n ∧ n ≤ 4) (hw : 0 ≤ w ∧ w < 2147483648) : rm S 0 105 [yi w, yi n] M N (fun r M' N' => ∃ v : Int, some (yi v) = r ∧ (v = dgs n.toNat w 1 0) ∧ M = M' ∧ N = N') := by
  refine ⟨xe_105, m_105, Nat.le_of_ble_eq_true rfl, ?_⟩
  refine r_run 8 (pc' := 10) (ls' := [some (yi w), some (yi n), some (yi 0), some (yi w), some (yi 1), some (yi 0)]) (st' := []) (M' := M) (N' := N) rfl ?_
  exact c_dgs_l (j := n.toNat) hn (Int.le_refl 0) (by omega) hw ⟨_, rfl, rfl, rfl, rfl⟩
theorem c_inches {S : XS} {M N : YM} {O : Int → Int → Int} {c : Int} (R : Rel M) (hA : cAt M O) (hc : 0 ≤ c ∧ c ≤ 999) : rm S 5 102 [yr 0, yi c] M N (fun r M' N' => ∃ v : Int, some (yi v) = r ∧ (v = nIn M O c ∧ wFr M M') ∧ N = N') := by
  refine ⟨xe_102, m_102, Nat.le_of_ble_eq_true rfl, ?_⟩
  refine r_run 1 (pc' := 1) (ls' := [some (yr 0), some (yi c), none]) (st' := [yr 0]) (M' := M) (N' := N) rfl ?_
  refine r_virtual (mj := 101) (b := 0) (as := []) (rest := []) f_102_1 (by decide) rfl m_101 (by decide) (by decide) (by decide) rfl rfl (Nat.le_of_ble_eq_true rfl) (by omega) (c_cost R hA) ?_
  rintro _ M3 _ ⟨v9, rfl, ⟨hv9, e3⟩, rfl⟩
  have ci := cost_in M O
  refine r_run 2 (pc' := 6) (ls' := [some (yr 0), some (yi c), some (yi v9)]) (st' := [yi v9]) (M' := M3) (N' := N) rfl ?_
  refine r_if_ne (pc := 6) f_102_6 (by omega) (fun h6 => ?_) (fun h6 => ?_)
  · refine r_run 3 (pc' := 16) (ls' := [some (yr 0), some (yi c), some (yi v9)]) (st' := [yi v9, yi c, yi 4]) (M' := M3) (N' := N) rfl ?_
    refine r_idiv f_102_16 (by omega) (by omega) ?_
    refine r_min f_102_17 (by omega) (by have := div_in hc (show 0 < v9 by omega); omega) (Nat.le_of_ble_eq_true rfl) (by omega) (fun v17 hv17 => ?_)
    refine r_iret m_102 rfl f_102_20 ?_
    exact ⟨_, rfl, ⟨by unfold nIn; rw [if_neg (by omega), ← hv9]; unfold imin; split <;> omega, e3⟩, rfl⟩
  · refine r_run 2 (pc' := 20) (ls' := [some (yr 0), some (yi c), some (yi v9)]) (st' := [yi 4]) (M' := M3) (N' := N) rfl ?_
    refine r_iret m_102 rfl f_102_20 ?_
    exact ⟨_, rfl, ⟨by unfold nIn; rw [if_pos (by omega)], e3⟩, rfl⟩
