/-! texts of the class: how long, their characters; signs -/
set_option maxRecDepth 1000000 in
theorem j_len_1 {S : XS} {M N : YM} : rm S 4 192 [yr 10001] M N (fun r M' N' => some (yi 7) = r ∧ M = M' ∧ N = N') := ⟨xe_192, m_192, Nat.le_of_ble_eq_true rfl, 60, some (yi 7), M, N, rfl, rfl, rfl, rfl⟩
set_option maxRecDepth 1000000 in
theorem j_len_2 {S : XS} {M N : YM} : rm S 4 192 [yr 10002] M N (fun r M' N' => some (yi 5) = r ∧ M = M' ∧ N = N') := ⟨xe_192, m_192, Nat.le_of_ble_eq_true rfl, 60, some (yi 5), M, N, rfl, rfl, rfl, rfl⟩
set_option maxRecDepth 1000000 in
theorem j_len_3 {S : XS} {M N : YM} : rm S 4 192 [yr 10003] M N (fun r M' N' => some (yi 5) = r ∧ M = M' ∧ N = N') := ⟨xe_192, m_192, Nat.le_of_ble_eq_true rfl, 60, some (yi 5), M, N, rfl, rfl, rfl, rfl⟩
set_option maxRecDepth 1000000 in
theorem j_len_4 {S : XS} {M N : YM} : rm S 4 192 [yr 10004] M N (fun r M' N' => some (yi 2) = r ∧ M = M' ∧ N = N') := ⟨xe_192, m_192, Nat.le_of_ble_eq_true rfl, 60, some (yi 2), M, N, rfl, rfl, rfl, rfl⟩
set_option maxRecDepth 1000000 in
theorem j_len_5 {S : XS} {M N : YM} : rm S 4 192 [yr 10005] M N (fun r M' N' => some (yi 3) = r ∧ M = M' ∧ N = N') := ⟨xe_192, m_192, Nat.le_of_ble_eq_true rfl, 60, some (yi 3), M, N, rfl, rfl, rfl, rfl⟩
set_option maxRecDepth 1000000 in
theorem j_len_6 {S : XS} {M N : YM} : rm S 4 192 [yr 10006] M N (fun r M' N' => some (yi 3) = r ∧ M = M' ∧ N = N') := ⟨xe_192, m_192, Nat.le_of_ble_eq_true rfl, 60, some (yi 3), M, N, rfl, rfl, rfl, rfl⟩
set_option maxRecDepth 1000000 in
theorem j_len_7 {S : XS} {M N : YM} : rm S 4 192 [yr 10007] M N (fun r M' N' => some (yi 8) = r ∧ M = M' ∧ N = N') := ⟨xe_192, m_192, Nat.le_of_ble_eq_true rfl, 60, some (yi 8), M, N, rfl, rfl, rfl, rfl⟩
set_option maxRecDepth 1000000 in
theorem j_ch_1_0 {S : XS} {M N : YM} : rm S 4 193 [yr 10001, yi 0] M N (fun r M' N' => some (yi 114) = r ∧ M = M' ∧ N = N') := ⟨xe_193, m_193, Nat.le_of_ble_eq_true rfl, 60, some (yi 114), M, N, rfl, rfl, rfl, rfl⟩
set_option maxRecDepth 1000000 in
theorem j_ch_1_1 {S : XS} {M N : YM} : rm S 4 193 [yr 10001, yi 1] M N (fun r M' N' => some (yi 101) = r ∧ M = M' ∧ N = N') := ⟨xe_193, m_193, Nat.le_of_ble_eq_true rfl, 60, some (yi 101), M, N, rfl, rfl, rfl, rfl⟩
set_option maxRecDepth 1000000 in
theorem j_ch_1_2 {S : XS} {M N : YM} : rm S 4 193 [yr 10001, yi 2] M N (fun r M' N' => some (yi 99) = r ∧ M = M' ∧ N = N') := ⟨xe_193, m_193, Nat.le_of_ble_eq_true rfl, 60, some (yi 99), M, N, rfl, rfl, rfl, rfl⟩
set_option maxRecDepth 1000000 in
theorem j_ch_1_3 {S : XS} {M N : YM} : rm S 4 193 [yr 10001, yi 3] M N (fun r M' N' => some (yi 107) = r ∧ M = M' ∧ N = N') := ⟨xe_193, m_193, Nat.le_of_ble_eq_true rfl, 60, some (yi 107), M, N, rfl, rfl, rfl, rfl⟩
set_option maxRecDepth 1000000 in
theorem j_ch_1_4 {S : XS} {M N : YM} : rm S 4 193 [yr 10001, yi 4] M N (fun r M' N' => some (yi 111) = r ∧ M = M' ∧ N = N') := ⟨xe_193, m_193, Nat.le_of_ble_eq_true rfl, 60, some (yi 111), M, N, rfl, rfl, rfl, rfl⟩
set_option maxRecDepth 1000000 in
theorem j_ch_1_5 {S : XS} {M N : YM} : rm S 4 193 [yr 10001, yi 5] M N (fun r M' N' => some (yi 110) = r ∧ M = M' ∧ N = N') := ⟨xe_193, m_193, Nat.le_of_ble_eq_true rfl, 60, some (yi 110), M, N, rfl, rfl, rfl, rfl⟩
set_option maxRecDepth 1000000 in
theorem j_ch_1_6 {S : XS} {M N : YM} : rm S 4 193 [yr 10001, yi 6] M N (fun r M' N' => some (yi 115) = r ∧ M = M' ∧ N = N') := ⟨xe_193, m_193, Nat.le_of_ble_eq_true rfl, 60, some (yi 115), M, N, rfl, rfl, rfl, rfl⟩
set_option maxRecDepth 1000000 in
theorem j_ch_2_0 {S : XS} {M N : YM} : rm S 4 193 [yr 10002, yi 0] M N (fun r M' N' => some (yi 99) = r ∧ M = M' ∧ N = N') := ⟨xe_193, m_193, Nat.le_of_ble_eq_true rfl, 60, some (yi 99), M, N, rfl, rfl, rfl, rfl⟩
set_option maxRecDepth 1000000 in
theorem j_ch_2_1 {S : XS} {M N : YM} : rm S 4 193 [yr 10002, yi 1] M N (fun r M' N' => some (yi 111) = r ∧ M = M' ∧ N = N') := ⟨xe_193, m_193, Nat.le_of_ble_eq_true rfl, 60, some (yi 111), M, N, rfl, rfl, rfl, rfl⟩
set_option maxRecDepth 1000000 in
theorem j_ch_2_2 {S : XS} {M N : YM} : rm S 4 193 [yr 10002, yi 2] M N (fun r M' N' => some (yi 115) = r ∧ M = M' ∧ N = N') := ⟨xe_193, m_193, Nat.le_of_ble_eq_true rfl, 60, some (yi 115), M, N, rfl, rfl, rfl, rfl⟩
set_option maxRecDepth 1000000 in
theorem j_ch_2_3 {S : XS} {M N : YM} : rm S 4 193 [yr 10002, yi 3] M N (fun r M' N' => some (yi 116) = r ∧ M = M' ∧ N = N') := ⟨xe_193, m_193, Nat.le_of_ble_eq_true rfl, 60, some (yi 116), M, N, rfl, rfl, rfl, rfl⟩
set_option maxRecDepth 1000000 in
theorem j_ch_2_4 {S : XS} {M N : YM} : rm S 4 193 [yr 10002, yi 4] M N (fun r M' N' => some (yi 115) = r ∧ M = M' ∧ N = N') := ⟨xe_193, m_193, Nat.le_of_ble_eq_true rfl, 60, some (yi 115), M, N, rfl, rfl, rfl, rfl⟩
set_option maxRecDepth 1000000 in
theorem j_ch_3_0 {S : XS} {M N : YM} : rm S 4 193 [yr 10003, yi 0] M N (fun r M' N' => some (yi 109) = r ∧ M = M' ∧ N = N') := ⟨xe_193, m_193, Nat.le_of_ble_eq_true rfl, 60, some (yi 109), M, N, rfl, rfl, rfl, rfl⟩
set_option maxRecDepth 1000000 in
theorem j_ch_3_1 {S : XS} {M N : YM} : rm S 4 193 [yr 10003, yi 1] M N (fun r M' N' => some (yi 101) = r ∧ M = M' ∧ N = N') := ⟨xe_193, m_193, Nat.le_of_ble_eq_true rfl, 60, some (yi 101), M, N, rfl, rfl, rfl, rfl⟩
set_option maxRecDepth 1000000 in
theorem j_ch_3_2 {S : XS} {M N : YM} : rm S 4 193 [yr 10003, yi 2] M N (fun r M' N' => some (yi 101) = r ∧ M = M' ∧ N = N') := ⟨xe_193, m_193, Nat.le_of_ble_eq_true rfl, 60, some (yi 101), M, N, rfl, rfl, rfl, rfl⟩
set_option maxRecDepth 1000000 in
theorem j_ch_3_3 {S : XS} {M N : YM} : rm S 4 193 [yr 10003, yi 3] M N (fun r M' N' => some (yi 116) = r ∧ M = M' ∧ N = N') := ⟨xe_193, m_193, Nat.le_of_ble_eq_true rfl, 60, some (yi 116), M, N, rfl, rfl, rfl, rfl⟩
set_option maxRecDepth 1000000 in
theorem j_ch_3_4 {S : XS} {M N : YM} : rm S 4 193 [yr 10003, yi 4] M N (fun r M' N' => some (yi 115) = r ∧ M = M' ∧ N = N') := ⟨xe_193, m_193, Nat.le_of_ble_eq_true rfl, 60, some (yi 115), M, N, rfl, rfl, rfl, rfl⟩
set_option maxRecDepth 1000000 in
theorem j_ch_4_0 {S : XS} {M N : YM} : rm S 4 193 [yr 10004, yi 0] M N (fun r M' N' => some (yi 111) = r ∧ M = M' ∧ N = N') := ⟨xe_193, m_193, Nat.le_of_ble_eq_true rfl, 60, some (yi 111), M, N, rfl, rfl, rfl, rfl⟩
set_option maxRecDepth 1000000 in
theorem j_ch_4_1 {S : XS} {M N : YM} : rm S 4 193 [yr 10004, yi 1] M N (fun r M' N' => some (yi 114) = r ∧ M = M' ∧ N = N') := ⟨xe_193, m_193, Nat.le_of_ble_eq_true rfl, 60, some (yi 114), M, N, rfl, rfl, rfl, rfl⟩
set_option maxRecDepth 1000000 in
theorem j_ch_5_0 {S : XS} {M N : YM} : rm S 4 193 [yr 10005, yi 0] M N (fun r M' N' => some (yi 97) = r ∧ M = M' ∧ N = N') := ⟨xe_193, m_193, Nat.le_of_ble_eq_true rfl, 60, some (yi 97), M, N, rfl, rfl, rfl, rfl⟩
set_option maxRecDepth 1000000 in
theorem j_ch_5_1 {S : XS} {M N : YM} : rm S 4 193 [yr 10005, yi 1] M N (fun r M' N' => some (yi 110) = r ∧ M = M' ∧ N = N') := ⟨xe_193, m_193, Nat.le_of_ble_eq_true rfl, 60, some (yi 110), M, N, rfl, rfl, rfl, rfl⟩
set_option maxRecDepth 1000000 in
theorem j_ch_5_2 {S : XS} {M N : YM} : rm S 4 193 [yr 10005, yi 2] M N (fun r M' N' => some (yi 100) = r ∧ M = M' ∧ N = N') := ⟨xe_193, m_193, Nat.le_of_ble_eq_true rfl, 60, some (yi 100), M, N, rfl, rfl, rfl, rfl⟩
set_option maxRecDepth 1000000 in
theorem j_ch_6_0 {S : XS} {M N : YM} : rm S 4 193 [yr 10006, yi 0] M N (fun r M' N' => some (yi 110) = r ∧ M = M' ∧ N = N') := ⟨xe_193, m_193, Nat.le_of_ble_eq_true rfl, 60, some (yi 110), M, N, rfl, rfl, rfl, rfl⟩
set_option maxRecDepth 1000000 in
theorem j_ch_6_1 {S : XS} {M N : YM} : rm S 4 193 [yr 10006, yi 1] M N (fun r M' N' => some (yi 111) = r ∧ M = M' ∧ N = N') := ⟨xe_193, m_193, Nat.le_of_ble_eq_true rfl, 60, some (yi 111), M, N, rfl, rfl, rfl, rfl⟩
set_option maxRecDepth 1000000 in
theorem j_ch_6_2 {S : XS} {M N : YM} : rm S 4 193 [yr 10006, yi 2] M N (fun r M' N' => some (yi 116) = r ∧ M = M' ∧ N = N') := ⟨xe_193, m_193, Nat.le_of_ble_eq_true rfl, 60, some (yi 116), M, N, rfl, rfl, rfl, rfl⟩
set_option maxRecDepth 1000000 in
theorem j_lat_7 {S : XS} {M N : YM} : rm S 4 197 [yr 10007] M N (fun r M' N' => some (yi 1) = r ∧ M = M' ∧ N = N') := ⟨xe_197, m_197, Nat.le_of_ble_eq_true rfl, 60, some (yi 1), M, N, rfl, rfl, rfl, rfl⟩
def sWd (b : Int) : List Int := if b = 10001 then [114, 101, 99, 107, 111, 110, 115] else if b = 10002 then [99, 111, 115, 116, 115] else if b = 10003 then [109, 101, 101, 116, 115] else if b = 10004 then [111, 114] else if b = 10005 then [97, 110, 100] else if b = 10006 then [110, 111, 116] else []
theorem j_length {S : XS} {M N : YM} {b : Int} (hb : 10001 ≤ b ∧ b ≤ 10006) : rm S 4 192 [yr b] M N (fun r M' N' => ∃ v : Int, some (yi v) = r ∧ v = (sWd b).length ∧ M = M' ∧ N = N') := by
  rcases (show b = 10001 ∨ b = 10002 ∨ b = 10003 ∨ b = 10004 ∨ b = 10005 ∨ b = 10006 by omega) with rfl | rfl | rfl | rfl | rfl | rfl
  · exact rm_post j_len_1 fun _ _ _ h => ⟨_, h.1, rfl, h.2.1, h.2.2⟩
  · exact rm_post j_len_2 fun _ _ _ h => ⟨_, h.1, rfl, h.2.1, h.2.2⟩
  · exact rm_post j_len_3 fun _ _ _ h => ⟨_, h.1, rfl, h.2.1, h.2.2⟩
  · exact rm_post j_len_4 fun _ _ _ h => ⟨_, h.1, rfl, h.2.1, h.2.2⟩
  · exact rm_post j_len_5 fun _ _ _ h => ⟨_, h.1, rfl, h.2.1, h.2.2⟩
  · exact rm_post j_len_6 fun _ _ _ h => ⟨_, h.1, rfl, h.2.1, h.2.2⟩
theorem j_charAt {S : XS} {M N : YM} {b i : Int} (hb : 10001 ≤ b ∧ b ≤ 10006) (hi : 0 ≤ i ∧ i < (sWd b).length) : rm S 4 193 [yr b, yi i] M N (fun r M' N' => ∃ v : Int, some (yi v) = r ∧ v = (sWd b).getD i.toNat 0 ∧ M = M' ∧ N = N') := by
  rcases (show b = 10001 ∨ b = 10002 ∨ b = 10003 ∨ b = 10004 ∨ b = 10005 ∨ b = 10006 by omega) with rfl | rfl | rfl | rfl | rfl | rfl
  · have hi2 : i < 7 := hi.2
    rcases (show i = 0 ∨ i = 1 ∨ i = 2 ∨ i = 3 ∨ i = 4 ∨ i = 5 ∨ i = 6 by omega) with rfl | rfl | rfl | rfl | rfl | rfl | rfl
    · exact rm_post j_ch_1_0 fun _ _ _ h => ⟨_, h.1, rfl, h.2.1, h.2.2⟩
    · exact rm_post j_ch_1_1 fun _ _ _ h => ⟨_, h.1, rfl, h.2.1, h.2.2⟩
    · exact rm_post j_ch_1_2 fun _ _ _ h => ⟨_, h.1, rfl, h.2.1, h.2.2⟩
    · exact rm_post j_ch_1_3 fun _ _ _ h => ⟨_, h.1, rfl, h.2.1, h.2.2⟩
    · exact rm_post j_ch_1_4 fun _ _ _ h => ⟨_, h.1, rfl, h.2.1, h.2.2⟩
    · exact rm_post j_ch_1_5 fun _ _ _ h => ⟨_, h.1, rfl, h.2.1, h.2.2⟩
    · exact rm_post j_ch_1_6 fun _ _ _ h => ⟨_, h.1, rfl, h.2.1, h.2.2⟩
  · have hi2 : i < 5 := hi.2
    rcases (show i = 0 ∨ i = 1 ∨ i = 2 ∨ i = 3 ∨ i = 4 by omega) with rfl | rfl | rfl | rfl | rfl
    · exact rm_post j_ch_2_0 fun _ _ _ h => ⟨_, h.1, rfl, h.2.1, h.2.2⟩
    · exact rm_post j_ch_2_1 fun _ _ _ h => ⟨_, h.1, rfl, h.2.1, h.2.2⟩
    · exact rm_post j_ch_2_2 fun _ _ _ h => ⟨_, h.1, rfl, h.2.1, h.2.2⟩
    · exact rm_post j_ch_2_3 fun _ _ _ h => ⟨_, h.1, rfl, h.2.1, h.2.2⟩
    · exact rm_post j_ch_2_4 fun _ _ _ h => ⟨_, h.1, rfl, h.2.1, h.2.2⟩
  · have hi2 : i < 5 := hi.2
    rcases (show i = 0 ∨ i = 1 ∨ i = 2 ∨ i = 3 ∨ i = 4 by omega) with rfl | rfl | rfl | rfl | rfl
    · exact rm_post j_ch_3_0 fun _ _ _ h => ⟨_, h.1, rfl, h.2.1, h.2.2⟩
    · exact rm_post j_ch_3_1 fun _ _ _ h => ⟨_, h.1, rfl, h.2.1, h.2.2⟩
    · exact rm_post j_ch_3_2 fun _ _ _ h => ⟨_, h.1, rfl, h.2.1, h.2.2⟩
    · exact rm_post j_ch_3_3 fun _ _ _ h => ⟨_, h.1, rfl, h.2.1, h.2.2⟩
    · exact rm_post j_ch_3_4 fun _ _ _ h => ⟨_, h.1, rfl, h.2.1, h.2.2⟩
  · have hi2 : i < 2 := hi.2
    rcases (show i = 0 ∨ i = 1 by omega) with rfl | rfl
    · exact rm_post j_ch_4_0 fun _ _ _ h => ⟨_, h.1, rfl, h.2.1, h.2.2⟩
    · exact rm_post j_ch_4_1 fun _ _ _ h => ⟨_, h.1, rfl, h.2.1, h.2.2⟩
  · have hi2 : i < 3 := hi.2
    rcases (show i = 0 ∨ i = 1 ∨ i = 2 by omega) with rfl | rfl | rfl
    · exact rm_post j_ch_5_0 fun _ _ _ h => ⟨_, h.1, rfl, h.2.1, h.2.2⟩
    · exact rm_post j_ch_5_1 fun _ _ _ h => ⟨_, h.1, rfl, h.2.1, h.2.2⟩
    · exact rm_post j_ch_5_2 fun _ _ _ h => ⟨_, h.1, rfl, h.2.1, h.2.2⟩
  · have hi2 : i < 3 := hi.2
    rcases (show i = 0 ∨ i = 1 ∨ i = 2 by omega) with rfl | rfl | rfl
    · exact rm_post j_ch_6_0 fun _ _ _ h => ⟨_, h.1, rfl, h.2.1, h.2.2⟩
    · exact rm_post j_ch_6_1 fun _ _ _ h => ⟨_, h.1, rfl, h.2.1, h.2.2⟩
    · exact rm_post j_ch_6_2 fun _ _ _ h => ⟨_, h.1, rfl, h.2.1, h.2.2⟩
section YS
variable {S : XS} {d mi pc rs wp : Nat} {ls : YL} {st : List YV} {M N : YM} {Q : Option YV → YM → YM → Prop}
theorem r_gf900 {k : Nat} (hi : xi mi pc = some (.getfield k, 900, wp)) (kk : ry S d mi (pc + 3) ls (.inr (.inr 20007) :: st) M N Q) : ry S d mi pc ls (.inr (.inr 10007) :: st) M N Q :=
  ry_step hi rfl (fun _ => rfl) kk
theorem r_alenB (hi : xi mi pc = some (.arraylength, rs, wp)) (kk : ry S d mi (pc + 1) ls (.inl 8 :: st) M N Q) : ry S d mi pc ls (.inr (.inr 20007) :: st) M N Q :=
  ry_step hi rfl (fun _ => rfl) kk
theorem r_bald7 {j v : Int} (hi : xi mi pc = some (.baload, rs, wp)) (hj : 0 ≤ j ∧ j < 8) (hv : ([40, 41, 59, 43, 45, 42, 60, 61] : List Int).getD j.toNat 0 = v) (kk : ry S d mi (pc + 1) ls (.inl v :: st) M N Q) : ry S d mi pc ls (.inl j :: .inr (.inr 20007) :: st) M N Q := by
  rcases (show j = 0 ∨ j = 1 ∨ j = 2 ∨ j = 3 ∨ j = 4 ∨ j = 5 ∨ j = 6 ∨ j = 7 by omega) with rfl | rfl | rfl | rfl | rfl | rfl | rfl | rfl <;> (subst hv; exact ry_step hi rfl (fun _ => rfl) kk)
set_option maxRecDepth 100000 in
theorem i2c_fin : ∀ c : Fin 256, (Int32.ofInt (c.val : Int)).toUInt32 % 65536 = (Int32.ofInt (c.val : Int)).toUInt32 ∧ (Int32.ofInt (c.val : Int)).toInt8.toInt = if (c.val : Int) < 128 then (c.val : Int) else (c.val : Int) - 256 := by decide +kernel
theorem i2c_at {c : Int} (h : 0 ≤ c ∧ c < 256) : ((Int32.ofInt c).toUInt32 % 65536).toInt32 = Int32.ofInt c ∧ (Int32.ofInt c).toInt8.toInt = if c < 128 then c else c - 256 := by
  have := i2c_fin ⟨c.toNat, by omega⟩
  rw [show (((⟨c.toNat, by omega⟩ : Fin 256).val : Nat) : Int) = c by show ((c.toNat : Nat) : Int) = c; omega] at this
  exact ⟨by rw [this.1]; rfl, this.2⟩
theorem r_i2c {a : Int} (hi : xi mi pc = some (.i2c, rs, wp)) (ha : 0 ≤ a ∧ a < 256) (kk : ry S d mi (pc + 1) ls (.inl a :: st) M N Q) : ry S d mi pc ls (.inl a :: st) M N Q := by
  refine ry_step hi rfl (fun kd => ?_) kk
  show some (pc + 1, yo ls, .int ((Int32.ofInt a).toUInt32 % 65536).toInt32 :: st.map yv, ym M N) = _
  rw [(i2c_at ha).1]
  rfl
end YS
def isSg (c : Int) : Prop := c = 40 ∨ c = 41 ∨ c = 59 ∨ c = 43 ∨ c = 45 ∨ c = 42 ∨ c = 60 ∨ c = 61
theorem j_ix_8 {S : XS} {d : Nat} {c e : Int} {M N : YM} (h8 : (0 ≤ c ∧ c < 128 ∧ e = c) ∨ (128 ≤ c ∧ c < 256 ∧ e = c - 256)) (g0 : c ≠ 40) (g1 : c ≠ 41) (g2 : c ≠ 59) (g3 : c ≠ 43) (g4 : c ≠ 45) (g5 : c ≠ 42) (g6 : c ≠ 60) (g7 : c ≠ 61) : ry S d 202 7 [some (yr 20007), some (yi c), some (yi 0), some (yi 8), some (yi e), some (yi 8)] [] M N (fun r M' N' => ∃ v : Int, some (yi v) = r ∧ ((0 ≤ v ∧ v < 8 ∧ isSg c) ∨ (v = -1 ∧ ¬ isSg c)) ∧ M = M' ∧ N = N') := by
  refine r_run 2 (pc' := 10) (ls' := [some (yr 20007), some (yi c), some (yi 0), some (yi 8), some (yi e), some (yi 8)]) (st' := [yi 8, yi 8]) (M' := M) (N' := N) rfl ?_
  refine r_icmp_ge (pc := 10) f_202_10 (by omega) (by omega) (fun h10 => ?_) (fun h10 => ?_)
  · refine r_run 1 (pc' := 32) (ls' := [some (yr 20007), some (yi c), some (yi 0), some (yi 8), some (yi e), some (yi 8)]) (st' := [yi (-1)]) (M' := M) (N' := N) rfl ?_
    refine r_iret m_202 rfl f_202_32 ?_
    exact ⟨_, rfl, Or.inr ⟨rfl, by unfold isSg; omega⟩, rfl, rfl⟩
  · exfalso; omega
theorem j_ix_7 {S : XS} {d : Nat} {c e : Int} {M N : YM} (h8 : (0 ≤ c ∧ c < 128 ∧ e = c) ∨ (128 ≤ c ∧ c < 256 ∧ e = c - 256)) (g0 : c ≠ 40) (g1 : c ≠ 41) (g2 : c ≠ 59) (g3 : c ≠ 43) (g4 : c ≠ 45) (g5 : c ≠ 42) (g6 : c ≠ 60) : ry S d 202 7 [some (yr 20007), some (yi c), some (yi 0), some (yi 8), some (yi e), some (yi 7)] [] M N (fun r M' N' => ∃ v : Int, some (yi v) = r ∧ ((0 ≤ v ∧ v < 8 ∧ isSg c) ∨ (v = -1 ∧ ¬ isSg c)) ∧ M = M' ∧ N = N') := by
  refine r_run 2 (pc' := 10) (ls' := [some (yr 20007), some (yi c), some (yi 0), some (yi 8), some (yi e), some (yi 7)]) (st' := [yi 8, yi 7]) (M' := M) (N' := N) rfl ?_
  refine r_icmp_ge (pc := 10) f_202_10 (by omega) (by omega) (fun h10 => ?_) (fun h10 => ?_)
  · refine r_run 1 (pc' := 32) (ls' := [some (yr 20007), some (yi c), some (yi 0), some (yi 8), some (yi e), some (yi 7)]) (st' := [yi (-1)]) (M' := M) (N' := N) rfl ?_
    refine r_iret m_202 rfl f_202_32 ?_
    exfalso; omega
  · refine r_run 2 (pc' := 16) (ls' := [some (yr 20007), some (yi c), some (yi 0), some (yi 8), some (yi e), some (yi 7)]) (st' := [yi 7, yr 20007]) (M' := M) (N' := N) rfl ?_
    refine r_bald7 (v := 61) (show xi 202 16 = some (.baload, 0, 0) from rfl) (by decide) rfl ?_
    refine r_run 1 (pc' := 19) (ls' := [some (yr 20007), some (yi c), some (yi 0), some (yi 8), some (yi e), some (yi 7)]) (st' := [yi e, yi 61]) (M' := M) (N' := N) rfl ?_
    refine r_icmp_ne (pc := 19) f_202_19 (by omega) (by omega) (fun h19 => ?_) (fun h19 => ?_)
    · refine r_run 2 (pc' := 7) (ls' := [some (yr 20007), some (yi c), some (yi 0), some (yi 8), some (yi e), some (yi (7 + 1))]) (st' := []) (M' := M) (N' := N) rfl ?_
      have g7 : c ≠ 61 := by omega
      exact j_ix_8 h8 g0 g1 g2 g3 g4 g5 g6 g7
    · refine r_run 1 (pc' := 24) (ls' := [some (yr 20007), some (yi c), some (yi 0), some (yi 8), some (yi e), some (yi 7)]) (st' := [yi 7]) (M' := M) (N' := N) rfl ?_
      refine r_iret m_202 rfl f_202_24 ?_
      exact ⟨_, rfl, Or.inl ⟨by omega, by omega, by unfold isSg; omega⟩, rfl, rfl⟩
theorem j_ix_6 {S : XS} {d : Nat} {c e : Int} {M N : YM} (h8 : (0 ≤ c ∧ c < 128 ∧ e = c) ∨ (128 ≤ c ∧ c < 256 ∧ e = c - 256)) (g0 : c ≠ 40) (g1 : c ≠ 41) (g2 : c ≠ 59) (g3 : c ≠ 43) (g4 : c ≠ 45) (g5 : c ≠ 42) : ry S d 202 7 [some (yr 20007), some (yi c), some (yi 0), some (yi 8), some (yi e), some (yi 6)] [] M N (fun r M' N' => ∃ v : Int, some (yi v) = r ∧ ((0 ≤ v ∧ v < 8 ∧ isSg c) ∨ (v = -1 ∧ ¬ isSg c)) ∧ M = M' ∧ N = N') := by
  refine r_run 2 (pc' := 10) (ls' := [some (yr 20007), some (yi c), some (yi 0), some (yi 8), some (yi e), some (yi 6)]) (st' := [yi 8, yi 6]) (M' := M) (N' := N) rfl ?_
  refine r_icmp_ge (pc := 10) f_202_10 (by omega) (by omega) (fun h10 => ?_) (fun h10 => ?_)
  · refine r_run 1 (pc' := 32) (ls' := [some (yr 20007), some (yi c), some (yi 0), some (yi 8), some (yi e), some (yi 6)]) (st' := [yi (-1)]) (M' := M) (N' := N) rfl ?_
    refine r_iret m_202 rfl f_202_32 ?_
    exfalso; omega
  · refine r_run 2 (pc' := 16) (ls' := [some (yr 20007), some (yi c), some (yi 0), some (yi 8), some (yi e), some (yi 6)]) (st' := [yi 6, yr 20007]) (M' := M) (N' := N) rfl ?_
    refine r_bald7 (v := 60) (show xi 202 16 = some (.baload, 0, 0) from rfl) (by decide) rfl ?_
    refine r_run 1 (pc' := 19) (ls' := [some (yr 20007), some (yi c), some (yi 0), some (yi 8), some (yi e), some (yi 6)]) (st' := [yi e, yi 60]) (M' := M) (N' := N) rfl ?_
    refine r_icmp_ne (pc := 19) f_202_19 (by omega) (by omega) (fun h19 => ?_) (fun h19 => ?_)
    · refine r_run 2 (pc' := 7) (ls' := [some (yr 20007), some (yi c), some (yi 0), some (yi 8), some (yi e), some (yi (6 + 1))]) (st' := []) (M' := M) (N' := N) rfl ?_
      have g6 : c ≠ 60 := by omega
      exact j_ix_7 h8 g0 g1 g2 g3 g4 g5 g6
    · refine r_run 1 (pc' := 24) (ls' := [some (yr 20007), some (yi c), some (yi 0), some (yi 8), some (yi e), some (yi 6)]) (st' := [yi 6]) (M' := M) (N' := N) rfl ?_
      refine r_iret m_202 rfl f_202_24 ?_
      exact ⟨_, rfl, Or.inl ⟨by omega, by omega, by unfold isSg; omega⟩, rfl, rfl⟩
theorem j_ix_5 {S : XS} {d : Nat} {c e : Int} {M N : YM} (h8 : (0 ≤ c ∧ c < 128 ∧ e = c) ∨ (128 ≤ c ∧ c < 256 ∧ e = c - 256)) (g0 : c ≠ 40) (g1 : c ≠ 41) (g2 : c ≠ 59) (g3 : c ≠ 43) (g4 : c ≠ 45) : ry S d 202 7 [some (yr 20007), some (yi c), some (yi 0), some (yi 8), some (yi e), some (yi 5)] [] M N (fun r M' N' => ∃ v : Int, some (yi v) = r ∧ ((0 ≤ v ∧ v < 8 ∧ isSg c) ∨ (v = -1 ∧ ¬ isSg c)) ∧ M = M' ∧ N = N') := by
  refine r_run 2 (pc' := 10) (ls' := [some (yr 20007), some (yi c), some (yi 0), some (yi 8), some (yi e), some (yi 5)]) (st' := [yi 8, yi 5]) (M' := M) (N' := N) rfl ?_
  refine r_icmp_ge (pc := 10) f_202_10 (by omega) (by omega) (fun h10 => ?_) (fun h10 => ?_)
  · refine r_run 1 (pc' := 32) (ls' := [some (yr 20007), some (yi c), some (yi 0), some (yi 8), some (yi e), some (yi 5)]) (st' := [yi (-1)]) (M' := M) (N' := N) rfl ?_
    refine r_iret m_202 rfl f_202_32 ?_
    exfalso; omega
  · refine r_run 2 (pc' := 16) (ls' := [some (yr 20007), some (yi c), some (yi 0), some (yi 8), some (yi e), some (yi 5)]) (st' := [yi 5, yr 20007]) (M' := M) (N' := N) rfl ?_
    refine r_bald7 (v := 42) (show xi 202 16 = some (.baload, 0, 0) from rfl) (by decide) rfl ?_
    refine r_run 1 (pc' := 19) (ls' := [some (yr 20007), some (yi c), some (yi 0), some (yi 8), some (yi e), some (yi 5)]) (st' := [yi e, yi 42]) (M' := M) (N' := N) rfl ?_
    refine r_icmp_ne (pc := 19) f_202_19 (by omega) (by omega) (fun h19 => ?_) (fun h19 => ?_)
    · refine r_run 2 (pc' := 7) (ls' := [some (yr 20007), some (yi c), some (yi 0), some (yi 8), some (yi e), some (yi (5 + 1))]) (st' := []) (M' := M) (N' := N) rfl ?_
      have g5 : c ≠ 42 := by omega
      exact j_ix_6 h8 g0 g1 g2 g3 g4 g5
    · refine r_run 1 (pc' := 24) (ls' := [some (yr 20007), some (yi c), some (yi 0), some (yi 8), some (yi e), some (yi 5)]) (st' := [yi 5]) (M' := M) (N' := N) rfl ?_
      refine r_iret m_202 rfl f_202_24 ?_
      exact ⟨_, rfl, Or.inl ⟨by omega, by omega, by unfold isSg; omega⟩, rfl, rfl⟩
theorem j_ix_4 {S : XS} {d : Nat} {c e : Int} {M N : YM} (h8 : (0 ≤ c ∧ c < 128 ∧ e = c) ∨ (128 ≤ c ∧ c < 256 ∧ e = c - 256)) (g0 : c ≠ 40) (g1 : c ≠ 41) (g2 : c ≠ 59) (g3 : c ≠ 43) : ry S d 202 7 [some (yr 20007), some (yi c), some (yi 0), some (yi 8), some (yi e), some (yi 4)] [] M N (fun r M' N' => ∃ v : Int, some (yi v) = r ∧ ((0 ≤ v ∧ v < 8 ∧ isSg c) ∨ (v = -1 ∧ ¬ isSg c)) ∧ M = M' ∧ N = N') := by
  refine r_run 2 (pc' := 10) (ls' := [some (yr 20007), some (yi c), some (yi 0), some (yi 8), some (yi e), some (yi 4)]) (st' := [yi 8, yi 4]) (M' := M) (N' := N) rfl ?_
  refine r_icmp_ge (pc := 10) f_202_10 (by omega) (by omega) (fun h10 => ?_) (fun h10 => ?_)
  · refine r_run 1 (pc' := 32) (ls' := [some (yr 20007), some (yi c), some (yi 0), some (yi 8), some (yi e), some (yi 4)]) (st' := [yi (-1)]) (M' := M) (N' := N) rfl ?_
    refine r_iret m_202 rfl f_202_32 ?_
    exfalso; omega
  · refine r_run 2 (pc' := 16) (ls' := [some (yr 20007), some (yi c), some (yi 0), some (yi 8), some (yi e), some (yi 4)]) (st' := [yi 4, yr 20007]) (M' := M) (N' := N) rfl ?_
    refine r_bald7 (v := 45) (show xi 202 16 = some (.baload, 0, 0) from rfl) (by decide) rfl ?_
    refine r_run 1 (pc' := 19) (ls' := [some (yr 20007), some (yi c), some (yi 0), some (yi 8), some (yi e), some (yi 4)]) (st' := [yi e, yi 45]) (M' := M) (N' := N) rfl ?_
    refine r_icmp_ne (pc := 19) f_202_19 (by omega) (by omega) (fun h19 => ?_) (fun h19 => ?_)
    · refine r_run 2 (pc' := 7) (ls' := [some (yr 20007), some (yi c), some (yi 0), some (yi 8), some (yi e), some (yi (4 + 1))]) (st' := []) (M' := M) (N' := N) rfl ?_
      have g4 : c ≠ 45 := by omega
      exact j_ix_5 h8 g0 g1 g2 g3 g4
    · refine r_run 1 (pc' := 24) (ls' := [some (yr 20007), some (yi c), some (yi 0), some (yi 8), some (yi e), some (yi 4)]) (st' := [yi 4]) (M' := M) (N' := N) rfl ?_
      refine r_iret m_202 rfl f_202_24 ?_
      exact ⟨_, rfl, Or.inl ⟨by omega, by omega, by unfold isSg; omega⟩, rfl, rfl⟩
theorem j_ix_3 {S : XS} {d : Nat} {c e : Int} {M N : YM} (h8 : (0 ≤ c ∧ c < 128 ∧ e = c) ∨ (128 ≤ c ∧ c < 256 ∧ e = c - 256)) (g0 : c ≠ 40) (g1 : c ≠ 41) (g2 : c ≠ 59) : ry S d 202 7 [some (yr 20007), some (yi c), some (yi 0), some (yi 8), some (yi e), some (yi 3)] [] M N (fun r M' N' => ∃ v : Int, some (yi v) = r ∧ ((0 ≤ v ∧ v < 8 ∧ isSg c) ∨ (v = -1 ∧ ¬ isSg c)) ∧ M = M' ∧ N = N') := by
  refine r_run 2 (pc' := 10) (ls' := [some (yr 20007), some (yi c), some (yi 0), some (yi 8), some (yi e), some (yi 3)]) (st' := [yi 8, yi 3]) (M' := M) (N' := N) rfl ?_
  refine r_icmp_ge (pc := 10) f_202_10 (by omega) (by omega) (fun h10 => ?_) (fun h10 => ?_)
  · refine r_run 1 (pc' := 32) (ls' := [some (yr 20007), some (yi c), some (yi 0), some (yi 8), some (yi e), some (yi 3)]) (st' := [yi (-1)]) (M' := M) (N' := N) rfl ?_
    refine r_iret m_202 rfl f_202_32 ?_
    exfalso; omega
  · refine r_run 2 (pc' := 16) (ls' := [some (yr 20007), some (yi c), some (yi 0), some (yi 8), some (yi e), some (yi 3)]) (st' := [yi 3, yr 20007]) (M' := M) (N' := N) rfl ?_
    refine r_bald7 (v := 43) (show xi 202 16 = some (.baload, 0, 0) from rfl) (by decide) rfl ?_
    refine r_run 1 (pc' := 19) (ls' := [some (yr 20007), some (yi c), some (yi 0), some (yi 8), some (yi e), some (yi 3)]) (st' := [yi e, yi 43]) (M' := M) (N' := N) rfl ?_
    refine r_icmp_ne (pc := 19) f_202_19 (by omega) (by omega) (fun h19 => ?_) (fun h19 => ?_)
    · refine r_run 2 (pc' := 7) (ls' := [some (yr 20007), some (yi c), some (yi 0), some (yi 8), some (yi e), some (yi (3 + 1))]) (st' := []) (M' := M) (N' := N) rfl ?_
      have g3 : c ≠ 43 := by omega
      exact j_ix_4 h8 g0 g1 g2 g3
    · refine r_run 1 (pc' := 24) (ls' := [some (yr 20007), some (yi c), some (yi 0), some (yi 8), some (yi e), some (yi 3)]) (st' := [yi 3]) (M' := M) (N' := N) rfl ?_
      refine r_iret m_202 rfl f_202_24 ?_
      exact ⟨_, rfl, Or.inl ⟨by omega, by omega, by unfold isSg; omega⟩, rfl, rfl⟩
theorem j_ix_2 {S : XS} {d : Nat} {c e : Int} {M N : YM} (h8 : (0 ≤ c ∧ c < 128 ∧ e = c) ∨ (128 ≤ c ∧ c < 256 ∧ e = c - 256)) (g0 : c ≠ 40) (g1 : c ≠ 41) : ry S d 202 7 [some (yr 20007), some (yi c), some (yi 0), some (yi 8), some (yi e), some (yi 2)] [] M N (fun r M' N' => ∃ v : Int, some (yi v) = r ∧ ((0 ≤ v ∧ v < 8 ∧ isSg c) ∨ (v = -1 ∧ ¬ isSg c)) ∧ M = M' ∧ N = N') := by
  refine r_run 2 (pc' := 10) (ls' := [some (yr 20007), some (yi c), some (yi 0), some (yi 8), some (yi e), some (yi 2)]) (st' := [yi 8, yi 2]) (M' := M) (N' := N) rfl ?_
  refine r_icmp_ge (pc := 10) f_202_10 (by omega) (by omega) (fun h10 => ?_) (fun h10 => ?_)
  · refine r_run 1 (pc' := 32) (ls' := [some (yr 20007), some (yi c), some (yi 0), some (yi 8), some (yi e), some (yi 2)]) (st' := [yi (-1)]) (M' := M) (N' := N) rfl ?_
    refine r_iret m_202 rfl f_202_32 ?_
    exfalso; omega
  · refine r_run 2 (pc' := 16) (ls' := [some (yr 20007), some (yi c), some (yi 0), some (yi 8), some (yi e), some (yi 2)]) (st' := [yi 2, yr 20007]) (M' := M) (N' := N) rfl ?_
    refine r_bald7 (v := 59) (show xi 202 16 = some (.baload, 0, 0) from rfl) (by decide) rfl ?_
    refine r_run 1 (pc' := 19) (ls' := [some (yr 20007), some (yi c), some (yi 0), some (yi 8), some (yi e), some (yi 2)]) (st' := [yi e, yi 59]) (M' := M) (N' := N) rfl ?_
    refine r_icmp_ne (pc := 19) f_202_19 (by omega) (by omega) (fun h19 => ?_) (fun h19 => ?_)
    · refine r_run 2 (pc' := 7) (ls' := [some (yr 20007), some (yi c), some (yi 0), some (yi 8), some (yi e), some (yi (2 + 1))]) (st' := []) (M' := M) (N' := N) rfl ?_
      have g2 : c ≠ 59 := by omega
      exact j_ix_3 h8 g0 g1 g2
    · refine r_run 1 (pc' := 24) (ls' := [some (yr 20007), some (yi c), some (yi 0), some (yi 8), some (yi e), some (yi 2)]) (st' := [yi 2]) (M' := M) (N' := N) rfl ?_
      refine r_iret m_202 rfl f_202_24 ?_
      exact ⟨_, rfl, Or.inl ⟨by omega, by omega, by unfold isSg; omega⟩, rfl, rfl⟩
theorem j_ix_1 {S : XS} {d : Nat} {c e : Int} {M N : YM} (h8 : (0 ≤ c ∧ c < 128 ∧ e = c) ∨ (128 ≤ c ∧ c < 256 ∧ e = c - 256)) (g0 : c ≠ 40) : ry S d 202 7 [some (yr 20007), some (yi c), some (yi 0), some (yi 8), some (yi e), some (yi 1)] [] M N (fun r M' N' => ∃ v : Int, some (yi v) = r ∧ ((0 ≤ v ∧ v < 8 ∧ isSg c) ∨ (v = -1 ∧ ¬ isSg c)) ∧ M = M' ∧ N = N') := by
  refine r_run 2 (pc' := 10) (ls' := [some (yr 20007), some (yi c), some (yi 0), some (yi 8), some (yi e), some (yi 1)]) (st' := [yi 8, yi 1]) (M' := M) (N' := N) rfl ?_
  refine r_icmp_ge (pc := 10) f_202_10 (by omega) (by omega) (fun h10 => ?_) (fun h10 => ?_)
  · refine r_run 1 (pc' := 32) (ls' := [some (yr 20007), some (yi c), some (yi 0), some (yi 8), some (yi e), some (yi 1)]) (st' := [yi (-1)]) (M' := M) (N' := N) rfl ?_
    refine r_iret m_202 rfl f_202_32 ?_
    exfalso; omega
  · refine r_run 2 (pc' := 16) (ls' := [some (yr 20007), some (yi c), some (yi 0), some (yi 8), some (yi e), some (yi 1)]) (st' := [yi 1, yr 20007]) (M' := M) (N' := N) rfl ?_
    refine r_bald7 (v := 41) (show xi 202 16 = some (.baload, 0, 0) from rfl) (by decide) rfl ?_
    refine r_run 1 (pc' := 19) (ls' := [some (yr 20007), some (yi c), some (yi 0), some (yi 8), some (yi e), some (yi 1)]) (st' := [yi e, yi 41]) (M' := M) (N' := N) rfl ?_
    refine r_icmp_ne (pc := 19) f_202_19 (by omega) (by omega) (fun h19 => ?_) (fun h19 => ?_)
    · refine r_run 2 (pc' := 7) (ls' := [some (yr 20007), some (yi c), some (yi 0), some (yi 8), some (yi e), some (yi (1 + 1))]) (st' := []) (M' := M) (N' := N) rfl ?_
      have g1 : c ≠ 41 := by omega
      exact j_ix_2 h8 g0 g1
    · refine r_run 1 (pc' := 24) (ls' := [some (yr 20007), some (yi c), some (yi 0), some (yi 8), some (yi e), some (yi 1)]) (st' := [yi 1]) (M' := M) (N' := N) rfl ?_
      refine r_iret m_202 rfl f_202_24 ?_
      exact ⟨_, rfl, Or.inl ⟨by omega, by omega, by unfold isSg; omega⟩, rfl, rfl⟩
theorem j_ix_0 {S : XS} {d : Nat} {c e : Int} {M N : YM} (h8 : (0 ≤ c ∧ c < 128 ∧ e = c) ∨ (128 ≤ c ∧ c < 256 ∧ e = c - 256)) : ry S d 202 7 [some (yr 20007), some (yi c), some (yi 0), some (yi 8), some (yi e), some (yi 0)] [] M N (fun r M' N' => ∃ v : Int, some (yi v) = r ∧ ((0 ≤ v ∧ v < 8 ∧ isSg c) ∨ (v = -1 ∧ ¬ isSg c)) ∧ M = M' ∧ N = N') := by
  refine r_run 2 (pc' := 10) (ls' := [some (yr 20007), some (yi c), some (yi 0), some (yi 8), some (yi e), some (yi 0)]) (st' := [yi 8, yi 0]) (M' := M) (N' := N) rfl ?_
  refine r_icmp_ge (pc := 10) f_202_10 (by omega) (by omega) (fun h10 => ?_) (fun h10 => ?_)
  · refine r_run 1 (pc' := 32) (ls' := [some (yr 20007), some (yi c), some (yi 0), some (yi 8), some (yi e), some (yi 0)]) (st' := [yi (-1)]) (M' := M) (N' := N) rfl ?_
    refine r_iret m_202 rfl f_202_32 ?_
    exfalso; omega
  · refine r_run 2 (pc' := 16) (ls' := [some (yr 20007), some (yi c), some (yi 0), some (yi 8), some (yi e), some (yi 0)]) (st' := [yi 0, yr 20007]) (M' := M) (N' := N) rfl ?_
    refine r_bald7 (v := 40) (show xi 202 16 = some (.baload, 0, 0) from rfl) (by decide) rfl ?_
    refine r_run 1 (pc' := 19) (ls' := [some (yr 20007), some (yi c), some (yi 0), some (yi 8), some (yi e), some (yi 0)]) (st' := [yi e, yi 40]) (M' := M) (N' := N) rfl ?_
    refine r_icmp_ne (pc := 19) f_202_19 (by omega) (by omega) (fun h19 => ?_) (fun h19 => ?_)
    · refine r_run 2 (pc' := 7) (ls' := [some (yr 20007), some (yi c), some (yi 0), some (yi 8), some (yi e), some (yi (0 + 1))]) (st' := []) (M' := M) (N' := N) rfl ?_
      have g0 : c ≠ 40 := by omega
      exact j_ix_1 h8  g0
    · refine r_run 1 (pc' := 24) (ls' := [some (yr 20007), some (yi c), some (yi 0), some (yi 8), some (yi e), some (yi 0)]) (st' := [yi 0]) (M' := M) (N' := N) rfl ?_
      refine r_iret m_202 rfl f_202_24 ?_
      exact ⟨_, rfl, Or.inl ⟨by omega, by omega, by unfold isSg; omega⟩, rfl, rfl⟩
theorem j_indexOfChar {S : XS} {M N : YM} {c : Int} (hc : 0 ≤ c ∧ c < 256) : rm S 0 202 [yr 20007, yi c, yi 0, yi 8] M N (fun r M' N' => ∃ v : Int, some (yi v) = r ∧ ((0 ≤ v ∧ v < 8 ∧ isSg c) ∨ (v = -1 ∧ ¬ isSg c)) ∧ M = M' ∧ N = N') := by
  refine ⟨xe_202, m_202, Nat.le_of_ble_eq_true rfl, ?_⟩
  refine r_run 5 (pc' := 7) (ls' := [some (yr 20007), some (yi c), some (yi 0), some (yi 8), some (yi ((Int32.ofInt c).toInt8.toInt)), some (yi 0)]) (st' := []) (M' := M) (N' := N) rfl ?_
  refine j_ix_0 ?_
  have k := (i2c_at hc).2
  split at k
  · exact Or.inl ⟨hc.1, by omega, k⟩
  · exact Or.inr ⟨by omega, hc.2, k⟩
theorem j_canEncode {S : XS} {M N : YM} {c : Int} (hc : 0 ≤ c ∧ c < 256) : rm S 0 200 [yi c] M N (fun r M' N' => ∃ v : Int, some (yi v) = r ∧ (v = 1) ∧ M = M' ∧ N = N') := by
  refine ⟨xe_200, m_200, Nat.le_of_ble_eq_true rfl, ?_⟩
  refine r_run 1 (pc' := 1) (ls' := [some (yi c)]) (st' := [yi c]) (M' := M) (N' := N) rfl ?_
  refine r_if_lt (pc := 1) f_200_1 (by omega) (fun h1 => ?_) (fun h1 => ?_)
  · refine r_run 1 (pc' := 16) (ls' := [some (yi c)]) (st' := [yi 0]) (M' := M) (N' := N) rfl ?_
    refine r_zret m_200 rfl f_200_16 (by omega) ?_
    exfalso; omega
  · refine r_run 2 (pc' := 8) (ls' := [some (yi c)]) (st' := [yi 255, yi c]) (M' := M) (N' := N) rfl ?_
    refine r_icmp_gt (pc := 8) f_200_8 (by omega) (by omega) (fun h8 => ?_) (fun h8 => ?_)
    · refine r_run 1 (pc' := 16) (ls' := [some (yi c)]) (st' := [yi 0]) (M' := M) (N' := N) rfl ?_
      refine r_zret m_200 rfl f_200_16 (by omega) ?_
      exfalso; omega
    · refine r_run 2 (pc' := 16) (ls' := [some (yi c)]) (st' := [yi 1]) (M' := M) (N' := N) rfl ?_
      refine r_zret m_200 rfl f_200_16 (by omega) ?_
      exact ⟨_, rfl, rfl, rfl, rfl⟩
theorem j_indexOf3 {S : XS} {M N : YM} {c : Int} (hc : 0 ≤ c ∧ c < 256) : rm S 1 201 [yr 20007, yi c, yi 0, yi 8] M N (fun r M' N' => ∃ v : Int, some (yi v) = r ∧ ((0 ≤ v ∧ v < 8 ∧ isSg c) ∨ (v = -1 ∧ ¬ isSg c)) ∧ M = M' ∧ N = N') := by
  refine ⟨xe_201, m_201, Nat.le_of_ble_eq_true rfl, ?_⟩
  refine r_run 1 (pc' := 1) (ls' := [some (yr 20007), some (yi c), some (yi 0), some (yi 8)]) (st' := [yi c]) (M' := M) (N' := N) rfl ?_
  refine r_static (mj := 200) (as := [yi c]) (rest := []) f_201_1 (by decide) rfl m_200 rfl rfl rfl (Nat.le_of_ble_eq_true rfl) (by omega) (j_canEncode hc) ?_
  rintro _ _ _ ⟨v1, rfl, hv1, rfl, rfl⟩
  refine r_if_ne (pc := 4) f_201_4 (by omega) (fun h4 => ?_) (fun h4 => ?_)
  · refine r_run 2 (pc' := 11) (ls' := [some (yr 20007), some (yi c), some (yi 0), some (yi 8)]) (st' := [yi 0, yi 0]) (M' := M) (N' := N) rfl ?_
    refine r_max f_201_11 (by omega) (by omega) (Nat.le_of_ble_eq_true rfl) (by omega) (fun v11 hv11 => ?_)
    rw [show v11 = 0 by omega]
    refine r_run 3 (pc' := 17) (ls' := [some (yr 20007), some (yi c), some (yi 0), some (yi 8)]) (st' := [yr 20007, yi 8]) (M' := M) (N' := N) rfl ?_
    refine r_alenB f_201_17 ?_
    refine r_min f_201_18 (by omega) (by omega) (Nat.le_of_ble_eq_true rfl) (by omega) (fun v18 hv18 => ?_)
    rw [show v18 = 8 by omega]
    refine r_run 3 (pc' := 24) (ls' := [some (yr 20007), some (yi c), some (yi 0), some (yi 8)]) (st' := [yi 8, yi 0]) (M' := M) (N' := N) rfl ?_
    refine r_icmp_lt (pc := 24) f_201_24 (by omega) (by omega) (fun h24 => ?_) (fun h24 => ?_)
    · refine r_run 4 (pc' := 33) (ls' := [some (yr 20007), some (yi c), some (yi 0), some (yi 8)]) (st' := [yi 8, yi 0, yi c, yr 20007]) (M' := M) (N' := N) rfl ?_
      refine r_static (mj := 202) (as := [yr 20007, yi c, yi 0, yi 8]) (rest := []) f_201_33 (by decide) rfl m_202 rfl rfl rfl (Nat.le_of_ble_eq_true rfl) (by omega) (j_indexOfChar hc) ?_
      rintro _ _ _ ⟨v33, rfl, hv33, rfl, rfl⟩
      refine r_iret m_201 rfl f_201_36 ?_
      exact ⟨_, rfl, hv33, rfl, rfl⟩
    · exfalso; omega
  · exfalso; omega
theorem j_indexOf2 {S : XS} {M N : YM} {c : Int} (hc : 0 ≤ c ∧ c < 256) : rm S 5 195 [yr 10007, yi c, yi 0] M N (fun r M' N' => ∃ v : Int, some (yi v) = r ∧ ((0 ≤ v ∧ v < 8 ∧ isSg c) ∨ (v = -1 ∧ ¬ isSg c)) ∧ M = M' ∧ N = N') := by
  refine ⟨xe_195, m_195, Nat.le_of_ble_eq_true rfl, ?_⟩
  refine r_run 1 (pc' := 1) (ls' := [some (yr 10007), some (yi c), some (yi 0)]) (st' := [yr 10007]) (M' := M) (N' := N) rfl ?_
  refine r_vstring (mj := 197) (b := 10007) (as := []) (rest := []) f_195_1 (by decide) rfl m_197 rfl (by omega) rfl rfl (Nat.le_of_ble_eq_true rfl) (by omega) (j_lat_7) ?_
  rintro _ _ _ ⟨rfl, rfl, rfl⟩
  refine r_if_eq (pc := 4) f_195_4 (by omega) (fun h4 => ?_) (fun h4 => ?_)
  · exfalso; omega
  · refine r_run 1 (pc' := 8) (ls' := [some (yr 10007), some (yi c), some (yi 0)]) (st' := [yr 10007]) (M' := M) (N' := N) rfl ?_
    refine r_gf900 f_195_8 ?_
    refine r_run 3 (pc' := 14) (ls' := [some (yr 10007), some (yi c), some (yi 0)]) (st' := [yr 10007, yi 0, yi c, yr 20007]) (M' := M) (N' := N) rfl ?_
    refine r_vstring (mj := 192) (b := 10007) (as := []) (rest := [yi 0, yi c, yr 20007]) f_195_14 (by decide) rfl m_192 rfl (by omega) rfl rfl (Nat.le_of_ble_eq_true rfl) (by omega) (j_len_7) ?_
    rintro _ _ _ ⟨rfl, rfl, rfl⟩
    refine r_static (mj := 201) (as := [yr 20007, yi c, yi 0, yi 8]) (rest := []) f_195_17 (by decide) rfl m_201 rfl rfl rfl (Nat.le_of_ble_eq_true rfl) (by omega) (j_indexOf3 hc) ?_
    rintro _ _ _ ⟨v17, rfl, hv17, rfl, rfl⟩
    refine r_run 1 (pc' := 36) (ls' := [some (yr 10007), some (yi c), some (yi 0)]) (st' := [yi v17]) (M' := M) (N' := N) rfl ?_
    refine r_iret m_195 rfl f_195_36 ?_
    exact ⟨_, rfl, hv17, rfl, rfl⟩
theorem j_indexOf {S : XS} {M N : YM} {c : Int} (hc : 0 ≤ c ∧ c < 256) : rm S 6 194 [yr 10007, yi c] M N (fun r M' N' => ∃ v : Int, some (yi v) = r ∧ ((0 ≤ v ∧ v < 8 ∧ isSg c) ∨ (v = -1 ∧ ¬ isSg c)) ∧ M = M' ∧ N = N') := by
  refine ⟨xe_194, m_194, Nat.le_of_ble_eq_true rfl, ?_⟩
  refine r_run 3 (pc' := 3) (ls' := [some (yr 10007), some (yi c)]) (st' := [yi 0, yi c, yr 10007]) (M' := M) (N' := N) rfl ?_
  refine r_vstring (mj := 195) (b := 10007) (as := [yi c, yi 0]) (rest := []) f_194_3 (by decide) rfl m_195 rfl (by omega) rfl rfl (Nat.le_of_ble_eq_true rfl) (by omega) (j_indexOf2 hc) ?_
  rintro _ _ _ ⟨v3, rfl, hv3, rfl, rfl⟩
  refine r_iret m_194 rfl f_194_6 ?_
  exact ⟨_, rfl, hv3, rfl, rfl⟩
