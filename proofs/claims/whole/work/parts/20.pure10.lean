/-! THE PURE PART, 10: adjustments, extend, conditions, multiply -/
theorem kept0b {n : Nat} {t : Int} (h1 : -2147483648 ≤ t) (h2 : t < 2147483648) : f_X0_kept (nI n) 0 (I t) = (I (t % 256), nI (mg n 256 (t % 256))) := kept0 0 h1 h2
theorem abyte0 {n : Nat} {t : Int} (h1 : -2147483648 ≤ t) (h2 : t < 2147483648) : f_X0_adjustedByte (nI n) (I t) = (I (t % 256), nI (mg n 256 (t % 256))) := by
  unfold f_X0_adjustedByte; dsimp only; rw [kept0b h1 h2]
/-- 16 bits of two bytes -/
theorem join0 {h l : Int} (h1 : -2147483648 ≤ h) (h2 : h < 2147483648) (l1 : 0 ≤ l) (l2 : l < 256) : f_X0_joined (I h) (I l) = I (256 * (h % 256) + l) := by
  unfold f_X0_joined
  rw [I_m255, I_toInt h1 h2]
  have hx : 0 ≤ h % 256 ∧ h % 256 < 256 := by omega
  generalize h % 256 = x at hx ⊢
  obtain ⟨m, rfl⟩ := Int.eq_ofNat_of_zero_le hx.1
  obtain ⟨k, rfl⟩ := Int.eq_ofNat_of_zero_le l1
  rw [I_nI, I_nI, pk_shlN (n := m) ((8 : Int32) &&& 31) 8 (by decide) (by omega), Nat.mul_comm, fa_or_sum m (by omega), ← I_nI]
  congr 1
theorem bof1 (x : Int32) : f_X1_byteOf x = I (x.toInt % 256) := I_m255 x
theorem bof1I {x : Int} (h1 : -2147483648 ≤ x) (h2 : x < 2147483648) : f_X1_byteOf (I x) = I (x % 256) := by rw [bof1, I_toInt h1 h2]
def six (n : Nat) (l : Int) : Bool := decide (9 < l % 16) || n.testBit 4
def more (n : Nat) (l : Int) : Bool := decide (153 < l) || n.testBit 0
theorem six0 {n : Nat} {l : Int} (h1 : 0 ≤ l) (h2 : l < 256) : f_X0_needsLowerGap (nI n) (I l) = b2 (six n l) := by
  unfold f_X0_needsLowerGap six; dsimp only
  rw [is0_h, b2_b2, I_m15' h1 (by omega)]
  have e : (9 < I (l % 16)) ↔ 9 < l % 16 := I_lt (a := 9) (by decide) (by decide) (by omega) (by omega)
  by_cases h : 9 < l % 16
  · rw [if_pos (e.mpr h), decide_eq_true h]; rfl
  · rw [if_neg (fun q => h (e.mp q)), decide_eq_false h]; rfl
theorem more0' {n : Nat} {l : Int} (h1 : 0 ≤ l) (h2 : l < 256) : f_X0_needsUpperGap (nI n) (I l) = b2 (more n l) := by
  unfold f_X0_needsUpperGap more; dsimp only
  rw [is0_c, b2_b2]
  have e : (153 < I l) ↔ 153 < l := I_lt (a := 153) (by decide) (by decide) (by omega) (by omega)
  by_cases h : 153 < l
  · rw [if_pos (e.mpr h), decide_eq_true h]; rfl
  · rw [if_neg (fun q => h (e.mp q)), decide_eq_false h]; rfl
theorem six1 {n : Nat} (hn : n < 4096) {l : Int} (h1 : 0 ≤ l) (h2 : l < 256) : (if 9 < jr (I l) 16 then (1 : Int32) else (if f_X1_is (nI n) 16 = 0 then 0 else 1)) = b2 (six n l) := by
  unfold six
  rw [is1_h hn, b2_b2, I_jr16 h1 (by omega)]
  have e : (9 < I (l % 16)) ↔ 9 < l % 16 := I_lt (a := 9) (by decide) (by decide) (by omega) (by omega)
  by_cases h : 9 < l % 16
  · rw [if_pos (e.mpr h), decide_eq_true h]; rfl
  · rw [if_neg (fun q => h (e.mp q)), decide_eq_false h]; rfl
theorem more1' {n : Nat} (hn : n < 4096) {l : Int} (h1 : 0 ≤ l) (h2 : l < 256) : (if 153 < I l then (1 : Int32) else (if f_X1_is (nI n) 1 = 0 then 0 else 1)) = b2 (more n l) := by
  unfold more
  rw [is1_c hn, b2_b2]
  have e : (153 < I l) ↔ 153 < l := I_lt (a := 153) (by decide) (by decide) (by omega) (by omega)
  by_cases h : 153 < l
  · rw [if_pos (e.mpr h), decide_eq_true h]; rfl
  · rw [if_neg (fun q => h (e.mp q)), decide_eq_false h]; rfl
def gp (a b : Bool) : Int := (if a = true then 6 else 0) + (if b = true then 96 else 0)
theorem gap0 (a b : Bool) : f_X0_gap (b2 a) (b2 b) = I (gp a b) := by cases a <;> cases b <;> decide
theorem gp_in (a b : Bool) : 0 ≤ gp a b ∧ gp a b ≤ 102 := by cases a <;> cases b <;> decide
theorem g6 (a : Bool) : (if b2 a = 0 then (0 : Int32) else 6) = I (if a = true then 6 else 0) := by cases a <;> decide
theorem g96 (a : Bool) : (if b2 a = 0 then (0 : Int32) else 96) = I (if a = true then 96 else 0) := by cases a <;> decide
/-- the flags behind adjustments 0, 1, 2 and 3 -/
def ma0 (n : Nat) (l : Int) : Nat := mg (sb (sb n 4 (six n l)) 0 (more n l)) 256 ((l + gp (six n l) (more n l)) % 256)
def ma1 (n : Nat) (l : Int) : Nat := mg (sb (sb n 4 (six n l)) 0 (more n l || (six n l && decide (l < 6)))) 256 ((l - gp (six n l) (more n l)) % 256)
def ma2 (n : Nat) (l : Int) : Nat := sb (sb n 4 (six n l)) 0 (six n l)
theorem asum0 {n : Nat} {l : Int} (h1 : 0 ≤ l) (h2 : l < 256) : f_X0_adjustedSum (nI n) (I l) = (I ((l + gp (six n l) (more n l)) % 256), nI (ma0 n l)) := by
  have := gp_in (six n l) (more n l)
  unfold f_X0_adjustedSum ma0; dsimp only
  rw [six0 h1 h2, more0' h1 h2, gap0, put0_h, put0_c, I_add, abyte0 (by omega) (by omega)]
theorem b6_0 (a b : Bool) {l : Int} (h1 : 0 ≤ l) (h2 : l < 256) : (if b2 b = 0 then (if b2 a = 0 then (0 : Int32) else (if 6 ≤ I l then 0 else 1)) else 1) = b2 (b || (a && decide (l < 6))) := by
  have e : (6 ≤ I l) ↔ 6 ≤ l := I_le (a := 6) (by decide) (by decide) (by omega) (by omega)
  by_cases h : 6 ≤ l
  · rw [if_pos (e.mpr h), decide_eq_false (by omega)]; cases a <;> cases b <;> decide
  · rw [if_neg (fun q => h (e.mp q)), decide_eq_true (by omega)]; cases a <;> cases b <;> decide
theorem adif0 {n : Nat} {l : Int} (h1 : 0 ≤ l) (h2 : l < 256) : f_X0_adjustedDifference (nI n) (I l) = (I ((l - gp (six n l) (more n l)) % 256), nI (ma1 n l)) := by
  have := gp_in (six n l) (more n l)
  unfold f_X0_adjustedDifference ma1; dsimp only
  rw [six0 h1 h2, more0' h1 h2, gap0, put0_h, b6_0 _ _ h1 h2, put0_c, I_sub, abyte0 (by omega) (by omega)]
theorem adig0 {n : Nat} {h l d : Int} (g1 : 0 ≤ h) (g2 : h < 256) (h1 : 0 ≤ l) (h2 : l < 256) (hd : d = 1 ∨ d = -1) : f_X0_adjustedDigit (nI n) (I h) (I l) (I d) = (I (256 * ((if six n l = true then h + d else h) % 256) + (if six n l = true then l + d * 6 else l) % 16), nI (ma2 n l)) := by
  unfold f_X0_adjustedDigit ma2; dsimp only
  rw [six0 h1 h2, put0_h, put0_c, show (6 : Int32) = I 6 from rfl, I_mul, I_add, I_add]
  have e1 : (if b2 (six n l) = 0 then I h else I (h + d)) = I (if six n l = true then h + d else h) := by cases six n l <;> rfl
  have e2 : (if b2 (six n l) = 0 then I l else I (l + d * 6)) = I (if six n l = true then l + d * 6 else l) := by cases six n l <;> rfl
  have b1 : -1 ≤ (if six n l = true then h + d else h) ∧ (if six n l = true then h + d else h) ≤ 256 := by split <;> omega
  have b2' : -6 ≤ (if six n l = true then l + d * 6 else l) ∧ (if six n l = true then l + d * 6 else l) ≤ 262 := by split <;> omega
  rw [e1, e2]
  generalize (if six n l = true then h + d else h) = x at b1 ⊢
  generalize (if six n l = true then l + d * 6 else l) = y at b2' ⊢
  rw [I_m15, I_toInt (by omega) (by omega), join0 (by omega) (by omega) (by omega) (by omega)]
/-- the two bytes of a word -/
theorem low0 (x : Int32) : x &&& 255 = I (x.toInt % 256) := I_m255 x
theorem up0 (x : Int32) : (x >>> ((8 : Int32) &&& 31)) &&& 255 = I (x.toInt / 256 % 256) := by
  rw [I_m255]
  have h : (x >>> ((8 : Int32) &&& 31)).toInt = x.toInt >>> 8 := pk_shr x ((8 : Int32) &&& 31) 8 (by decide)
  rw [h, Int.shiftRight_eq_div_pow]
  rfl
theorem up1 (x : Int32) : (if 0 ≤ x then f_X1_byteOf (x / 256) else f_X1_byteOf (x >>> ((8 : Int32) &&& 31))) = I (x.toInt / 256 % 256) := by
  by_cases h : 0 ≤ x
  · rw [if_pos h]
    have h0 : 0 ≤ x.toInt := by have := Int32.le_iff_toInt_le.mp h; simpa using this
    have h9 := Int32.toInt_lt x
    conv => lhs; rw [← I_to x]
    rw [show (256 : Int32) = I 256 from rfl, I_divp h0 (by omega) (by decide) (by decide), bof1I (by omega) (by omega)]
  · rw [if_neg h]
    exact up0 x
