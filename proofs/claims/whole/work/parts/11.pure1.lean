/-! THE PURE PART, 1: by an answer, sums, differences, of the class and of the reference, as one thing -/
theorem put0_c {n : Nat} {b : Bool} : f_X0_put (nI n) 1 (b2 b) = nI (sb n 0 b) := put0 (j := 0)
theorem put0_p {n : Nat} {b : Bool} : f_X0_put (nI n) 4 (b2 b) = nI (sb n 2 b) := put0 (j := 2)
theorem put0_h {n : Nat} {b : Bool} : f_X0_put (nI n) 16 (b2 b) = nI (sb n 4 b) := put0 (j := 4)
theorem put0_z {n : Nat} {b : Bool} : f_X0_put (nI n) 64 (b2 b) = nI (sb n 6 b) := put0 (j := 6)
theorem put0_s {n : Nat} {b : Bool} : f_X0_put (nI n) 128 (b2 b) = nI (sb n 7 b) := put0 (j := 7)
theorem put0_o {n : Nat} {b : Bool} : f_X0_put (nI n) 2048 (b2 b) = nI (sb n 11 b) := put0 (j := 11)
theorem put1_c {n : Nat} {b : Bool} (hn : n < 4096) : f_X1_put (nI n) 1 (b2 b) = nI (sb n 0 b) := put1 (j := 0) hn (by decide)
theorem put1_p {n : Nat} {b : Bool} (hn : n < 4096) : f_X1_put (nI n) 4 (b2 b) = nI (sb n 2 b) := put1 (j := 2) hn (by decide)
theorem put1_h {n : Nat} {b : Bool} (hn : n < 4096) : f_X1_put (nI n) 16 (b2 b) = nI (sb n 4 b) := put1 (j := 4) hn (by decide)
theorem put1_z {n : Nat} {b : Bool} (hn : n < 4096) : f_X1_put (nI n) 64 (b2 b) = nI (sb n 6 b) := put1 (j := 6) hn (by decide)
theorem put1_s {n : Nat} {b : Bool} (hn : n < 4096) : f_X1_put (nI n) 128 (b2 b) = nI (sb n 7 b) := put1 (j := 7) hn (by decide)
theorem put1_o {n : Nat} {b : Bool} (hn : n < 4096) : f_X1_put (nI n) 2048 (b2 b) = nI (sb n 11 b) := put1 (j := 11) hn (by decide)
theorem is0_c {n : Nat} : f_X0_isSet (nI n) 1 = b2 (n.testBit 0) := is0 (j := 0) (by decide)
theorem is0_p {n : Nat} : f_X0_isSet (nI n) 4 = b2 (n.testBit 2) := is0 (j := 2) (by decide)
theorem is0_h {n : Nat} : f_X0_isSet (nI n) 16 = b2 (n.testBit 4) := is0 (j := 4) (by decide)
theorem is0_z {n : Nat} : f_X0_isSet (nI n) 64 = b2 (n.testBit 6) := is0 (j := 6) (by decide)
theorem is0_s {n : Nat} : f_X0_isSet (nI n) 128 = b2 (n.testBit 7) := is0 (j := 7) (by decide)
theorem is0_o {n : Nat} : f_X0_isSet (nI n) 2048 = b2 (n.testBit 11) := is0 (j := 11) (by decide)
theorem is1_c {n : Nat} (hn : n < 4096) : f_X1_is (nI n) 1 = b2 (n.testBit 0) := is1 (j := 0) hn (by decide)
theorem is1_p {n : Nat} (hn : n < 4096) : f_X1_is (nI n) 4 = b2 (n.testBit 2) := is1 (j := 2) hn (by decide)
theorem is1_h {n : Nat} (hn : n < 4096) : f_X1_is (nI n) 16 = b2 (n.testBit 4) := is1 (j := 4) hn (by decide)
theorem is1_z {n : Nat} (hn : n < 4096) : f_X1_is (nI n) 64 = b2 (n.testBit 6) := is1 (j := 6) hn (by decide)
theorem is1_s {n : Nat} (hn : n < 4096) : f_X1_is (nI n) 128 = b2 (n.testBit 7) := is1 (j := 7) hn (by decide)
theorem is1_o {n : Nat} (hn : n < 4096) : f_X1_is (nI n) 2048 = b2 (n.testBit 11) := is1 (j := 11) hn (by decide)
theorem I_half {a : Int} (h1 : 0 ≤ a) (h2 : a < 2147483648) : I a / 2 = I (a / 2) := I_divp (b := 2) h1 h2 (by decide) (by decide)
theorem I_jr2 {a : Int} (h1 : 0 ≤ a) (h2 : a < 2147483648) : jr (I a) 2 = I (a % 2) := I_jr (b := 2) h1 h2 (by decide) (by decide)
theorem I_jr16 {a : Int} (h1 : 0 ≤ a) (h2 : a < 2147483648) : jr (I a) 16 = I (a % 16) := I_jr (b := 16) h1 h2 (by decide) (by decide)
theorem I_eq0 {a : Int} (h1 : -2147483648 ≤ a) (h2 : a < 2147483648) : I a = 0 ↔ a = 0 := I_eq (b := 0) h1 h2 (by decide) (by decide)
theorem I_eq1 {a : Int} (h1 : -2147483648 ≤ a) (h2 : a < 2147483648) : I a = 1 ↔ a = 1 := I_eq (b := 1) h1 h2 (by decide) (by decide)
theorem I_le0 {a : Int} (h1 : -2147483648 ≤ a) (h2 : a < 2147483648) : 0 ≤ I a ↔ 0 ≤ a := I_le (a := 0) (by decide) (by decide) h1 h2
theorem I_m15 (x : Int32) : x &&& 15 = I (x.toInt % 16) := I_mask x 4 (by decide)
theorem I_m255 (x : Int32) : x &&& 255 = I (x.toInt % 256) := I_mask x 8 (by decide)
theorem I_m65535 (x : Int32) : x &&& 65535 = I (x.toInt % 65536) := I_mask x 16 (by decide)
/-- how many numbers an operand has -/
def AL (w : Int32) : Int := if w = 0 then 256 else 65536
theorem AL_or (w : Int32) : AL w = 256 ∨ AL w = 65536 := by
  unfold AL; split
  · exact Or.inl rfl
  · exact Or.inr rfl
theorem len_AL (w : Int32) : f_X1_length w = I (AL w) := by
  unfold f_X1_length AL; dsimp only; split <;> rfl
theorem mask_AL (w : Int32) : f_X0_mask w = I (AL w - 1) := by
  unfold f_X0_mask AL; dsimp only; split <;> rfl
theorem high_AL (w : Int32) : f_X0_highestBit w = I (AL w / 2) := by
  unfold f_X0_highestBit AL; dsimp only; split <;> rfl
theorem oper0 (w x : Int32) : f_X0_operand w x = I (x.toInt % AL w) := by
  unfold f_X0_operand f_X0_mask AL; dsimp only; split
  · exact I_m255 x
  · exact I_m65535 x
theorem oper1 (w x : Int32) : f_X1_operand (I (AL w)) x = I (x.toInt % AL w) := by
  unfold f_X1_operand AL; split
  · exact I_m255 x
  · exact I_m65535 x
/-- as a signed one -/
def sgn (A t : Int) : Int := (t + A / 2) % A - A / 2
theorem sv0 (w : Int32) {t : Int} (h1 : -2147483648 ≤ t) (h2 : t < 2147483648) : f_X0_signedValue w (I t) = I (sgn (AL w) t) := by
  unfold f_X0_signedValue AL sgn; dsimp only
  split
  · rw [← Int32.toInt_inj, Int8.toInt_toInt32, Int32.toInt_toInt8, I_toInt h1 h2, I_toInt (by omega) (by omega), Int.bmod_def]
    omega
  · rw [← Int32.toInt_inj, Int16.toInt_toInt32, Int32.toInt_toInt16, I_toInt h1 h2, I_toInt (by omega) (by omega), Int.bmod_def]
    omega
theorem sv1 {A a : Int} (hA : A = 256 ∨ A = 65536) (h1 : 0 ≤ a) (h2 : a < A) : f_X1_signed (I A) (I a) = I (sgn A a) := by
  unfold f_X1_signed sgn; dsimp only
  have hb : (if I a < I (A / 2) then I a else I a - I A) = I ((a + A / 2) % A - A / 2) := by
    rw [I_sub]
    by_cases h : a < A / 2
    · rw [if_pos ((I_lt (by omega) (by omega) (by omega) (by omega)).mpr h)]
      congr 1; rcases hA with rfl | rfl <;> omega
    · rw [if_neg (fun e => h ((I_lt (by omega) (by omega) (by omega) (by omega)).mp e))]
      congr 1; rcases hA with rfl | rfl <;> omega
  rw [I_half (by omega) (by omega), hb]
theorem hb0 (w : Int32) {r : Int} (h1 : 0 ≤ r) (h2 : r < AL w) : f_X0_hasHighestBit w (I r) = b2 (decide (AL w / 2 ≤ r)) := by
  obtain ⟨k, rfl⟩ := Int.eq_ofNat_of_zero_le h1
  unfold f_X0_hasHighestBit; dsimp only
  rw [I_nI, b2_iteN]
  congr 1
  rw [decide_eq_decide]
  by_cases hw : w = 0
  · have a1 : AL w = 256 := if_pos hw
    have a2 : f_X0_highestBit w = 128 := if_pos hw
    rw [a1] at h2 ⊢
    have e : nI k &&& 128 = 0 ↔ k.testBit 7 = false := fa_bit (j := 7) (by decide)
    rw [a2, e, tb_calc]
    simp only [decide_eq_false_iff_not, Nat.reducePow]
    omega
  · have a1 : AL w = 65536 := if_neg hw
    have a2 : f_X0_highestBit w = 32768 := if_neg hw
    rw [a1] at h2 ⊢
    have e : nI k &&& 32768 = 0 ↔ k.testBit 15 = false := fa_bit (j := 15) (by decide)
    rw [a2, e, tb_calc]
    simp only [decide_eq_false_iff_not, Nat.reducePow]
    omega
/-- is an even number of the lowest eight bits 1 -/
def par8 (r : Int) : Bool := decide ((r % 2 + r / 2 % 2 + r / 2 / 2 % 2 + r / 2 / 2 / 2 % 2 + r / 2 / 2 / 2 / 2 % 2 + r / 2 / 2 / 2 / 2 / 2 % 2 + r / 2 / 2 / 2 / 2 / 2 / 2 % 2 + r / 2 / 2 / 2 / 2 / 2 / 2 / 2 % 2) % 2 = 0)
/-- the flags by an answer -/
def mg (n : Nat) (A r : Int) : Nat := sb (sb (sb n 6 (decide (r = 0))) 7 (decide (A / 2 ≤ r))) 2 (par8 r)
theorem mg_lt {n : Nat} {A r : Int} (hn : n < 4096) : mg n A r < 4096 := sb_lt (sb_lt (sb_lt hn (by decide)) (by decide)) (by decide)
theorem cnt_tab : ∀ k : Fin 256, (jr (f_J6_bitCount_0f7a4 (nI k.val)) 2 = 0) ↔ par8 (k.val : Int) = true := by decide +kernel
theorem par8_mod {r : Int} (h1 : 0 ≤ r) : par8 (r % 256) = par8 r := by
  unfold par8
  have e0 : r % 256 % 2 = r % 2 := by omega
  have e1 : r % 256 / 2 % 2 = r / 2 % 2 := by omega
  have e2 : r % 256 / 2 / 2 % 2 = r / 2 / 2 % 2 := by omega
  have e3 : r % 256 / 2 / 2 / 2 % 2 = r / 2 / 2 / 2 % 2 := by omega
  have e4 : r % 256 / 2 / 2 / 2 / 2 % 2 = r / 2 / 2 / 2 / 2 % 2 := by omega
  have e5 : r % 256 / 2 / 2 / 2 / 2 / 2 % 2 = r / 2 / 2 / 2 / 2 / 2 % 2 := by omega
  have e6 : r % 256 / 2 / 2 / 2 / 2 / 2 / 2 % 2 = r / 2 / 2 / 2 / 2 / 2 / 2 % 2 := by omega
  have e7 : r % 256 / 2 / 2 / 2 / 2 / 2 / 2 / 2 % 2 = r / 2 / 2 / 2 / 2 / 2 / 2 / 2 % 2 := by omega
  rw [e0, e1, e2, e3, e4, e5, e6, e7]
theorem by0 (w : Int32) {n : Nat} {r : Int} (h1 : 0 ≤ r) (h2 : r < AL w) : f_X0_goByAnswer (nI n) w (I r) = nI (mg n (AL w) r) := by
  have hA := AL_or w
  unfold f_X0_goByAnswer mg; dsimp only
  have hz : (if I r = 0 then (1 : Int32) else 0) = b2 (decide (r = 0)) := by
    rw [b2_ite]; congr 1; rw [decide_eq_decide]; exact I_eq0 (by omega) (by omega)
  have hp : (if jr (f_J6_bitCount_0f7a4 (I r &&& 255)) 2 = 0 then (1 : Int32) else 0) = b2 (par8 r) := by
    rw [b2_ite]; congr 1
    rw [I_m255, I_toInt (by omega) (by omega), ← par8_mod h1]
    have hk : 0 ≤ r % 256 := by omega
    obtain ⟨k, hk⟩ := Int.eq_ofNat_of_zero_le hk
    rw [hk, I_nI]
    have := cnt_tab ⟨k, by omega⟩
    cases hb : par8 (k : Int)
    · exact decide_eq_false (fun e => by rw [hb] at this; exact absurd (this.mp e) (by decide))
    · exact decide_eq_true (this.mpr hb)
  rw [hz, hp, put0_z, hb0 w h1 h2, put0_s, put0_p]
theorem by1 {A : Int} (hA : A = 256 ∨ A = 65536) {n : Nat} (hn : n < 4096) {r : Int} (h1 : 0 ≤ r) (h2 : r < A) : f_X1_byAnswer (nI n) (I A) (I r) = nI (mg n A r) := by
  unfold f_X1_byAnswer mg; dsimp only
  have hz : (if I r = 0 then (1 : Int32) else 0) = b2 (decide (r = 0)) := by
    rw [b2_ite]; congr 1; rw [decide_eq_decide]; exact I_eq0 (by omega) (by omega)
  have hs : (if I r < I A / 2 then (0 : Int32) else 1) = b2 (decide (A / 2 ≤ r)) := by
    rw [b2_iteN]; congr 1; rw [decide_eq_decide, I_half (by omega) (by omega), I_lt (by omega) (by omega) (by omega) (by omega)]; omega
  have d0 : jr (I r) 2 = I (r % 2) := I_jr2 (by omega) (by omega)
  have c1 : I r / 2 = I (r / 2) := I_half (by omega) (by omega)
  have d1 : jr (I (r / 2)) 2 = I (r / 2 % 2) := I_jr2 (by omega) (by omega)
  have c2 : I (r / 2) / 2 = I (r / 2 / 2) := I_half (by omega) (by omega)
  have d2 : jr (I (r / 2 / 2)) 2 = I (r / 2 / 2 % 2) := I_jr2 (by omega) (by omega)
  have c3 : I (r / 2 / 2) / 2 = I (r / 2 / 2 / 2) := I_half (by omega) (by omega)
  have d3 : jr (I (r / 2 / 2 / 2)) 2 = I (r / 2 / 2 / 2 % 2) := I_jr2 (by omega) (by omega)
  have c4 : I (r / 2 / 2 / 2) / 2 = I (r / 2 / 2 / 2 / 2) := I_half (by omega) (by omega)
  have d4 : jr (I (r / 2 / 2 / 2 / 2)) 2 = I (r / 2 / 2 / 2 / 2 % 2) := I_jr2 (by omega) (by omega)
  have c5 : I (r / 2 / 2 / 2 / 2) / 2 = I (r / 2 / 2 / 2 / 2 / 2) := I_half (by omega) (by omega)
  have d5 : jr (I (r / 2 / 2 / 2 / 2 / 2)) 2 = I (r / 2 / 2 / 2 / 2 / 2 % 2) := I_jr2 (by omega) (by omega)
  have c6 : I (r / 2 / 2 / 2 / 2 / 2) / 2 = I (r / 2 / 2 / 2 / 2 / 2 / 2) := I_half (by omega) (by omega)
  have d6 : jr (I (r / 2 / 2 / 2 / 2 / 2 / 2)) 2 = I (r / 2 / 2 / 2 / 2 / 2 / 2 % 2) := I_jr2 (by omega) (by omega)
  have c7 : I (r / 2 / 2 / 2 / 2 / 2 / 2) / 2 = I (r / 2 / 2 / 2 / 2 / 2 / 2 / 2) := I_half (by omega) (by omega)
  have d7 : jr (I (r / 2 / 2 / 2 / 2 / 2 / 2 / 2)) 2 = I (r / 2 / 2 / 2 / 2 / 2 / 2 / 2 % 2) := I_jr2 (by omega) (by omega)
  rw [hz, hs, put1_z hn, put1_s (sb_lt hn (by decide)), c1, c2, c3, c4, c5, c6, c7, d0, d1, d2, d3, d4, d5, d6, d7, Int32.zero_add]
  simp only [I_add]
  have hp : (if jr (I (r % 2 + r / 2 % 2 + r / 2 / 2 % 2 + r / 2 / 2 / 2 % 2 + r / 2 / 2 / 2 / 2 % 2 + r / 2 / 2 / 2 / 2 / 2 % 2 + r / 2 / 2 / 2 / 2 / 2 / 2 % 2 + r / 2 / 2 / 2 / 2 / 2 / 2 / 2 % 2)) 2 = 0 then (1 : Int32) else 0) = b2 (par8 r) := by
    rw [b2_ite]; unfold par8; congr 1; rw [decide_eq_decide]
    generalize hx : r % 2 + r / 2 % 2 + r / 2 / 2 % 2 + r / 2 / 2 / 2 % 2 + r / 2 / 2 / 2 / 2 % 2 + r / 2 / 2 / 2 / 2 / 2 % 2 + r / 2 / 2 / 2 / 2 / 2 / 2 % 2 + r / 2 / 2 / 2 / 2 / 2 / 2 / 2 % 2 = x
    have hx1 : 0 ≤ x ∧ x ≤ 8 := by
      have := Int.emod_two_eq r; have := Int.emod_two_eq (r / 2); have := Int.emod_two_eq (r / 2 / 2); have := Int.emod_two_eq (r / 2 / 2 / 2)
      have := Int.emod_two_eq (r / 2 / 2 / 2 / 2); have := Int.emod_two_eq (r / 2 / 2 / 2 / 2 / 2); have := Int.emod_two_eq (r / 2 / 2 / 2 / 2 / 2 / 2); have := Int.emod_two_eq (r / 2 / 2 / 2 / 2 / 2 / 2 / 2)
      omega
    rw [I_jr2 (by omega) (by omega)]
    exact I_eq0 (by omega) (by omega)
  rw [hp, put1_p (sb_lt (sb_lt hn (by decide)) (by decide))]
