/-! THE PURE PART, 5: shifts -/
theorem fa_or_sum {a k : Nat} (b : Nat) (h : a < 2 ^ k) : nI (2 ^ k * b) ||| nI a = nI (2 ^ k * b + a) := by rw [fa_or, Nat.two_pow_add_eq_or_of_lt h]
theorem tb_mg {n i : Nat} {A r : Int} (hn : n < 4096) : (mg n A r).testBit i = if i = 2 then par8 r else if i = 7 then decide (A / 2 ≤ r) else if i = 6 then decide (r = 0) else n.testBit i := by
  unfold mg
  rw [tb_sb (sb_lt (sb_lt hn (by decide)) (by decide)) (by decide), tb_sb (sb_lt hn (by decide)) (by decide), tb_sb hn (by decide)]
theorem mg_absorb {n : Nat} {A a r : Int} {b c : Bool} (hn : n < 4096) : mg (sb (sb (mg n A a) 0 b) 11 c) A r = mg (sb (sb n 0 b) 11 c) A r := sb_ext fun i => by
  rw [tb_mg (sb_lt (sb_lt (mg_lt hn) (by decide)) (by decide)), tb_mg (sb_lt (sb_lt hn (by decide)) (by decide)), tb_sb (sb_lt (mg_lt hn) (by decide)) (by decide), tb_sb (mg_lt hn) (by decide), tb_mg hn, tb_sb (sb_lt hn (by decide)) (by decide), tb_sb hn (by decide)]
  by_cases h2 : i = 2
  · rw [if_pos h2, if_pos h2]
  · rw [if_neg h2, if_neg h2, if_neg h2]
    by_cases h7 : i = 7
    · rw [if_pos h7, if_pos h7]
    · rw [if_neg h7, if_neg h7, if_neg h7]
      by_cases h6 : i = 6
      · rw [if_pos h6, if_pos h6]
      · rw [if_neg h6, if_neg h6, if_neg h6]
/-- one bit to the left, inn comes in; one to the right -/
def lans (A a : Int) (inn : Bool) : Int := (2 * a) % A + (if inn = true then 1 else 0)
def rans (A a : Int) (inn : Bool) : Int := a / 2 + (if inn = true then A / 2 else 0)
def lfl (n : Nat) (A a : Int) (inn : Bool) : Nat := sb (sb n 0 (decide (A / 2 ≤ a))) 11 (decide (A / 2 ≤ a) != decide (A / 2 ≤ lans A a inn))
def rfl_ (n : Nat) (A a : Int) (inn : Bool) : Nat := sb (sb n 0 (decide (a % 2 = 1))) 11 (inn != decide (A / 2 ≤ a))
theorem lans_in {A a : Int} {inn : Bool} (hA : A = 256 ∨ A = 65536) : 0 ≤ lans A a inn ∧ lans A a inn < A := by
  unfold lans; cases inn <;> rcases hA with h | h <;> subst h <;> simp <;> omega
theorem rans_in {A a : Int} {inn : Bool} (hA : A = 256 ∨ A = 65536) (h1 : 0 ≤ a) (h2 : a < A) : 0 ≤ rans A a inn ∧ rans A a inn < A := by
  unfold rans; cases inn <;> rcases hA with h | h <;> subst h <;> simp <;> omega
theorem b2_ne (a b : Bool) : (if b2 a = b2 b then (0 : Int32) else 1) = b2 (a != b) := by cases a <;> cases b <;> decide
theorem b2_b2 (a : Bool) : (if b2 a = 0 then (0 : Int32) else 1) = b2 a := by cases a <;> decide
theorem shl1 {a : Int} (h1 : 0 ≤ a) (h2 : a < 65536) : I a <<< ((1 : Int32) &&& 31) = I (2 * a) := by
  obtain ⟨k, rfl⟩ := Int.eq_ofNat_of_zero_le h1
  rw [I_nI, pk_shlN (n := k) ((1 : Int32) &&& 31) 1 (by decide) (by omega), ← I_nI]
  congr 1; omega
theorem shr1 {a : Int} (h1 : 0 ≤ a) (h2 : a < 65536) : I a >>> ((1 : Int32) &&& 31) = I (a / 2) := by
  obtain ⟨k, rfl⟩ := Int.eq_ofNat_of_zero_le h1
  rw [I_nI, pk_shrN (n := k) (by omega) ((1 : Int32) &&& 31) 1 (by decide), ← I_nI]
  congr 1
theorem left0 (w s : Int32) {n : Nat} {a : Int} (ha : 0 ≤ a) (ha2 : a < AL w) (inn : Bool)
    (h : (if s = 0 then (if b2 (decide (AL w / 2 ≤ a)) = 0 then (if s = 2 then (if b2 (n.testBit 0) = 0 then (0 : Int32) else 1) else 0) else 1) else (if s = 2 then (if b2 (n.testBit 0) = 0 then 0 else 1) else 0)) = b2 inn) :
    f_X0_leftByOne (nI n) s w (I a) = (I (lans (AL w) a inn), nI (lfl n (AL w) a inn)) := by
  have hA := AL_or w
  have hl := lans_in (a := a) (inn := inn) hA
  have e : f_X0_operand w (I a <<< ((1 : Int32) &&& 31)) ||| b2 inn = I (lans (AL w) a inn) := by
    rw [shl1 ha (by omega), oper0, I_toInt (by omega) (by omega)]
    unfold lans
    have hx : 0 ≤ (2 * a) % AL w / 2 := by rcases hA with h | h <;> rw [h] <;> omega
    obtain ⟨k, hk⟩ := Int.eq_ofNat_of_zero_le hx
    have hk2 : (2 * a) % AL w = ((2 ^ 1 * k : Nat) : Int) := by rcases hA with h | h <;> rw [h] at hk ⊢ <;> omega
    rw [hk2, I_nI]
    cases inn
    · rw [show b2 false = nI 0 from rfl, fa_or_sum k (by decide), ← I_nI]; rfl
    · rw [show b2 true = nI 1 from rfl, fa_or_sum k (by decide), ← I_nI]; rfl
  unfold f_X0_leftByOne lfl; dsimp only
  rw [hb0 w ha ha2, is0_c, h, b2_b2, e, hb0 w hl.1 hl.2, b2_ne, put0_c, put0_o]
theorem right0 (w s : Int32) {n : Nat} {a : Int} (ha : 0 ≤ a) (ha2 : a < AL w) (inn : Bool)
    (h : f_X0_comesInFromLeft (nI n) s (b2 (decide (a % 2 = 1))) (b2 (decide (AL w / 2 ≤ a))) = b2 inn) :
    f_X0_rightByOne (nI n) s w (I a) = (I (rans (AL w) a inn), nI (rfl_ n (AL w) a inn)) := by
  have hA := AL_or w
  have e : (I a >>> ((1 : Int32) &&& 31)) ||| (if b2 inn = 0 then 0 else f_X0_highestBit w) = I (rans (AL w) a inn) := by
    rw [shr1 ha (by omega), high_AL]
    unfold rans
    have hx : 0 ≤ a / 2 := by omega
    obtain ⟨k, hk⟩ := Int.eq_ofNat_of_zero_le hx
    rw [hk, I_nI]
    cases inn
    · rw [if_pos (by decide), if_neg (by decide), show (0 : Int32) = nI 0 from rfl, fa_or, Nat.or_zero, Int.add_zero, I_nI]
    · rw [if_neg (by decide), if_pos rfl, Int32.or_comm]
      rcases hA with h | h
      · rw [h] at ha2 ⊢
        have := fa_or_sum (a := k) (k := 7) 1 (by omega)
        rw [show I (256 / 2) = nI (2 ^ 7 * 1) from rfl, this, ← I_nI]; congr 1; omega
      · rw [h] at ha2 ⊢
        have := fa_or_sum (a := k) (k := 15) 1 (by omega)
        rw [show I (65536 / 2) = nI (2 ^ 15 * 1) from rfl, this, ← I_nI]; congr 1; omega
  have h1 : (if (I a &&& 1) = 0 then (0 : Int32) else 1) = b2 (decide (a % 2 = 1)) := by
    have hm : I a &&& 1 = I (a % 2) := by
      have := I_mask (I a) 1 (by decide)
      rw [I_toInt (by omega) (by omega)] at this
      exact this
    rw [hm, b2_iteN]; congr 1; rw [decide_eq_decide, I_eq0 (by omega) (by omega)]; omega
  unfold f_X0_rightByOne rfl_; dsimp only
  rw [h1, hb0 w ha ha2, h, e, b2_ne, put0_c, put0_o]
/-- the reference's step: the answer r, the bit that goes out, OVERFLOW -/
theorem once1 {A : Int} (hA : A = 256 ∨ A = 65536) {n : Nat} (hn : n < 4096) {a : Int} (ha : 0 ≤ a) (ha2 : a < A) (s : Int32) (inn left : Bool)
    (hl : (if jr s 2 = 0 then (1 : Int32) else 0) = b2 left)
    (h : (if s = 0 then b2 (decide (A / 2 ≤ a)) else (if s = 1 then b2 (decide (a % 2 = 1)) else (if 4 ≤ s then (if s = 7 then (if b2 (decide (A / 2 ≤ a)) = 0 then 0 else 1) else 0) else b2 (n.testBit 0)))) = b2 inn)
    (hr : left = false → (if 4 ≤ s then (if s = 5 then (if b2 (decide (A / 2 ≤ a)) = 0 then (0 : Int32) else 1) else 0) else b2 (inn != decide (A / 2 ≤ a))) = b2 (inn != decide (A / 2 ≤ a))) :
    f_X1_once (nI n) (I A) s (I a) = if s ≤ 3 then (I (if left = true then lans A a inn else rans A a inn), nI (if left = true then lfl n A a inn else rfl_ n A a inn)) else (I (if left = true then lans A a inn else rans A a inn), nI (mg (if left = true then lfl n A a inn else rfl_ n A a inn) A (if left = true then lans A a inn else rans A a inn))) := by
  have hb : (if I a < I A / 2 then (0 : Int32) else 1) = b2 (decide (A / 2 ≤ a)) := by
    rw [b2_iteN]; congr 1; rw [decide_eq_decide, I_half (by omega) (by omega), I_lt (by omega) (by omega) (by omega) (by omega)]; omega
  have hlo : (if jr (I a) 2 = 1 then (1 : Int32) else 0) = b2 (decide (a % 2 = 1)) := by
    rw [b2_ite]; congr 1; rw [decide_eq_decide, I_jr2 ha (by omega), I_eq1 (by omega) (by omega)]
  have hln := lans_in (a := a) (inn := inn) hA
  have hrn := rans_in (a := a) (inn := inn) hA ha ha2
  have hr14 : (if b2 left = 0 then (if b2 inn = 0 then ((I a / 2) + 0) else ((I a / 2) + (I A / 2))) else (if b2 inn = 0 then ((jr (2 * I a) (I A)) + 0) else ((jr (2 * I a) (I A)) + 1))) = I (if left = true then lans A a inn else rans A a inn) := by
    rw [show (2 : Int32) * I a = I (2 * a) from I_mul 2 a, I_jr (by omega) (by omega) (by omega) (by omega), I_half ha (by omega), I_half (a := A) (by omega) (by omega), Int32.add_zero, Int32.add_zero, I_add, show I (2 * a % A) + 1 = I (2 * a % A + 1) from I_add _ 1]
    unfold lans rans
    cases left <;> cases inn <;> simp [b2]
  have hin : 0 ≤ (if left = true then lans A a inn else rans A a inn) ∧ (if left = true then lans A a inn else rans A a inn) < A := by cases left <;> simp <;> omega
  unfold f_X1_once; dsimp only
  rw [hl, hb, hlo, is1_c hn, h, hr14]
  have h18 : (if b2 left = 0 then b2 (decide (a % 2 = 1)) else b2 (decide (A / 2 ≤ a))) = b2 (if left = true then decide (A / 2 ≤ a) else decide (a % 2 = 1)) := by cases left <;> rfl
  rw [h18, put1_c hn, is1_c (sb_lt hn (by decide))]
  generalize hR : (if left = true then lans A a inn else rans A a inn) = R at hin ⊢
  have hnow : (if I R < I A / 2 then (0 : Int32) else 1) = b2 (decide (A / 2 ≤ R)) := by
    rw [b2_iteN]; congr 1; rw [decide_eq_decide, I_half (by omega) (by omega), I_lt (by omega) (by omega) (by omega) (by omega)]; omega
  have hnext : (if jr (I R) (I A / 2) < I A / 4 then (0 : Int32) else 1) = b2 (decide (A / 4 ≤ R % (A / 2))) := by
    have hm : 0 ≤ R % (A / 2) ∧ R % (A / 2) < A := by rcases hA with h | h <;> subst h <;> omega
    have q4 : I A / 4 = I (A / 4) := I_divp (b := 4) (by omega) (by omega) (by decide) (by decide)
    rw [b2_iteN]; congr 1
    rw [decide_eq_decide, q4, I_half (a := A) (by omega) (by omega), I_jr (by omega) (by omega) (by omega) (by omega), I_lt (by omega) (by omega) (by omega) (by omega)]; omega
  rw [hnow, hnext, b2_ne, b2_ne]
  have hov : (if b2 left = 0 then (if 4 ≤ s then (if s = 5 then (if b2 (decide (A / 2 ≤ a)) = 0 then (0 : Int32) else 1) else 0) else b2 (decide (A / 2 ≤ R) != decide (A / 4 ≤ R % (A / 2)))) else b2 ((sb n 0 (if left = true then decide (A / 2 ≤ a) else decide (a % 2 = 1))).testBit 0 != decide (A / 2 ≤ R))) = b2 (if left = true then decide (A / 2 ≤ a) != decide (A / 2 ≤ R) else (inn != decide (A / 2 ≤ a))) := by
    cases left
    · rw [if_pos (by decide)]
      have hR2 : R = rans A a inn := hR.symm
      have e1 : decide (A / 2 ≤ R) = inn := by
        rw [hR2]; unfold rans
        cases inn
        · exact decide_eq_false (by simp; omega)
        · exact decide_eq_true (by simp; omega)
      have e2 : decide (A / 4 ≤ R % (A / 2)) = decide (A / 2 ≤ a) := by
        rw [decide_eq_decide, hR2]; unfold rans
        cases inn <;> rcases hA with h | h <;> subst h <;> simp <;> omega
      rw [e1, e2]
      exact hr rfl
    · rw [if_neg (by decide), tb_sb hn (by decide), if_pos rfl]; rfl
  rw [hov, put1_o (sb_lt hn (by decide))]
  have hF : sb (sb n 0 (if left = true then decide (A / 2 ≤ a) else decide (a % 2 = 1))) 11 (if left = true then decide (A / 2 ≤ a) != decide (A / 2 ≤ R) else (inn != decide (A / 2 ≤ a))) = (if left = true then lfl n A a inn else rfl_ n A a inn) := by
    cases left
    · rfl
    · unfold lfl; rw [← hR]; rfl
  rw [hF, by1 hA (by cases left <;> exact sb_lt (sb_lt hn (by decide)) (by decide)) hin.1 hin.2]
