/-! THE PURE PART, 2: sums, differences, logic -/
/-- a sum, the flags behind it -/
def msum (n : Nat) (A a b c : Int) : Nat := mg (sb (sb (sb n 0 (decide (A ≤ a + b + c))) 4 (decide (16 ≤ a % 16 + b % 16 + c))) 11 (decide (¬ sgn A a + sgn A b + c = sgn A (sgn A a + sgn A b + c)))) A ((a + b + c) % A)
def mdif (n : Nat) (A a b c : Int) : Nat := mg (sb (sb (sb n 0 (decide (a - b - c < 0))) 4 (decide (a % 16 - b % 16 - c < 0))) 11 (decide (¬ sgn A a - sgn A b - c = sgn A (sgn A a - sgn A b - c)))) A ((a - b - c) % A)
theorem I_m15' {a : Int} (h1 : 0 ≤ a) (h2 : a < 2147483648) : I a &&& 15 = I (a % 16) := by rw [I_m15, I_toInt (by omega) h2]
theorem kept0 (w : Int32) {n : Nat} {t : Int} (h1 : -2147483648 ≤ t) (h2 : t < 2147483648) : f_X0_kept (nI n) w (I t) = (I (t % AL w), nI (mg n (AL w) (t % AL w))) := by
  have hA := AL_or w
  unfold f_X0_kept; dsimp only
  rw [oper0, I_toInt h1 h2, by0 w (Int.emod_nonneg _ (by omega)) (Int.emod_lt_of_pos _ (by omega))]
theorem over0 (w : Int32) {n : Nat} {t : Int} (h1 : -262144 ≤ t) (h2 : t < 262144) : f_X0_putOverflow (nI n) w (I t) = nI (sb n 11 (decide (¬ t = sgn (AL w) t))) := by
  have hA := AL_or w
  unfold f_X0_putOverflow; dsimp only
  have hs : -262144 ≤ sgn (AL w) t ∧ sgn (AL w) t < 262144 := by unfold sgn; rcases hA with h | h <;> rw [h] <;> omega
  rw [sv0 w (by omega) (by omega), b2_iteN, put0_o]
  congr 3
  rw [I_eq (by omega) (by omega) (by omega) (by omega)]
theorem sgn_in {A a : Int} (hA : A = 256 ∨ A = 65536) : -(A / 2) ≤ sgn A a ∧ sgn A a < A / 2 := by unfold sgn; rcases hA with h | h <;> subst h <;> omega
theorem sum0 (w : Int32) {n : Nat} {a b c : Int} (ha : 0 ≤ a) (ha2 : a < AL w) (hb : 0 ≤ b) (hb2 : b < AL w) (hc : 0 ≤ c) (hc2 : c ≤ 1) : f_X0_sum (nI n) w (I a) (I b) (I c) = (I ((a + b + c) % AL w), nI (msum n (AL w) a b c)) := by
  have hA := AL_or w
  have s1 := sgn_in (a := a) hA
  have s2 := sgn_in (a := b) hA
  unfold f_X0_sum msum; dsimp only
  rw [sv0 w (by omega) (by omega), sv0 w (by omega) (by omega), I_m15' ha (by omega), I_m15' hb (by omega), mask_AL]
  simp only [I_add]
  have q1 : (if I (a + b + c) ≤ I (AL w - 1) then (0 : Int32) else 1) = b2 (decide (AL w ≤ a + b + c)) := by
    rw [b2_iteN]; congr 1; rw [decide_eq_decide, I_le (by omega) (by omega) (by omega) (by omega)]; omega
  have q2 : (if I (a % 16 + b % 16 + c) ≤ 15 then (0 : Int32) else 1) = b2 (decide (16 ≤ a % 16 + b % 16 + c)) := by
    rw [b2_iteN]; congr 1
    rw [decide_eq_decide, show I (a % 16 + b % 16 + c) ≤ 15 ↔ a % 16 + b % 16 + c ≤ 15 from I_le (b := 15) (by omega) (by omega) (by decide) (by decide)]; omega
  rw [q1, q2, put0_c, put0_h, over0 w (by omega) (by omega), kept0 w (by omega) (by omega)]
theorem dif0 (w : Int32) {n : Nat} {a b c : Int} (ha : 0 ≤ a) (ha2 : a < AL w) (hb : 0 ≤ b) (hb2 : b < AL w) (hc : 0 ≤ c) (hc2 : c ≤ 1) : f_X0_difference (nI n) w (I a) (I b) (I c) = (I ((a - b - c) % AL w), nI (mdif n (AL w) a b c)) := by
  have hA := AL_or w
  have s1 := sgn_in (a := a) hA
  have s2 := sgn_in (a := b) hA
  unfold f_X0_difference mdif; dsimp only
  rw [sv0 w (by omega) (by omega), sv0 w (by omega) (by omega), I_m15' ha (by omega), I_m15' hb (by omega)]
  simp only [I_sub]
  have q1 : (if 0 ≤ I (a - b - c) then (0 : Int32) else 1) = b2 (decide (a - b - c < 0)) := by
    rw [b2_iteN]; congr 1; rw [decide_eq_decide, I_le0 (by omega) (by omega)]; omega
  have q2 : (if 0 ≤ I (a % 16 - b % 16 - c) then (0 : Int32) else 1) = b2 (decide (a % 16 - b % 16 - c < 0)) := by
    rw [b2_iteN]; congr 1; rw [decide_eq_decide, I_le0 (by omega) (by omega)]; omega
  rw [q1, q2, put0_c, put0_h, over0 w (by omega) (by omega), kept0 w (by omega) (by omega)]
theorem over1 {A t : Int} (hA : A = 256 ∨ A = 65536) (h1 : -262144 ≤ t) (h2 : t < 262144) : (if I A / 2 ≤ I t then (1 : Int32) else (if (-I A) / 2 ≤ I t then 0 else 1)) = b2 (decide (¬ t = sgn A t)) := by
  have e : (-I A) / 2 = I (-(A / 2)) := by
    rw [I_neg, show (2 : Int32) = I 2 from rfl, I_div (by omega) (by omega) (by decide) (by decide)]
    rcases hA with h | h <;> subst h <;> rfl
  rw [I_half (by omega) (by omega), e]
  have d : (t = sgn A t) ↔ (-(A / 2) ≤ t ∧ t < A / 2) := by unfold sgn; rcases hA with h | h <;> subst h <;> omega
  by_cases h3 : A / 2 ≤ t
  · rw [if_pos ((I_le (by omega) (by omega) (by omega) (by omega)).mpr h3), decide_eq_true (by rw [d]; omega)]; rfl
  · rw [if_neg (fun q => h3 ((I_le (by omega) (by omega) (by omega) (by omega)).mp q))]
    by_cases h4 : -(A / 2) ≤ t
    · rw [if_pos ((I_le (by omega) (by omega) (by omega) (by omega)).mpr h4), decide_eq_false (by rw [d]; omega)]; rfl
    · rw [if_neg (fun q => h4 ((I_le (by omega) (by omega) (by omega) (by omega)).mp q)), decide_eq_true (by rw [d]; omega)]; rfl
theorem sum1 {A : Int} (hA : A = 256 ∨ A = 65536) {n : Nat} (hn : n < 4096) {a b c : Int} (ha : 0 ≤ a) (ha2 : a < A) (hb : 0 ≤ b) (hb2 : b < A) (hc : 0 ≤ c) (hc2 : c ≤ 1) : f_X1_sum (nI n) (I A) (I a) (I b) (I c) = (I ((a + b + c) % A), nI (msum n A a b c)) := by
  have s1 := sgn_in (a := a) hA
  have s2 := sgn_in (a := b) hA
  unfold f_X1_sum msum; dsimp only
  rw [sv1 hA ha ha2, sv1 hA hb hb2, I_jr16 ha (by omega), I_jr16 hb (by omega)]
  simp only [I_add]
  rw [I_jr (by omega) (by omega) (by omega) (by omega)]
  have q1 : (if I (a + b + c) < I A then (0 : Int32) else 1) = b2 (decide (A ≤ a + b + c)) := by
    rw [b2_iteN]; congr 1; rw [decide_eq_decide, I_lt (by omega) (by omega) (by omega) (by omega)]; omega
  have q2 : (if I (a % 16 + b % 16 + c) < 16 then (0 : Int32) else 1) = b2 (decide (16 ≤ a % 16 + b % 16 + c)) := by
    rw [b2_iteN]; congr 1
    rw [decide_eq_decide, show I (a % 16 + b % 16 + c) < 16 ↔ a % 16 + b % 16 + c < 16 from I_lt (b := 16) (by omega) (by omega) (by decide) (by decide)]; omega
  rw [q1, q2, over1 hA (by omega) (by omega), put1_c hn, put1_h (sb_lt hn (by decide)), put1_o (sb_lt (sb_lt hn (by decide)) (by decide)),
    by1 hA (sb_lt (sb_lt (sb_lt hn (by decide)) (by decide)) (by decide)) (Int.emod_nonneg _ (by omega)) (Int.emod_lt_of_pos _ (by omega))]
theorem dif1 {A : Int} (hA : A = 256 ∨ A = 65536) {n : Nat} (hn : n < 4096) {a b c : Int} (ha : 0 ≤ a) (ha2 : a < A) (hb : 0 ≤ b) (hb2 : b < A) (hc : 0 ≤ c) (hc2 : c ≤ 1) : f_X1_difference (nI n) (I A) (I a) (I b) (I c) = (I ((a - b - c) % A), nI (mdif n A a b c)) := by
  have s1 := sgn_in (a := a) hA
  have s2 := sgn_in (a := b) hA
  unfold f_X1_difference mdif; dsimp only
  rw [sv1 hA ha ha2, sv1 hA hb hb2, I_jr16 ha (by omega), I_jr16 hb (by omega)]
  simp only [I_sub]
  have q1 : (if 0 ≤ I (a - b - c) then (0 : Int32) else 1) = b2 (decide (a - b - c < 0)) := by
    rw [b2_iteN]; congr 1; rw [decide_eq_decide, I_le0 (by omega) (by omega)]; omega
  have q2 : (if 0 ≤ I (a % 16 - b % 16 - c) then (0 : Int32) else 1) = b2 (decide (a % 16 - b % 16 - c < 0)) := by
    rw [b2_iteN]; congr 1; rw [decide_eq_decide, I_le0 (by omega) (by omega)]; omega
  have q3 : (if 0 ≤ I (a - b - c) then I (a - b - c) else I (a - b - c) + I A) = I ((a - b - c) % A) := by
    rw [I_add]
    by_cases h : 0 ≤ a - b - c
    · rw [if_pos ((I_le0 (by omega) (by omega)).mpr h)]; congr 1; rcases hA with h | h <;> subst h <;> omega
    · rw [if_neg (fun q => h ((I_le0 (by omega) (by omega)).mp q))]; congr 1; rcases hA with h | h <;> subst h <;> omega
  rw [q3, q1, q2, over1 hA (by omega) (by omega), put1_c hn, put1_h (sb_lt hn (by decide)), put1_o (sb_lt (sb_lt hn (by decide)) (by decide)),
    by1 hA (sb_lt (sb_lt (sb_lt hn (by decide)) (by decide)) (by decide)) (Int.emod_nonneg _ (by omega)) (Int.emod_lt_of_pos _ (by omega))]
