/-! THE PURE PART, 8: products, quotients -/
def J (z : Int) : Int64 := Int64.ofInt z
theorem J_add (a b : Int) : J a + J b = J (a + b) := (Int64.ofInt_add a b).symm
theorem J_sub (a b : Int) : J a - J b = J (a - b) := (Int64.ofInt_sub a b).symm
theorem J_mul (a b : Int) : J a * J b = J (a * b) := (Int64.ofInt_mul a b).symm
theorem J_to (x : Int64) : J x.toInt = x := Int64.ofInt_toInt x
theorem J_toInt {a : Int} (h1 : -9223372036854775808 ≤ a) (h2 : a < 9223372036854775808) : (J a).toInt = a := Int64.toInt_ofInt_of_le h1 h2
theorem J_le {a b : Int} (h1 : -9223372036854775808 ≤ a) (h2 : a < 9223372036854775808) (h3 : -9223372036854775808 ≤ b) (h4 : b < 9223372036854775808) : J a ≤ J b ↔ a ≤ b := by
  rw [Int64.le_iff_toInt_le, J_toInt h1 h2, J_toInt h3 h4]
theorem J_lt {a b : Int} (h1 : -9223372036854775808 ≤ a) (h2 : a < 9223372036854775808) (h3 : -9223372036854775808 ≤ b) (h4 : b < 9223372036854775808) : J a < J b ↔ a < b := by
  rw [Int64.lt_iff_toInt_lt, J_toInt h1 h2, J_toInt h3 h4]
theorem J_eq {a b : Int} (h1 : -9223372036854775808 ≤ a) (h2 : a < 9223372036854775808) (h3 : -9223372036854775808 ≤ b) (h4 : b < 9223372036854775808) : J a = J b ↔ a = b := by
  rw [← Int64.toInt_inj, J_toInt h1 h2, J_toInt h3 h4]
theorem J_I (a : Int) : (J a).toInt32 = I a := Int64.toInt32_ofInt
theorem I_J {a : Int} (h1 : -2147483648 ≤ a) (h2 : a < 2147483648) : (I a).toInt64 = J a := by
  rw [← Int64.toInt_inj, Int32.toInt_toInt64, I_toInt h1 h2, J_toInt (by omega) (by omega)]
theorem J_div {a b : Int} (h1 : -4294967296 ≤ a) (h2 : a ≤ 4294967296) (h3 : -4294967296 ≤ b) (h4 : b ≤ 4294967296) : J a / J b = J (a.tdiv b) := by
  rw [← Int64.toInt_inj, Int64.toInt_div, J_toInt (by omega) (by omega), J_toInt (by omega) (by omega)]
  have : (J (a.tdiv b)).toInt = (a.tdiv b).bmod (2 ^ 64) := Int64.toInt_ofInt
  exact this.symm
theorem J_jr {a b : Int} (h1 : -4294967296 ≤ a) (h2 : a ≤ 4294967296) (h3 : -4294967296 ≤ b) (h4 : b ≤ 4294967296) : jrL (J a) (J b) = J (a.tmod b) := by
  unfold jrL
  rw [J_div h1 h2 h3 h4, J_mul, J_sub, Int.mul_comm, Int.tmod_def]
/-- the value of an operand, of a number twice as long -/
def val (A : Int) (sg : Int32) (x : Int) : Int := if sg = 0 then x % A else sgn A x
theorem sgn_mod {A x : Int} (hA : A = 256 ∨ A = 65536) : sgn A (x % A) = sgn A x := by unfold sgn; rcases hA with h | h <;> subst h <;> omega
theorem val_in {A x : Int} {sg : Int32} (hA : A = 256 ∨ A = 65536) : -65536 < val A sg x ∧ val A sg x < 65536 ∧ (sg = 0 → 0 ≤ val A sg x ∧ val A sg x < A) ∧ (¬ sg = 0 → -(A / 2) ≤ val A sg x ∧ val A sg x < A / 2) := by
  unfold val sgn
  by_cases h : sg = 0
  · rw [if_pos h]
    refine ⟨?_, ?_, fun _ => ?_, fun q => absurd h q⟩ <;> rcases hA with h | h <;> subst h <;> omega
  · rw [if_neg h]
    refine ⟨?_, ?_, fun q => absurd q h, fun _ => ?_⟩ <;> rcases hA with h | h <;> subst h <;> omega
theorem val0 (w sg x : Int32) : f_X0_valueOf w sg x = I (val (AL w) sg x.toInt) := by
  unfold f_X0_valueOf val; dsimp only
  by_cases h : sg = 0
  · rw [if_pos h, if_pos h, oper0]
  · rw [if_neg h, if_neg h]
    conv => lhs; rw [← I_to x]
    exact sv0 w (Int32.le_toInt x) (Int32.toInt_lt x)
theorem mod32 (p : Int) : (I p).toInt % 65536 = p % 65536 ∧ (I p).toInt % 256 = p % 256 := by
  have e : (I p).toInt = p.bmod 4294967296 := Int32.toInt_ofInt
  rw [e, Int.bmod_def]
  constructor <;> omega
theorem val_I {A p : Int} {sg : Int32} (hA : A = 256 ∨ A = 65536) : val A sg (I p).toInt = val A sg p := by
  obtain ⟨h1, h2⟩ := mod32 p
  unfold val sgn
  split
  · rcases hA with h | h <;> subst h
    · exact h2
    · exact h1
  · rcases hA with h | h <;> subst h <;> omega
theorem mul_in {a b : Int} (h1 : -65536 < a) (h2 : a < 65536) (h3 : -65536 < b) (h4 : b < 65536) : -4294967296 < a * b ∧ a * b < 4294967296 := by
  have h5 : (a * b).natAbs = a.natAbs * b.natAbs := Int.natAbs_mul a b
  have h6 : a.natAbs * b.natAbs ≤ 65535 * 65535 := Nat.mul_le_mul (by omega) (by omega)
  omega
def mmul (n : Nat) (A : Int) (sg : Int32) (p : Int) : Nat := sb (sb n 0 (decide (¬ p = val A sg p))) 11 (decide (¬ p = val A sg p))
theorem mmul_lt {n : Nat} {A p : Int} {sg : Int32} (hn : n < 4096) : mmul n A sg p < 4096 := sb_lt (sb_lt hn (by decide)) (by decide)
theorem mul0 (w sg a b : Int32) (n : Nat) : f_X0_multiply (nI n) w sg a b = ((if w = 0 then I (val (AL w) sg a.toInt * val (AL w) sg b.toInt % 65536) else I (val (AL w) sg a.toInt * val (AL w) sg b.toInt)), nI (mmul n (AL w) sg (val (AL w) sg a.toInt * val (AL w) sg b.toInt))) := by
  have hA := AL_or w
  have ha := val_in (x := a.toInt) (sg := sg) hA
  have hb := val_in (x := b.toInt) (sg := sg) hA
  unfold f_X0_multiply mmul; dsimp only
  rw [val0 w sg a, val0 w sg b, I_J (by omega) (by omega), I_J (by omega) (by omega), J_mul]
  generalize hx : val (AL w) sg a.toInt = x at ha ⊢
  generalize hy : val (AL w) sg b.toInt = y at hb ⊢
  have hp := mul_in ha.1 ha.2.1 hb.1 hb.2.1
  generalize x * y = p at hp ⊢
  have hv := val_in (x := p) (sg := sg) hA
  rw [J_I, val0, val_I hA, I_J (by omega) (by omega), b2_iteN]
  have hd : decide (¬ lg_cmp (J p) (J (val (AL w) sg p)) = 0) = decide (¬ p = val (AL w) sg p) := by
    rw [decide_eq_decide, lg_cmp_eq, J_eq (by omega) (by omega) (by omega) (by omega)]
  rw [hd, put0_c, put0_o, I_m65535, (mod32 p).1]
theorem mul1 (w sg a b : Int32) {n : Nat} (hn : n < 4096) : f_X1_multiply (nI n) w sg a b = ((if w = 0 then I (val (AL w) sg a.toInt * val (AL w) sg b.toInt % 65536) else I (val (AL w) sg a.toInt * val (AL w) sg b.toInt)), (0, nI (mmul n (AL w) sg (val (AL w) sg a.toInt * val (AL w) sg b.toInt)), I (AL w))) := by
  have hA := AL_or w
  have ha := val_in (x := a.toInt) (sg := sg) hA
  have hb := val_in (x := b.toInt) (sg := sg) hA
  have hm : ∀ z : Int, 0 ≤ z % AL w ∧ z % AL w < AL w := fun z => ⟨Int.emod_nonneg _ (by omega), Int.emod_lt_of_pos _ (by omega)⟩
  have hs : ∀ z : Int, -(AL w / 2) ≤ sgn (AL w) z ∧ sgn (AL w) z < AL w / 2 := fun z => sgn_in hA
  have hma := hm a.toInt; have hmb := hm b.toInt; have hsa := hs a.toInt; have hsb := hs b.toInt
  unfold f_X1_multiply mmul; dsimp only
  rw [len_AL, oper1, oper1, sv1 hA hma.1 hma.2, sv1 hA hmb.1 hmb.2, sgn_mod hA, sgn_mod hA]
  have h5 : (if sg = 0 then (I (a.toInt % AL w)).toInt64 * (I (b.toInt % AL w)).toInt64 else (I (sgn (AL w) a.toInt)).toInt64 * (I (sgn (AL w) b.toInt)).toInt64) = J (val (AL w) sg a.toInt * val (AL w) sg b.toInt) := by
    unfold val
    by_cases h : sg = 0
    · rw [if_pos h, if_pos h, if_pos h, I_J (by omega) (by omega), I_J (by omega) (by omega), J_mul]
    · rw [if_neg h, if_neg h, if_neg h, I_J (by omega) (by omega), I_J (by omega) (by omega), J_mul]
  rw [h5]
  generalize hx : val (AL w) sg a.toInt = x at ha ⊢
  generalize hy : val (AL w) sg b.toInt = y at hb ⊢
  have hp := mul_in ha.1 ha.2.1 hb.1 hb.2.1
  have hp2 : w = 0 → -65536 < x * y ∧ x * y < 65536 := fun hw => by
    have e : AL w = 256 := if_pos hw
    have h5 : (x * y).natAbs = x.natAbs * y.natAbs := Int.natAbs_mul x y
    by_cases h : sg = 0
    · have q1 := ha.2.2.1 h; have q2 := hb.2.2.1 h
      have h6 : x.natAbs * y.natAbs ≤ 255 * 255 := Nat.mul_le_mul (by omega) (by omega)
      omega
    · have q1 := ha.2.2.2 h; have q2 := hb.2.2.2 h
      have h6 : x.natAbs * y.natAbs ≤ 128 * 128 := Nat.mul_le_mul (by omega) (by omega)
      omega
  generalize x * y = p at hp hp2 ⊢
  have hv := val_in (x := p) (sg := sg) hA
  have h8 : (if 0 ≤ lg_cmp (J p) 0 then J p else J p + (I (AL w)).toInt64 * (I (AL w)).toInt64) = J (if 0 ≤ p then p else p + AL w * AL w) := by
    rw [I_J (by omega) (by omega), J_mul, J_add]
    have e : (0 ≤ lg_cmp (J p) 0) ↔ 0 ≤ p := by rw [lg_cmp_ge]; exact J_le (a := 0) (by omega) (by omega) (by omega) (by omega)
    by_cases h : 0 ≤ p
    · rw [if_pos (e.mpr h), if_pos h]
    · rw [if_neg (fun q => h (e.mp q)), if_neg h]
  rw [h8]
  have hq : 0 ≤ (if 0 ≤ p then p else p + AL w * AL w) ∧ (if 0 ≤ p then p else p + AL w * AL w) ≤ 4294967296 ∧ (if 0 ≤ p then p else p + AL w * AL w) % AL w = p % AL w := by
    by_cases hw : w = 0
    · have := hp2 hw
      have e : AL w = 256 := if_pos hw
      rw [e]; split <;> omega
    · have e : AL w = 65536 := if_neg hw
      rw [e]; split <;> omega
  have h10 : ((jrL (J (if 0 ≤ p then p else p + AL w * AL w)) ((I (AL w)).toInt64)) : Int64).toInt32 = I (p % AL w) := by
    rw [I_J (by omega) (by omega), J_jr (by omega) (by omega) (by omega) (by omega), J_I, Int.tmod_eq_emod_of_nonneg hq.1, hq.2.2]
  have hmp := hm p
  have h11 : (if sg = 0 then I (p % AL w) else f_X1_signed (I (AL w)) (I (p % AL w))) = I (val (AL w) sg p) := by
    unfold val
    by_cases h : sg = 0
    · rw [if_pos h, if_pos h]
    · rw [if_neg h, if_neg h, sv1 hA hmp.1 hmp.2, sgn_mod hA]
  rw [h10, h11, I_J (by omega) (by omega), b2_iteN]
  have hd : decide (¬ lg_cmp (J p) (J (val (AL w) sg p)) = 0) = decide (¬ p = val (AL w) sg p) := by
    rw [decide_eq_decide, lg_cmp_eq, J_eq (by omega) (by omega) (by omega) (by omega)]
  rw [hd, put1_c hn, put1_o (sb_lt hn (by decide)), J_I]
  have hr : I (if 0 ≤ p then p else p + AL w * AL w) = (if w = 0 then I (p % 65536) else I p) := by
    by_cases hw : w = 0
    · have := hp2 hw
      have e : AL w = 256 := if_pos hw
      rw [if_pos hw, e]; congr 1; split <;> omega
    · have e : AL w = 65536 := if_neg hw
      rw [if_neg hw, e]
      split
      · rfl
      · rw [← I_add]
        show I p + I 4294967296 = I p
        rw [show I 4294967296 = 0 from by decide, Int32.add_zero]
  rw [hr]
