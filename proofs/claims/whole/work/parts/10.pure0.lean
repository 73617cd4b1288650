theorem fa_and (a b : Nat) : nI a &&& nI b = nI (a &&& b) := by
  apply Int32.toBitVec_inj.1
  show BitVec.ofNat 32 a &&& BitVec.ofNat 32 b = BitVec.ofNat 32 (a &&& b)
  apply BitVec.eq_of_getLsbD_eq
  intro i hi
  simp [hi]
theorem fa_or (a b : Nat) : nI a ||| nI b = nI (a ||| b) := by
  apply Int32.toBitVec_inj.1
  show BitVec.ofNat 32 a ||| BitVec.ofNat 32 b = BitVec.ofNat 32 (a ||| b)
  apply BitVec.eq_of_getLsbD_eq
  intro i hi
  simp [hi]
theorem fa_bit {n j : Nat} (hj : j < 31) : nI n &&& nI (2 ^ j) = 0 ↔ n.testBit j = false := by
  have h2 : (2 : Nat) ^ j < 2 ^ 31 := Nat.pow_lt_pow_right (by decide) hj
  have hle : n &&& 2 ^ j ≤ 2 ^ j := Nat.and_le_right
  have e : n &&& 2 ^ j = 0 ↔ n.testBit j = false := by
    constructor
    · intro h
      have h1 : (n &&& 2 ^ j).testBit j = false := by rw [h]; simp
      rw [Nat.testBit_and] at h1
      first | simpa using h1 | simpa [Nat.testBit_two_pow_self] using h1 | simpa [Nat.testBit_two_pow] using h1
    · intro h
      apply Nat.eq_of_testBit_eq
      intro i
      rw [Nat.testBit_and]
      by_cases hi : j = i
      · subst hi; simp [h]
      · first | (simp [Nat.testBit_two_pow, hi]; done) | (simp [Nat.testBit_two_pow_of_ne hi]; done)
  rw [fa_and]
  constructor
  · intro h
    apply e.mp
    rcases Nat.eq_zero_or_pos (n &&& 2 ^ j) with z | z
    · exact z
    · exact absurd h (nI_ne0 z (Nat.lt_of_le_of_lt hle h2))
  · intro h
    rw [e.mpr h]; exact nI_0
theorem fb_xorI (a b : Nat) : nI a ^^^ nI b = nI (a ^^^ b) := by
  apply Int32.toBitVec_inj.1
  show BitVec.ofNat 32 a ^^^ BitVec.ofNat 32 b = BitVec.ofNat 32 (a ^^^ b)
  apply BitVec.eq_of_getLsbD_eq
  intro i hi
  simp [hi]
/-! THE PURE PART, 0: whole numbers as ints, one bit of the flags set or not -/
def I (z : Int) : Int32 := Int32.ofInt z
theorem I_nI (n : Nat) : I (n : Int) = nI n := Int32.ofInt_eq_ofNat
theorem I_lit (n : Nat) : (OfNat.ofNat n : Int32) = I (OfNat.ofNat n : Int) := by
  show _ = I ((OfNat.ofNat n : Nat) : Int)
  rw [I_nI]; rfl
theorem I_neg1 : (-1 : Int32) = I (-1) := by decide
theorem I_add (a b : Int) : I a + I b = I (a + b) := (Int32.ofInt_add a b).symm
theorem I_sub (a b : Int) : I a - I b = I (a - b) := (Int32.ofInt_sub a b).symm
theorem I_mul (a b : Int) : I a * I b = I (a * b) := (Int32.ofInt_mul a b).symm
theorem I_neg (a : Int) : -I a = I (-a) := (Int32.ofInt_neg a).symm
theorem I_to (x : Int32) : I x.toInt = x := Int32.ofInt_toInt x
theorem I_toInt {a : Int} (h1 : -2147483648 ≤ a) (h2 : a < 2147483648) : (I a).toInt = a := Int32.toInt_ofInt_of_le h1 h2
theorem I_le {a b : Int} (h1 : -2147483648 ≤ a) (h2 : a < 2147483648) (h3 : -2147483648 ≤ b) (h4 : b < 2147483648) : I a ≤ I b ↔ a ≤ b := by
  rw [Int32.le_iff_toInt_le, I_toInt h1 h2, I_toInt h3 h4]
theorem I_lt {a b : Int} (h1 : -2147483648 ≤ a) (h2 : a < 2147483648) (h3 : -2147483648 ≤ b) (h4 : b < 2147483648) : I a < I b ↔ a < b := by
  rw [Int32.lt_iff_toInt_lt, I_toInt h1 h2, I_toInt h3 h4]
theorem I_eq {a b : Int} (h1 : -2147483648 ≤ a) (h2 : a < 2147483648) (h3 : -2147483648 ≤ b) (h4 : b < 2147483648) : I a = I b ↔ a = b := by
  rw [← Int32.toInt_inj, I_toInt h1 h2, I_toInt h3 h4]
theorem I_div {a b : Int} (h1 : -2147483648 ≤ a) (h2 : a < 2147483648) (h3 : 0 < b) (h4 : b < 2147483648) : I a / I b = I (a.tdiv b) := by
  rw [← Int32.toInt_inj, Int32.toInt_div, I_toInt h1 h2, I_toInt (by omega) h4]
  have e := Int.natAbs_tdiv_le_natAbs a b
  have : (I (a.tdiv b)).toInt = (a.tdiv b).bmod (2 ^ 32) := Int32.toInt_ofInt
  exact this.symm
theorem I_jr {a b : Int} (h1 : 0 ≤ a) (h2 : a < 2147483648) (h3 : 0 < b) (h4 : b < 2147483648) : jr (I a) (I b) = I (a % b) := by
  unfold jr
  rw [I_div (by omega) h2 h3 h4, I_mul, I_sub, Int.tdiv_eq_ediv_of_nonneg h1, Int.mul_comm, ← Int.emod_def]
theorem I_divp {a b : Int} (h1 : 0 ≤ a) (h2 : a < 2147483648) (h3 : 0 < b) (h4 : b < 2147483648) : I a / I b = I (a / b) := by
  rw [I_div (by omega) h2 h3 h4, Int.tdiv_eq_ediv_of_nonneg h1]
/-- a mask of k bits -/
theorem I_mask (x : Int32) (k : Nat) (hk : k ≤ 31) : x &&& nI (2 ^ k - 1) = I (x.toInt % (2 ^ k : Nat)) := by
  have hm : (nI (2 ^ k - 1)).toBitVec.toNat = 2 ^ k - 1 := pk_tn (Nat.lt_of_le_of_lt (Nat.sub_le _ _) (Nat.pow_lt_pow_right (by decide) (by omega)))
  rw [pk_and x k hm, ← I_nI]
  congr 1
  have h1 : (x.toBitVec.toNat : Int) % (2 ^ k : Nat) = x.toInt % (2 ^ k : Nat) := by
    show (x.toBitVec.toNat : Int) % (2 ^ k : Nat) = x.toBitVec.toInt % (2 ^ k : Nat)
    rw [BitVec.toInt_eq_toNat_bmod, Int.bmod_def]
    have hd : ((2 ^ k : Nat) : Int) ∣ ((2 ^ 32 : Nat) : Int) := Int.ofNat_dvd.mpr (Nat.pow_dvd_pow 2 (by omega))
    split
    · rw [Int.emod_emod_of_dvd _ hd]
    · rw [Int.sub_emod, Int.emod_emod_of_dvd _ hd, Int.emod_eq_zero_of_dvd hd, Int.sub_zero, Int.emod_emod]
  rw [← h1]; rfl
/-- Booleans as ints -/
def b2 (b : Bool) : Int32 := if b = true then 1 else 0
theorem b2_ite {c : Prop} [Decidable c] : (if c then (1 : Int32) else 0) = b2 (decide c) := by by_cases h : c <;> simp [b2, h]
theorem b2_iteN {c : Prop} [Decidable c] : (if c then (0 : Int32) else 1) = b2 (decide (¬ c)) := by by_cases h : c <;> simp [b2, h]
theorem b2_0 (b : Bool) : (b2 b = 0) ↔ (b = false) := by cases b <;> decide
theorem b2_1 (b : Bool) : (b2 b = 1) ↔ (b = true) := by cases b <;> decide
theorem b2_eq (a b : Bool) : (b2 a = b2 b) ↔ (a = b) := by cases a <;> cases b <;> decide
/-- the flags n with bit j as b has it -/
def sb (n j : Nat) (b : Bool) : Nat := if b = true then n ||| 2 ^ j else n &&& (4294967295 ^^^ 2 ^ j)
theorem tb_big {n i : Nat} (hn : n < 4096) (hi : 12 ≤ i) : n.testBit i = false := Nat.testBit_lt_two_pow (Nat.lt_of_lt_of_le hn (Nat.pow_le_pow_right (n := 2) (by decide) hi))
theorem tb_sb {n j i : Nat} {b : Bool} (hn : n < 4096) (hj : j < 12) : (sb n j b).testBit i = if i = j then b else n.testBit i := by
  unfold sb
  cases b
  · rw [if_neg (by decide), Nat.testBit_and, Nat.testBit_xor, show (4294967295 : Nat) = 2 ^ 32 - 1 from rfl, Nat.testBit_two_pow_sub_one, Nat.testBit_two_pow]
    by_cases hi : i = j
    · subst hi
      rw [if_pos rfl]
      simp [show i < 32 by omega]
    · rw [if_neg hi]
      rcases Nat.lt_or_ge i 12 with h | h
      · simp [show i < 32 by omega, show ¬ j = i from fun e => hi e.symm]
      · rw [tb_big hn h]; rfl
  · rw [if_pos rfl, Nat.testBit_or, Nat.testBit_two_pow]
    by_cases hi : i = j
    · subst hi; simp
    · rw [if_neg hi]; simp [show ¬ j = i from fun e => hi e.symm]
theorem sb_lt {n j : Nat} {b : Bool} (hn : n < 4096) (hj : j < 12) : sb n j b < 4096 := by
  unfold sb
  cases b
  · rw [if_neg (by decide)]
    exact Nat.lt_of_le_of_lt Nat.and_le_left hn
  · rw [if_pos rfl]
    exact Nat.or_lt_two_pow (n := 12) hn (Nat.pow_lt_pow_right (by decide) hj)
theorem sb_ext {m n : Nat} (h : ∀ i, m.testBit i = n.testBit i) : m = n := Nat.eq_of_testBit_eq h
theorem sb_same {n j : Nat} {b c : Bool} (hn : n < 4096) (hj : j < 12) : sb (sb n j b) j c = sb n j c := sb_ext fun i => by
  rw [tb_sb (sb_lt hn hj) hj, tb_sb hn hj, tb_sb hn hj]; split <;> rfl
theorem sb_comm {n j k : Nat} {b c : Bool} (hn : n < 4096) (hj : j < 12) (hk : k < 12) (h : ¬ j = k) : sb (sb n j b) k c = sb (sb n k c) j b := sb_ext fun i => by
  rw [tb_sb (sb_lt hn hj) hk, tb_sb hn hj, tb_sb (sb_lt hn hk) hj, tb_sb hn hk]
  by_cases h1 : i = k
  · subst h1; rw [if_pos rfl, if_neg (fun e => h e.symm), if_pos rfl]
  · rw [if_neg h1, if_neg h1]
/-- setting or not, by plus and minus -/
theorem sb_calc0 : ∀ j ∈ [0, 2, 4, 6, 7, 11], ∀ a b : Fin 64, (64 * a.val + b.val) ||| 2 ^ j = (if (64 * a.val + b.val) / 2 ^ j % 2 = 1 then (64 * a.val + b.val) else (64 * a.val + b.val) + 2 ^ j) ∧ (64 * a.val + b.val) &&& (4294967295 ^^^ 2 ^ j) = (if (64 * a.val + b.val) / 2 ^ j % 2 = 1 then (64 * a.val + b.val) - 2 ^ j else (64 * a.val + b.val)) := by decide +kernel
theorem sb_calc (j : Nat) (hj : j ∈ [0, 2, 4, 6, 7, 11]) (n : Nat) (hn : n < 4096) : n ||| 2 ^ j = (if n / 2 ^ j % 2 = 1 then n else n + 2 ^ j) ∧ n &&& (4294967295 ^^^ 2 ^ j) = (if n / 2 ^ j % 2 = 1 then n - 2 ^ j else n) := by
  have h := sb_calc0 j hj ⟨n / 64, by omega⟩ ⟨n % 64, Nat.mod_lt _ (by decide)⟩
  dsimp only at h
  rw [Nat.div_add_mod] at h
  exact h
theorem put0 {n j : Nat} {b : Bool} : f_X0_put (nI n) (nI (2 ^ j)) (b2 b) = nI (sb n j b) := by
  unfold f_X0_put sb
  dsimp only
  cases b
  · rw [if_pos (by decide), if_neg (by decide), show (-1 : Int32) = nI 4294967295 from by decide, fb_xorI, fa_and, Nat.xor_comm]
  · rw [if_neg (by decide), if_pos rfl, fa_or]
theorem is0 {n j : Nat} (hj : j < 31) : f_X0_isSet (nI n) (nI (2 ^ j)) = b2 (n.testBit j) := by
  unfold f_X0_isSet b2
  dsimp only
  have h := fa_bit (n := n) hj
  by_cases hb : n.testBit j = true
  · rw [if_neg (fun e => by rw [h.mp e] at hb; cases hb), if_pos hb]
  · rw [if_pos (h.mpr (by simpa using hb)), if_neg hb]
theorem tb_calc {n j : Nat} : n.testBit j = decide (n / 2 ^ j % 2 = 1) := Nat.testBit_eq_decide_div_mod_eq
theorem is1 {n j : Nat} (hn : n < 4096) (hj : j < 12) : f_X1_is (nI n) (nI (2 ^ j)) = b2 (n.testBit j) := by
  have h2 : 2 ^ j < 2 ^ 31 := Nat.pow_lt_pow_right (by decide) (by omega)
  unfold f_X1_is
  dsimp only
  have e : jr (nI n / nI (2 ^ j)) 2 = nI (n / 2 ^ j % 2) := by
    rw [pk_div (by omega) (Nat.two_pow_pos j) h2]
    have h3 : n / 2 ^ j ≤ n := Nat.div_le_self _ _
    exact pk_rem (a := n / 2 ^ j) (d := 2) (by omega) (by decide) (by decide)
  have h4 : n / 2 ^ j % 2 < 2 := Nat.mod_lt _ (by decide)
  rw [e, tb_calc, b2_ite]
  congr 1
  rw [decide_eq_decide, show (1 : Int32) = nI 1 from rfl]
  exact nI_eq (by omega) (by decide)
theorem put1 {n j : Nat} {b : Bool} (hn : n < 4096) (hj : j ∈ [0, 2, 4, 6, 7, 11]) : f_X1_put (nI n) (nI (2 ^ j)) (b2 b) = nI (sb n j b) := by
  have hj2 : j < 12 := by
    simp only [List.mem_cons, List.not_mem_nil, or_false] at hj
    omega
  obtain ⟨c1, c2⟩ := sb_calc j hj n hn
  unfold f_X1_put sb
  dsimp only
  rw [is1 hn hj2, tb_calc]
  by_cases hb : n / 2 ^ j % 2 = 1
  · rw [if_pos hb] at c1 c2
    rw [decide_eq_true hb]
    have h1 : 2 ^ j ≤ n := Nat.le_of_not_lt fun h => by rw [Nat.div_eq_of_lt h] at hb; cases hb
    cases b
    · rw [if_neg (by decide), if_pos (by decide), if_neg (by decide), c2, ← pk_sub h1, Int32.sub_eq_add_neg]
    · rw [if_pos rfl, if_pos rfl, c1]; simp
  · rw [if_neg hb] at c1 c2
    rw [decide_eq_false hb]
    cases b
    · rw [if_pos rfl, if_neg (by decide), c2]; simp
    · rw [if_neg (by decide), if_neg (by decide), if_pos rfl, c1, nI_add]
