/-! THE PURE PART, 3: logic, operations -/
def opn (o : Int32) (p q : Nat) : Nat := if o = 1 then p ||| q else if o = 4 then p &&& q else p ^^^ q
def mlog (n : Nat) (A : Int) (r : Nat) : Nat := mg (sb (sb (sb n 0 false) 4 false) 11 false) A r
theorem opn_lt {o : Int32} {p q k : Nat} (hp : p < 2 ^ k) (hq : q < 2 ^ k) : opn o p q < 2 ^ k := by
  unfold opn
  split
  · exact Nat.or_lt_two_pow hp hq
  · split
    · exact Nat.lt_of_le_of_lt Nat.and_le_left hp
    · exact Nat.xor_lt_two_pow hp hq
theorem opn_bit (o : Int32) (p q i : Nat) : (opn o p q).testBit i = if o = 1 then p.testBit i || q.testBit i else if o = 4 then p.testBit i && q.testBit i else (p.testBit i ^^ q.testBit i) := by
  unfold opn
  split
  · rw [Nat.testBit_or]
  · split
    · rw [Nat.testBit_and]
    · rw [Nat.testBit_xor]
theorem log0 (w : Int32) {n r : Nat} (hr : (r : Int) < AL w) : f_X0_logic (nI n) w (nI r) = (nI r, nI (mlog n (AL w) r)) := by
  have hA := AL_or w
  unfold f_X0_logic mlog; dsimp only
  rw [show f_X0_put (nI n) 1 0 = nI (sb n 0 false) from put0_c (b := false), show ∀ m, f_X0_put (nI m) 16 0 = nI (sb m 4 false) from fun m => put0_h (b := false), show ∀ m, f_X0_put (nI m) 2048 0 = nI (sb m 11 false) from fun m => put0_o (b := false), ← I_nI r, kept0 w (by omega) (by omega), Int.emod_eq_of_lt (by omega) hr]
theorem log1_step (o : Int32) (p q i : Nat) (hp : p < 65536) (hq : q < 65536) (hi : i < 16) :
    (if o = 1 then (if (jr (nI p / nI (2 ^ i)) 2) + (jr (nI q / nI (2 ^ i)) 2) ≤ 0 then (0 : Int32) else 1) else (if o = 4 then (if (jr (nI p / nI (2 ^ i)) 2) + (jr (nI q / nI (2 ^ i)) 2) = 2 then 1 else 0) else (if (jr (nI p / nI (2 ^ i)) 2) + (jr (nI q / nI (2 ^ i)) 2) = 1 then 1 else 0))) = b2 ((opn o p q).testBit i) := by
  have h2 : 2 ^ i < 2 ^ 31 := p2_lt (by omega)
  have e : ∀ r, r < 65536 → jr (nI r / nI (2 ^ i)) 2 = nI (if r.testBit i = true then 1 else 0) := fun r hr => by
    rw [pk_div (by omega) (Nat.two_pow_pos i) h2]
    have h3 : r / 2 ^ i ≤ r := Nat.div_le_self _ _
    have h4 : jr (nI (r / 2 ^ i)) 2 = nI (r / 2 ^ i % 2) := pk_rem (a := r / 2 ^ i) (d := 2) (by omega) (by decide) (by decide)
    rw [h4, tb_calc]
    have h5 : r / 2 ^ i % 2 = 0 ∨ r / 2 ^ i % 2 = 1 := by omega
    rcases h5 with h5 | h5 <;> rw [h5] <;> rfl
  rw [e p hp, e q hq, opn_bit]
  cases p.testBit i <;> cases q.testBit i <;> (split; decide; split <;> decide)
theorem log1_loop (A : Int) (wd : Nat) (hA : A = ((2 ^ wd : Nat) : Int)) (hwd : wd = 8 ∨ wd = 16) (hA2 : A = 256 ∨ A = 65536) {n : Nat} (hn : n < 4096) (o : Int32) (p q : Nat) (hp : p < 2 ^ wd) (hq : q < 2 ^ wd) (e : Nat) :
    ∀ (m i : Nat), i + m = wd → l_X1_logic (m + 1 + e) (nI n) (I A) o (nI p) (nI q) (nI (opn o p q % 2 ^ i)) (nI (2 ^ i)) = (nI (opn o p q), nI (mlog n A (opn o p q))) := by
  have hop := opn_lt (o := o) hp hq
  have h16 : 2 ^ wd ≤ 65536 := by rcases hwd with h | h <;> rw [h] <;> decide
  intro m
  induction m with
  | zero =>
    intro i hi
    have hi : i = wd := by omega
    subst hi
    rw [show 0 + 1 + e = e + 1 by omega]
    unfold l_X1_logic mlog; dsimp only
    rw [hA, I_nI, if_pos (Int32.le_refl _), Nat.mod_eq_of_lt hop, ← I_nI (2 ^ i), ← hA]
    rw [show f_X1_put (nI n) 1 0 = nI (sb n 0 false) from put1_c (b := false) hn, show f_X1_put (nI (sb n 0 false)) 16 0 = nI (sb (sb n 0 false) 4 false) from put1_h (b := false) (sb_lt hn (by decide)), show f_X1_put (nI (sb (sb n 0 false) 4 false)) 2048 0 = nI (sb (sb (sb n 0 false) 4 false) 11 false) from put1_o (b := false) (sb_lt (sb_lt hn (by decide)) (by decide)),
      ← I_nI (opn o p q), by1 hA2 (sb_lt (sb_lt (sb_lt hn (by decide)) (by decide)) (by decide)) (by omega) (by rw [hA]; exact Int.ofNat_lt.mpr hop)]
  | succ m ih =>
    intro i hi
    have hi2 : 2 ^ i < 2 ^ wd := Nat.pow_lt_pow_right (by decide) (by omega)
    rw [show m + 1 + 1 + e = (m + 1 + e) + 1 by omega]
    unfold l_X1_logic; dsimp only
    have hc : ¬ I A ≤ nI (2 ^ i) := by rw [hA, I_nI]; exact nI_ge hi2 (by omega)
    rw [if_neg hc, log1_step o p q i (by omega) (by omega) (by omega), nI_dbl]
    have hz : (if b2 ((opn o p q).testBit i) = 0 then nI (opn o p q % 2 ^ i) else nI (opn o p q % 2 ^ i) + nI (2 ^ i)) = nI (opn o p q % 2 ^ (i + 1)) := by
      rw [Nat.mod_pow_succ, nI_add, tb_calc]
      have h5 : opn o p q / 2 ^ i % 2 = 0 ∨ opn o p q / 2 ^ i % 2 = 1 := by omega
      rcases h5 with h5 | h5
      · rw [h5, if_pos (by decide), Nat.mul_zero, Nat.add_zero]
      · rw [h5, if_neg (by decide), Nat.mul_one]
    rw [hz]
    exact ih (i + 1) (by omega)
theorem log1 (w : Int32) {n : Nat} (hn : n < 4096) (o : Int32) {p q : Nat} (hp : (p : Int) < AL w) (hq : (q : Int) < AL w) : f_X1_logic (nI n) (I (AL w)) o (nI p) (nI q) = (nI (opn o p q), nI (mlog n (AL w) (opn o p q))) := by
  unfold f_X1_logic
  have h0 : (0 : Int32) = nI (opn o p q % 2 ^ 0) := by rw [Nat.pow_zero, Nat.mod_one]; rfl
  rw [h0]
  rcases AL_or w with h | h
  · rw [h] at hp hq ⊢
    exact log1_loop 256 8 rfl (Or.inl rfl) (Or.inl rfl) hn o p q (by omega) (by omega) 8 8 0 rfl
  · rw [h] at hp hq ⊢
    exact log1_loop 65536 16 rfl (Or.inr rfl) (Or.inr rfl) hn o p q (by omega) (by omega) 0 16 0 rfl
/-- how the two stand to each other behind a call: x: what the class throws (0: nothing), r0 and f0: its answer and its flags; r1, c1, f1: the reference's answer, code, flags -/
def rel (n : Nat) (x r0 f0 r1 c1 f1 : Int32) : Prop := (x = 0 ∧ c1 = 0 ∧ r0 = r1 ∧ ∃ m, m < 4096 ∧ f0 = nI m ∧ f1 = nI m) ∨ (¬ x = 0 ∧ c1 = x ∧ f1 = nI n)
theorem rel_ok {n m : Nat} {r0 f0 r1 f1 : Int32} (h : r0 = r1) (hm : m < 4096) (h0 : f0 = nI m) (h1 : f1 = nI m) : rel n 0 r0 f0 r1 0 f1 := Or.inl ⟨rfl, rfl, h, m, hm, h0, h1⟩
theorem rel_p {n m : Nat} {F0 F1 : Int32 × Int32} {r : Int32} (hm : m < 4096) (h0 : F0 = (r, nI m)) (h1 : F1 = (r, nI m)) : rel n 0 F0.1 F0.2 F1.1 0 F1.2 := by rw [h0, h1]; exact rel_ok rfl hm rfl rfl
theorem rel_q {n m : Nat} {F0 F1 : Int32 × Int32} {r y0 y1 : Int32} (hy : y0 = y1) (hm : m < 4096) (h0 : F0 = (r, nI m)) (h1 : F1 = (r, nI m)) : rel n 0 y0 F0.2 y1 0 F1.2 := by rw [h0, h1]; exact rel_ok hy hm rfl rfl
theorem oper_in (w x : Int32) : ∃ a : Nat, (a : Int) < AL w ∧ f_X0_operand w x = I a ∧ f_X1_operand (I (AL w)) x = I a := by
  have hA := AL_or w
  have h0 : 0 ≤ x.toInt % AL w := Int.emod_nonneg _ (by omega)
  have h1 : x.toInt % AL w < AL w := Int.emod_lt_of_pos _ (by omega)
  obtain ⟨k, hk⟩ := Int.eq_ofNat_of_zero_le h0
  exact ⟨k, by omega, by rw [oper0, hk], by rw [oper1, hk]⟩
theorem bit0 (n : Nat) : (nI n &&& 1) = I (if n.testBit 0 = true then 1 else 0) := by
  have h : nI n &&& 1 = nI (n % 2 ^ 1) := by
    show nI n &&& nI 1 = _
    rw [fa_and, Nat.and_one_is_mod]
  rw [h, tb_calc]
  have h5 : n % 2 = 0 ∨ n % 2 = 1 := by omega
  rcases h5 with h5 | h5
  · rw [show n % 2 ^ 1 = 0 from h5, show n / 2 ^ 0 % 2 = 0 by rw [Nat.pow_zero, Nat.div_one]; exact h5]; rfl
  · rw [show n % 2 ^ 1 = 1 from h5, show n / 2 ^ 0 % 2 = 1 by rw [Nat.pow_zero, Nat.div_one]; exact h5]; rfl
theorem car1 {n : Nat} (hn : n < 4096) : (if f_X1_is (nI n) 1 = 0 then (0 : Int32) else 1) = I (if n.testBit 0 = true then 1 else 0) := by
  rw [is1_c hn]; cases n.testBit 0 <;> decide
theorem one_out {x : Int32} (N : Nat) (hN : N < 100) (h : ∀ j, j ≤ N → ¬ x = nI j) : (if x < 0 then (1 : Int32) else (if x ≤ nI N then 0 else 1)) = 1 := by
  by_cases h0 : x < 0
  · rw [if_pos h0]
  · rw [if_neg h0]
    obtain ⟨j, hj, rfl⟩ := nI_of h0
    rw [if_neg]
    intro hle
    exact h j ((nI_leI hj (by omega)).mp hle) rfl
