/-! THE PURE PART, 9: quotients -/
theorem fb_andL (a b : Nat) : lN a &&& lN b = lN (a &&& b) := by
  apply Int64.toBitVec_inj.1
  show BitVec.ofNat 64 a &&& BitVec.ofNat 64 b = BitVec.ofNat 64 (a &&& b)
  apply BitVec.eq_of_getLsbD_eq
  intro i hi
  simp [hi]
theorem ite_iff {α : Type} {c d : Prop} [Decidable c] [Decidable d] {x y : α} (h : c ↔ d) : (if c then x else y) = (if d then x else y) := by
  by_cases hc : c
  · rw [if_pos hc, if_pos (h.mp hc)]
  · rw [if_neg hc, if_neg (fun q => hc (h.mpr q))]
theorem clt {a b : Int} (h1 : -4294967296 ≤ a) (h2 : a ≤ 4294967296) (h3 : -4294967296 ≤ b) (h4 : b ≤ 4294967296) : (lg_cmp (J a) (J b) < 0) ↔ a < b := (lg_cmp_lt _ _).trans (J_lt (by omega) (by omega) (by omega) (by omega))
theorem cgt {a b : Int} (h1 : -4294967296 ≤ a) (h2 : a ≤ 4294967296) (h3 : -4294967296 ≤ b) (h4 : b ≤ 4294967296) : (0 < lg_cmp (J a) (J b)) ↔ b < a := (lg_cmp_gt _ _).trans (J_lt (by omega) (by omega) (by omega) (by omega))
theorem cge {a b : Int} (h1 : -4294967296 ≤ a) (h2 : a ≤ 4294967296) (h3 : -4294967296 ≤ b) (h4 : b ≤ 4294967296) : (0 ≤ lg_cmp (J a) (J b)) ↔ b ≤ a := (lg_cmp_ge _ _).trans (J_le (by omega) (by omega) (by omega) (by omega))
theorem cle {a b : Int} (h1 : -4294967296 ≤ a) (h2 : a ≤ 4294967296) (h3 : -4294967296 ≤ b) (h4 : b ≤ 4294967296) : (lg_cmp (J a) (J b) ≤ 0) ↔ a ≤ b := (lg_cmp_le _ _).trans (J_le (by omega) (by omega) (by omega) (by omega))
theorem ceq {a b : Int} (h1 : -4294967296 ≤ a) (h2 : a ≤ 4294967296) (h3 : -4294967296 ≤ b) (h4 : b ≤ 4294967296) : (lg_cmp (J a) (J b) = 0) ↔ a = b := (lg_cmp_eq _ _).trans (J_eq (by omega) (by omega) (by omega) (by omega))
/-- the number twice as long -/
def val2 (A : Int) (sg : Int32) (x : Int) : Int := if sg = 0 then x % (A * A) else (x + A * A / 2) % (A * A) - A * A / 2
theorem val2_in {A x : Int} {sg : Int32} (hA : A = 256 ∨ A = 65536) : -2147483648 ≤ val2 A sg x ∧ val2 A sg x < 4294967296 ∧ (sg = 0 → 0 ≤ val2 A sg x) := by
  unfold val2
  by_cases h : sg = 0
  · rw [if_pos h]
    refine ⟨?_, ?_, fun _ => ?_⟩ <;> rcases hA with h | h <;> subst h <;> omega
  · rw [if_neg h]
    refine ⟨?_, ?_, fun q => absurd q h⟩ <;> rcases hA with h | h <;> subst h <;> omega
theorem J_mask (x : Int) (hx1 : -2147483648 ≤ x) (hx2 : x < 2147483648) (k : Nat) (hk : k ≤ 32) : J x &&& J ((2 ^ k - 1 : Nat) : Int) = J (x % (2 ^ k : Nat)) := by
  have h1 : J x = lN (x % 18446744073709551616).toNat := by
    rw [← Int64.toInt_inj, J_toInt (by omega) (by omega)]
    show x = (Int64.ofNat _).toInt
    rw [Int64.toInt_ofNat', Int.toNat_of_nonneg (Int.emod_nonneg _ (by decide)), show Int64.size = 18446744073709551616 from rfl, Int.bmod_def]
    omega
  have h2 : J ((2 ^ k - 1 : Nat) : Int) = lN (2 ^ k - 1) := Int64.ofInt_eq_ofNat
  have hd : ((2 ^ k : Nat) : Int) ∣ 18446744073709551616 := by
    have : ((2 ^ k : Nat) : Int) ∣ ((2 ^ 64 : Nat) : Int) := Int.ofNat_dvd.mpr (Nat.pow_dvd_pow 2 (by omega))
    exact this
  rw [h1, h2, fb_andL, Nat.and_two_pow_sub_one_eq_mod]
  have h3 : J (x % (2 ^ k : Nat)) = lN (x % (2 ^ k : Nat)).toNat := by
    have h0 : 0 ≤ x % ((2 ^ k : Nat) : Int) := Int.emod_nonneg _ (by have := Nat.two_pow_pos k; omega)
    conv => lhs; rw [← Int.toNat_of_nonneg h0]
    exact Int64.ofInt_eq_ofNat
  rw [h3]
  congr 1
  have h4 : ((x % 18446744073709551616).toNat % 2 ^ k : Nat) = (x % 18446744073709551616 % ((2 ^ k : Nat) : Int)).toNat := by
    rw [Int.toNat_emod (Int.emod_nonneg _ (by decide)) (by omega), Int.toNat_natCast]
  rw [h4, Int.emod_emod_of_dvd _ hd]
theorem twice0 (w sg x : Int32) : f_X0_valueTwiceAsLong w sg x = J (val2 (AL w) sg x.toInt) := by
  have hx1 := Int32.le_toInt x
  have hx2 := Int32.toInt_lt x
  unfold f_X0_valueTwiceAsLong; dsimp only
  by_cases hw : w = 0
  · have e : AL w = 256 := if_pos hw
    have e1 : AL 1 = 65536 := if_neg (by decide)
    have hv := val_in (x := x.toInt) (sg := sg) (Or.inr e1)
    rw [if_pos hw, val0, I_J (by omega) (by omega), e1, e]
    congr 1
  · have e : AL w = 65536 := if_neg hw
    rw [if_neg hw, e]
    unfold val2
    have hJ : x.toInt64 = J x.toInt := by rw [← Int64.toInt_inj, Int32.toInt_toInt64, J_toInt (by omega) (by omega)]
    by_cases h : sg = 0
    · rw [if_pos h, if_pos h, hJ]
      exact J_mask x.toInt (by omega) (by omega) 32 (by decide)
    · rw [if_neg h, if_neg h, hJ]
      congr 1; omega
theorem twice1 (w sg x : Int32) : (if sg = 0 then (x.toInt64 &&& ((I (AL w)).toInt64 * (I (AL w)).toInt64 - 1)) else (if lg_cmp (x.toInt64 &&& ((I (AL w)).toInt64 * (I (AL w)).toInt64 - 1)) ((I (AL w)).toInt64 * (I (AL w)).toInt64 / 2) < 0 then (x.toInt64 &&& ((I (AL w)).toInt64 * (I (AL w)).toInt64 - 1)) else ((x.toInt64 &&& ((I (AL w)).toInt64 * (I (AL w)).toInt64 - 1)) - (I (AL w)).toInt64 * (I (AL w)).toInt64))) = J (val2 (AL w) sg x.toInt) := by
  have hA := AL_or w
  have hx1 := Int32.le_toInt x
  have hx2 := Int32.toInt_lt x
  have hJ : x.toInt64 = J x.toInt := by rw [← Int64.toInt_inj, Int32.toInt_toInt64, J_toInt (by omega) (by omega)]
  rw [I_J (by omega) (by omega), J_mul, hJ]
  generalize AL w = A at hA ⊢
  have hm : J x.toInt &&& (J (A * A) - 1) = J (x.toInt % (A * A)) := by
    rw [show J (A * A) - 1 = J (A * A - 1) from J_sub _ 1]
    rcases hA with h | h <;> subst h
    · exact J_mask x.toInt (by omega) (by omega) 16 (by decide)
    · exact J_mask x.toInt (by omega) (by omega) 32 (by decide)
  rw [hm, J_sub]
  have hd : J (A * A) / 2 = J (A * A / 2) := by
    rw [show (2 : Int64) = J 2 from rfl]
    rcases hA with h | h <;> subst h <;> decide
  have hr : 0 ≤ x.toInt % (A * A) ∧ x.toInt % (A * A) < 4294967296 := by rcases hA with h | h <;> subst h <;> omega
  have hr2 : 0 ≤ A * A / 2 ∧ A * A / 2 < 4294967296 := by rcases hA with h | h <;> subst h <;> omega
  rw [hd, ite_iff (clt (a := x.toInt % (A * A)) (b := A * A / 2) (by omega) (by omega) (by omega) (by omega))]
  unfold val2
  by_cases h : sg = 0
  · rw [if_pos h, if_pos h]
  · rw [if_neg h, if_neg h]
    split
    · congr 1; rcases hA with h | h <;> subst h <;> omega
    · congr 1; rcases hA with h | h <;> subst h <;> omega
theorem value1 (w sg x : Int32) : (if sg = 0 then (f_X1_operand (I (AL w)) x).toInt64 else (f_X1_signed (I (AL w)) (f_X1_operand (I (AL w)) x)).toInt64) = J (val (AL w) sg x.toInt) := by
  have hA := AL_or w
  have hm : 0 ≤ x.toInt % AL w ∧ x.toInt % AL w < AL w := ⟨Int.emod_nonneg _ (by omega), Int.emod_lt_of_pos _ (by omega)⟩
  have hs := sgn_in (a := x.toInt) hA
  rw [oper1, sv1 hA hm.1 hm.2, sgn_mod hA]
  unfold val
  by_cases h : sg = 0
  · rw [if_pos h, if_pos h, I_J (by omega) (by omega)]
  · rw [if_neg h, if_neg h, I_J (by omega) (by omega)]
/-- is it a quotient -/
def qok (A : Int) (sg : Int32) (q : Int) : Bool := if sg = 0 then decide (0 ≤ q ∧ q < A) else decide (-(A / 2) < q ∧ q < A / 2)
theorem quot0 (w sg : Int32) {q : Int} (h1 : -4294967296 ≤ q) (h2 : q ≤ 4294967296) : f_X0_isQuotient w sg (J q) = b2 (qok (AL w) sg q) := by
  have hA := AL_or w
  have hmost : (if sg = 0 then f_X0_mask w else (f_X0_mask w) >>> ((1 : Int32) &&& 31)) = I (if sg = 0 then AL w - 1 else AL w / 2 - 1) := by
    rw [mask_AL]
    by_cases h : sg = 0
    · rw [if_pos h, if_pos h]
    · rw [if_neg h, if_neg h, shr1 (by omega) (by omega)]
      congr 1; rcases hA with h | h <;> rw [h] <;> rfl
  unfold f_X0_isQuotient qok; dsimp only
  by_cases h : sg = 0
  · simp only [if_pos h, mask_AL]
    rw [show ((0 : Int32)).toInt64 = J 0 from rfl, I_J (by omega) (by omega), ite_iff (clt (a := q) (b := 0) (by omega) (by omega) (by omega) (by omega)), ite_iff (cgt (a := q) (b := AL w - 1) (by omega) (by omega) (by omega) (by omega))]
    by_cases a1 : q < 0
    · rw [if_pos a1, decide_eq_false (by omega)]; rfl
    · rw [if_neg a1]
      by_cases a2 : AL w - 1 < q
      · rw [if_pos a2, decide_eq_false (by omega)]; rfl
      · rw [if_neg a2, decide_eq_true (by omega)]; rfl
  · rw [hmost]
    simp only [if_neg h]
    rw [I_neg, I_J (by omega) (by omega), I_J (by omega) (by omega), ite_iff (clt (a := q) (b := -(AL w / 2 - 1)) (by omega) (by omega) (by omega) (by omega)), ite_iff (cgt (a := q) (b := AL w / 2 - 1) (by omega) (by omega) (by omega) (by omega))]
    by_cases a1 : q < -(AL w / 2 - 1)
    · rw [if_pos a1, decide_eq_false (by omega)]; rfl
    · rw [if_neg a1]
      by_cases a2 : AL w / 2 - 1 < q
      · rw [if_pos a2, decide_eq_false (by omega)]; rfl
      · rw [if_neg a2, decide_eq_true (by omega)]; rfl
theorem quot1 {A : Int} (hA : A = 256 ∨ A = 65536) (sg : Int32) {q : Int} (h1 : -4294967296 ≤ q) (h2 : q ≤ 4294967296) (h3 : sg = 0 → 0 ≤ q) : (if sg = 0 then (if 0 ≤ lg_cmp (J q) ((I A).toInt64) then (0 : Int32) else 1) else (if 0 ≤ lg_cmp (J q) ((I A / 2).toInt64) then 0 else (if lg_cmp (J q) (((-I A) / 2).toInt64) ≤ 0 then 0 else 1))) = b2 (qok A sg q) := by
  have e : (-I A) / 2 = I (-(A / 2)) := by
    rw [I_neg, show (2 : Int32) = I 2 from rfl, I_div (by omega) (by omega) (by decide) (by decide)]
    rcases hA with h | h <;> subst h <;> rfl
  unfold qok
  rw [e, I_half (by omega) (by omega), I_J (by omega) (by omega), I_J (by omega) (by omega), I_J (by omega) (by omega), ite_iff (cge (a := q) (b := A) (by omega) (by omega) (by omega) (by omega)), ite_iff (cge (a := q) (b := A / 2) (by omega) (by omega) (by omega) (by omega)), ite_iff (cle (a := q) (b := -(A / 2)) (by omega) (by omega) (by omega) (by omega))]
  by_cases h : sg = 0
  · rw [if_pos h, if_pos h]
    have := h3 h
    by_cases a1 : A ≤ q
    · rw [if_pos a1, decide_eq_false (by omega)]; rfl
    · rw [if_neg a1, decide_eq_true (by omega)]; rfl
  · rw [if_neg h, if_neg h]
    by_cases a1 : A / 2 ≤ q
    · rw [if_pos a1, decide_eq_false (by omega)]; rfl
    · rw [if_neg a1]
      by_cases a2 : q ≤ -(A / 2)
      · rw [if_pos a2, decide_eq_false (by omega)]; rfl
      · rw [if_neg a2, decide_eq_true (by omega)]; rfl
/-- the answer of a division -/
def mdv (A v e : Int) : Int32 := I (v.tmod e % A * A + v.tdiv e % A)
theorem div_join (w : Int32) (r q : Int) : (f_X0_operand w (I r) <<< ((f_X0_width w) &&& 31)) ||| f_X0_operand w (I q) = I (r % AL w * AL w + q % AL w) := by
  have hA := AL_or w
  obtain ⟨m1, m2⟩ := mod32 r
  obtain ⟨m3, m4⟩ := mod32 q
  rw [oper0, oper0]
  have e1 : (I r).toInt % AL w = r % AL w := by rcases hA with h | h <;> rw [h] <;> assumption
  have e2 : (I q).toInt % AL w = q % AL w := by rcases hA with h | h <;> rw [h] <;> assumption
  rw [e1, e2]
  have h1 : 0 ≤ r % AL w ∧ r % AL w < AL w := ⟨Int.emod_nonneg _ (by omega), Int.emod_lt_of_pos _ (by omega)⟩
  have h2 : 0 ≤ q % AL w ∧ q % AL w < AL w := ⟨Int.emod_nonneg _ (by omega), Int.emod_lt_of_pos _ (by omega)⟩
  generalize r % AL w = x at h1 ⊢
  generalize q % AL w = y at h2 ⊢
  obtain ⟨m, rfl⟩ := Int.eq_ofNat_of_zero_le h1.1
  obtain ⟨k, rfl⟩ := Int.eq_ofNat_of_zero_le h2.1
  by_cases hw : w = 0
  · have a1 : AL w = 256 := if_pos hw
    have a2 : f_X0_width w = 8 := if_pos hw
    rw [a1] at h1 h2 ⊢
    rw [a2, I_nI, I_nI, pk_shlN (n := m) ((8 : Int32) &&& 31) 8 (by decide) (by omega), Nat.mul_comm, fa_or_sum m (by omega), ← I_nI]
    congr 1; omega
  · have a1 : AL w = 65536 := if_neg hw
    have a2 : f_X0_width w = 16 := if_neg hw
    rw [a1] at h1 h2 ⊢
    rw [a2, I_nI, I_nI, pk_shlN (n := m) ((16 : Int32) &&& 31) 16 (by decide) (by omega), Nat.mul_comm, fa_or_sum m (by omega), ← I_nI]
    congr 1; omega
theorem tdiv_in {v e : Int} (h1 : -4294967296 ≤ v) (h2 : v ≤ 4294967296) : -4294967296 ≤ v.tdiv e ∧ v.tdiv e ≤ 4294967296 := by
  have := Int.natAbs_tdiv_le_natAbs v e
  omega
theorem tmod_in {v e : Int} (h : ¬ e = 0) : -(e.natAbs : Int) < v.tmod e ∧ v.tmod e < e.natAbs := by
  have h1 : (v.tmod e).natAbs = v.natAbs % e.natAbs := Int.natAbs_tmod v e
  have h2 : v.natAbs % e.natAbs < e.natAbs := Nat.mod_lt _ (by omega)
  omega
/-- the two stand so to each other behind divide; the reference's code is 1 where the class throws -/
theorem div_rel (n : Nat) (w sg a b al : Int32) : (x_X0_divide w sg a b = 0 ∧ (f_X1_divide w sg a b).2.1 = 0 ∧ (f_X0_divide (nI n) w sg a b).1 = (f_X1_divide w sg a b).1 ∧ (f_X0_divide (nI n) w sg a b).2 = nI n) ∨ (x_X0_divide w sg a b = 2 ∧ (f_X1_divide w sg a b).2.1 = 1) := by
  have hA := AL_or w
  have hv := val2_in (x := a.toInt) (sg := sg) hA
  have he := val_in (x := b.toInt) (sg := sg) hA
  have t1 := twice1 w sg a
  have t2 := value1 w sg b
  have hve : sg = 0 → 0 ≤ val2 (AL w) sg a.toInt ∧ 0 ≤ val (AL w) sg b.toInt := fun h => ⟨hv.2.2 h, (he.2.2.1 h).1⟩
  unfold x_X0_divide f_X0_divide f_X1_divide
  dsimp only
  rw [len_AL, t1, t2, twice0, val0, I_J (by omega) (by omega)]
  have hub : (-(AL w) ≤ val (AL w) sg b.toInt ∧ val (AL w) sg b.toInt ≤ AL w) := by
    by_cases h : sg = 0
    · have := he.2.2.1 h; omega
    · have := he.2.2.2 h; omega
  generalize val2 (AL w) sg a.toInt = v at hv hve ⊢
  generalize val (AL w) sg b.toInt = e at he hve hub ⊢
  have hz : (lg_cmp (J e) 0 = 0) ↔ e = 0 := ceq (b := 0) (by omega) (by omega) (by omega) (by omega)
  by_cases h0 : e = 0
  · refine Or.inr ⟨?_, ?_⟩
    · rw [if_pos (hz.mpr h0)]
    · simp only [if_pos (hz.mpr h0)]
      rw [if_neg (by decide)]
      rfl
  · have hnz : ¬ lg_cmp (J e) 0 = 0 := fun q => h0 (hz.mp q)
    have hq := tdiv_in (v := v) (e := e) (by omega) (by omega)
    have hr := tmod_in (v := v) h0
    have hq0 : sg = 0 → 0 ≤ v.tdiv e := fun h => Int.tdiv_nonneg (hve h).1 (hve h).2
    rw [if_neg hnz, if_neg hnz, if_neg hnz, if_neg hnz, J_div (by omega) (by omega) (by omega) (by omega), quot1 hA sg hq.1 hq.2 hq0, J_jr (by omega) (by omega) (by omega) (by omega), quot0 w sg hq.1 hq.2]
    cases hk : qok (AL w) sg (v.tdiv e)
    · refine Or.inr ⟨?_, ?_⟩
      · rw [if_pos (by decide)]
      · rw [if_pos (show b2 false = 0 from rfl), if_neg (by decide)]
    · have hqs : -(AL w) < v.tdiv e ∧ v.tdiv e < AL w := by
        unfold qok at hk
        by_cases h : sg = 0
        · rw [if_pos h] at hk; have := of_decide_eq_true hk; omega
        · rw [if_neg h] at hk; have := of_decide_eq_true hk; omega
      refine Or.inl ⟨?_, ?_, ?_, ?_⟩
      · rw [if_neg (by decide)]
      · rw [if_neg (show ¬ b2 true = 0 by decide), if_pos (by decide)]
      · rw [if_neg (show ¬ b2 true = 0 by decide), if_neg (show ¬ b2 true = 0 by decide), if_pos (by decide)]
        dsimp only
        have hrest : J v - J (v.tdiv e) * J e = J (v.tmod e) := by rw [J_mul, J_sub, Int.mul_comm, Int.tmod_def]
        have f1 : (0 ≤ lg_cmp (J (v.tmod e)) 0) ↔ 0 ≤ v.tmod e := cge (b := 0) (by omega) (by omega) (by omega) (by omega)
        have f2 : (0 ≤ lg_cmp (J (v.tdiv e)) 0) ↔ 0 ≤ v.tdiv e := cge (b := 0) (by omega) (by omega) (by omega) (by omega)
        rw [hrest, ite_iff f1, ite_iff f2, I_J (by omega) (by omega), J_add, J_add, J_I, J_I, div_join]
        have g1 : (if 0 ≤ v.tmod e then J (v.tmod e) else J (v.tmod e + AL w)) = J (v.tmod e % AL w) := by
          split
          · congr 1; rcases hA with h | h <;> rw [h] at hub ⊢ <;> omega
          · congr 1; rcases hA with h | h <;> rw [h] at hub ⊢ <;> omega
        have g2 : (if 0 ≤ v.tdiv e then J (v.tdiv e) else J (v.tdiv e + AL w)) = J (v.tdiv e % AL w) := by
          split
          · congr 1; rcases hA with h | h <;> rw [h] at hqs ⊢ <;> omega
          · congr 1; rcases hA with h | h <;> rw [h] at hqs ⊢ <;> omega
        rw [g1, g2, J_mul, J_add, J_I]
      · rw [if_neg (show ¬ b2 true = 0 by decide)]
