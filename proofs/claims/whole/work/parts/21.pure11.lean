/-! THE PURE PART, 11: adjust, extend, holds, multiply on both sides -/
theorem a0_0 (f a b : Int32) : f_X0_adjust f 0 a b = (f_X0_joined ((a >>> ((8 : Int32) &&& 31)) &&& 255) (f_X0_adjustedSum f (a &&& 255)).1, (f_X0_adjustedSum f (a &&& 255)).2) := rfl
theorem a1_0 (f al a b : Int32) : f_X1_adjust f al 0 a b = ((256 * (if 0 ≤ a then f_X1_byteOf (a / 256) else f_X1_byteOf (a >>> ((8 : Int32) &&& 31)))) + (f_X1_byteOf (((f_X1_byteOf a) + (if (if 9 < jr (f_X1_byteOf a) 16 then (1 : Int32) else (if f_X1_is f 16 = 0 then 0 else 1)) = 0 then 0 else 6)) + (if (if 153 < (f_X1_byteOf a) then (1 : Int32) else (if f_X1_is f 1 = 0 then 0 else 1)) = 0 then 0 else 96))), (0, f_X1_byAnswer (f_X1_put (f_X1_put f 16 (if 9 < jr (f_X1_byteOf a) 16 then (1 : Int32) else (if f_X1_is f 16 = 0 then 0 else 1))) 1 (if 153 < (f_X1_byteOf a) then (1 : Int32) else (if f_X1_is f 1 = 0 then 0 else 1))) (f_X1_length 0) (f_X1_byteOf (((f_X1_byteOf a) + (if (if 9 < jr (f_X1_byteOf a) 16 then (1 : Int32) else (if f_X1_is f 16 = 0 then 0 else 1)) = 0 then 0 else 6)) + (if (if 153 < (f_X1_byteOf a) then (1 : Int32) else (if f_X1_is f 1 = 0 then 0 else 1)) = 0 then 0 else 96))), (f_X1_length 0))) := rfl
theorem ax_0 (f a b : Int32) : x_X0_adjust f 0 a b = 0 := rfl
theorem a0_1 (f a b : Int32) : f_X0_adjust f 1 a b = (f_X0_joined ((a >>> ((8 : Int32) &&& 31)) &&& 255) (f_X0_adjustedDifference f (a &&& 255)).1, (f_X0_adjustedDifference f (a &&& 255)).2) := rfl
theorem a1_1 (f al a b : Int32) : f_X1_adjust f al 1 a b = ((256 * (if 0 ≤ a then f_X1_byteOf (a / 256) else f_X1_byteOf (a >>> ((8 : Int32) &&& 31)))) + (f_X1_byteOf (((f_X1_byteOf a) - (if (if 9 < jr (f_X1_byteOf a) 16 then (1 : Int32) else (if f_X1_is f 16 = 0 then 0 else 1)) = 0 then 0 else 6)) - (if (if 153 < (f_X1_byteOf a) then (1 : Int32) else (if f_X1_is f 1 = 0 then 0 else 1)) = 0 then 0 else 96))), (0, f_X1_byAnswer (f_X1_put (f_X1_put f 16 (if 9 < jr (f_X1_byteOf a) 16 then (1 : Int32) else (if f_X1_is f 16 = 0 then 0 else 1))) 1 (if (if 153 < (f_X1_byteOf a) then (1 : Int32) else (if f_X1_is f 1 = 0 then 0 else 1)) = 0 then (if (if 9 < jr (f_X1_byteOf a) 16 then (1 : Int32) else (if f_X1_is f 16 = 0 then 0 else 1)) = 0 then 0 else (if 6 ≤ (f_X1_byteOf a) then 0 else 1)) else 1)) (f_X1_length 0) (f_X1_byteOf (((f_X1_byteOf a) - (if (if 9 < jr (f_X1_byteOf a) 16 then (1 : Int32) else (if f_X1_is f 16 = 0 then 0 else 1)) = 0 then 0 else 6)) - (if (if 153 < (f_X1_byteOf a) then (1 : Int32) else (if f_X1_is f 1 = 0 then 0 else 1)) = 0 then 0 else 96))), (f_X1_length 0))) := rfl
theorem ax_1 (f a b : Int32) : x_X0_adjust f 1 a b = 0 := rfl
theorem a0_2 (f a b : Int32) : f_X0_adjust f 2 a b = f_X0_adjustedDigit f ((a >>> ((8 : Int32) &&& 31)) &&& 255) (a &&& 255) 1 := rfl
theorem a1_2 (f al a b : Int32) : f_X1_adjust f al 2 a b = ((256 * f_X1_byteOf (if (if 9 < jr (f_X1_byteOf a) 16 then (1 : Int32) else (if f_X1_is f 16 = 0 then 0 else 1)) = 0 then (if 0 ≤ a then f_X1_byteOf (a / 256) else f_X1_byteOf (a >>> ((8 : Int32) &&& 31))) else (if 0 ≤ a then f_X1_byteOf (a / 256) else f_X1_byteOf (a >>> ((8 : Int32) &&& 31))) + 1)) + jr (if (if 9 < jr (f_X1_byteOf a) 16 then (1 : Int32) else (if f_X1_is f 16 = 0 then 0 else 1)) = 0 then (f_X1_byteOf a) else (f_X1_byteOf a) + 6) 16, (0, (f_X1_put (f_X1_put f 16 (if 9 < jr (f_X1_byteOf a) 16 then (1 : Int32) else (if f_X1_is f 16 = 0 then 0 else 1))) 1 (if 9 < jr (f_X1_byteOf a) 16 then (1 : Int32) else (if f_X1_is f 16 = 0 then 0 else 1))), (f_X1_length 0))) := rfl
theorem ax_2 (f a b : Int32) : x_X0_adjust f 2 a b = 0 := rfl
theorem a0_3 (f a b : Int32) : f_X0_adjust f 3 a b = f_X0_adjustedDigit f ((a >>> ((8 : Int32) &&& 31)) &&& 255) (a &&& 255) (-1) := rfl
theorem a1_3 (f al a b : Int32) : f_X1_adjust f al 3 a b = ((256 * f_X1_byteOf (if (if 9 < jr (f_X1_byteOf a) 16 then (1 : Int32) else (if f_X1_is f 16 = 0 then 0 else 1)) = 0 then (if 0 ≤ a then f_X1_byteOf (a / 256) else f_X1_byteOf (a >>> ((8 : Int32) &&& 31))) else (if 0 ≤ a then f_X1_byteOf (a / 256) else f_X1_byteOf (a >>> ((8 : Int32) &&& 31))) - 1)) + jr (if (if 9 < jr (f_X1_byteOf a) 16 then (1 : Int32) else (if f_X1_is f 16 = 0 then 0 else 1)) = 0 then (f_X1_byteOf a) else (f_X1_byteOf a) + 10) 16, (0, (f_X1_put (f_X1_put f 16 (if 9 < jr (f_X1_byteOf a) 16 then (1 : Int32) else (if f_X1_is f 16 = 0 then 0 else 1))) 1 (if 9 < jr (f_X1_byteOf a) 16 then (1 : Int32) else (if f_X1_is f 16 = 0 then 0 else 1))), (f_X1_length 0))) := rfl
theorem ax_3 (f a b : Int32) : x_X0_adjust f 3 a b = 0 := rfl
theorem a0_5 (f a b : Int32) : f_X0_adjust f 5 a b = (f_X0_joined 0 (f_X0_adjustedByte f ((((a >>> ((8 : Int32) &&& 31)) &&& 255) * (b &&& 255)) + (a &&& 255))).1, (f_X0_adjustedByte f ((((a >>> ((8 : Int32) &&& 31)) &&& 255) * (b &&& 255)) + (a &&& 255))).2) := rfl
theorem a1_5 (f al a b : Int32) : f_X1_adjust f al 5 a b = ((f_X1_byteOf (((if 0 ≤ a then f_X1_byteOf (a / 256) else f_X1_byteOf (a >>> ((8 : Int32) &&& 31))) * (f_X1_byteOf b)) + (f_X1_byteOf a))), (0, f_X1_byAnswer f (f_X1_length 0) (f_X1_byteOf (((if 0 ≤ a then f_X1_byteOf (a / 256) else f_X1_byteOf (a >>> ((8 : Int32) &&& 31))) * (f_X1_byteOf b)) + (f_X1_byteOf a))), (f_X1_length 0))) := rfl
theorem ax_5 (f a b : Int32) : x_X0_adjust f 5 a b = 0 := rfl
theorem a0_4 (f a b : Int32) : f_X0_adjust f 4 a b = (if b &&& 255 = 0 then (0, f) else (f_X0_joined ((a &&& 255) / (b &&& 255)) (f_X0_adjustedByte f (jr (a &&& 255) (b &&& 255))).1, (f_X0_adjustedByte f (jr (a &&& 255) (b &&& 255))).2)) := rfl
theorem ax_4 (f a b : Int32) : x_X0_adjust f 4 a b = (if b &&& 255 = 0 then 2 else 0) := rfl
theorem a1_4 (f al a b : Int32) : f_X1_adjust f al 4 a b = (if (if f_X1_byteOf b = 0 then (2 : Int32) else 0) ≤ 0 then ((256 * (f_X1_byteOf a / f_X1_byteOf b)) + jr (f_X1_byteOf a) (f_X1_byteOf b), ((if f_X1_byteOf b = 0 then (2 : Int32) else 0), f_X1_byAnswer f (f_X1_length 0) (jr (f_X1_byteOf a) (f_X1_byteOf b)), f_X1_length 0)) else (0, ((if f_X1_byteOf b = 0 then (2 : Int32) else 0), f, al))) := rfl
theorem ma0_lt {n : Nat} {l : Int} (hn : n < 4096) : ma0 n l < 4096 := mg_lt (sb_lt (sb_lt hn (by decide)) (by decide))
theorem ma1_lt {n : Nat} {l : Int} (hn : n < 4096) : ma1 n l < 4096 := mg_lt (sb_lt (sb_lt hn (by decide)) (by decide))
theorem ma2_lt {n : Nat} {l : Int} (hn : n < 4096) : ma2 n l < 4096 := sb_lt (sb_lt hn (by decide)) (by decide)
theorem len0 : f_X1_length 0 = I 256 := rfl
theorem adj_rel {n : Nat} (hn : n < 4096) (al o a b : Int32) : rel n (x_X0_adjust (nI n) o a b) (f_X0_adjust (nI n) o a b).1 (f_X0_adjust (nI n) o a b).2 (f_X1_adjust (nI n) al o a b).1 (f_X1_adjust (nI n) al o a b).2.1 (f_X1_adjust (nI n) al o a b).2.2.1 := by
  have hl : 0 ≤ a.toInt % 256 ∧ a.toInt % 256 < 256 := by omega
  have hh : 0 ≤ a.toInt / 256 % 256 ∧ a.toInt / 256 % 256 < 256 := by omega
  have hb : 0 ≤ b.toInt % 256 ∧ b.toInt % 256 < 256 := by omega
  have q0 := low0 a; have q1 := up0 a; have q2 := low0 b; have q3 := bof1 a; have q4 := up1 a; have q5 := bof1 b
  generalize a.toInt % 256 = l at *
  generalize a.toInt / 256 % 256 = h at *
  generalize b.toInt % 256 = e at *
  have hg := gp_in (six n l) (more n l)
  have hA : (256 : Int) = 256 ∨ (256 : Int) = 65536 := Or.inl rfl
  by_cases c0 : o = 0
  · subst c0
    rw [ax_0, a0_0, a1_0, q0, q1, q3, q4, six1 hn hl.1 hl.2, more1' hn hl.1 hl.2, g6, g96, asum0 hl.1 hl.2, I_add, I_add]
    have e1 : l + (if six n l = true then 6 else 0) + (if more n l = true then 96 else 0) = l + gp (six n l) (more n l) := by unfold gp; omega
    rw [e1, bof1I (by omega) (by omega), put1_h hn, put1_c (sb_lt hn (by decide)), len0, by1 hA (sb_lt (sb_lt hn (by decide)) (by decide)) (by omega) (by omega), join0 (by omega) (by omega) (by omega) (by omega), show (256 : Int32) = I 256 from rfl, I_mul, I_add]
    refine rel_ok ?_ (ma0_lt hn) rfl rfl
    dsimp only
    rw [Int.emod_eq_of_lt hh.1 hh.2]
  by_cases c1 : o = 1
  · subst c1
    rw [ax_1, a0_1, a1_1, q0, q1, q3, q4, six1 hn hl.1 hl.2, more1' hn hl.1 hl.2, b6_0 _ _ hl.1 hl.2, g6, g96, adif0 hl.1 hl.2, I_sub, I_sub]
    have e1 : l - (if six n l = true then 6 else 0) - (if more n l = true then 96 else 0) = l - gp (six n l) (more n l) := by unfold gp; omega
    rw [e1, bof1I (by omega) (by omega), put1_h hn, put1_c (sb_lt hn (by decide)), len0, by1 hA (sb_lt (sb_lt hn (by decide)) (by decide)) (by omega) (by omega), join0 (by omega) (by omega) (by omega) (by omega), show (256 : Int32) = I 256 from rfl, I_mul, I_add]
    refine rel_ok ?_ (ma1_lt hn) rfl rfl
    dsimp only
    rw [Int.emod_eq_of_lt hh.1 hh.2]
  by_cases c2 : o = 2
  · subst c2
    rw [ax_2, a0_2, a1_2, q0, q1, q3, q4, six1 hn hl.1 hl.2, show f_X0_adjustedDigit (nI n) (I h) (I l) 1 = _ from adig0 (d := 1) hh.1 hh.2 hl.1 hl.2 (Or.inl rfl), put1_h hn, put1_c (sb_lt hn (by decide)), len0]
    refine rel_ok ?_ (ma2_lt hn) rfl rfl
    rw [show (1 : Int32) = I 1 from rfl, show (6 : Int32) = I 6 from rfl, show (256 : Int32) = I 256 from rfl, I_add, I_add]
    cases six n l
    · dsimp only
      (rw [if_neg (show ¬ false = true by decide), if_neg (show ¬ false = true by decide), if_pos (show b2 false = 0 from rfl), if_pos (show b2 false = 0 from rfl), bof1I (by omega) (by omega), I_jr16 (by omega) (by omega), I_mul, I_add]) <;> rfl
    · dsimp only
      (rw [if_pos rfl, if_pos rfl, if_neg (show ¬ b2 true = 0 by decide), if_neg (show ¬ b2 true = 0 by decide), bof1I (by omega) (by omega), I_jr16 (by omega) (by omega), I_mul, I_add]) <;> (first | rfl | (congr 1; omega))
  by_cases c3 : o = 3
  · subst c3
    rw [ax_3, a0_3, a1_3, q0, q1, q3, q4, six1 hn hl.1 hl.2, I_neg1, adig0 (d := -1) hh.1 hh.2 hl.1 hl.2 (Or.inr rfl), put1_h hn, put1_c (sb_lt hn (by decide)), len0]
    refine rel_ok ?_ (ma2_lt hn) rfl rfl
    rw [show (1 : Int32) = I 1 from rfl, show (10 : Int32) = I 10 from rfl, show (256 : Int32) = I 256 from rfl, I_sub, I_add]
    cases six n l
    · dsimp only
      (rw [if_neg (show ¬ false = true by decide), if_neg (show ¬ false = true by decide), if_pos (show b2 false = 0 from rfl), if_pos (show b2 false = 0 from rfl), bof1I (by omega) (by omega), I_jr16 (by omega) (by omega), I_mul, I_add]) <;> rfl
    · dsimp only
      (rw [if_pos rfl, if_pos rfl, if_neg (show ¬ b2 true = 0 by decide), if_neg (show ¬ b2 true = 0 by decide), bof1I (by omega) (by omega), I_jr16 (by omega) (by omega), I_mul, I_add]) <;> (first | rfl | (congr 1; omega))
  by_cases c4 : o = 4
  · subst c4
    have hz : (I e = 0) ↔ e = 0 := I_eq0 (by omega) (by omega)
    rw [ax_4, a0_4, a1_4, q0, q2, q3, q5]
    by_cases he : e = 0
    · rw [if_pos (hz.mpr he), if_pos (hz.mpr he), if_neg (show ¬ (2 : Int32) ≤ 0 by decide)]
      exact Or.inr ⟨by decide, rfl, rfl⟩
    · have hne : ¬ I e = 0 := fun z => he (hz.mp z)
      have hd : 0 ≤ l / e ∧ l / e ≤ l := ⟨Int.ediv_nonneg hl.1 hb.1, Int.ediv_le_self _ hl.1⟩
      have hm : 0 ≤ l % e ∧ l % e < e := ⟨Int.emod_nonneg _ he, Int.emod_lt_of_pos _ (by omega)⟩
      rw [if_neg hne, if_neg hne, if_pos (show (0 : Int32) ≤ 0 by decide), I_jr hl.1 (by omega) (by omega) (by omega), I_divp hl.1 (by omega) (by omega) (by omega), abyte0 (by omega) (by omega), len0, by1 hA hn (by omega) (by omega), show (256 : Int32) = I 256 from rfl, I_mul, I_add]
      generalize l / e = x at hd ⊢
      generalize l % e = y at hm ⊢
      have hy : y % 256 = y := by omega
      dsimp only
      rw [hy, join0 (by omega) (by omega) (by omega) (by omega)]
      exact rel_ok (by congr 1; omega) (mg_lt hn) rfl rfl
  by_cases c5 : o = 5
  · subst c5
    have hm : 0 ≤ h * e ∧ h * e ≤ 65025 := by
      obtain ⟨k1, rfl⟩ := Int.eq_ofNat_of_zero_le hh.1
      obtain ⟨k2, rfl⟩ := Int.eq_ofNat_of_zero_le hb.1
      have h6 : k1 * k2 ≤ 255 * 255 := Nat.mul_le_mul (by omega) (by omega)
      have h7 : (k1 : Int) * (k2 : Int) = ((k1 * k2 : Nat) : Int) := (Int.natCast_mul k1 k2).symm
      omega
    rw [ax_5, a0_5, a1_5, q0, q1, q2, q3, q4, q5, I_mul, I_add, abyte0 (by omega) (by omega), bof1I (by omega) (by omega), len0, by1 hA hn (by omega) (by omega)]
    dsimp only
    rw [show f_X0_joined 0 (I ((h * e + l) % 256)) = _ from join0 (h := 0) (by decide) (by decide) (by omega) (by omega)]
    exact rel_ok (by congr 1; omega) (mg_lt hn) rfl rfl
  have hy : (if o < 0 then (1 : Int32) else (if o ≤ 5 then (if o = 4 then (if f_X1_byteOf b = 0 then 2 else 0) else 0) else 1)) = 1 := by
    rw [if_neg c4]
    exact one_out 5 (by decide) (fun j hj => by rcases (show j = 0 ∨ j = 1 ∨ j = 2 ∨ j = 3 ∨ j = 4 ∨ j = 5 by omega) with rfl | rfl | rfl | rfl | rfl | rfl <;> assumption)
  refine Or.inr ⟨?_, ?_, ?_⟩
  · simp only [x_X0_adjust, if_neg c0, if_neg c1, if_neg c2, if_neg c3, if_neg c4, if_neg c5]; decide
  · simp only [x_X0_adjust, f_X1_adjust, hy]
    rw [if_neg (show ¬ (1 : Int32) ≤ 0 by decide)]
    simp only [if_neg c0, if_neg c1, if_neg c2, if_neg c3, if_neg c4, if_neg c5]
  · simp only [f_X1_adjust, hy]
    rw [if_neg (show ¬ (1 : Int32) ≤ 0 by decide)]
theorem ext_eq (w a : Int32) : f_X0_extend w a = (f_X1_extend w a).1 := by
  have hA := AL_or w
  have h1 := Int32.le_toInt a
  have h2 := Int32.toInt_lt a
  have hm : 0 ≤ a.toInt % AL w ∧ a.toInt % AL w < AL w := ⟨Int.emod_nonneg _ (by omega), Int.emod_lt_of_pos _ (by omega)⟩
  have hs := sgn_in (a := a.toInt) hA
  have e0 : f_X0_signedValue w a = I (sgn (AL w) a.toInt) := by
    conv => lhs; rw [← I_to a]
    exact sv0 w h1 h2
  unfold f_X0_extend f_X1_extend; dsimp only
  rw [e0, len_AL, oper1, sv1 hA hm.1 hm.2, sgn_mod hA, I_m65535, I_toInt (by omega) (by omega)]
  by_cases hw : w = 0
  · rw [if_pos hw, if_pos hw]
    by_cases h : 0 ≤ sgn (AL w) a.toInt
    · rw [if_pos ((I_le0 (by omega) (by omega)).mpr h)]; congr 1; omega
    · rw [if_neg (fun q => h ((I_le0 (by omega) (by omega)).mp q)), show (65536 : Int32) = I 65536 from rfl, I_add]; congr 1; omega
  · rw [if_neg hw, if_neg hw]
theorem ext_cd (w a : Int32) : (f_X1_extend w a).2.1 = 0 := rfl
theorem mul_eq (w sg a b : Int32) {n : Nat} (hn : n < 4096) : (f_X0_multiply (nI n) w sg a b).1 = (f_X1_multiply (nI n) w sg a b).1 ∧ ∃ m, m < 4096 ∧ (f_X0_multiply (nI n) w sg a b).2 = nI m ∧ (f_X1_multiply (nI n) w sg a b).2.2.1 = nI m := by
  rw [mul0 w sg a b n, mul1 w sg a b hn]
  exact ⟨rfl, _, mmul_lt hn, rfl, rfl⟩
theorem set_eq (a : Int32) : (f_X1_set a).2 = f_X0_set a ∧ ∃ m, m < 4096 ∧ f_X0_set a = nI m := by
  refine ⟨rfl, (a.toBitVec.toNat &&& 4053), Nat.lt_of_le_of_lt Nat.and_le_right (by decide), ?_⟩
  show a &&& 4053 = _
  have h : a = nI a.toBitVec.toNat := by
    apply Int32.toBitVec_inj.1
    show a.toBitVec = BitVec.ofNat 32 a.toBitVec.toNat
    rw [BitVec.ofNat_toNat]
    exact (BitVec.setWidth_eq _).symm
  conv => lhs; rw [h]
  exact fa_and _ 4053
theorem h0_0 (f : Int32) : f_X0_holds f 0 = ((f_X0_isSet f 2048), f) := rfl
theorem h1_0 (f : Int32) : f_X1_holds f 0 = ((f_X1_is f 2048), 0) := rfl
theorem hx_0 (f : Int32) : x_X0_holds f 0 = 0 := rfl
theorem h0_1 (f : Int32) : f_X0_holds f 1 = ((if (f_X0_isSet f 2048) = 0 then 1 else 0), f) := rfl
theorem h1_1 (f : Int32) : f_X1_holds f 1 = ((if (f_X1_is f 2048) = 0 then 1 else 0), 0) := rfl
theorem hx_1 (f : Int32) : x_X0_holds f 1 = 0 := rfl
theorem h0_2 (f : Int32) : f_X0_holds f 2 = ((f_X0_isSet f 1), f) := rfl
theorem h1_2 (f : Int32) : f_X1_holds f 2 = ((f_X1_is f 1), 0) := rfl
theorem hx_2 (f : Int32) : x_X0_holds f 2 = 0 := rfl
theorem h0_3 (f : Int32) : f_X0_holds f 3 = ((if (f_X0_isSet f 1) = 0 then 1 else 0), f) := rfl
theorem h1_3 (f : Int32) : f_X1_holds f 3 = ((if (f_X1_is f 1) = 0 then 1 else 0), 0) := rfl
theorem hx_3 (f : Int32) : x_X0_holds f 3 = 0 := rfl
theorem h0_4 (f : Int32) : f_X0_holds f 4 = ((f_X0_isSet f 64), f) := rfl
theorem h1_4 (f : Int32) : f_X1_holds f 4 = ((f_X1_is f 64), 0) := rfl
theorem hx_4 (f : Int32) : x_X0_holds f 4 = 0 := rfl
theorem h0_5 (f : Int32) : f_X0_holds f 5 = ((if (f_X0_isSet f 64) = 0 then 1 else 0), f) := rfl
theorem h1_5 (f : Int32) : f_X1_holds f 5 = ((if (f_X1_is f 64) = 0 then 1 else 0), 0) := rfl
theorem hx_5 (f : Int32) : x_X0_holds f 5 = 0 := rfl
theorem h0_6 (f : Int32) : f_X0_holds f 6 = ((if (f_X0_isSet f 1) = 0 then (if (f_X0_isSet f 64) = 0 then 0 else 1) else 1), f) := rfl
theorem h1_6 (f : Int32) : f_X1_holds f 6 = ((if (f_X1_is f 1) = 0 then (if (f_X1_is f 64) = 0 then (0 : Int32) else 1) else 1), 0) := rfl
theorem hx_6 (f : Int32) : x_X0_holds f 6 = 0 := rfl
theorem h0_7 (f : Int32) : f_X0_holds f 7 = ((if (f_X0_isSet f 1) = 0 then (if (f_X0_isSet f 64) = 0 then 1 else 0) else 0), f) := rfl
theorem h1_7 (f : Int32) : f_X1_holds f 7 = ((if (if (f_X1_is f 1) = 0 then (if (f_X1_is f 64) = 0 then (0 : Int32) else 1) else 1) = 0 then 1 else 0), 0) := rfl
theorem hx_7 (f : Int32) : x_X0_holds f 7 = 0 := rfl
theorem h0_8 (f : Int32) : f_X0_holds f 8 = ((f_X0_isSet f 128), f) := rfl
theorem h1_8 (f : Int32) : f_X1_holds f 8 = ((f_X1_is f 128), 0) := rfl
theorem hx_8 (f : Int32) : x_X0_holds f 8 = 0 := rfl
theorem h0_9 (f : Int32) : f_X0_holds f 9 = ((if (f_X0_isSet f 128) = 0 then 1 else 0), f) := rfl
theorem h1_9 (f : Int32) : f_X1_holds f 9 = ((if (f_X1_is f 128) = 0 then 1 else 0), 0) := rfl
theorem hx_9 (f : Int32) : x_X0_holds f 9 = 0 := rfl
theorem h0_10 (f : Int32) : f_X0_holds f 10 = ((f_X0_isSet f 4), f) := rfl
theorem h1_10 (f : Int32) : f_X1_holds f 10 = ((f_X1_is f 4), 0) := rfl
theorem hx_10 (f : Int32) : x_X0_holds f 10 = 0 := rfl
theorem h0_11 (f : Int32) : f_X0_holds f 11 = ((if (f_X0_isSet f 4) = 0 then 1 else 0), f) := rfl
theorem h1_11 (f : Int32) : f_X1_holds f 11 = ((if (f_X1_is f 4) = 0 then 1 else 0), 0) := rfl
theorem hx_11 (f : Int32) : x_X0_holds f 11 = 0 := rfl
theorem h0_12 (f : Int32) : f_X0_holds f 12 = ((f_X0_isLess f), f) := rfl
theorem h1_12 (f : Int32) : f_X1_holds f 12 = ((if (f_X1_is f 128) = (f_X1_is f 2048) then (0 : Int32) else 1), 0) := rfl
theorem hx_12 (f : Int32) : x_X0_holds f 12 = 0 := rfl
theorem h0_13 (f : Int32) : f_X0_holds f 13 = ((if (f_X0_isLess f) = 0 then 1 else 0), f) := rfl
theorem h1_13 (f : Int32) : f_X1_holds f 13 = ((if (if (f_X1_is f 128) = (f_X1_is f 2048) then (0 : Int32) else 1) = 0 then 1 else 0), 0) := rfl
theorem hx_13 (f : Int32) : x_X0_holds f 13 = 0 := rfl
theorem h0_14 (f : Int32) : f_X0_holds f 14 = ((if (f_X0_isLess f) = 0 then (if (f_X0_isSet f 64) = 0 then 0 else 1) else 1), f) := rfl
theorem h1_14 (f : Int32) : f_X1_holds f 14 = ((if (if (f_X1_is f 128) = (f_X1_is f 2048) then (0 : Int32) else 1) = 0 then (if (f_X1_is f 64) = 0 then (0 : Int32) else 1) else 1), 0) := rfl
theorem hx_14 (f : Int32) : x_X0_holds f 14 = 0 := rfl
theorem h0_15 (f : Int32) : f_X0_holds f 15 = ((if (f_X0_isLess f) = 0 then (if (f_X0_isSet f 64) = 0 then 1 else 0) else 0), f) := rfl
theorem h1_15 (f : Int32) : f_X1_holds f 15 = ((if (if (if (f_X1_is f 128) = (f_X1_is f 2048) then (0 : Int32) else 1) = 0 then (if (f_X1_is f 64) = 0 then (0 : Int32) else 1) else 1) = 0 then 1 else 0), 0) := by
  have y1 : (if (15 : Int32) < 0 then (1 : Int32) else (if (15 : Int32) ≤ 15 then 0 else 1)) = 0 := by decide
  have e1 : (15 : Int32) / 2 = 7 := by decide
  have e2 : ¬ jr 15 2 = 0 := by decide
  have k0 : ¬ (7 : Int32) = 0 := by decide
  have k1 : ¬ (7 : Int32) = 1 := by decide
  have k2 : ¬ (7 : Int32) = 2 := by decide
  have k3 : ¬ (7 : Int32) = 3 := by decide
  have k4 : ¬ (7 : Int32) = 4 := by decide
  have k5 : ¬ (7 : Int32) = 5 := by decide
  have k6 : ¬ (7 : Int32) = 6 := by decide
  simp only [f_X1_holds, y1, e1, if_neg e2, if_neg k0, if_neg k1, if_neg k2, if_neg k3, if_neg k4, if_neg k5, if_neg k6]
  rw [if_pos (show (0 : Int32) ≤ 0 by decide)]
theorem hx_15 (f : Int32) : x_X0_holds f 15 = 0 := rfl
theorem less0_ (n : Nat) : f_X0_isLess (nI n) = (if b2 (n.testBit 7) = b2 (n.testBit 11) then (0 : Int32) else 1) := by unfold f_X0_isLess; dsimp only; rw [is0_s, is0_o]
theorem h_rel {n : Nat} (hn : n < 4096) (o : Int32) : (x_X0_holds (nI n) o = 0 ∧ (f_X1_holds (nI n) o).2 = 0 ∧ (f_X0_holds (nI n) o).1 = (f_X1_holds (nI n) o).1 ∧ (f_X0_holds (nI n) o).2 = nI n) ∨ (x_X0_holds (nI n) o = 1 ∧ (f_X1_holds (nI n) o).2 = 1) := by
  by_cases c0 : o = 0
  · subst c0
    rw [hx_0, h0_0, h1_0]
    refine Or.inl ⟨rfl, rfl, ?_, rfl⟩
    dsimp only
    (rw [is0_o, is1_o hn]) <;> (cases n.testBit 11 <;> rfl)
  by_cases c1 : o = 1
  · subst c1
    rw [hx_1, h0_1, h1_1]
    refine Or.inl ⟨rfl, rfl, ?_, rfl⟩
    dsimp only
    (rw [is0_o, is1_o hn]) <;> (cases n.testBit 11 <;> rfl)
  by_cases c2 : o = 2
  · subst c2
    rw [hx_2, h0_2, h1_2]
    refine Or.inl ⟨rfl, rfl, ?_, rfl⟩
    dsimp only
    (rw [is0_c, is1_c hn]) <;> (cases n.testBit 0 <;> rfl)
  by_cases c3 : o = 3
  · subst c3
    rw [hx_3, h0_3, h1_3]
    refine Or.inl ⟨rfl, rfl, ?_, rfl⟩
    dsimp only
    (rw [is0_c, is1_c hn]) <;> (cases n.testBit 0 <;> rfl)
  by_cases c4 : o = 4
  · subst c4
    rw [hx_4, h0_4, h1_4]
    refine Or.inl ⟨rfl, rfl, ?_, rfl⟩
    dsimp only
    (rw [is0_z, is1_z hn]) <;> (cases n.testBit 6 <;> rfl)
  by_cases c5 : o = 5
  · subst c5
    rw [hx_5, h0_5, h1_5]
    refine Or.inl ⟨rfl, rfl, ?_, rfl⟩
    dsimp only
    (rw [is0_z, is1_z hn]) <;> (cases n.testBit 6 <;> rfl)
  by_cases c6 : o = 6
  · subst c6
    rw [hx_6, h0_6, h1_6]
    refine Or.inl ⟨rfl, rfl, ?_, rfl⟩
    dsimp only
    (rw [is0_c, is0_z, is1_c hn, is1_z hn]) <;> (cases n.testBit 0 <;> cases n.testBit 6 <;> rfl)
  by_cases c7 : o = 7
  · subst c7
    rw [hx_7, h0_7, h1_7]
    refine Or.inl ⟨rfl, rfl, ?_, rfl⟩
    dsimp only
    (rw [is0_c, is0_z, is1_c hn, is1_z hn]) <;> (cases n.testBit 0 <;> cases n.testBit 6 <;> rfl)
  by_cases c8 : o = 8
  · subst c8
    rw [hx_8, h0_8, h1_8]
    refine Or.inl ⟨rfl, rfl, ?_, rfl⟩
    dsimp only
    (rw [is0_s, is1_s hn]) <;> (cases n.testBit 7 <;> rfl)
  by_cases c9 : o = 9
  · subst c9
    rw [hx_9, h0_9, h1_9]
    refine Or.inl ⟨rfl, rfl, ?_, rfl⟩
    dsimp only
    (rw [is0_s, is1_s hn]) <;> (cases n.testBit 7 <;> rfl)
  by_cases c10 : o = 10
  · subst c10
    rw [hx_10, h0_10, h1_10]
    refine Or.inl ⟨rfl, rfl, ?_, rfl⟩
    dsimp only
    (rw [is0_p, is1_p hn]) <;> (cases n.testBit 2 <;> rfl)
  by_cases c11 : o = 11
  · subst c11
    rw [hx_11, h0_11, h1_11]
    refine Or.inl ⟨rfl, rfl, ?_, rfl⟩
    dsimp only
    (rw [is0_p, is1_p hn]) <;> (cases n.testBit 2 <;> rfl)
  by_cases c12 : o = 12
  · subst c12
    rw [hx_12, h0_12, h1_12]
    refine Or.inl ⟨rfl, rfl, ?_, rfl⟩
    dsimp only
    (rw [less0_, is1_s hn, is1_o hn]) <;> (cases n.testBit 7 <;> cases n.testBit 11 <;> rfl)
  by_cases c13 : o = 13
  · subst c13
    rw [hx_13, h0_13, h1_13]
    refine Or.inl ⟨rfl, rfl, ?_, rfl⟩
    dsimp only
    (rw [less0_, is1_s hn, is1_o hn]) <;> (cases n.testBit 7 <;> cases n.testBit 11 <;> rfl)
  by_cases c14 : o = 14
  · subst c14
    rw [hx_14, h0_14, h1_14]
    refine Or.inl ⟨rfl, rfl, ?_, rfl⟩
    dsimp only
    (rw [less0_, is0_z, is1_s hn, is1_o hn, is1_z hn]) <;> (cases n.testBit 7 <;> cases n.testBit 11 <;> cases n.testBit 6 <;> rfl)
  by_cases c15 : o = 15
  · subst c15
    rw [hx_15, h0_15, h1_15]
    refine Or.inl ⟨rfl, rfl, ?_, rfl⟩
    dsimp only
    (rw [less0_, is0_z, is1_s hn, is1_o hn, is1_z hn]) <;> (cases n.testBit 7 <;> cases n.testBit 11 <;> cases n.testBit 6 <;> rfl)
  have hy : (if o < 0 then (1 : Int32) else (if o ≤ 15 then 0 else 1)) = 1 := one_out 15 (by decide) (fun j hj => by rcases (show j = 0 ∨ j = 1 ∨ j = 2 ∨ j = 3 ∨ j = 4 ∨ j = 5 ∨ j = 6 ∨ j = 7 ∨ j = 8 ∨ j = 9 ∨ j = 10 ∨ j = 11 ∨ j = 12 ∨ j = 13 ∨ j = 14 ∨ j = 15 by omega) with rfl | rfl | rfl | rfl | rfl | rfl | rfl | rfl | rfl | rfl | rfl | rfl | rfl | rfl | rfl | rfl <;> assumption)
  refine Or.inr ⟨?_, ?_⟩
  · simp only [x_X0_holds, if_neg c0, if_neg c1, if_neg c2, if_neg c3, if_neg c4, if_neg c5, if_neg c6, if_neg c7, if_neg c8, if_neg c9, if_neg c10, if_neg c11, if_neg c12, if_neg c13, if_neg c14, if_neg c15]
  · simp only [f_X1_holds, hy]
    rw [if_neg (by decide)]
