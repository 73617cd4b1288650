/-! THE PURE PART, 4: operate -/
theorem msum_lt {n : Nat} {A a b c : Int} (hn : n < 4096) : msum n A a b c < 4096 := mg_lt (sb_lt (sb_lt (sb_lt hn (by decide)) (by decide)) (by decide))
theorem mdif_lt {n : Nat} {A a b c : Int} (hn : n < 4096) : mdif n A a b c < 4096 := mg_lt (sb_lt (sb_lt (sb_lt hn (by decide)) (by decide)) (by decide))
theorem mlog_lt {n r : Nat} {A : Int} (hn : n < 4096) : mlog n A r < 4096 := mg_lt (sb_lt (sb_lt (sb_lt hn (by decide)) (by decide)) (by decide))
theorem more0 (w : Int32) {n : Nat} {a : Int} (ha : 0 ≤ a) (ha2 : a < AL w) : f_X0_oneMore (nI n) w (I a) = (I ((a + 1) % AL w), nI (sb (msum n (AL w) a 1 0) 0 (n.testBit 0))) := by
  have hA := AL_or w
  unfold f_X0_oneMore; dsimp only
  rw [is0_c, show f_X0_sum (nI n) w (I a) 1 0 = _ from sum0 w (b := 1) (c := 0) ha ha2 (by decide) (by omega) (by decide) (by decide), put0_c, Int.add_zero]
theorem less0 (w : Int32) {n : Nat} {a : Int} (ha : 0 ≤ a) (ha2 : a < AL w) : f_X0_oneLess (nI n) w (I a) = (I ((a - 1) % AL w), nI (sb (mdif n (AL w) a 1 0) 0 (n.testBit 0))) := by
  have hA := AL_or w
  unfold f_X0_oneLess; dsimp only
  rw [is0_c, show f_X0_difference (nI n) w (I a) 1 0 = _ from dif0 w (b := 1) (c := 0) ha ha2 (by decide) (by omega) (by decide) (by decide), put0_c, Int.sub_zero]
theorem more1 {A : Int} (hA : A = 256 ∨ A = 65536) {n : Nat} (hn : n < 4096) {a : Int} (ha : 0 ≤ a) (ha2 : a < A) : ((f_X1_sum (nI n) (I A) (I a) 1 0).1, f_X1_put (f_X1_sum (nI n) (I A) (I a) 1 0).2 1 (f_X1_is (nI n) 1)) = (I ((a + 1) % A), nI (sb (msum n A a 1 0) 0 (n.testBit 0))) := by
  rw [is1_c hn, show f_X1_sum (nI n) (I A) (I a) 1 0 = _ from sum1 hA hn (b := 1) (c := 0) ha ha2 (by decide) (by omega) (by decide) (by decide), put1_c (msum_lt hn), Int.add_zero]
theorem less1 {A : Int} (hA : A = 256 ∨ A = 65536) {n : Nat} (hn : n < 4096) {a : Int} (ha : 0 ≤ a) (ha2 : a < A) : ((f_X1_difference (nI n) (I A) (I a) 1 0).1, f_X1_put (f_X1_difference (nI n) (I A) (I a) 1 0).2 1 (f_X1_is (nI n) 1)) = (I ((a - 1) % A), nI (sb (mdif n A a 1 0) 0 (n.testBit 0))) := by
  rw [is1_c hn, show f_X1_difference (nI n) (I A) (I a) 1 0 = _ from dif1 hA hn (b := 1) (c := 0) ha ha2 (by decide) (by omega) (by decide) (by decide), put1_c (mdif_lt hn), Int.sub_zero]
theorem not0 (w : Int32) {a : Nat} (ha : (a : Int) < AL w) : f_X0_operand w (I a ^^^ (-1)) = (I (AL w) - 1) - I a := by
  have hA := AL_or w
  have e : I a ^^^ (-1) = I (-1 - a) := by
    have h1 : I (-1 - a) = ~~~ (I a) := by
      rw [← Int32.toInt_inj, Int32.toInt_not, I_toInt (by omega) (by omega), I_toInt (by omega) (by omega), Int.bmod_def]
      omega
    rw [h1]
    apply Int32.toBitVec_inj.1
    show (I a).toBitVec ^^^ BitVec.allOnes 32 = ~~~ (I a).toBitVec
    exact BitVec.xor_allOnes
  rw [e, oper0, I_toInt (by omega) (by omega), show (1 : Int32) = I 1 from rfl, I_sub, I_sub]
  congr 1
  rcases hA with h | h <;> rw [h] at ha ⊢ <;> omega
theorem o0_0 (f w a b : Int32) : f_X0_operate f 0 w a b = f_X0_sum f w (f_X0_operand w a) (f_X0_operand w b) 0 := rfl
theorem o1_0 (f al w a b : Int32) : f_X1_operate f al 0 w a b = ((f_X1_sum f (f_X1_length w) (f_X1_operand (f_X1_length w) a) (f_X1_operand (f_X1_length w) b) 0).1, (0, (f_X1_sum f (f_X1_length w) (f_X1_operand (f_X1_length w) a) (f_X1_operand (f_X1_length w) b) 0).2, (f_X1_length w))) := rfl
theorem ox_0 (f w a b : Int32) : x_X0_operate f 0 w a b = 0 := rfl
theorem o0_1 (f w a b : Int32) : f_X0_operate f 1 w a b = f_X0_logic f w ((f_X0_operand w a) ||| (f_X0_operand w b)) := rfl
theorem o1_1 (f al w a b : Int32) : f_X1_operate f al 1 w a b = ((f_X1_logic f (f_X1_length w) 1 (f_X1_operand (f_X1_length w) a) (f_X1_operand (f_X1_length w) b)).1, (0, (f_X1_logic f (f_X1_length w) 1 (f_X1_operand (f_X1_length w) a) (f_X1_operand (f_X1_length w) b)).2, (f_X1_length w))) := rfl
theorem ox_1 (f w a b : Int32) : x_X0_operate f 1 w a b = 0 := rfl
theorem o0_2 (f w a b : Int32) : f_X0_operate f 2 w a b = f_X0_sum f w (f_X0_operand w a) (f_X0_operand w b) (f &&& 1) := rfl
theorem o1_2 (f al w a b : Int32) : f_X1_operate f al 2 w a b = ((f_X1_sum f (f_X1_length w) (f_X1_operand (f_X1_length w) a) (f_X1_operand (f_X1_length w) b) (if f_X1_is f 1 = 0 then 0 else 1)).1, (0, (f_X1_sum f (f_X1_length w) (f_X1_operand (f_X1_length w) a) (f_X1_operand (f_X1_length w) b) (if f_X1_is f 1 = 0 then 0 else 1)).2, (f_X1_length w))) := rfl
theorem ox_2 (f w a b : Int32) : x_X0_operate f 2 w a b = 0 := rfl
theorem o0_3 (f w a b : Int32) : f_X0_operate f 3 w a b = f_X0_difference f w (f_X0_operand w a) (f_X0_operand w b) (f &&& 1) := rfl
theorem o1_3 (f al w a b : Int32) : f_X1_operate f al 3 w a b = ((f_X1_difference f (f_X1_length w) (f_X1_operand (f_X1_length w) a) (f_X1_operand (f_X1_length w) b) (if f_X1_is f 1 = 0 then 0 else 1)).1, (0, (f_X1_difference f (f_X1_length w) (f_X1_operand (f_X1_length w) a) (f_X1_operand (f_X1_length w) b) (if f_X1_is f 1 = 0 then 0 else 1)).2, (f_X1_length w))) := rfl
theorem ox_3 (f w a b : Int32) : x_X0_operate f 3 w a b = 0 := rfl
theorem o0_4 (f w a b : Int32) : f_X0_operate f 4 w a b = f_X0_logic f w ((f_X0_operand w a) &&& (f_X0_operand w b)) := rfl
theorem o1_4 (f al w a b : Int32) : f_X1_operate f al 4 w a b = ((f_X1_logic f (f_X1_length w) 4 (f_X1_operand (f_X1_length w) a) (f_X1_operand (f_X1_length w) b)).1, (0, (f_X1_logic f (f_X1_length w) 4 (f_X1_operand (f_X1_length w) a) (f_X1_operand (f_X1_length w) b)).2, (f_X1_length w))) := rfl
theorem ox_4 (f w a b : Int32) : x_X0_operate f 4 w a b = 0 := rfl
theorem o0_5 (f w a b : Int32) : f_X0_operate f 5 w a b = f_X0_difference f w (f_X0_operand w a) (f_X0_operand w b) 0 := rfl
theorem o1_5 (f al w a b : Int32) : f_X1_operate f al 5 w a b = ((f_X1_difference f (f_X1_length w) (f_X1_operand (f_X1_length w) a) (f_X1_operand (f_X1_length w) b) 0).1, (0, (f_X1_difference f (f_X1_length w) (f_X1_operand (f_X1_length w) a) (f_X1_operand (f_X1_length w) b) 0).2, (f_X1_length w))) := rfl
theorem ox_5 (f w a b : Int32) : x_X0_operate f 5 w a b = 0 := rfl
theorem o0_6 (f w a b : Int32) : f_X0_operate f 6 w a b = f_X0_logic f w ((f_X0_operand w a) ^^^ (f_X0_operand w b)) := rfl
theorem o1_6 (f al w a b : Int32) : f_X1_operate f al 6 w a b = ((f_X1_logic f (f_X1_length w) 6 (f_X1_operand (f_X1_length w) a) (f_X1_operand (f_X1_length w) b)).1, (0, (f_X1_logic f (f_X1_length w) 6 (f_X1_operand (f_X1_length w) a) (f_X1_operand (f_X1_length w) b)).2, (f_X1_length w))) := rfl
theorem ox_6 (f w a b : Int32) : x_X0_operate f 6 w a b = 0 := rfl
theorem o0_7 (f w a b : Int32) : f_X0_operate f 7 w a b = ((f_X0_operand w a), (f_X0_difference f w (f_X0_operand w a) (f_X0_operand w b) 0).2) := rfl
theorem o1_7 (f al w a b : Int32) : f_X1_operate f al 7 w a b = ((f_X1_operand (f_X1_length w) a), (0, (f_X1_difference f (f_X1_length w) (f_X1_operand (f_X1_length w) a) (f_X1_operand (f_X1_length w) b) 0).2, (f_X1_length w))) := rfl
theorem ox_7 (f w a b : Int32) : x_X0_operate f 7 w a b = 0 := rfl
theorem o0_8 (f w a b : Int32) : f_X0_operate f 8 w a b = ((f_X0_operand w a), (f_X0_logic f w ((f_X0_operand w a) &&& (f_X0_operand w b))).2) := rfl
theorem o1_8 (f al w a b : Int32) : f_X1_operate f al 8 w a b = ((f_X1_operand (f_X1_length w) a), (0, (f_X1_logic f (f_X1_length w) 4 (f_X1_operand (f_X1_length w) a) (f_X1_operand (f_X1_length w) b)).2, (f_X1_length w))) := rfl
theorem ox_8 (f w a b : Int32) : x_X0_operate f 8 w a b = 0 := rfl
theorem o0_9 (f w a b : Int32) : f_X0_operate f 9 w a b = f_X0_oneMore f w (f_X0_operand w a) := rfl
theorem o1_9 (f al w a b : Int32) : f_X1_operate f al 9 w a b = ((f_X1_sum f (f_X1_length w) (f_X1_operand (f_X1_length w) a) 1 0).1, (0, f_X1_put (f_X1_sum f (f_X1_length w) (f_X1_operand (f_X1_length w) a) 1 0).2 1 (f_X1_is f 1), (f_X1_length w))) := rfl
theorem ox_9 (f w a b : Int32) : x_X0_operate f 9 w a b = 0 := rfl
theorem o0_10 (f w a b : Int32) : f_X0_operate f 10 w a b = f_X0_oneLess f w (f_X0_operand w a) := rfl
theorem o1_10 (f al w a b : Int32) : f_X1_operate f al 10 w a b = ((f_X1_difference f (f_X1_length w) (f_X1_operand (f_X1_length w) a) 1 0).1, (0, f_X1_put (f_X1_difference f (f_X1_length w) (f_X1_operand (f_X1_length w) a) 1 0).2 1 (f_X1_is f 1), (f_X1_length w))) := rfl
theorem ox_10 (f w a b : Int32) : x_X0_operate f 10 w a b = 0 := rfl
theorem o0_11 (f w a b : Int32) : f_X0_operate f 11 w a b = f_X0_difference f w 0 (f_X0_operand w a) 0 := rfl
theorem o1_11 (f al w a b : Int32) : f_X1_operate f al 11 w a b = ((f_X1_difference f (f_X1_length w) 0 (f_X1_operand (f_X1_length w) a) 0).1, (0, (f_X1_difference f (f_X1_length w) 0 (f_X1_operand (f_X1_length w) a) 0).2, (f_X1_length w))) := rfl
theorem ox_11 (f w a b : Int32) : x_X0_operate f 11 w a b = 0 := rfl
theorem o0_12 (f w a b : Int32) : f_X0_operate f 12 w a b = (f_X0_operand w ((f_X0_operand w a) ^^^ (-1)), f) := rfl
theorem o1_12 (f al w a b : Int32) : f_X1_operate f al 12 w a b = (((f_X1_length w) - 1) - (f_X1_operand (f_X1_length w) a), (0, f, (f_X1_length w))) := rfl
theorem ox_12 (f w a b : Int32) : x_X0_operate f 12 w a b = 0 := rfl
theorem opn_in (w o : Int32) {p q : Nat} (hp : (p : Int) < AL w) (hq : (q : Int) < AL w) : ((opn o p q : Nat) : Int) < AL w := by
  rcases AL_or w with h | h
  · rw [h] at hp hq ⊢; exact Int.ofNat_lt.mpr (opn_lt (k := 8) (by omega) (by omega))
  · rw [h] at hp hq ⊢; exact Int.ofNat_lt.mpr (opn_lt (k := 16) (by omega) (by omega))
set_option maxHeartbeats 1000000 in
theorem op_rel {n : Nat} (hn : n < 4096) (al o w a b : Int32) : rel n (x_X0_operate (nI n) o w a b) (f_X0_operate (nI n) o w a b).1 (f_X0_operate (nI n) o w a b).2 (f_X1_operate (nI n) al o w a b).1 (f_X1_operate (nI n) al o w a b).2.1 (f_X1_operate (nI n) al o w a b).2.2.1 := by
  have hA := AL_or w
  obtain ⟨p, hp, p0, p1⟩ := oper_in w a
  obtain ⟨q, hq, q0, q1⟩ := oper_in w b
  have hc : (if n.testBit 0 = true then (1 : Int) else 0) = 0 ∨ (if n.testBit 0 = true then (1 : Int) else 0) = 1 := by cases n.testBit 0 <;> simp
  have z0 : (0 : Int32) = I 0 := rfl
  by_cases h0 : o = 0
  · subst h0
    rw [ox_0, o0_0, o1_0, len_AL, p0, q0, p1, q1, z0]
    dsimp only
    exact rel_p (msum_lt hn) (sum0 w (by omega) hp (by omega) hq (by omega) (by omega)) (sum1 hA hn (by omega) hp (by omega) hq (by omega) (by omega))
  by_cases h1 : o = 1
  · subst h1
    rw [ox_1, o0_1, o1_1, len_AL, p0, q0, p1, q1, I_nI, I_nI, fa_or]
    dsimp only
    exact rel_p (mlog_lt hn) (log0 w (opn_in w (o := 1) hp hq)) (log1 w hn 1 hp hq)
  by_cases h2 : o = 2
  · subst h2
    rw [ox_2, o0_2, o1_2, len_AL, p0, q0, p1, q1, bit0, car1 hn]
    dsimp only
    exact rel_p (msum_lt hn) (sum0 w (by omega) hp (by omega) hq (by omega) (by omega)) (sum1 hA hn (by omega) hp (by omega) hq (by omega) (by omega))
  by_cases h3 : o = 3
  · subst h3
    rw [ox_3, o0_3, o1_3, len_AL, p0, q0, p1, q1, bit0, car1 hn]
    dsimp only
    exact rel_p (mdif_lt hn) (dif0 w (by omega) hp (by omega) hq (by omega) (by omega)) (dif1 hA hn (by omega) hp (by omega) hq (by omega) (by omega))
  by_cases h4 : o = 4
  · subst h4
    rw [ox_4, o0_4, o1_4, len_AL, p0, q0, p1, q1, I_nI, I_nI, fa_and]
    dsimp only
    exact rel_p (mlog_lt hn) (log0 w (opn_in w (o := 4) hp hq)) (log1 w hn 4 hp hq)
  by_cases h5 : o = 5
  · subst h5
    rw [ox_5, o0_5, o1_5, len_AL, p0, q0, p1, q1, z0]
    dsimp only
    exact rel_p (mdif_lt hn) (dif0 w (by omega) hp (by omega) hq (by omega) (by omega)) (dif1 hA hn (by omega) hp (by omega) hq (by omega) (by omega))
  by_cases h6 : o = 6
  · subst h6
    rw [ox_6, o0_6, o1_6, len_AL, p0, q0, p1, q1, I_nI, I_nI, fb_xorI]
    dsimp only
    exact rel_p (mlog_lt hn) (log0 w (opn_in w (o := 6) hp hq)) (log1 w hn 6 hp hq)
  by_cases h7 : o = 7
  · subst h7
    rw [ox_7, o0_7, o1_7, len_AL, p0, q0, p1, q1, z0]
    dsimp only
    exact rel_q rfl (mdif_lt hn) (dif0 w (by omega) hp (by omega) hq (by omega) (by omega)) (dif1 hA hn (by omega) hp (by omega) hq (by omega) (by omega))
  by_cases h8 : o = 8
  · subst h8
    rw [ox_8, o0_8, o1_8, len_AL, p0, q0, p1, q1, I_nI, I_nI, fa_and]
    dsimp only
    exact rel_q rfl (mlog_lt hn) (log0 w (opn_in w (o := 4) hp hq)) (log1 w hn 4 hp hq)
  by_cases h9 : o = 9
  · subst h9
    rw [ox_9, o0_9, o1_9, len_AL, p0, p1]
    dsimp only
    obtain ⟨e1, e2⟩ := Prod.mk.inj (more1 hA hn (Int.natCast_nonneg p) hp)
    rw [more0 w (Int.natCast_nonneg p) hp, e1, e2]
    exact rel_ok rfl (sb_lt (msum_lt hn) (by decide)) rfl rfl
  by_cases h10 : o = 10
  · subst h10
    rw [ox_10, o0_10, o1_10, len_AL, p0, p1]
    dsimp only
    obtain ⟨e1, e2⟩ := Prod.mk.inj (less1 hA hn (Int.natCast_nonneg p) hp)
    rw [less0 w (Int.natCast_nonneg p) hp, e1, e2]
    exact rel_ok rfl (sb_lt (mdif_lt hn) (by decide)) rfl rfl
  by_cases h11 : o = 11
  · subst h11
    rw [ox_11, o0_11, o1_11, len_AL, p0, p1, z0]
    dsimp only
    exact rel_p (mdif_lt hn) (dif0 w (by omega) (by omega) (by omega) hp (by omega) (by omega)) (dif1 hA hn (by omega) (by omega) (by omega) hp (by omega) (by omega))
  by_cases h12 : o = 12
  · subst h12
    rw [ox_12, o0_12, o1_12, len_AL, p0, p1]
    dsimp only
    exact rel_ok (not0 w hp) hn rfl rfl
  have hy : (if o < 0 then (1 : Int32) else (if o ≤ 12 then 0 else 1)) = 1 := one_out 12 (by decide) (fun j hj => by rcases (show j = 0 ∨ j = 1 ∨ j = 2 ∨ j = 3 ∨ j = 4 ∨ j = 5 ∨ j = 6 ∨ j = 7 ∨ j = 8 ∨ j = 9 ∨ j = 10 ∨ j = 11 ∨ j = 12 by omega) with rfl | rfl | rfl | rfl | rfl | rfl | rfl | rfl | rfl | rfl | rfl | rfl | rfl <;> assumption)
  refine Or.inr ⟨?_, ?_, ?_⟩
  · simp only [x_X0_operate, if_neg h0, if_neg h1, if_neg h2, if_neg h3, if_neg h4, if_neg h5, if_neg h6, if_neg h7, if_neg h8, if_neg h9, if_neg h10, if_neg h11, if_neg h12]; decide
  · simp only [x_X0_operate, if_neg h0, if_neg h1, if_neg h2, if_neg h3, if_neg h4, if_neg h5, if_neg h6, if_neg h7, if_neg h8, if_neg h9, if_neg h10, if_neg h11, if_neg h12, f_X1_operate, hy]
    rw [if_neg (by decide)]
  · simp only [f_X1_operate, hy]
    rw [if_neg (by decide)]
