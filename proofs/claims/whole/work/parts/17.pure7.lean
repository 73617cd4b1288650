/-! THE PURE PART, 7: shift on both sides is one -/
theorem sh_rel {n : Nat} (hn : n < 4096) (al s w a t : Int32) : rel n (x_X0_shift s w a t) (f_X0_shift (nI n) s w a t).1 (f_X0_shift (nI n) s w a t).2 (f_X1_shift (nI n) al s w a t).1 (f_X1_shift (nI n) al s w a t).2.1 (f_X1_shift (nI n) al s w a t).2.2.1 := by
  by_cases h1 : s < 0
  · refine Or.inr ⟨?_, ?_, ?_⟩
    · simp only [x_X0_shift, if_pos h1]; decide
    · simp only [x_X0_shift, f_X1_shift, if_pos h1]; rw [if_neg (by decide)]
    · simp only [f_X1_shift, if_pos h1]; rw [if_neg (by decide)]
  by_cases h2 : s ≤ 7
  case neg =>
    have h2' : 7 < s := Int32.not_le.mp h2
    refine Or.inr ⟨?_, ?_, ?_⟩
    · simp only [x_X0_shift, if_neg h1, if_neg h2]; decide
    · simp only [x_X0_shift, f_X1_shift, if_neg h1, if_neg h2, if_pos h2']; rw [if_neg (by decide)]
    · simp only [f_X1_shift, if_neg h1, if_pos h2']; rw [if_neg (by decide)]
  have h2' : ¬ 7 < s := fun q => Int32.not_le.mpr q h2
  by_cases h3 : t < 0
  · refine Or.inr ⟨?_, ?_, ?_⟩
    · simp only [x_X0_shift, if_neg h1, if_pos h2, if_pos h3]; decide
    · simp only [x_X0_shift, f_X1_shift, if_neg h1, if_pos h2, if_neg h2', if_pos h3]; rw [if_neg (by decide)]
    · simp only [f_X1_shift, if_neg h1, if_neg h2', if_pos h3]; rw [if_neg (by decide)]
  by_cases h4 : t ≤ 255
  case neg =>
    refine Or.inr ⟨?_, ?_, ?_⟩
    · simp only [x_X0_shift, if_neg h1, if_pos h2, if_neg h3, if_neg h4]; decide
    · simp only [x_X0_shift, f_X1_shift, if_neg h1, if_pos h2, if_neg h2', if_neg h3, if_neg h4]; rw [if_neg (by decide)]
    · simp only [f_X1_shift, if_neg h1, if_neg h2', if_neg h3, if_neg h4]; rw [if_neg (by decide)]
  have hA := AL_or w
  obtain ⟨p, hp, p0, p1⟩ := oper_in w a
  have hX : x_X0_shift s w a t = 0 := by simp only [x_X0_shift, if_neg h1, if_pos h2, if_neg h3, if_pos h4]
  have e0 : f_X0_shift (nI n) s w a t = l_X0_shift 256 s w t (if jr s 2 = 0 then 1 else 0) (nI n) (I p) 0 := by simp only [f_X0_shift, if_neg h1, if_pos h2, if_neg h3, if_pos h4, p0]
  have e1 : f_X1_shift (nI n) al s w a t = l_X1_shift 256 0 (I (AL w)) s t (nI n) (I p) 0 := by
    simp only [f_X1_shift, if_neg h1, if_neg h2', if_neg h3, if_pos h4, len_AL, p1]
    rw [if_pos (by decide)]
  obtain ⟨j, hj, rfl⟩ := nI_of2 (M := 7) (n := 7) rfl h1 h2
  obtain ⟨k, hk, rfl⟩ := nI_of2 (M := 255) (n := 255) rfl h3 h4
  have key : ∃ (ra : Int32) (rm : Nat), rm < 4096 ∧ l_X0_shift 256 (nI j) w (nI k) (if jr (nI j) 2 = 0 then 1 else 0) (nI n) (I p) 0 = (ra, nI rm) ∧ l_X1_shift 256 0 (I (AL w)) (nI j) (nI k) (nI n) (I p) 0 = (ra, (0, nI rm, I (AL w))) := by
    have e : k + 1 + (255 - k) = 256 := by omega
    rw [← e]
    rcases (show j = 0 ∨ j = 1 ∨ j = 2 ∨ j = 3 ∨ j = 4 ∨ j = 5 ∨ j = 6 ∨ j = 7 by omega) with rfl | rfl | rfl | rfl | rfl | rfl | rfl | rfl
    · exact sh_left w 0 1 (by decide) k hk (fun _ hi => hi) (by decide) (fun h => absurd (by decide) h) (fun hi cy => by cases hi <;> cases cy <;> decide) (by decide) (fun hi lo cy => by cases hi <;> cases lo <;> cases cy <;> decide) 0 (255 - k) n p hn (Int.natCast_nonneg p) hp
    · exact sh_right w 1 k hk (fun _ _ lo => lo) (by decide) (fun h => absurd (by decide) h) (fun _ _ _ => rfl) (by decide) (fun hi lo cy => by cases hi <;> cases lo <;> cases cy <;> decide) (fun hi lo cy => by cases hi <;> cases lo <;> cases cy <;> decide) 0 (255 - k) n p hn (Int.natCast_nonneg p) hp
    · exact sh_left w 2 1 (by decide) k hk (fun cy _ => cy) (by decide) (fun h => absurd (by decide) h) (fun hi cy => by cases hi <;> cases cy <;> decide) (by decide) (fun hi lo cy => by cases hi <;> cases lo <;> cases cy <;> decide) 0 (255 - k) n p hn (Int.natCast_nonneg p) hp
    · exact sh_right w 3 k hk (fun cy _ _ => cy) (by decide) (fun h => absurd (by decide) h) (fun n _ _ => is0_c) (by decide) (fun hi lo cy => by cases hi <;> cases lo <;> cases cy <;> decide) (fun hi lo cy => by cases hi <;> cases lo <;> cases cy <;> decide) 0 (255 - k) n p hn (Int.natCast_nonneg p) hp
    · exact sh_left w 4 1 (by decide) k hk (fun _ _ => false) (by decide) (fun _ _ _ _ => rfl) (fun hi cy => by cases hi <;> cases cy <;> decide) (by decide) (fun hi lo cy => by cases hi <;> cases lo <;> cases cy <;> decide) 0 (255 - k) n p hn (Int.natCast_nonneg p) hp
    · exact sh_right w 5 k hk (fun _ _ _ => false) (by decide) (fun _ _ _ _ _ => rfl) (fun _ _ _ => rfl) (by decide) (fun hi lo cy => by cases hi <;> cases lo <;> cases cy <;> decide) (fun hi lo cy => by cases hi <;> cases lo <;> cases cy <;> decide) 0 (255 - k) n p hn (Int.natCast_nonneg p) hp
    · exact sh_left w 6 1 (by decide) k hk (fun _ _ => false) (by decide) (fun _ _ _ _ => rfl) (fun hi cy => by cases hi <;> cases cy <;> decide) (by decide) (fun hi lo cy => by cases hi <;> cases lo <;> cases cy <;> decide) 0 (255 - k) n p hn (Int.natCast_nonneg p) hp
    · exact sh_right w 7 k hk (fun _ hi _ => hi) (by decide) (fun _ _ _ _ _ => rfl) (fun _ _ _ => rfl) (by decide) (fun hi lo cy => by cases hi <;> cases lo <;> cases cy <;> decide) (fun hi lo cy => by cases hi <;> cases lo <;> cases cy <;> decide) 0 (255 - k) n p hn (Int.natCast_nonneg p) hp
  obtain ⟨ra, rm, hrm, g0, g1⟩ := key
  rw [hX, e0, e1, g0, g1]
  exact rel_ok rfl hrm rfl rfl
