/-! THE PURE PART, 6: shifts, so many times -/
theorem lfl_lt {n : Nat} {A a : Int} {inn : Bool} (hn : n < 4096) : lfl n A a inn < 4096 := sb_lt (sb_lt hn (by decide)) (by decide)
theorem rfl_lt {n : Nat} {A a : Int} {inn : Bool} (hn : n < 4096) : rfl_ n A a inn < 4096 := sb_lt (sb_lt hn (by decide)) (by decide)
/-- the loops of both, with what a step does: R the answer, B the bit that goes out, C OVERFLOW; they depend on the flags by n.testBit 0 alone, and not on it where the answer sets flags -/
theorem sh_loop (w s : Int32) (y5 al0 : Int32) (t : Nat) (ht : t ≤ 255) (R : Bool → Int → Int) (B : Int → Bool) (C : Bool → Int → Bool)
    (hR : ∀ (c : Bool) (a : Int), 0 ≤ a → a < AL w → 0 ≤ R c a ∧ R c a < AL w)
    (hs : s < 4 ↔ s ≤ 3)
    (hind : ¬ s ≤ 3 → ∀ (c d : Bool) (a : Int), R c a = R d a ∧ C c a = C d a)
    (h0 : ∀ (n : Nat) (a : Int), n < 4096 → 0 ≤ a → a < AL w → (if y5 = 0 then f_X0_rightByOne (nI n) s w (I a) else f_X0_leftByOne (nI n) s w (I a)) = (I (R (n.testBit 0) a), nI (sb (sb n 0 (B a)) 11 (C (n.testBit 0) a))))
    (h1 : ∀ (n : Nat) (a : Int), n < 4096 → 0 ≤ a → a < AL w → f_X1_once (nI n) (I (AL w)) s (I a) = if s ≤ 3 then (I (R (n.testBit 0) a), nI (sb (sb n 0 (B a)) 11 (C (n.testBit 0) a))) else (I (R (n.testBit 0) a), nI (mg (sb (sb n 0 (B a)) 11 (C (n.testBit 0) a)) (AL w) (R (n.testBit 0) a)))) (cd : Int32) :
    ∀ (k i : Nat) (e n : Nat) (a : Int), i + k = t → n < 4096 → 0 ≤ a → a < AL w → ∃ (ra : Int32) (rm : Nat), rm < 4096 ∧ l_X0_shift (k + 1 + e) s w (nI t) y5 (nI n) (I a) (nI i) = (ra, nI rm) ∧ ∀ n' : Nat, n' = (if s ≤ 3 ∨ i = 0 then n else mg n (AL w) a) → l_X1_shift (k + 1 + e) cd (I (AL w)) s (nI t) (nI n') (I a) (nI i) = (ra, (cd, nI rm, I (AL w))) := by
  have hA := AL_or w
  intro k
  induction k with
  | zero =>
    intro i e n a hi hn ha ha2
    have hi : i = t := by omega
    subst hi
    rw [show 0 + 1 + e = e + 1 by omega]
    by_cases h4 : i = 0
    · subst h4
      refine ⟨I a, n, hn, ?_, fun n' hn' => ?_⟩
      · unfold l_X0_shift
        rw [if_pos (Int32.le_refl _), if_pos (show nI 0 ≤ 0 by decide)]
      · rw [if_pos (Or.inr rfl)] at hn'
        subst hn'
        unfold l_X1_shift
        rw [if_pos (Int32.le_refl _)]
    · have hp : ¬ nI i ≤ 0 := nI_nle (by omega) (by omega)
      by_cases h3 : s ≤ 3
      · refine ⟨I a, n, hn, ?_, fun n' hn' => ?_⟩
        · unfold l_X0_shift
          rw [if_pos (Int32.le_refl _), if_neg hp, if_pos (hs.mpr h3)]
        · rw [if_pos (Or.inl h3)] at hn'
          subst hn'
          unfold l_X1_shift
          rw [if_pos (Int32.le_refl _)]
      · refine ⟨I a, mg n (AL w) a, mg_lt hn, ?_, fun n' hn' => ?_⟩
        · unfold l_X0_shift
          rw [if_pos (Int32.le_refl _), if_neg hp, if_neg (fun q => h3 (hs.mp q))]
          dsimp only
          rw [by0 w ha ha2]
        · rw [if_neg (fun q => q.elim h3 h4)] at hn'
          subst hn'
          unfold l_X1_shift
          rw [if_pos (Int32.le_refl _)]
  | succ k ih =>
    intro i e n a hi hn ha ha2
    have hlt : ¬ nI t ≤ nI i := nI_ge (by omega) (by omega)
    have hr := hR (n.testBit 0) a ha ha2
    obtain ⟨ra, rm, hrm, g0, g1⟩ := ih (i + 1) e (sb (sb n 0 (B a)) 11 (C (n.testBit 0) a)) (R (n.testBit 0) a) (by omega) (sb_lt (sb_lt hn (by decide)) (by decide)) hr.1 hr.2
    refine ⟨ra, rm, hrm, ?_, fun n' hn' => ?_⟩
    · rw [show k + 1 + 1 + e = (k + 1 + e) + 1 by omega]
      unfold l_X0_shift
      rw [if_neg hlt]
      have hh := h0 n a hn ha ha2
      by_cases hy : y5 = 0
      · rw [if_pos hy] at hh ⊢
        dsimp only
        rw [hh, nI_1]
        exact g0
      · rw [if_neg hy] at hh ⊢
        dsimp only
        rw [hh, nI_1]
        exact g0
    · rw [show k + 1 + 1 + e = (k + 1 + e) + 1 by omega]
      have hn'4 : n' < 4096 := by rw [hn']; split; exact hn; exact mg_lt hn
      unfold l_X1_shift
      rw [if_neg hlt]
      dsimp only
      rw [h1 n' a hn'4 ha ha2, nI_1]
      by_cases h3 : s ≤ 3
      · rw [if_pos (Or.inl h3)] at hn'
        subst hn'
        rw [if_pos h3]
        exact g1 _ (by rw [if_pos (Or.inl h3)])
      · rw [if_neg h3]
        obtain ⟨e1, e2⟩ := hind h3 (n'.testBit 0) (n.testBit 0) a
        dsimp only
        rw [e1, e2]
        have hm : mg (sb (sb n' 0 (B a)) 11 (C (n.testBit 0) a)) (AL w) (R (n.testBit 0) a) = mg (sb (sb n 0 (B a)) 11 (C (n.testBit 0) a)) (AL w) (R (n.testBit 0) a) := by
          rw [hn']
          split
          · rfl
          · exact mg_absorb hn
        rw [hm]
        exact g1 _ (by rw [if_neg (fun q => q.elim h3 (fun z => by omega))])
/-- a left shift, a right one, on both sides -/
theorem sh_left (w s : Int32) (y5 : Int32) (hy : ¬ y5 = 0) (t : Nat) (ht : t ≤ 255) (inn : Bool → Bool → Bool) (hs : s < 4 ↔ s ≤ 3) (hind : ¬ s ≤ 3 → ∀ (c d : Bool) (h : Bool), inn c h = inn d h)
    (hx : ∀ hi cy : Bool, (if s = 0 then (if b2 hi = 0 then (if s = 2 then (if b2 cy = 0 then (0 : Int32) else 1) else 0) else 1) else (if s = 2 then (if b2 cy = 0 then 0 else 1) else 0)) = b2 (inn cy hi))
    (hl : (if jr s 2 = 0 then (1 : Int32) else 0) = b2 true)
    (hx1 : ∀ hi lo cy : Bool, (if s = 0 then b2 hi else (if s = 1 then b2 lo else (if 4 ≤ s then (if s = 7 then (if b2 hi = 0 then 0 else 1) else 0) else b2 cy))) = b2 (inn cy hi))
    (cd : Int32) (e n : Nat) (a : Int) (hn : n < 4096) (ha : 0 ≤ a) (ha2 : a < AL w) : ∃ (ra : Int32) (rm : Nat), rm < 4096 ∧ l_X0_shift (t + 1 + e) s w (nI t) y5 (nI n) (I a) 0 = (ra, nI rm) ∧ l_X1_shift (t + 1 + e) cd (I (AL w)) s (nI t) (nI n) (I a) 0 = (ra, (cd, nI rm, I (AL w))) := by
  have hA := AL_or w
  obtain ⟨ra, rm, g1, g2, g3⟩ := sh_loop w s y5 0 t ht (fun c a => lans (AL w) a (inn c (decide (AL w / 2 ≤ a)))) (fun a => decide (AL w / 2 ≤ a)) (fun c a => decide (AL w / 2 ≤ a) != decide (AL w / 2 ≤ lans (AL w) a (inn c (decide (AL w / 2 ≤ a)))))
    (fun c a _ _ => lans_in hA) hs (fun h3 c d a => by rw [hind h3 c d]; exact ⟨rfl, rfl⟩)
    (fun n a hn ha ha2 => by rw [if_neg hy]; exact left0 w s ha ha2 _ (hx _ _))
    (fun n a hn ha ha2 => once1 hA hn ha ha2 s (inn (n.testBit 0) (decide (AL w / 2 ≤ a))) true hl (hx1 _ _ _) (fun q => by cases q)) cd t 0 e n a (by omega) hn ha ha2
  exact ⟨ra, rm, g1, g2, g3 n (by rw [if_pos (Or.inr rfl)])⟩
theorem sh_right (w s : Int32) (t : Nat) (ht : t ≤ 255) (inn : Bool → Bool → Bool → Bool) (hs : s < 4 ↔ s ≤ 3) (hind : ¬ s ≤ 3 → ∀ (c d : Bool) (h l : Bool), inn c h l = inn d h l)
    (hx : ∀ (n : Nat) (hi lo : Bool), f_X0_comesInFromLeft (nI n) s (b2 lo) (b2 hi) = b2 (inn (n.testBit 0) hi lo))
    (hl : (if jr s 2 = 0 then (1 : Int32) else 0) = b2 false)
    (hx1 : ∀ hi lo cy : Bool, (if s = 0 then b2 hi else (if s = 1 then b2 lo else (if 4 ≤ s then (if s = 7 then (if b2 hi = 0 then 0 else 1) else 0) else b2 cy))) = b2 (inn cy hi lo))
    (hr : ∀ hi lo cy : Bool, (if 4 ≤ s then (if s = 5 then (if b2 hi = 0 then (0 : Int32) else 1) else 0) else b2 (inn cy hi lo != hi)) = b2 (inn cy hi lo != hi))
    (cd : Int32) (e n : Nat) (a : Int) (hn : n < 4096) (ha : 0 ≤ a) (ha2 : a < AL w) : ∃ (ra : Int32) (rm : Nat), rm < 4096 ∧ l_X0_shift (t + 1 + e) s w (nI t) 0 (nI n) (I a) 0 = (ra, nI rm) ∧ l_X1_shift (t + 1 + e) cd (I (AL w)) s (nI t) (nI n) (I a) 0 = (ra, (cd, nI rm, I (AL w))) := by
  have hA := AL_or w
  obtain ⟨ra, rm, g1, g2, g3⟩ := sh_loop w s 0 0 t ht (fun c a => rans (AL w) a (inn c (decide (AL w / 2 ≤ a)) (decide (a % 2 = 1)))) (fun a => decide (a % 2 = 1)) (fun c a => inn c (decide (AL w / 2 ≤ a)) (decide (a % 2 = 1)) != decide (AL w / 2 ≤ a))
    (fun c a ha ha2 => rans_in hA ha ha2) hs (fun h3 c d a => by rw [hind h3 c d]; exact ⟨rfl, rfl⟩)
    (fun n a hn ha ha2 => by rw [if_pos rfl]; exact right0 w s ha ha2 _ (hx _ _ _))
    (fun n a hn ha ha2 => once1 hA hn ha ha2 s (inn (n.testBit 0) (decide (AL w / 2 ≤ a)) (decide (a % 2 = 1))) false hl (hx1 _ _ _) (fun _ => hr _ _ _)) cd t 0 e n a (by omega) hn ha ha2
  exact ⟨ra, rm, g1, g2, g3 n (by rw [if_pos (Or.inr rfl)])⟩
