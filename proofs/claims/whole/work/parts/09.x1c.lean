theorem p2_lt {i : Nat} (h : i ≤ 16) : 2 ^ i < 2 ^ 31 := Nat.lt_of_le_of_lt (Nat.pow_le_pow_right (by decide) h) (by decide)
theorem nI_dbl (i : Nat) : (2 : Int32) * nI (2 ^ i) = nI (2 ^ (i + 1)) := by
  show nI 2 * nI (2 ^ i) = nI (2 ^ (i + 1))
  rw [pk_mul, Nat.pow_succ, Nat.mul_comm]
/-- the loop of X1_logic, n rounds at most -/
def l_X1_logic : Nat → Int32 → Int32 → Int32 → Int32 → Int32 → Int32 → Int32 → Int32 × Int32
  | 0, _, _, _, _, _, _, _ => (0, 0)
  | n + 1, fl, al, a1, a2, a3, z, q =>
  if al ≤ q then
  (let u_3 : Int32 := (f_X1_put fl 1 0)
  let u_5 : Int32 := (f_X1_put u_3 16 0)
  let u_7 : Int32 := (f_X1_put u_5 2048 0)
  let u_9 : Int32 := (f_X1_byAnswer u_7 al z)
  (z, u_9))
  else
  (let y_10 : Int32 := ((jr (a2 / q) 2) + (jr (a3 / q) 2))
  let y_11 : Int32 := (if a1 = 1 then (if y_10 ≤ 0 then 0 else 1) else (if a1 = 4 then (if y_10 = 2 then 1 else 0) else (if y_10 = 1 then 1 else 0)))
  let y_17 : Int32 := (if y_11 = 0 then z else (z + q))
  let y_19 : Int32 := (2 * q)
  l_X1_logic n fl al a1 a2 a3 y_17 y_19)
/-- what X1_logic answers -/
def f_X1_logic (fl : Int32) (al : Int32) (a1 : Int32) (a2 : Int32) (a3 : Int32) : Int32 × Int32 :=
  l_X1_logic 17 fl al a1 a2 a3 0 1
set_option maxHeartbeats 4000000 in
set_option maxRecDepth 100000 in
theorem p_X1_logic (l : Launch) (dC : Nat → ClassId) (dI : Nat → Nat → Nat) (h0 : Nat) (sz : Nat) (cd : Int32) (fl : Int32) (al : Int32) (a1 : Int32) (a2 : Int32) (a3 : Int32) (hal : al = 256 ∨ al = 65536) : Met l yX1_logic wsX1_logic ({ frames := 3, cells := 0, slots := 0, locals := 67 }) (va_Pc [.ref h0, .int a1, .int a2, .int a3] (wr_pre (dC, dI) 2 h0 sz [.int cd, .int fl, .int al])) (va_Qi (fun (r : Int32) (u : Int32) => r = (f_X1_logic fl al a1 a2 a3).1 ∧ u = (f_X1_logic fl al a1 a2 a3).2) (wr_at (dC, dI) 2 h0 (fun u : Int32 => [.int cd, .int u, .int al]) (wr_A 2 h0 sz [.int cd, .int fl, .int al])) (wr_A 2 h0 sz [.int cd, .int fl, .int al])) 0 0 (wr_A 2 h0 sz [.int cd, .int fl, .int al]) := by
  refine Met.ofW (cc := cX1_logic) (maxL := 8) (ret := (some .int)) (by decide) rfl ?_
  intro p e s m args below meth c s₁ B hml hv
  obtain ⟨rfl, hsz, hP, hK, hD0⟩ := hv
  have hx := B.exec
  have hb := B.bytes
  have hr := B.returns
  have hts := atoms_spec (ws := wsX1_logic) B.pre
  have hown : s.vm.findClass RX1 = some m.cls := findClass_of_methodNamed B.named
  have hlocks := B.notSynchronized
  subst hsz
  have hD : va_D (wr_A 2 h0 s.heap.size [.int cd, .int fl, .int al]) [(h0, .inr (2, [.int cd, .int fl, .int al]))] := hD0.self (sz := s.heap.size)
  generalize hAe : wr_A 2 h0 s.heap.size [.int cd, .int fl, .int al] = A at hD ⊢
  have hA : ∀ q : Nat, s.heap.size ≤ q → A q := fun q h => by rw [← hAe]; exact Or.inr h
  have hS : va_S A s.heap s.heap [] := va_S.rf
  have hP : va_P (dC, dI) vwCl [(h0, .inr (2, [.int cd, .int fl, .int al]))] s.heap := hP
  have hD : va_D A [(h0, .inr (2, [.int cd, .int fl, .int al]))] := hD
  have hl := lv_entry ([.ref h0, .int a1, .int a2, .int a3]) (n := 8) (Nat.le_of_ble_eq_true rfl)
  rw [lg_entry_eq]
  generalize (lg_sl ([.ref h0, .int a1, .int a2, .int a3]) ++ List.replicate (8 - (lg_sl ([.ref h0, .int a1, .int a2, .int a3])).length) Slot.unset).toArray = ls at hl ⊢
  have hl : lv_has ls 8 [(0, .ref h0), (1, .int a1), (2, .int a2), (3, .int a3)] := hl
  refine lv_iconst (v := 0) hx hb dX1_logic_0 (by decide) ?_
  refine lv_istore (lv' := [(4, .int 0), (0, .ref h0), (1, .int a1), (2, .int a2), (3, .int a3)]) hx hb dX1_logic_1 hl (by decide) rfl (fun ls hl => ?_)
  refine lv_iconst (v := 1) hx hb dX1_logic_3 (by decide) ?_
  refine lv_istore (lv' := [(5, .int 1), (4, .int 0), (0, .ref h0), (1, .int a1), (2, .int a2), (3, .int a3)]) hx hb dX1_logic_4 hl (by decide) rfl (fun ls hl => ?_)
  have hf : f_X1_logic fl al a1 a2 a3 = l_X1_logic 17 fl al a1 a2 a3 0 1 := by simp only [f_X1_logic]
  obtain ⟨w, hw16, ew⟩ : ∃ w : Nat, w ≤ 16 ∧ al = nI (2 ^ w) := by rcases hal with h | h; exact ⟨8, by decide, by rw [h]; rfl⟩; exact ⟨16, by decide, by rw [h]; rfl⟩
  obtain ⟨q, hq⟩ : ∃ q : Int32, q = 1 := ⟨_, rfl⟩
  obtain ⟨z, hz⟩ : ∃ z : Int32, z = 0 := ⟨_, rfl⟩
  obtain ⟨i, hi⟩ : ∃ i : Nat, i = 0 := ⟨_, rfl⟩
  obtain ⟨n, hn⟩ : ∃ n : Nat, n = 17 := ⟨_, rfl⟩
  have hinv : f_X1_logic fl al a1 a2 a3 = l_X1_logic n fl al a1 a2 a3 z q := by rw [hf, hq, hz, hn]
  have eq : q = nI (2 ^ i) := by rw [hq, hi]; rfl
  have hit : i ≤ w := by rw [hi]; exact Nat.zero_le _
  have hm : w < i + n := by omega
  replace hl : lv_has ls 8 [(5, .int q), (4, .int z), (0, .ref h0), (1, .int a1), (2, .int a2), (3, .int a3)] := by rw [hq, hz]; exact hl
  clear hq hz hi hn hf
  induction n generalizing i q z ls with
  | zero => exact absurd hm (by omega)
  | succ n ih =>
    refine lv_iload hx hb dX1_logic_6 (lv_at hl 0 rfl) ?_
    refine lv_aload_n hx hb dX1_logic_8 rfl (lv_at hl 2 rfl) ?_
    refine va_get (D := (dC, dI)) (ci := 2) (v := .int al) (C := RX1) (T := TX1) (N := 3) hx hb hts (by decide +kernel) hown hK hP 0 rfl rfl 2 (by decide) (hts (.fieldLink RX1 14 "WordArithmeticModel" "all" "I") (by decide +kernel)) (fun _ h9 => h9) rfl dX1_logic_9 ?_
    refine lv_icmp_ge (tgt := 106) hx hb dX1_logic_12 (by decide) (fun c_1 => ?_) (fun c_1 => ?_)
    · refine lv_aload_n hx hb dX1_logic_106 rfl (lv_at hl 2 rfl) ?_
      refine lv_iconst (v := 1) hx hb dX1_logic_107 (by decide) ?_
      refine lv_iconst (v := 0) hx hb dX1_logic_108 (by decide) ?_
      refine wr_callv (va_runV (As := [.int 1, .int 0]) (rest := []) ⟨hx, hb, hml, hown, hts⟩ (p_X1_put l dC dI h0 _ cd fl al 1 0 (by decide)) (cwV 2 hts gX1_logic_X1_put rfl rfl rfl (by decide +kernel) ⟨Nat.le_of_ble_eq_true rfl, Nat.le_of_ble_eq_true rfl⟩) (wr_preV (ci := 2) rfl hK hP hD) rfl rfl hl.1 rfl (lv_room (Nat.le_of_ble_eq_true rfl)) dX1_logic_109 ⟨Nat.le_of_ble_eq_true rfl, Nat.le_of_ble_eq_true rfl⟩) hP hD hS hA (fun u_3 H locs eu_3 hP hD hS => ?_)
      have hP : va_P (dC, dI) vwCl [(h0, .inr (2, [.int cd, .int u_3, .int al]))] H := hP
      have hD : va_D A [(h0, .inr (2, [.int cd, .int u_3, .int al]))] := hD
      refine lv_aload_n hx hb dX1_logic_112 rfl (lv_at hl 2 rfl) ?_
      refine lv_bipush (v := 16) hx hb dX1_logic_113 (by decide +kernel) ?_
      refine lv_iconst (v := 0) hx hb dX1_logic_115 (by decide) ?_
      refine wr_callv (va_runV (As := [.int 16, .int 0]) (rest := []) ⟨hx, hb, hml, hown, hts⟩ (p_X1_put l dC dI h0 _ cd u_3 al 16 0 (by decide)) (cwV 2 hts gX1_logic_X1_put rfl rfl rfl (by decide +kernel) ⟨Nat.le_of_ble_eq_true rfl, Nat.le_of_ble_eq_true rfl⟩) (wr_preV (ci := 2) rfl hK hP hD) rfl rfl hl.1 rfl (lv_room (Nat.le_of_ble_eq_true rfl)) dX1_logic_116 ⟨Nat.le_of_ble_eq_true rfl, Nat.le_of_ble_eq_true rfl⟩) hP hD hS hA (fun u_5 H locs eu_5 hP hD hS => ?_)
      have hP : va_P (dC, dI) vwCl [(h0, .inr (2, [.int cd, .int u_5, .int al]))] H := hP
      have hD : va_D A [(h0, .inr (2, [.int cd, .int u_5, .int al]))] := hD
      refine lv_aload_n hx hb dX1_logic_119 rfl (lv_at hl 2 rfl) ?_
      refine lv_sipush (v := 2048) hx hb dX1_logic_120 (by decide +kernel) ?_
      refine lv_iconst (v := 0) hx hb dX1_logic_123 (by decide) ?_
      refine wr_callv (va_runV (As := [.int 2048, .int 0]) (rest := []) ⟨hx, hb, hml, hown, hts⟩ (p_X1_put l dC dI h0 _ cd u_5 al 2048 0 (by decide)) (cwV 2 hts gX1_logic_X1_put rfl rfl rfl (by decide +kernel) ⟨Nat.le_of_ble_eq_true rfl, Nat.le_of_ble_eq_true rfl⟩) (wr_preV (ci := 2) rfl hK hP hD) rfl rfl hl.1 rfl (lv_room (Nat.le_of_ble_eq_true rfl)) dX1_logic_124 ⟨Nat.le_of_ble_eq_true rfl, Nat.le_of_ble_eq_true rfl⟩) hP hD hS hA (fun u_7 H locs eu_7 hP hD hS => ?_)
      have hP : va_P (dC, dI) vwCl [(h0, .inr (2, [.int cd, .int u_7, .int al]))] H := hP
      have hD : va_D A [(h0, .inr (2, [.int cd, .int u_7, .int al]))] := hD
      refine lv_aload_n hx hb dX1_logic_127 rfl (lv_at hl 2 rfl) ?_
      refine lv_iload hx hb dX1_logic_128 (lv_at hl 1 rfl) ?_
      refine wr_callv (va_runV (As := [.int z]) (rest := []) ⟨hx, hb, hml, hown, hts⟩ (p_X1_byAnswer l dC dI h0 _ cd u_7 al z) (cwV 1 hts gX1_logic_X1_byAnswer rfl rfl rfl (by decide +kernel) ⟨Nat.le_of_ble_eq_true rfl, Nat.le_of_ble_eq_true rfl⟩) (wr_preV (ci := 2) rfl hK hP hD) rfl rfl hl.1 rfl (lv_room (Nat.le_of_ble_eq_true rfl)) dX1_logic_130 ⟨Nat.le_of_ble_eq_true rfl, Nat.le_of_ble_eq_true rfl⟩) hP hD hS hA (fun u_9 H locs eu_9 hP hD hS => ?_)
      have hP : va_P (dC, dI) vwCl [(h0, .inr (2, [.int cd, .int u_9, .int al]))] H := hP
      have hD : va_D A [(h0, .inr (2, [.int cd, .int u_9, .int al]))] := hD
      refine lv_iload hx hb dX1_logic_133 (lv_at hl 1 rfl) ?_
      exact W.iret (v := z) hx hb hr (fun t ht hW => ⟨⟨z, u_9, rfl, ⟨(by subst eu_3; subst eu_5; subst eu_7; subst eu_9; rw [hinv]; simp only [l_X1_logic, if_pos c_1]), (by subst eu_3; subst eu_5; subst eu_7; subst eu_9; rw [hinv]; simp only [l_X1_logic, if_pos c_1])⟩, by rw [ht]; exact hP, va_K.moved hW.alike hK, hD⟩, hS.F ht⟩) hS.2.2 dX1_logic_135
    · have hlt : i + 1 ≤ w := (Nat.lt_or_ge i w).elim (fun q => q) (fun q => absurd (by rw [eq, ew]; exact nI_le (Nat.pow_le_pow_right (by decide) q) (p2_lt (by omega))) c_1)
      have hq0 : ¬ q = 0 := by rw [eq]; exact nI_ne0 (Nat.two_pow_pos i) (p2_lt (by omega))
      refine lv_iload_n hx hb dX1_logic_15 rfl (lv_at hl 4 rfl) ?_
      refine lv_iload hx hb dX1_logic_16 (lv_at hl 0 rfl) ?_
      refine lv_idiv hx hb dX1_logic_18 hq0 ?_
      refine lv_iconst (v := 2) hx hb dX1_logic_19 (by decide) ?_
      refine jr_row hx hb dX1_logic_20 (by decide) ?_
      refine lv_iload_n hx hb dX1_logic_21 rfl (lv_at hl 5 rfl) ?_
      refine lv_iload hx hb dX1_logic_22 (lv_at hl 0 rfl) ?_
      refine lv_idiv hx hb dX1_logic_24 hq0 ?_
      refine lv_iconst (v := 2) hx hb dX1_logic_25 (by decide) ?_
      refine jr_row hx hb dX1_logic_26 (by decide) ?_
      refine lv_iadd hx hb dX1_logic_27 ?_
      refine lv_topi (fun y_10 ey_10 => ?_)
      refine lv_istore (lv' := [(6, .int y_10), (5, .int q), (4, .int z), (0, .ref h0), (1, .int a1), (2, .int a2), (3, .int a3)]) hx hb dX1_logic_28 hl (by decide) rfl (fun ls hl => ?_)
      refine lv_iload_n hx hb dX1_logic_30 rfl (lv_at hl 4 rfl) ?_
      refine lv_iconst (v := 1) hx hb dX1_logic_31 (by decide) ?_
      refine rg (J := 78) (st := []) (if a1 = 1 then (if y_10 ≤ 0 then 0 else 1) else (if a1 = 4 then (if y_10 = 2 then 1 else 0) else (if y_10 = 1 then 1 else 0))) (fun k => ?_) (fun y_11 ey_11 => ?_)
      · refine lv_icmp_ne (tgt := 48) hx hb dX1_logic_32 (by decide) (fun c_12 => ?_) (fun c_12 => ?_)
        · refine lv_iload_n hx hb dX1_logic_48 rfl (lv_at hl 4 rfl) ?_
          refine lv_iconst (v := 4) hx hb dX1_logic_49 (by decide) ?_
          refine lv_icmp_ne (tgt := 67) hx hb dX1_logic_50 (by decide) (fun c_13 => ?_) (fun c_13 => ?_)
          · refine lv_iload hx hb dX1_logic_67 (lv_at hl 0 rfl) ?_
            refine lv_iconst (v := 1) hx hb dX1_logic_69 (by decide) ?_
            refine lv_icmp_ne (tgt := 77) hx hb dX1_logic_70 (by decide) (fun c_14 => ?_) (fun c_14 => ?_)
            · refine lv_iconst (v := 0) hx hb dX1_logic_77 (by decide) ?_
              exact rg_e k (by first | rw [if_neg c_12, if_neg c_13, if_neg c_14] | simp only [if_neg c_12, if_neg c_13, if_neg c_14])
            · refine lv_iconst (v := 1) hx hb dX1_logic_73 (by decide) ?_
              refine lv_goto (tgt := 78) hx hb dX1_logic_74 (by decide) ?_
              exact rg_e k (by first | rw [if_neg c_12, if_neg c_13, if_pos c_14] | simp only [if_neg c_12, if_neg c_13, if_pos c_14])
          · refine lv_iload hx hb dX1_logic_53 (lv_at hl 0 rfl) ?_
            refine lv_iconst (v := 2) hx hb dX1_logic_55 (by decide) ?_
            refine lv_icmp_ne (tgt := 63) hx hb dX1_logic_56 (by decide) (fun c_15 => ?_) (fun c_15 => ?_)
            · refine lv_iconst (v := 0) hx hb dX1_logic_63 (by decide) ?_
              refine lv_goto (tgt := 78) hx hb dX1_logic_64 (by decide) ?_
              exact rg_e k (by first | rw [if_neg c_12, if_pos c_13, if_neg c_15] | simp only [if_neg c_12, if_pos c_13, if_neg c_15])
            · refine lv_iconst (v := 1) hx hb dX1_logic_59 (by decide) ?_
              refine lv_goto (tgt := 78) hx hb dX1_logic_60 (by decide) ?_
              exact rg_e k (by first | rw [if_neg c_12, if_pos c_13, if_pos c_15] | simp only [if_neg c_12, if_pos c_13, if_pos c_15])
        · refine lv_iload hx hb dX1_logic_35 (lv_at hl 0 rfl) ?_
          refine lv_if_le (tgt := 44) hx hb dX1_logic_37 (by decide) (fun c_16 => ?_) (fun c_16 => ?_)
          · refine lv_iconst (v := 0) hx hb dX1_logic_44 (by decide) ?_
            refine lv_goto (tgt := 78) hx hb dX1_logic_45 (by decide) ?_
            exact rg_e k (by first | rw [if_pos c_12, if_pos c_16] | simp only [if_pos c_12, if_pos c_16])
          · refine lv_iconst (v := 1) hx hb dX1_logic_40 (by decide) ?_
            refine lv_goto (tgt := 78) hx hb dX1_logic_41 (by decide) ?_
            exact rg_e k (by first | rw [if_pos c_12, if_neg c_16] | simp only [if_pos c_12, if_neg c_16])
      refine lv_istore (lv' := [(7, .int y_11), (6, .int y_10), (5, .int q), (4, .int z), (0, .ref h0), (1, .int a1), (2, .int a2), (3, .int a3)]) hx hb dX1_logic_78 hl (by decide) rfl (fun ls hl => ?_)
      refine lv_iload hx hb dX1_logic_80 (lv_at hl 0 rfl) ?_
      refine rg (J := 95) (st := []) (if y_11 = 0 then z else (z + q)) (fun k => ?_) (fun y_17 ey_17 => ?_)
      · refine lv_if_eq (tgt := 93) hx hb dX1_logic_82 (by decide) (fun c_18 => ?_) (fun c_18 => ?_)
        · refine lv_iload hx hb dX1_logic_93 (lv_at hl 3 rfl) ?_
          exact rg_e k (by first | rw [if_pos c_18] | simp only [if_pos c_18])
        · refine lv_iload hx hb dX1_logic_85 (lv_at hl 3 rfl) ?_
          refine lv_iload hx hb dX1_logic_87 (lv_at hl 2 rfl) ?_
          refine lv_iadd hx hb dX1_logic_89 ?_
          refine lv_goto (tgt := 95) hx hb dX1_logic_90 (by decide) ?_
          exact rg_e k (by first | rw [if_neg c_18] | simp only [if_neg c_18])
      refine lv_istore (lv' := [(4, .int y_17), (7, .int y_11), (6, .int y_10), (5, .int q), (0, .ref h0), (1, .int a1), (2, .int a2), (3, .int a3)]) hx hb dX1_logic_95 hl (by decide) rfl (fun ls hl => ?_)
      refine lv_iconst (v := 2) hx hb dX1_logic_97 (by decide) ?_
      refine lv_iload hx hb dX1_logic_98 (lv_at hl 3 rfl) ?_
      refine lv_imul hx hb dX1_logic_100 ?_
      refine lv_topi (fun y_19 ey_19 => ?_)
      refine lv_istore (lv' := [(5, .int y_19), (4, .int y_17), (7, .int y_11), (6, .int y_10), (0, .ref h0), (1, .int a1), (2, .int a2), (3, .int a3)]) hx hb dX1_logic_101 hl (by decide) rfl (fun ls hl => ?_)
      refine lv_goto (tgt := 6) hx hb dX1_logic_103 (by decide) ?_
      exact ih (i := i + 1) (q := y_19) (z := y_17) (ls := ls) (hinv := by subst ey_10; subst ey_11; subst ey_17; subst ey_19; rw [hinv]; simp only [l_X1_logic, if_neg c_1]) (eq := by rw [ey_19, eq]; exact nI_dbl i) (hit := hlt) (hm := by omega) (hl := lv_sub hl [0, 1, 4, 5, 6, 7] rfl)

/-- what X1_operate answers -/
def f_X1_operate (fl : Int32) (al : Int32) (a1 : Int32) (a2 : Int32) (a3 : Int32) (a4 : Int32) : Int32 × (Int32 × Int32 × Int32) :=
  let y_1 : Int32 := (if a1 < 0 then 1 else (if a1 ≤ 12 then 0 else 1))
  if y_1 ≤ 0 then
  (let u_6 : Int32 := (f_X1_length a2)
  let y_7 : Int32 := (f_X1_operand u_6 a3)
  let y_8 : Int32 := (f_X1_operand u_6 a4)
  let y_9 : Int32 := (f_X1_is fl 1)
  if a1 = 0 then
  (let r_11 : Int32 := (f_X1_sum fl u_6 y_7 y_8 0).1
  let u_12 : Int32 := (f_X1_sum fl u_6 y_7 y_8 0).2
  (r_11, (y_1, u_12, u_6)))
  else
  if a1 = 1 then
  (let r_14 : Int32 := (f_X1_logic fl u_6 a1 y_7 y_8).1
  let u_15 : Int32 := (f_X1_logic fl u_6 a1 y_7 y_8).2
  (r_14, (y_1, u_15, u_6)))
  else
  if a1 = 2 then
  (let y_17 : Int32 := (if y_9 = 0 then 0 else 1)
  let r_19 : Int32 := (f_X1_sum fl u_6 y_7 y_8 y_17).1
  let u_20 : Int32 := (f_X1_sum fl u_6 y_7 y_8 y_17).2
  (r_19, (y_1, u_20, u_6)))
  else
  if a1 = 3 then
  (let y_22 : Int32 := (if y_9 = 0 then 0 else 1)
  let r_24 : Int32 := (f_X1_difference fl u_6 y_7 y_8 y_22).1
  let u_25 : Int32 := (f_X1_difference fl u_6 y_7 y_8 y_22).2
  (r_24, (y_1, u_25, u_6)))
  else
  if a1 = 4 then
  (let r_27 : Int32 := (f_X1_logic fl u_6 a1 y_7 y_8).1
  let u_28 : Int32 := (f_X1_logic fl u_6 a1 y_7 y_8).2
  (r_27, (y_1, u_28, u_6)))
  else
  if a1 = 5 then
  (let r_30 : Int32 := (f_X1_difference fl u_6 y_7 y_8 0).1
  let u_31 : Int32 := (f_X1_difference fl u_6 y_7 y_8 0).2
  (r_30, (y_1, u_31, u_6)))
  else
  if a1 = 6 then
  (let r_33 : Int32 := (f_X1_logic fl u_6 a1 y_7 y_8).1
  let u_34 : Int32 := (f_X1_logic fl u_6 a1 y_7 y_8).2
  (r_33, (y_1, u_34, u_6)))
  else
  if a1 = 7 then
  (let r_36 : Int32 := (f_X1_difference fl u_6 y_7 y_8 0).1
  let u_37 : Int32 := (f_X1_difference fl u_6 y_7 y_8 0).2
  (y_7, (y_1, u_37, u_6)))
  else
  if a1 = 8 then
  (let r_39 : Int32 := (f_X1_logic fl u_6 4 y_7 y_8).1
  let u_40 : Int32 := (f_X1_logic fl u_6 4 y_7 y_8).2
  (y_7, (y_1, u_40, u_6)))
  else
  if a1 = 9 then
  (let r_42 : Int32 := (f_X1_sum fl u_6 y_7 1 0).1
  let u_43 : Int32 := (f_X1_sum fl u_6 y_7 1 0).2
  let u_45 : Int32 := (f_X1_put u_43 1 y_9)
  (r_42, (y_1, u_45, u_6)))
  else
  if a1 = 10 then
  (let r_47 : Int32 := (f_X1_difference fl u_6 y_7 1 0).1
  let u_48 : Int32 := (f_X1_difference fl u_6 y_7 1 0).2
  let u_50 : Int32 := (f_X1_put u_48 1 y_9)
  (r_47, (y_1, u_50, u_6)))
  else
  if a1 = 11 then
  (let r_52 : Int32 := (f_X1_difference fl u_6 0 y_7 0).1
  let u_53 : Int32 := (f_X1_difference fl u_6 0 y_7 0).2
  (r_52, (y_1, u_53, u_6)))
  else
  ((((u_6 - 1) - y_7), (y_1, fl, u_6))))
  else
  ((0, (y_1, fl, al)))
set_option maxHeartbeats 4000000 in
set_option maxRecDepth 100000 in
theorem p_X1_operate (l : Launch) (dC : Nat → ClassId) (dI : Nat → Nat → Nat) (h0 : Nat) (sz : Nat) (cd : Int32) (fl : Int32) (al : Int32) (a1 : Int32) (a2 : Int32) (a3 : Int32) (a4 : Int32) : Met l yX1_operate wsX1_operate ({ frames := 4, cells := 0, slots := 0, locals := 94 }) (va_Pc [.ref h0, .int a1, .int a2, .int a3, .int a4] (wr_pre (dC, dI) 2 h0 sz [.int cd, .int fl, .int al])) (va_Qi (fun (r : Int32) (u : Int32 × Int32 × Int32) => r = (f_X1_operate fl al a1 a2 a3 a4).1 ∧ u = (f_X1_operate fl al a1 a2 a3 a4).2) (wr_at (dC, dI) 2 h0 (fun u : Int32 × Int32 × Int32 => [.int u.1, .int u.2.1, .int u.2.2]) (wr_A 2 h0 sz [.int cd, .int fl, .int al])) (wr_A 2 h0 sz [.int cd, .int fl, .int al])) 0 0 (wr_A 2 h0 sz [.int cd, .int fl, .int al]) := by
  refine Met.ofW (cc := cX1_operate) (maxL := 9) (ret := (some .int)) (by decide) rfl ?_
  intro p e s m args below meth c s₁ B hml hv
  obtain ⟨rfl, hsz, hP, hK, hD0⟩ := hv
  have hx := B.exec
  have hb := B.bytes
  have hr := B.returns
  have hts := atoms_spec (ws := wsX1_operate) B.pre
  have hown : s.vm.findClass RX1 = some m.cls := findClass_of_methodNamed B.named
  have hlocks := B.notSynchronized
  subst hsz
  have hD : va_D (wr_A 2 h0 s.heap.size [.int cd, .int fl, .int al]) [(h0, .inr (2, [.int cd, .int fl, .int al]))] := hD0.self (sz := s.heap.size)
  generalize hAe : wr_A 2 h0 s.heap.size [.int cd, .int fl, .int al] = A at hD ⊢
  have hA : ∀ q : Nat, s.heap.size ≤ q → A q := fun q h => by rw [← hAe]; exact Or.inr h
  have hS : va_S A s.heap s.heap [] := va_S.rf
  have hP : va_P (dC, dI) vwCl [(h0, .inr (2, [.int cd, .int fl, .int al]))] s.heap := hP
  have hD : va_D A [(h0, .inr (2, [.int cd, .int fl, .int al]))] := hD
  have hl := lv_entry ([.ref h0, .int a1, .int a2, .int a3, .int a4]) (n := 9) (Nat.le_of_ble_eq_true rfl)
  rw [lg_entry_eq]
  generalize (lg_sl ([.ref h0, .int a1, .int a2, .int a3, .int a4]) ++ List.replicate (9 - (lg_sl ([.ref h0, .int a1, .int a2, .int a3, .int a4])).length) Slot.unset).toArray = ls at hl ⊢
  have hl : lv_has ls 9 [(0, .ref h0), (1, .int a1), (2, .int a2), (3, .int a3), (4, .int a4)] := hl
  refine lv_aload_n hx hb dX1_operate_0 rfl (lv_at hl 0 rfl) ?_
  refine lv_iload_n hx hb dX1_operate_1 rfl (lv_at hl 1 rfl) ?_
  refine rg (J := 16) (st := [.ref h0]) (if a1 < 0 then 1 else (if a1 ≤ 12 then 0 else 1)) (fun k => ?_) (fun y_1 ey_1 => ?_)
  · refine lv_if_lt (tgt := 11) hx hb dX1_operate_2 (by decide) (fun c_2 => ?_) (fun c_2 => ?_)
    · refine lv_iconst (v := 1) hx hb dX1_operate_11 (by decide) ?_
      refine lv_goto (tgt := 16) hx hb dX1_operate_12 (by decide) ?_
      exact rg_e k (by first | rw [if_pos c_2] | simp only [if_pos c_2])
    · refine lv_iload_n hx hb dX1_operate_5 rfl (lv_at hl 1 rfl) ?_
      refine lv_bipush (v := 12) hx hb dX1_operate_6 (by decide +kernel) ?_
      refine lv_icmp_le (tgt := 15) hx hb dX1_operate_8 (by decide) (fun c_3 => ?_) (fun c_3 => ?_)
      · refine lv_iconst (v := 0) hx hb dX1_operate_15 (by decide) ?_
        exact rg_e k (by first | rw [if_neg c_2, if_pos c_3] | simp only [if_neg c_2, if_pos c_3])
      · refine lv_iconst (v := 1) hx hb dX1_operate_11 (by decide) ?_
        refine lv_goto (tgt := 16) hx hb dX1_operate_12 (by decide) ?_
        exact rg_e k (by first | rw [if_neg c_2, if_neg c_3] | simp only [if_neg c_2, if_neg c_3])
  refine va_put (D := (dC, dI)) (ci := 2) (v := .int y_1) (ty := .int) (C := RX1) (T := TX1) (N := 3) hx hb hts (by decide +kernel) tyX1 tyX1_ok nmX1 hown hK hP hD hS 0 rfl rfl 0 (by decide) (hts (.fieldLink RX1 7 "WordArithmeticModel" "code" "I") (by decide +kernel)) (fun _ h9 => h9) rfl (by decide +kernel) rfl rfl (Nat.le_of_ble_eq_true rfl) dX1_operate_16 (fun H locs hP hD hS => ?_)
  have hP : va_P (dC, dI) vwCl [(h0, .inr (2, [.int y_1, .int fl, .int al]))] H := hP
  have hD : va_D A [(h0, .inr (2, [.int y_1, .int fl, .int al]))] := hD
  refine lv_aload_n hx hb dX1_operate_19 rfl (lv_at hl 0 rfl) ?_
  refine va_get (D := (dC, dI)) (ci := 2) (v := .int y_1) (C := RX1) (T := TX1) (N := 3) hx hb hts (by decide +kernel) hown hK hP 0 rfl rfl 0 (by decide) (hts (.fieldLink RX1 7 "WordArithmeticModel" "code" "I") (by decide +kernel)) (fun _ h9 => h9) rfl dX1_operate_20 ?_
  refine lv_if_le (tgt := 28) hx hb dX1_operate_23 (by decide) (fun c_4 => ?_) (fun c_4 => ?_)
  · refine lv_aload_n hx hb dX1_operate_28 rfl (lv_at hl 0 rfl) ?_
    refine lv_iload_n hx hb dX1_operate_29 rfl (lv_at hl 2 rfl) ?_
    refine wr_callv (va_runV (As := [.int a2]) (rest := []) ⟨hx, hb, hml, hown, hts⟩ (p_X1_length l dC dI h0 _ y_1 fl al a2) (cwV 1 hts gX1_operate_X1_length rfl rfl rfl (by decide +kernel) ⟨Nat.le_of_ble_eq_true rfl, Nat.le_of_ble_eq_true rfl⟩) (wr_preV (ci := 2) rfl hK hP hD) rfl rfl hl.1 rfl (lv_room (Nat.le_of_ble_eq_true rfl)) dX1_operate_30 ⟨Nat.le_of_ble_eq_true rfl, Nat.le_of_ble_eq_true rfl⟩) hP hD hS hA (fun u_6 H locs eu_6 hP hD hS => ?_)
    have hP : va_P (dC, dI) vwCl [(h0, .inr (2, [.int y_1, .int fl, .int u_6]))] H := hP
    have hD : va_D A [(h0, .inr (2, [.int y_1, .int fl, .int u_6]))] := hD
    refine lv_aload_n hx hb dX1_operate_33 rfl (lv_at hl 0 rfl) ?_
    refine lv_iload_n hx hb dX1_operate_34 rfl (lv_at hl 3 rfl) ?_
    refine pu_calli (F := (f_X1_operand u_6 a3)) (va_runV (As := [.int a3]) (rest := []) ⟨hx, hb, hml, hown, hts⟩ (p_X1_operand l dC dI h0 _ y_1 fl u_6 a3) (cwV 1 hts gX1_operate_X1_operand rfl rfl rfl (by decide +kernel) ⟨Nat.le_of_ble_eq_true rfl, Nat.le_of_ble_eq_true rfl⟩) (pu_preV (ci := 2) rfl hK hP) rfl rfl hl.1 rfl (lv_room (Nat.le_of_ble_eq_true rfl)) dX1_operate_35 ⟨Nat.le_of_ble_eq_true rfl, Nat.le_of_ble_eq_true rfl⟩) ?_
    refine lv_topi (fun y_7 ey_7 => ?_)
    refine lv_istore (lv' := [(5, .int y_7), (0, .ref h0), (1, .int a1), (2, .int a2), (3, .int a3), (4, .int a4)]) hx hb dX1_operate_38 hl (by decide) rfl (fun ls hl => ?_)
    refine lv_aload_n hx hb dX1_operate_40 rfl (lv_at hl 1 rfl) ?_
    refine lv_iload hx hb dX1_operate_41 (lv_at hl 5 rfl) ?_
    refine pu_calli (F := (f_X1_operand u_6 a4)) (va_runV (As := [.int a4]) (rest := []) ⟨hx, hb, hml, hown, hts⟩ (p_X1_operand l dC dI h0 _ y_1 fl u_6 a4) (cwV 1 hts gX1_operate_X1_operand rfl rfl rfl (by decide +kernel) ⟨Nat.le_of_ble_eq_true rfl, Nat.le_of_ble_eq_true rfl⟩) (pu_preV (ci := 2) rfl hK hP) rfl rfl hl.1 rfl (lv_room (Nat.le_of_ble_eq_true rfl)) dX1_operate_43 ⟨Nat.le_of_ble_eq_true rfl, Nat.le_of_ble_eq_true rfl⟩) ?_
    refine lv_topi (fun y_8 ey_8 => ?_)
    refine lv_istore (lv' := [(6, .int y_8), (5, .int y_7), (0, .ref h0), (1, .int a1), (2, .int a2), (3, .int a3), (4, .int a4)]) hx hb dX1_operate_46 hl (by decide) rfl (fun ls hl => ?_)
    refine lv_aload_n hx hb dX1_operate_48 rfl (lv_at hl 2 rfl) ?_
    refine lv_iconst (v := 1) hx hb dX1_operate_49 (by decide) ?_
    refine pu_calli (F := (f_X1_is fl 1)) (va_runV (As := [.int 1]) (rest := []) ⟨hx, hb, hml, hown, hts⟩ (p_X1_is l dC dI h0 _ y_1 fl u_6 1 (by decide)) (cwV 1 hts gX1_operate_X1_is rfl rfl rfl (by decide +kernel) ⟨Nat.le_of_ble_eq_true rfl, Nat.le_of_ble_eq_true rfl⟩) (pu_preV (ci := 2) rfl hK hP) rfl rfl hl.1 rfl (lv_room (Nat.le_of_ble_eq_true rfl)) dX1_operate_50 ⟨Nat.le_of_ble_eq_true rfl, Nat.le_of_ble_eq_true rfl⟩) ?_
    refine lv_topi (fun y_9 ey_9 => ?_)
    refine lv_istore (lv' := [(7, .int y_9), (6, .int y_8), (5, .int y_7), (0, .ref h0), (1, .int a1), (2, .int a2), (3, .int a3), (4, .int a4)]) hx hb dX1_operate_53 hl (by decide) rfl (fun ls hl => ?_)
    refine lv_iload hx hb dX1_operate_55 (lv_at hl 2 rfl) ?_
    refine lv_istore (lv' := [(8, .int y_7), (7, .int y_9), (6, .int y_8), (5, .int y_7), (0, .ref h0), (1, .int a1), (2, .int a2), (3, .int a3), (4, .int a4)]) hx hb dX1_operate_57 hl (by decide) rfl (fun ls hl => ?_)
    refine lv_iload_n hx hb dX1_operate_59 rfl (lv_at hl 5 rfl) ?_
    by_cases c_10 : a1 = 0
    · refine lv_tableIn (off := 64) (tgt := 124) hx hb dX1_operate_60 (by rw [c_10]; decide) (by rw [c_10]; decide) (by rw [c_10]; rfl) (by decide) ?_
      refine lv_aload_n hx hb dX1_operate_124 rfl (lv_at hl 4 rfl) ?_
      refine lv_iload hx hb dX1_operate_125 (lv_at hl 3 rfl) ?_
      refine lv_iload hx hb dX1_operate_127 (lv_at hl 2 rfl) ?_
      refine lv_iconst (v := 0) hx hb dX1_operate_129 (by decide) ?_
      refine wr_calli (va_runV (As := [.int y_7, .int y_8, .int 0]) (rest := []) ⟨hx, hb, hml, hown, hts⟩ (p_X1_sum l dC dI h0 _ y_1 fl u_6 y_7 y_8 0 (hal_len eu_6)) (cwV 3 hts gX1_operate_X1_sum rfl rfl rfl (by decide +kernel) ⟨Nat.le_of_ble_eq_true rfl, Nat.le_of_ble_eq_true rfl⟩) (wr_preV (ci := 2) rfl hK hP hD) rfl rfl hl.1 rfl (lv_room (Nat.le_of_ble_eq_true rfl)) dX1_operate_130 ⟨Nat.le_of_ble_eq_true rfl, Nat.le_of_ble_eq_true rfl⟩) hP hD hS hA (fun r_11 u_12 H locs hw hP hD hS => ?_)
      obtain ⟨er_11, eu_12⟩ := hw
      have hP : va_P (dC, dI) vwCl [(h0, .inr (2, [.int y_1, .int u_12, .int u_6]))] H := hP
      have hD : va_D A [(h0, .inr (2, [.int y_1, .int u_12, .int u_6]))] := hD
      exact W.iret (v := r_11) hx hb hr (fun t ht hW => ⟨⟨r_11, (y_1, u_12, u_6), rfl, ⟨(by subst ey_1; subst eu_6; subst ey_7; subst ey_8; subst ey_9; subst er_11; subst eu_12; simp only [f_X1_operate, if_pos c_4, if_pos c_10]), (by subst ey_1; subst eu_6; subst ey_7; subst ey_8; subst ey_9; subst er_11; subst eu_12; simp only [f_X1_operate, if_pos c_4, if_pos c_10])⟩, by rw [ht]; exact hP, va_K.moved hW.alike hK, hD⟩, hS.F ht⟩) hS.2.2 dX1_operate_133
    by_cases c_13 : a1 = 1
    · refine lv_tableIn (off := 74) (tgt := 134) hx hb dX1_operate_60 (by rw [c_13]; decide) (by rw [c_13]; decide) (by rw [c_13]; rfl) (by decide) ?_
      refine lv_aload_n hx hb dX1_operate_134 rfl (lv_at hl 4 rfl) ?_
      refine lv_iload_n hx hb dX1_operate_135 rfl (lv_at hl 5 rfl) ?_
      refine lv_iload hx hb dX1_operate_136 (lv_at hl 3 rfl) ?_
      refine lv_iload hx hb dX1_operate_138 (lv_at hl 2 rfl) ?_
      refine wr_calli (va_runV (As := [.int a1, .int y_7, .int y_8]) (rest := []) ⟨hx, hb, hml, hown, hts⟩ (p_X1_logic l dC dI h0 _ y_1 fl u_6 a1 y_7 y_8 (hal_len eu_6)) (cwV 3 hts gX1_operate_X1_logic rfl rfl rfl (by decide +kernel) ⟨Nat.le_of_ble_eq_true rfl, Nat.le_of_ble_eq_true rfl⟩) (wr_preV (ci := 2) rfl hK hP hD) rfl rfl hl.1 rfl (lv_room (Nat.le_of_ble_eq_true rfl)) dX1_operate_140 ⟨Nat.le_of_ble_eq_true rfl, Nat.le_of_ble_eq_true rfl⟩) hP hD hS hA (fun r_14 u_15 H locs hw hP hD hS => ?_)
      obtain ⟨er_14, eu_15⟩ := hw
      have hP : va_P (dC, dI) vwCl [(h0, .inr (2, [.int y_1, .int u_15, .int u_6]))] H := hP
      have hD : va_D A [(h0, .inr (2, [.int y_1, .int u_15, .int u_6]))] := hD
      exact W.iret (v := r_14) hx hb hr (fun t ht hW => ⟨⟨r_14, (y_1, u_15, u_6), rfl, ⟨(by subst ey_1; subst eu_6; subst ey_7; subst ey_8; subst ey_9; subst er_14; subst eu_15; simp only [f_X1_operate, if_pos c_4, if_neg c_10, if_pos c_13]), (by subst ey_1; subst eu_6; subst ey_7; subst ey_8; subst ey_9; subst er_14; subst eu_15; simp only [f_X1_operate, if_pos c_4, if_neg c_10, if_pos c_13])⟩, by rw [ht]; exact hP, va_K.moved hW.alike hK, hD⟩, hS.F ht⟩) hS.2.2 dX1_operate_143
    by_cases c_16 : a1 = 2
    · refine lv_tableIn (off := 84) (tgt := 144) hx hb dX1_operate_60 (by rw [c_16]; decide) (by rw [c_16]; decide) (by rw [c_16]; rfl) (by decide) ?_
      refine lv_aload_n hx hb dX1_operate_144 rfl (lv_at hl 4 rfl) ?_
      refine lv_iload hx hb dX1_operate_145 (lv_at hl 3 rfl) ?_
      refine lv_iload hx hb dX1_operate_147 (lv_at hl 2 rfl) ?_
      refine lv_iload hx hb dX1_operate_149 (lv_at hl 1 rfl) ?_
      refine rg (J := 159) (st := [.int y_8, .int y_7, .ref h0]) (if y_9 = 0 then 0 else 1) (fun k => ?_) (fun y_17 ey_17 => ?_)
      · refine lv_if_eq (tgt := 158) hx hb dX1_operate_151 (by decide) (fun c_18 => ?_) (fun c_18 => ?_)
        · refine lv_iconst (v := 0) hx hb dX1_operate_158 (by decide) ?_
          exact rg_e k (by first | rw [if_pos c_18] | simp only [if_pos c_18])
        · refine lv_iconst (v := 1) hx hb dX1_operate_154 (by decide) ?_
          refine lv_goto (tgt := 159) hx hb dX1_operate_155 (by decide) ?_
          exact rg_e k (by first | rw [if_neg c_18] | simp only [if_neg c_18])
      refine wr_calli (va_runV (As := [.int y_7, .int y_8, .int y_17]) (rest := []) ⟨hx, hb, hml, hown, hts⟩ (p_X1_sum l dC dI h0 _ y_1 fl u_6 y_7 y_8 y_17 (hal_len eu_6)) (cwV 3 hts gX1_operate_X1_sum rfl rfl rfl (by decide +kernel) ⟨Nat.le_of_ble_eq_true rfl, Nat.le_of_ble_eq_true rfl⟩) (wr_preV (ci := 2) rfl hK hP hD) rfl rfl hl.1 rfl (lv_room (Nat.le_of_ble_eq_true rfl)) dX1_operate_159 ⟨Nat.le_of_ble_eq_true rfl, Nat.le_of_ble_eq_true rfl⟩) hP hD hS hA (fun r_19 u_20 H locs hw hP hD hS => ?_)
      obtain ⟨er_19, eu_20⟩ := hw
      have hP : va_P (dC, dI) vwCl [(h0, .inr (2, [.int y_1, .int u_20, .int u_6]))] H := hP
      have hD : va_D A [(h0, .inr (2, [.int y_1, .int u_20, .int u_6]))] := hD
      exact W.iret (v := r_19) hx hb hr (fun t ht hW => ⟨⟨r_19, (y_1, u_20, u_6), rfl, ⟨(by subst ey_1; subst eu_6; subst ey_7; subst ey_8; subst ey_9; subst ey_17; subst er_19; subst eu_20; simp only [f_X1_operate, if_pos c_4, if_neg c_10, if_neg c_13, if_pos c_16]), (by subst ey_1; subst eu_6; subst ey_7; subst ey_8; subst ey_9; subst ey_17; subst er_19; subst eu_20; simp only [f_X1_operate, if_pos c_4, if_neg c_10, if_neg c_13, if_pos c_16])⟩, by rw [ht]; exact hP, va_K.moved hW.alike hK, hD⟩, hS.F ht⟩) hS.2.2 dX1_operate_162
    by_cases c_21 : a1 = 3
    · refine lv_tableIn (off := 103) (tgt := 163) hx hb dX1_operate_60 (by rw [c_21]; decide) (by rw [c_21]; decide) (by rw [c_21]; rfl) (by decide) ?_
      refine lv_aload_n hx hb dX1_operate_163 rfl (lv_at hl 4 rfl) ?_
      refine lv_iload hx hb dX1_operate_164 (lv_at hl 3 rfl) ?_
      refine lv_iload hx hb dX1_operate_166 (lv_at hl 2 rfl) ?_
      refine lv_iload hx hb dX1_operate_168 (lv_at hl 1 rfl) ?_
      refine rg (J := 178) (st := [.int y_8, .int y_7, .ref h0]) (if y_9 = 0 then 0 else 1) (fun k => ?_) (fun y_22 ey_22 => ?_)
      · refine lv_if_eq (tgt := 177) hx hb dX1_operate_170 (by decide) (fun c_23 => ?_) (fun c_23 => ?_)
        · refine lv_iconst (v := 0) hx hb dX1_operate_177 (by decide) ?_
          exact rg_e k (by first | rw [if_pos c_23] | simp only [if_pos c_23])
        · refine lv_iconst (v := 1) hx hb dX1_operate_173 (by decide) ?_
          refine lv_goto (tgt := 178) hx hb dX1_operate_174 (by decide) ?_
          exact rg_e k (by first | rw [if_neg c_23] | simp only [if_neg c_23])
      refine wr_calli (va_runV (As := [.int y_7, .int y_8, .int y_22]) (rest := []) ⟨hx, hb, hml, hown, hts⟩ (p_X1_difference l dC dI h0 _ y_1 fl u_6 y_7 y_8 y_22) (cwV 3 hts gX1_operate_X1_difference rfl rfl rfl (by decide +kernel) ⟨Nat.le_of_ble_eq_true rfl, Nat.le_of_ble_eq_true rfl⟩) (wr_preV (ci := 2) rfl hK hP hD) rfl rfl hl.1 rfl (lv_room (Nat.le_of_ble_eq_true rfl)) dX1_operate_178 ⟨Nat.le_of_ble_eq_true rfl, Nat.le_of_ble_eq_true rfl⟩) hP hD hS hA (fun r_24 u_25 H locs hw hP hD hS => ?_)
      obtain ⟨er_24, eu_25⟩ := hw
      have hP : va_P (dC, dI) vwCl [(h0, .inr (2, [.int y_1, .int u_25, .int u_6]))] H := hP
      have hD : va_D A [(h0, .inr (2, [.int y_1, .int u_25, .int u_6]))] := hD
      exact W.iret (v := r_24) hx hb hr (fun t ht hW => ⟨⟨r_24, (y_1, u_25, u_6), rfl, ⟨(by subst ey_1; subst eu_6; subst ey_7; subst ey_8; subst ey_9; subst ey_22; subst er_24; subst eu_25; simp only [f_X1_operate, if_pos c_4, if_neg c_10, if_neg c_13, if_neg c_16, if_pos c_21]), (by subst ey_1; subst eu_6; subst ey_7; subst ey_8; subst ey_9; subst ey_22; subst er_24; subst eu_25; simp only [f_X1_operate, if_pos c_4, if_neg c_10, if_neg c_13, if_neg c_16, if_pos c_21])⟩, by rw [ht]; exact hP, va_K.moved hW.alike hK, hD⟩, hS.F ht⟩) hS.2.2 dX1_operate_181
    by_cases c_26 : a1 = 4
    · refine lv_tableIn (off := 74) (tgt := 134) hx hb dX1_operate_60 (by rw [c_26]; decide) (by rw [c_26]; decide) (by rw [c_26]; rfl) (by decide) ?_
      refine lv_aload_n hx hb dX1_operate_134 rfl (lv_at hl 4 rfl) ?_
      refine lv_iload_n hx hb dX1_operate_135 rfl (lv_at hl 5 rfl) ?_
      refine lv_iload hx hb dX1_operate_136 (lv_at hl 3 rfl) ?_
      refine lv_iload hx hb dX1_operate_138 (lv_at hl 2 rfl) ?_
      refine wr_calli (va_runV (As := [.int a1, .int y_7, .int y_8]) (rest := []) ⟨hx, hb, hml, hown, hts⟩ (p_X1_logic l dC dI h0 _ y_1 fl u_6 a1 y_7 y_8 (hal_len eu_6)) (cwV 3 hts gX1_operate_X1_logic rfl rfl rfl (by decide +kernel) ⟨Nat.le_of_ble_eq_true rfl, Nat.le_of_ble_eq_true rfl⟩) (wr_preV (ci := 2) rfl hK hP hD) rfl rfl hl.1 rfl (lv_room (Nat.le_of_ble_eq_true rfl)) dX1_operate_140 ⟨Nat.le_of_ble_eq_true rfl, Nat.le_of_ble_eq_true rfl⟩) hP hD hS hA (fun r_27 u_28 H locs hw hP hD hS => ?_)
      obtain ⟨er_27, eu_28⟩ := hw
      have hP : va_P (dC, dI) vwCl [(h0, .inr (2, [.int y_1, .int u_28, .int u_6]))] H := hP
      have hD : va_D A [(h0, .inr (2, [.int y_1, .int u_28, .int u_6]))] := hD
      exact W.iret (v := r_27) hx hb hr (fun t ht hW => ⟨⟨r_27, (y_1, u_28, u_6), rfl, ⟨(by subst ey_1; subst eu_6; subst ey_7; subst ey_8; subst ey_9; subst er_27; subst eu_28; simp only [f_X1_operate, if_pos c_4, if_neg c_10, if_neg c_13, if_neg c_16, if_neg c_21, if_pos c_26]), (by subst ey_1; subst eu_6; subst ey_7; subst ey_8; subst ey_9; subst er_27; subst eu_28; simp only [f_X1_operate, if_pos c_4, if_neg c_10, if_neg c_13, if_neg c_16, if_neg c_21, if_pos c_26])⟩, by rw [ht]; exact hP, va_K.moved hW.alike hK, hD⟩, hS.F ht⟩) hS.2.2 dX1_operate_143
    by_cases c_29 : a1 = 5
    · refine lv_tableIn (off := 122) (tgt := 182) hx hb dX1_operate_60 (by rw [c_29]; decide) (by rw [c_29]; decide) (by rw [c_29]; rfl) (by decide) ?_
      refine lv_aload_n hx hb dX1_operate_182 rfl (lv_at hl 4 rfl) ?_
      refine lv_iload hx hb dX1_operate_183 (lv_at hl 3 rfl) ?_
      refine lv_iload hx hb dX1_operate_185 (lv_at hl 2 rfl) ?_
      refine lv_iconst (v := 0) hx hb dX1_operate_187 (by decide) ?_
      refine wr_calli (va_runV (As := [.int y_7, .int y_8, .int 0]) (rest := []) ⟨hx, hb, hml, hown, hts⟩ (p_X1_difference l dC dI h0 _ y_1 fl u_6 y_7 y_8 0) (cwV 3 hts gX1_operate_X1_difference rfl rfl rfl (by decide +kernel) ⟨Nat.le_of_ble_eq_true rfl, Nat.le_of_ble_eq_true rfl⟩) (wr_preV (ci := 2) rfl hK hP hD) rfl rfl hl.1 rfl (lv_room (Nat.le_of_ble_eq_true rfl)) dX1_operate_188 ⟨Nat.le_of_ble_eq_true rfl, Nat.le_of_ble_eq_true rfl⟩) hP hD hS hA (fun r_30 u_31 H locs hw hP hD hS => ?_)
      obtain ⟨er_30, eu_31⟩ := hw
      have hP : va_P (dC, dI) vwCl [(h0, .inr (2, [.int y_1, .int u_31, .int u_6]))] H := hP
      have hD : va_D A [(h0, .inr (2, [.int y_1, .int u_31, .int u_6]))] := hD
      exact W.iret (v := r_30) hx hb hr (fun t ht hW => ⟨⟨r_30, (y_1, u_31, u_6), rfl, ⟨(by subst ey_1; subst eu_6; subst ey_7; subst ey_8; subst ey_9; subst er_30; subst eu_31; simp only [f_X1_operate, if_pos c_4, if_neg c_10, if_neg c_13, if_neg c_16, if_neg c_21, if_neg c_26, if_pos c_29]), (by subst ey_1; subst eu_6; subst ey_7; subst ey_8; subst ey_9; subst er_30; subst eu_31; simp only [f_X1_operate, if_pos c_4, if_neg c_10, if_neg c_13, if_neg c_16, if_neg c_21, if_neg c_26, if_pos c_29])⟩, by rw [ht]; exact hP, va_K.moved hW.alike hK, hD⟩, hS.F ht⟩) hS.2.2 dX1_operate_191
    by_cases c_32 : a1 = 6
    · refine lv_tableIn (off := 74) (tgt := 134) hx hb dX1_operate_60 (by rw [c_32]; decide) (by rw [c_32]; decide) (by rw [c_32]; rfl) (by decide) ?_
      refine lv_aload_n hx hb dX1_operate_134 rfl (lv_at hl 4 rfl) ?_
      refine lv_iload_n hx hb dX1_operate_135 rfl (lv_at hl 5 rfl) ?_
      refine lv_iload hx hb dX1_operate_136 (lv_at hl 3 rfl) ?_
      refine lv_iload hx hb dX1_operate_138 (lv_at hl 2 rfl) ?_
      refine wr_calli (va_runV (As := [.int a1, .int y_7, .int y_8]) (rest := []) ⟨hx, hb, hml, hown, hts⟩ (p_X1_logic l dC dI h0 _ y_1 fl u_6 a1 y_7 y_8 (hal_len eu_6)) (cwV 3 hts gX1_operate_X1_logic rfl rfl rfl (by decide +kernel) ⟨Nat.le_of_ble_eq_true rfl, Nat.le_of_ble_eq_true rfl⟩) (wr_preV (ci := 2) rfl hK hP hD) rfl rfl hl.1 rfl (lv_room (Nat.le_of_ble_eq_true rfl)) dX1_operate_140 ⟨Nat.le_of_ble_eq_true rfl, Nat.le_of_ble_eq_true rfl⟩) hP hD hS hA (fun r_33 u_34 H locs hw hP hD hS => ?_)
      obtain ⟨er_33, eu_34⟩ := hw
      have hP : va_P (dC, dI) vwCl [(h0, .inr (2, [.int y_1, .int u_34, .int u_6]))] H := hP
      have hD : va_D A [(h0, .inr (2, [.int y_1, .int u_34, .int u_6]))] := hD
      exact W.iret (v := r_33) hx hb hr (fun t ht hW => ⟨⟨r_33, (y_1, u_34, u_6), rfl, ⟨(by subst ey_1; subst eu_6; subst ey_7; subst ey_8; subst ey_9; subst er_33; subst eu_34; simp only [f_X1_operate, if_pos c_4, if_neg c_10, if_neg c_13, if_neg c_16, if_neg c_21, if_neg c_26, if_neg c_29, if_pos c_32]), (by subst ey_1; subst eu_6; subst ey_7; subst ey_8; subst ey_9; subst er_33; subst eu_34; simp only [f_X1_operate, if_pos c_4, if_neg c_10, if_neg c_13, if_neg c_16, if_neg c_21, if_neg c_26, if_neg c_29, if_pos c_32])⟩, by rw [ht]; exact hP, va_K.moved hW.alike hK, hD⟩, hS.F ht⟩) hS.2.2 dX1_operate_143
    by_cases c_35 : a1 = 7
    · refine lv_tableIn (off := 132) (tgt := 192) hx hb dX1_operate_60 (by rw [c_35]; decide) (by rw [c_35]; decide) (by rw [c_35]; rfl) (by decide) ?_
      refine lv_aload_n hx hb dX1_operate_192 rfl (lv_at hl 4 rfl) ?_
      refine lv_iload hx hb dX1_operate_193 (lv_at hl 3 rfl) ?_
      refine lv_iload hx hb dX1_operate_195 (lv_at hl 2 rfl) ?_
      refine lv_iconst (v := 0) hx hb dX1_operate_197 (by decide) ?_
      refine wr_calli (va_runV (As := [.int y_7, .int y_8, .int 0]) (rest := []) ⟨hx, hb, hml, hown, hts⟩ (p_X1_difference l dC dI h0 _ y_1 fl u_6 y_7 y_8 0) (cwV 3 hts gX1_operate_X1_difference rfl rfl rfl (by decide +kernel) ⟨Nat.le_of_ble_eq_true rfl, Nat.le_of_ble_eq_true rfl⟩) (wr_preV (ci := 2) rfl hK hP hD) rfl rfl hl.1 rfl (lv_room (Nat.le_of_ble_eq_true rfl)) dX1_operate_198 ⟨Nat.le_of_ble_eq_true rfl, Nat.le_of_ble_eq_true rfl⟩) hP hD hS hA (fun r_36 u_37 H locs hw hP hD hS => ?_)
      obtain ⟨er_36, eu_37⟩ := hw
      have hP : va_P (dC, dI) vwCl [(h0, .inr (2, [.int y_1, .int u_37, .int u_6]))] H := hP
      have hD : va_D A [(h0, .inr (2, [.int y_1, .int u_37, .int u_6]))] := hD
      refine lv_pop hx hb dX1_operate_201 rfl ?_
      refine lv_iload hx hb dX1_operate_202 (lv_at hl 3 rfl) ?_
      exact W.iret (v := y_7) hx hb hr (fun t ht hW => ⟨⟨y_7, (y_1, u_37, u_6), rfl, ⟨(by subst ey_1; subst eu_6; subst ey_7; subst ey_8; subst ey_9; subst er_36; subst eu_37; simp only [f_X1_operate, if_pos c_4, if_neg c_10, if_neg c_13, if_neg c_16, if_neg c_21, if_neg c_26, if_neg c_29, if_neg c_32, if_pos c_35]), (by subst ey_1; subst eu_6; subst ey_7; subst ey_8; subst ey_9; subst er_36; subst eu_37; simp only [f_X1_operate, if_pos c_4, if_neg c_10, if_neg c_13, if_neg c_16, if_neg c_21, if_neg c_26, if_neg c_29, if_neg c_32, if_pos c_35])⟩, by rw [ht]; exact hP, va_K.moved hW.alike hK, hD⟩, hS.F ht⟩) hS.2.2 dX1_operate_204
    by_cases c_38 : a1 = 8
    · refine lv_tableIn (off := 145) (tgt := 205) hx hb dX1_operate_60 (by rw [c_38]; decide) (by rw [c_38]; decide) (by rw [c_38]; rfl) (by decide) ?_
      refine lv_aload_n hx hb dX1_operate_205 rfl (lv_at hl 4 rfl) ?_
      refine lv_iconst (v := 4) hx hb dX1_operate_206 (by decide) ?_
      refine lv_iload hx hb dX1_operate_207 (lv_at hl 3 rfl) ?_
      refine lv_iload hx hb dX1_operate_209 (lv_at hl 2 rfl) ?_
      refine wr_calli (va_runV (As := [.int 4, .int y_7, .int y_8]) (rest := []) ⟨hx, hb, hml, hown, hts⟩ (p_X1_logic l dC dI h0 _ y_1 fl u_6 4 y_7 y_8 (hal_len eu_6)) (cwV 3 hts gX1_operate_X1_logic rfl rfl rfl (by decide +kernel) ⟨Nat.le_of_ble_eq_true rfl, Nat.le_of_ble_eq_true rfl⟩) (wr_preV (ci := 2) rfl hK hP hD) rfl rfl hl.1 rfl (lv_room (Nat.le_of_ble_eq_true rfl)) dX1_operate_211 ⟨Nat.le_of_ble_eq_true rfl, Nat.le_of_ble_eq_true rfl⟩) hP hD hS hA (fun r_39 u_40 H locs hw hP hD hS => ?_)
      obtain ⟨er_39, eu_40⟩ := hw
      have hP : va_P (dC, dI) vwCl [(h0, .inr (2, [.int y_1, .int u_40, .int u_6]))] H := hP
      have hD : va_D A [(h0, .inr (2, [.int y_1, .int u_40, .int u_6]))] := hD
      refine lv_pop hx hb dX1_operate_214 rfl ?_
      refine lv_iload hx hb dX1_operate_215 (lv_at hl 3 rfl) ?_
      exact W.iret (v := y_7) hx hb hr (fun t ht hW => ⟨⟨y_7, (y_1, u_40, u_6), rfl, ⟨(by subst ey_1; subst eu_6; subst ey_7; subst ey_8; subst ey_9; subst er_39; subst eu_40; simp only [f_X1_operate, if_pos c_4, if_neg c_10, if_neg c_13, if_neg c_16, if_neg c_21, if_neg c_26, if_neg c_29, if_neg c_32, if_neg c_35, if_pos c_38]), (by subst ey_1; subst eu_6; subst ey_7; subst ey_8; subst ey_9; subst er_39; subst eu_40; simp only [f_X1_operate, if_pos c_4, if_neg c_10, if_neg c_13, if_neg c_16, if_neg c_21, if_neg c_26, if_neg c_29, if_neg c_32, if_neg c_35, if_pos c_38])⟩, by rw [ht]; exact hP, va_K.moved hW.alike hK, hD⟩, hS.F ht⟩) hS.2.2 dX1_operate_217
    by_cases c_41 : a1 = 9
    · refine lv_tableIn (off := 158) (tgt := 218) hx hb dX1_operate_60 (by rw [c_41]; decide) (by rw [c_41]; decide) (by rw [c_41]; rfl) (by decide) ?_
      refine lv_aload_n hx hb dX1_operate_218 rfl (lv_at hl 4 rfl) ?_
      refine lv_iload hx hb dX1_operate_219 (lv_at hl 3 rfl) ?_
      refine lv_iconst (v := 1) hx hb dX1_operate_221 (by decide) ?_
      refine lv_iconst (v := 0) hx hb dX1_operate_222 (by decide) ?_
      refine wr_calli (va_runV (As := [.int y_7, .int 1, .int 0]) (rest := []) ⟨hx, hb, hml, hown, hts⟩ (p_X1_sum l dC dI h0 _ y_1 fl u_6 y_7 1 0 (hal_len eu_6)) (cwV 3 hts gX1_operate_X1_sum rfl rfl rfl (by decide +kernel) ⟨Nat.le_of_ble_eq_true rfl, Nat.le_of_ble_eq_true rfl⟩) (wr_preV (ci := 2) rfl hK hP hD) rfl rfl hl.1 rfl (lv_room (Nat.le_of_ble_eq_true rfl)) dX1_operate_223 ⟨Nat.le_of_ble_eq_true rfl, Nat.le_of_ble_eq_true rfl⟩) hP hD hS hA (fun r_42 u_43 H locs hw hP hD hS => ?_)
      obtain ⟨er_42, eu_43⟩ := hw
      have hP : va_P (dC, dI) vwCl [(h0, .inr (2, [.int y_1, .int u_43, .int u_6]))] H := hP
      have hD : va_D A [(h0, .inr (2, [.int y_1, .int u_43, .int u_6]))] := hD
      refine lv_istore (lv' := [(8, .int r_42), (7, .int y_9), (6, .int y_8), (5, .int y_7), (0, .ref h0), (1, .int a1), (2, .int a2), (3, .int a3), (4, .int a4)]) hx hb dX1_operate_226 hl (by decide) rfl (fun ls hl => ?_)
      refine lv_aload_n hx hb dX1_operate_228 rfl (lv_at hl 4 rfl) ?_
      refine lv_iconst (v := 1) hx hb dX1_operate_229 (by decide) ?_
      refine lv_iload hx hb dX1_operate_230 (lv_at hl 1 rfl) ?_
      refine wr_callv (va_runV (As := [.int 1, .int y_9]) (rest := []) ⟨hx, hb, hml, hown, hts⟩ (p_X1_put l dC dI h0 _ y_1 u_43 u_6 1 y_9 (by decide)) (cwV 2 hts gX1_operate_X1_put rfl rfl rfl (by decide +kernel) ⟨Nat.le_of_ble_eq_true rfl, Nat.le_of_ble_eq_true rfl⟩) (wr_preV (ci := 2) rfl hK hP hD) rfl rfl hl.1 rfl (lv_room (Nat.le_of_ble_eq_true rfl)) dX1_operate_232 ⟨Nat.le_of_ble_eq_true rfl, Nat.le_of_ble_eq_true rfl⟩) hP hD hS hA (fun u_45 H locs eu_45 hP hD hS => ?_)
      have hP : va_P (dC, dI) vwCl [(h0, .inr (2, [.int y_1, .int u_45, .int u_6]))] H := hP
      have hD : va_D A [(h0, .inr (2, [.int y_1, .int u_45, .int u_6]))] := hD
      refine lv_iload hx hb dX1_operate_235 (lv_at hl 0 rfl) ?_
      exact W.iret (v := r_42) hx hb hr (fun t ht hW => ⟨⟨r_42, (y_1, u_45, u_6), rfl, ⟨(by subst ey_1; subst eu_6; subst ey_7; subst ey_8; subst ey_9; subst er_42; subst eu_43; subst eu_45; simp only [f_X1_operate, if_pos c_4, if_neg c_10, if_neg c_13, if_neg c_16, if_neg c_21, if_neg c_26, if_neg c_29, if_neg c_32, if_neg c_35, if_neg c_38, if_pos c_41]), (by subst ey_1; subst eu_6; subst ey_7; subst ey_8; subst ey_9; subst er_42; subst eu_43; subst eu_45; simp only [f_X1_operate, if_pos c_4, if_neg c_10, if_neg c_13, if_neg c_16, if_neg c_21, if_neg c_26, if_neg c_29, if_neg c_32, if_neg c_35, if_neg c_38, if_pos c_41])⟩, by rw [ht]; exact hP, va_K.moved hW.alike hK, hD⟩, hS.F ht⟩) hS.2.2 dX1_operate_237
    by_cases c_46 : a1 = 10
    · refine lv_tableIn (off := 178) (tgt := 238) hx hb dX1_operate_60 (by rw [c_46]; decide) (by rw [c_46]; decide) (by rw [c_46]; rfl) (by decide) ?_
      refine lv_aload_n hx hb dX1_operate_238 rfl (lv_at hl 4 rfl) ?_
      refine lv_iload hx hb dX1_operate_239 (lv_at hl 3 rfl) ?_
      refine lv_iconst (v := 1) hx hb dX1_operate_241 (by decide) ?_
      refine lv_iconst (v := 0) hx hb dX1_operate_242 (by decide) ?_
      refine wr_calli (va_runV (As := [.int y_7, .int 1, .int 0]) (rest := []) ⟨hx, hb, hml, hown, hts⟩ (p_X1_difference l dC dI h0 _ y_1 fl u_6 y_7 1 0) (cwV 3 hts gX1_operate_X1_difference rfl rfl rfl (by decide +kernel) ⟨Nat.le_of_ble_eq_true rfl, Nat.le_of_ble_eq_true rfl⟩) (wr_preV (ci := 2) rfl hK hP hD) rfl rfl hl.1 rfl (lv_room (Nat.le_of_ble_eq_true rfl)) dX1_operate_243 ⟨Nat.le_of_ble_eq_true rfl, Nat.le_of_ble_eq_true rfl⟩) hP hD hS hA (fun r_47 u_48 H locs hw hP hD hS => ?_)
      obtain ⟨er_47, eu_48⟩ := hw
      have hP : va_P (dC, dI) vwCl [(h0, .inr (2, [.int y_1, .int u_48, .int u_6]))] H := hP
      have hD : va_D A [(h0, .inr (2, [.int y_1, .int u_48, .int u_6]))] := hD
      refine lv_istore (lv' := [(8, .int r_47), (7, .int y_9), (6, .int y_8), (5, .int y_7), (0, .ref h0), (1, .int a1), (2, .int a2), (3, .int a3), (4, .int a4)]) hx hb dX1_operate_246 hl (by decide) rfl (fun ls hl => ?_)
      refine lv_aload_n hx hb dX1_operate_248 rfl (lv_at hl 4 rfl) ?_
      refine lv_iconst (v := 1) hx hb dX1_operate_249 (by decide) ?_
      refine lv_iload hx hb dX1_operate_250 (lv_at hl 1 rfl) ?_
      refine wr_callv (va_runV (As := [.int 1, .int y_9]) (rest := []) ⟨hx, hb, hml, hown, hts⟩ (p_X1_put l dC dI h0 _ y_1 u_48 u_6 1 y_9 (by decide)) (cwV 2 hts gX1_operate_X1_put rfl rfl rfl (by decide +kernel) ⟨Nat.le_of_ble_eq_true rfl, Nat.le_of_ble_eq_true rfl⟩) (wr_preV (ci := 2) rfl hK hP hD) rfl rfl hl.1 rfl (lv_room (Nat.le_of_ble_eq_true rfl)) dX1_operate_252 ⟨Nat.le_of_ble_eq_true rfl, Nat.le_of_ble_eq_true rfl⟩) hP hD hS hA (fun u_50 H locs eu_50 hP hD hS => ?_)
      have hP : va_P (dC, dI) vwCl [(h0, .inr (2, [.int y_1, .int u_50, .int u_6]))] H := hP
      have hD : va_D A [(h0, .inr (2, [.int y_1, .int u_50, .int u_6]))] := hD
      refine lv_iload hx hb dX1_operate_255 (lv_at hl 0 rfl) ?_
      exact W.iret (v := r_47) hx hb hr (fun t ht hW => ⟨⟨r_47, (y_1, u_50, u_6), rfl, ⟨(by subst ey_1; subst eu_6; subst ey_7; subst ey_8; subst ey_9; subst er_47; subst eu_48; subst eu_50; simp only [f_X1_operate, if_pos c_4, if_neg c_10, if_neg c_13, if_neg c_16, if_neg c_21, if_neg c_26, if_neg c_29, if_neg c_32, if_neg c_35, if_neg c_38, if_neg c_41, if_pos c_46]), (by subst ey_1; subst eu_6; subst ey_7; subst ey_8; subst ey_9; subst er_47; subst eu_48; subst eu_50; simp only [f_X1_operate, if_pos c_4, if_neg c_10, if_neg c_13, if_neg c_16, if_neg c_21, if_neg c_26, if_neg c_29, if_neg c_32, if_neg c_35, if_neg c_38, if_neg c_41, if_pos c_46])⟩, by rw [ht]; exact hP, va_K.moved hW.alike hK, hD⟩, hS.F ht⟩) hS.2.2 dX1_operate_257
    by_cases c_51 : a1 = 11
    · refine lv_tableIn (off := 198) (tgt := 258) hx hb dX1_operate_60 (by rw [c_51]; decide) (by rw [c_51]; decide) (by rw [c_51]; rfl) (by decide) ?_
      refine lv_aload_n hx hb dX1_operate_258 rfl (lv_at hl 4 rfl) ?_
      refine lv_iconst (v := 0) hx hb dX1_operate_259 (by decide) ?_
      refine lv_iload hx hb dX1_operate_260 (lv_at hl 3 rfl) ?_
      refine lv_iconst (v := 0) hx hb dX1_operate_262 (by decide) ?_
      refine wr_calli (va_runV (As := [.int 0, .int y_7, .int 0]) (rest := []) ⟨hx, hb, hml, hown, hts⟩ (p_X1_difference l dC dI h0 _ y_1 fl u_6 0 y_7 0) (cwV 3 hts gX1_operate_X1_difference rfl rfl rfl (by decide +kernel) ⟨Nat.le_of_ble_eq_true rfl, Nat.le_of_ble_eq_true rfl⟩) (wr_preV (ci := 2) rfl hK hP hD) rfl rfl hl.1 rfl (lv_room (Nat.le_of_ble_eq_true rfl)) dX1_operate_263 ⟨Nat.le_of_ble_eq_true rfl, Nat.le_of_ble_eq_true rfl⟩) hP hD hS hA (fun r_52 u_53 H locs hw hP hD hS => ?_)
      obtain ⟨er_52, eu_53⟩ := hw
      have hP : va_P (dC, dI) vwCl [(h0, .inr (2, [.int y_1, .int u_53, .int u_6]))] H := hP
      have hD : va_D A [(h0, .inr (2, [.int y_1, .int u_53, .int u_6]))] := hD
      exact W.iret (v := r_52) hx hb hr (fun t ht hW => ⟨⟨r_52, (y_1, u_53, u_6), rfl, ⟨(by subst ey_1; subst eu_6; subst ey_7; subst ey_8; subst ey_9; subst er_52; subst eu_53; simp only [f_X1_operate, if_pos c_4, if_neg c_10, if_neg c_13, if_neg c_16, if_neg c_21, if_neg c_26, if_neg c_29, if_neg c_32, if_neg c_35, if_neg c_38, if_neg c_41, if_neg c_46, if_pos c_51]), (by subst ey_1; subst eu_6; subst ey_7; subst ey_8; subst ey_9; subst er_52; subst eu_53; simp only [f_X1_operate, if_pos c_4, if_neg c_10, if_neg c_13, if_neg c_16, if_neg c_21, if_neg c_26, if_neg c_29, if_neg c_32, if_neg c_35, if_neg c_38, if_neg c_41, if_neg c_46, if_pos c_51])⟩, by rw [ht]; exact hP, va_K.moved hW.alike hK, hD⟩, hS.F ht⟩) hS.2.2 dX1_operate_266
    refine lv_tableOut (tgt := 267) hx hb dX1_operate_60 (sw_out 11 (by decide) (fun k hk => by rcases (show k = 0 ∨ k = 1 ∨ k = 2 ∨ k = 3 ∨ k = 4 ∨ k = 5 ∨ k = 6 ∨ k = 7 ∨ k = 8 ∨ k = 9 ∨ k = 10 ∨ k = 11 by omega) with rfl | rfl | rfl | rfl | rfl | rfl | rfl | rfl | rfl | rfl | rfl | rfl <;> assumption)) (by decide) ?_
    refine lv_aload_n hx hb dX1_operate_267 rfl (lv_at hl 4 rfl) ?_
    refine va_get (D := (dC, dI)) (ci := 2) (v := .int u_6) (C := RX1) (T := TX1) (N := 3) hx hb hts (by decide +kernel) hown hK hP 0 rfl rfl 2 (by decide) (hts (.fieldLink RX1 14 "WordArithmeticModel" "all" "I") (by decide +kernel)) (fun _ h9 => h9) rfl dX1_operate_268 ?_
    refine lv_iconst (v := 1) hx hb dX1_operate_271 (by decide) ?_
    refine lv_isub hx hb dX1_operate_272 ?_
    refine lv_iload hx hb dX1_operate_273 (lv_at hl 3 rfl) ?_
    refine lv_isub hx hb dX1_operate_275 ?_
    exact W.iret (v := ((u_6 - 1) - y_7)) hx hb hr (fun t ht hW => ⟨⟨((u_6 - 1) - y_7), (y_1, fl, u_6), rfl, ⟨(by subst ey_1; subst eu_6; subst ey_7; subst ey_8; subst ey_9; simp only [f_X1_operate, if_pos c_4, if_neg c_10, if_neg c_13, if_neg c_16, if_neg c_21, if_neg c_26, if_neg c_29, if_neg c_32, if_neg c_35, if_neg c_38, if_neg c_41, if_neg c_46, if_neg c_51]), (by subst ey_1; subst eu_6; subst ey_7; subst ey_8; subst ey_9; simp only [f_X1_operate, if_pos c_4, if_neg c_10, if_neg c_13, if_neg c_16, if_neg c_21, if_neg c_26, if_neg c_29, if_neg c_32, if_neg c_35, if_neg c_38, if_neg c_41, if_neg c_46, if_neg c_51])⟩, by rw [ht]; exact hP, va_K.moved hW.alike hK, hD⟩, hS.F ht⟩) hS.2.2 dX1_operate_276
  · refine lv_iconst (v := 0) hx hb dX1_operate_26 (by decide) ?_
    exact W.iret (v := 0) hx hb hr (fun t ht hW => ⟨⟨0, (y_1, fl, al), rfl, ⟨(by subst ey_1; simp only [f_X1_operate, if_neg c_4]), (by subst ey_1; simp only [f_X1_operate, if_neg c_4])⟩, by rw [ht]; exact hP, va_K.moved hW.alike hK, hD⟩, hS.F ht⟩) hS.2.2 dX1_operate_27

/-- the loop of X1_shift, n rounds at most -/
def l_X1_shift : Nat → Int32 → Int32 → Int32 → Int32 → Int32 → Int32 → Int32 → Int32 × (Int32 × Int32 × Int32)
  | 0, _, _, _, _, _, _, _ => (0, (0, 0, 0))
  | n + 1, cd, al, a1, a4, u, z, d =>
  if a4 ≤ d then
  ((z, (cd, u, al)))
  else
  (let r_11 : Int32 := (f_X1_once u al a1 z).1
  let u_12 : Int32 := (f_X1_once u al a1 z).2
  l_X1_shift n cd al a1 a4 u_12 r_11 (d + 1))
/-- what X1_shift answers -/
def f_X1_shift (fl : Int32) (al : Int32) (a1 : Int32) (a2 : Int32) (a3 : Int32) (a4 : Int32) : Int32 × (Int32 × Int32 × Int32) :=
  let y_1 : Int32 := (if a1 < 0 then 1 else (if 7 < a1 then 1 else (if a4 < 0 then 1 else (if a4 ≤ 255 then 0 else 1))))
  if y_1 ≤ 0 then
  (let u_8 : Int32 := (f_X1_length a2)
  let y_9 : Int32 := (f_X1_operand u_8 a3)
  l_X1_shift 256 y_1 u_8 a1 a4 fl y_9 0)
  else
  ((0, (y_1, fl, al)))
set_option maxHeartbeats 4000000 in
set_option maxRecDepth 100000 in
theorem p_X1_shift (l : Launch) (dC : Nat → ClassId) (dI : Nat → Nat → Nat) (h0 : Nat) (sz : Nat) (cd : Int32) (fl : Int32) (al : Int32) (a1 : Int32) (a2 : Int32) (a3 : Int32) (a4 : Int32) : Met l yX1_shift wsX1_shift ({ frames := 4, cells := 0, slots := 0, locals := 97 }) (va_Pc [.ref h0, .int a1, .int a2, .int a3, .int a4] (wr_pre (dC, dI) 2 h0 sz [.int cd, .int fl, .int al])) (va_Qi (fun (r : Int32) (u : Int32 × Int32 × Int32) => r = (f_X1_shift fl al a1 a2 a3 a4).1 ∧ u = (f_X1_shift fl al a1 a2 a3 a4).2) (wr_at (dC, dI) 2 h0 (fun u : Int32 × Int32 × Int32 => [.int u.1, .int u.2.1, .int u.2.2]) (wr_A 2 h0 sz [.int cd, .int fl, .int al])) (wr_A 2 h0 sz [.int cd, .int fl, .int al])) 0 0 (wr_A 2 h0 sz [.int cd, .int fl, .int al]) := by
  refine Met.ofW (cc := cX1_shift) (maxL := 7) (ret := (some .int)) (by decide) rfl ?_
  intro p e s m args below meth c s₁ B hml hv
  obtain ⟨rfl, hsz, hP, hK, hD0⟩ := hv
  have hx := B.exec
  have hb := B.bytes
  have hr := B.returns
  have hts := atoms_spec (ws := wsX1_shift) B.pre
  have hown : s.vm.findClass RX1 = some m.cls := findClass_of_methodNamed B.named
  have hlocks := B.notSynchronized
  subst hsz
  have hD : va_D (wr_A 2 h0 s.heap.size [.int cd, .int fl, .int al]) [(h0, .inr (2, [.int cd, .int fl, .int al]))] := hD0.self (sz := s.heap.size)
  generalize hAe : wr_A 2 h0 s.heap.size [.int cd, .int fl, .int al] = A at hD ⊢
  have hA : ∀ q : Nat, s.heap.size ≤ q → A q := fun q h => by rw [← hAe]; exact Or.inr h
  have hS : va_S A s.heap s.heap [] := va_S.rf
  have hP : va_P (dC, dI) vwCl [(h0, .inr (2, [.int cd, .int fl, .int al]))] s.heap := hP
  have hD : va_D A [(h0, .inr (2, [.int cd, .int fl, .int al]))] := hD
  have hl := lv_entry ([.ref h0, .int a1, .int a2, .int a3, .int a4]) (n := 7) (Nat.le_of_ble_eq_true rfl)
  rw [lg_entry_eq]
  generalize (lg_sl ([.ref h0, .int a1, .int a2, .int a3, .int a4]) ++ List.replicate (7 - (lg_sl ([.ref h0, .int a1, .int a2, .int a3, .int a4])).length) Slot.unset).toArray = ls at hl ⊢
  have hl : lv_has ls 7 [(0, .ref h0), (1, .int a1), (2, .int a2), (3, .int a3), (4, .int a4)] := hl
  refine lv_aload_n hx hb dX1_shift_0 rfl (lv_at hl 0 rfl) ?_
  refine lv_iload_n hx hb dX1_shift_1 rfl (lv_at hl 1 rfl) ?_
  refine rg (J := 29) (st := [.ref h0]) (if a1 < 0 then 1 else (if 7 < a1 then 1 else (if a4 < 0 then 1 else (if a4 ≤ 255 then 0 else 1)))) (fun k => ?_) (fun y_1 ey_1 => ?_)
  · refine lv_if_lt (tgt := 24) hx hb dX1_shift_2 (by decide) (fun c_2 => ?_) (fun c_2 => ?_)
    · refine lv_iconst (v := 1) hx hb dX1_shift_24 (by decide) ?_
      refine lv_goto (tgt := 29) hx hb dX1_shift_25 (by decide) ?_
      exact rg_e k (by first | rw [if_pos c_2] | simp only [if_pos c_2])
    · refine lv_iload_n hx hb dX1_shift_5 rfl (lv_at hl 1 rfl) ?_
      refine lv_bipush (v := 7) hx hb dX1_shift_6 (by decide +kernel) ?_
      refine lv_icmp_gt (tgt := 24) hx hb dX1_shift_8 (by decide) (fun c_3 => ?_) (fun c_3 => ?_)
      · refine lv_iconst (v := 1) hx hb dX1_shift_24 (by decide) ?_
        refine lv_goto (tgt := 29) hx hb dX1_shift_25 (by decide) ?_
        exact rg_e k (by first | rw [if_neg c_2, if_pos c_3] | simp only [if_neg c_2, if_pos c_3])
      · refine lv_iload hx hb dX1_shift_11 (lv_at hl 4 rfl) ?_
        refine lv_if_lt (tgt := 24) hx hb dX1_shift_13 (by decide) (fun c_4 => ?_) (fun c_4 => ?_)
        · refine lv_iconst (v := 1) hx hb dX1_shift_24 (by decide) ?_
          refine lv_goto (tgt := 29) hx hb dX1_shift_25 (by decide) ?_
          exact rg_e k (by first | rw [if_neg c_2, if_neg c_3, if_pos c_4] | simp only [if_neg c_2, if_neg c_3, if_pos c_4])
        · refine lv_iload hx hb dX1_shift_16 (lv_at hl 4 rfl) ?_
          refine lv_sipush (v := 255) hx hb dX1_shift_18 (by decide +kernel) ?_
          refine lv_icmp_le (tgt := 28) hx hb dX1_shift_21 (by decide) (fun c_5 => ?_) (fun c_5 => ?_)
          · refine lv_iconst (v := 0) hx hb dX1_shift_28 (by decide) ?_
            exact rg_e k (by first | rw [if_neg c_2, if_neg c_3, if_neg c_4, if_pos c_5] | simp only [if_neg c_2, if_neg c_3, if_neg c_4, if_pos c_5])
          · refine lv_iconst (v := 1) hx hb dX1_shift_24 (by decide) ?_
            refine lv_goto (tgt := 29) hx hb dX1_shift_25 (by decide) ?_
            exact rg_e k (by first | rw [if_neg c_2, if_neg c_3, if_neg c_4, if_neg c_5] | simp only [if_neg c_2, if_neg c_3, if_neg c_4, if_neg c_5])
  refine va_put (D := (dC, dI)) (ci := 2) (v := .int y_1) (ty := .int) (C := RX1) (T := TX1) (N := 3) hx hb hts (by decide +kernel) tyX1 tyX1_ok nmX1 hown hK hP hD hS 0 rfl rfl 0 (by decide) (hts (.fieldLink RX1 7 "WordArithmeticModel" "code" "I") (by decide +kernel)) (fun _ h9 => h9) rfl (by decide +kernel) rfl rfl (Nat.le_of_ble_eq_true rfl) dX1_shift_29 (fun H locs hP hD hS => ?_)
  have hP : va_P (dC, dI) vwCl [(h0, .inr (2, [.int y_1, .int fl, .int al]))] H := hP
  have hD : va_D A [(h0, .inr (2, [.int y_1, .int fl, .int al]))] := hD
  refine lv_aload_n hx hb dX1_shift_32 rfl (lv_at hl 0 rfl) ?_
  refine va_get (D := (dC, dI)) (ci := 2) (v := .int y_1) (C := RX1) (T := TX1) (N := 3) hx hb hts (by decide +kernel) hown hK hP 0 rfl rfl 0 (by decide) (hts (.fieldLink RX1 7 "WordArithmeticModel" "code" "I") (by decide +kernel)) (fun _ h9 => h9) rfl dX1_shift_33 ?_
  refine lv_if_le (tgt := 41) hx hb dX1_shift_36 (by decide) (fun c_6 => ?_) (fun c_6 => ?_)
  · refine lv_aload_n hx hb dX1_shift_41 rfl (lv_at hl 0 rfl) ?_
    refine lv_iload_n hx hb dX1_shift_42 rfl (lv_at hl 2 rfl) ?_
    refine wr_callv (va_runV (As := [.int a2]) (rest := []) ⟨hx, hb, hml, hown, hts⟩ (p_X1_length l dC dI h0 _ y_1 fl al a2) (cwV 1 hts gX1_shift_X1_length rfl rfl rfl (by decide +kernel) ⟨Nat.le_of_ble_eq_true rfl, Nat.le_of_ble_eq_true rfl⟩) (wr_preV (ci := 2) rfl hK hP hD) rfl rfl hl.1 rfl (lv_room (Nat.le_of_ble_eq_true rfl)) dX1_shift_43 ⟨Nat.le_of_ble_eq_true rfl, Nat.le_of_ble_eq_true rfl⟩) hP hD hS hA (fun u_8 H locs eu_8 hP hD hS => ?_)
    have hP : va_P (dC, dI) vwCl [(h0, .inr (2, [.int y_1, .int fl, .int u_8]))] H := hP
    have hD : va_D A [(h0, .inr (2, [.int y_1, .int fl, .int u_8]))] := hD
    refine lv_aload_n hx hb dX1_shift_46 rfl (lv_at hl 0 rfl) ?_
    refine lv_iload_n hx hb dX1_shift_47 rfl (lv_at hl 3 rfl) ?_
    refine pu_calli (F := (f_X1_operand u_8 a3)) (va_runV (As := [.int a3]) (rest := []) ⟨hx, hb, hml, hown, hts⟩ (p_X1_operand l dC dI h0 _ y_1 fl u_8 a3) (cwV 1 hts gX1_shift_X1_operand rfl rfl rfl (by decide +kernel) ⟨Nat.le_of_ble_eq_true rfl, Nat.le_of_ble_eq_true rfl⟩) (pu_preV (ci := 2) rfl hK hP) rfl rfl hl.1 rfl (lv_room (Nat.le_of_ble_eq_true rfl)) dX1_shift_48 ⟨Nat.le_of_ble_eq_true rfl, Nat.le_of_ble_eq_true rfl⟩) ?_
    refine lv_topi (fun y_9 ey_9 => ?_)
    refine lv_istore (lv' := [(5, .int y_9), (0, .ref h0), (1, .int a1), (2, .int a2), (3, .int a3), (4, .int a4)]) hx hb dX1_shift_51 hl (by decide) rfl (fun ls hl => ?_)
    refine lv_iconst (v := 0) hx hb dX1_shift_53 (by decide) ?_
    refine lv_istore (lv' := [(6, .int 0), (5, .int y_9), (0, .ref h0), (1, .int a1), (2, .int a2), (3, .int a3), (4, .int a4)]) hx hb dX1_shift_54 hl (by decide) rfl (fun ls hl => ?_)
    have hf : f_X1_shift fl al a1 a2 a3 a4 = l_X1_shift 256 y_1 u_8 a1 a4 fl y_9 0 := by subst ey_1; subst eu_8; subst ey_9; simp only [f_X1_shift, if_pos c_6]
    have h4a : ¬ a4 < 0 := fun h => absurd c_6 (by rw [ey_1]; repeat (first | rw [if_pos h] | decide | split))
    have h4b : a4 ≤ 255 := by
      by_cases h : a4 ≤ 255
      · exact h
      · exact absurd c_6 (by rw [ey_1]; repeat (first | rw [if_neg h] | decide | split))
    obtain ⟨t, ht, et⟩ : ∃ t : Nat, t ≤ 255 ∧ a4 = nI t := nI_of2 (M := 255) (n := 255) rfl h4a h4b
    obtain ⟨H9, hHe⟩ : ∃ H9 : Heap, H9 = H := ⟨_, rfl⟩
    obtain ⟨lo9, hlo⟩ : ∃ lo9 : List Loc, lo9 = locs := ⟨_, rfl⟩
    obtain ⟨u, hu⟩ : ∃ u : Int32, u = fl := ⟨_, rfl⟩
    obtain ⟨z, hz⟩ : ∃ z : Int32, z = y_9 := ⟨_, rfl⟩
    obtain ⟨d, hd⟩ : ∃ d : Int32, d = 0 := ⟨_, rfl⟩
    obtain ⟨i, hi⟩ : ∃ i : Nat, i = 0 := ⟨_, rfl⟩
    obtain ⟨n, hn⟩ : ∃ n : Nat, n = 256 := ⟨_, rfl⟩
    have hinv : f_X1_shift fl al a1 a2 a3 a4 = l_X1_shift n y_1 u_8 a1 a4 u z d := by rw [hf, hu, hz, hd, hn]
    have ed : d = nI i := by rw [hd, hi]; rfl
    have hit : i ≤ t := by rw [hi]; exact Nat.zero_le _
    have hm : t < i + n := by omega
    replace hl : lv_has ls 7 [(6, .int d), (5, .int z), (0, .ref h0), (1, .int a1), (2, .int a2), (3, .int a3), (4, .int a4)] := by rw [hd, hz]; exact hl
    replace hS : va_S A s.heap H9 lo9 := by rw [hHe, hlo]; exact hS
    replace hP : va_P (dC, dI) vwCl [(h0, .inr (2, [.int y_1, .int u, .int u_8]))] H9 := by rw [hHe, hu]; exact hP
    replace hD : va_D A [(h0, .inr (2, [.int y_1, .int u, .int u_8]))] := by rw [hu]; exact hD
    rw [← hHe, ← hlo]
    clear hHe hlo hu hz hd hi hn hf
    induction n generalizing i d z u H9 lo9 ls with
    | zero => exact absurd hm (by omega)
    | succ n ih =>
      refine lv_iload hx hb dX1_shift_56 (lv_at hl 0 rfl) ?_
      refine lv_iload hx hb dX1_shift_58 (lv_at hl 6 rfl) ?_
      refine lv_icmp_ge (tgt := 78) hx hb dX1_shift_60 (by decide) (fun c_10 => ?_) (fun c_10 => ?_)
      · refine lv_iload hx hb dX1_shift_78 (lv_at hl 1 rfl) ?_
        exact W.iret (v := z) hx hb hr (fun t ht hW => ⟨⟨z, (y_1, u, u_8), rfl, ⟨(by rw [hinv]; simp only [l_X1_shift, if_pos c_10]), (by rw [hinv]; simp only [l_X1_shift, if_pos c_10])⟩, by rw [ht]; exact hP, va_K.moved hW.alike hK, hD⟩, hS.F ht⟩) hS.2.2 dX1_shift_80
      · have hlt : i + 1 ≤ t := (Nat.lt_or_ge i t).elim (fun q => q) (fun q => absurd (by rw [ed, et]; exact nI_le q (by omega)) c_10)
        refine lv_aload_n hx hb dX1_shift_63 rfl (lv_at hl 2 rfl) ?_
        refine lv_iload_n hx hb dX1_shift_64 rfl (lv_at hl 3 rfl) ?_
        refine lv_iload hx hb dX1_shift_65 (lv_at hl 1 rfl) ?_
        refine wr_calli (va_runV (As := [.int a1, .int z]) (rest := []) ⟨hx, hb, hml, hown, hts⟩ (p_X1_once l dC dI h0 _ y_1 u u_8 a1 z (hal_len eu_8)) (cwV 2 hts gX1_shift_X1_once rfl rfl rfl (by decide +kernel) ⟨Nat.le_of_ble_eq_true rfl, Nat.le_of_ble_eq_true rfl⟩) (wr_preV (ci := 2) rfl hK hP hD) rfl rfl hl.1 rfl (lv_room (Nat.le_of_ble_eq_true rfl)) dX1_shift_67 ⟨Nat.le_of_ble_eq_true rfl, Nat.le_of_ble_eq_true rfl⟩) hP hD hS hA (fun r_11 u_12 H locs hw hP hD hS => ?_)
        obtain ⟨er_11, eu_12⟩ := hw
        have hP : va_P (dC, dI) vwCl [(h0, .inr (2, [.int y_1, .int u_12, .int u_8]))] H := hP
        have hD : va_D A [(h0, .inr (2, [.int y_1, .int u_12, .int u_8]))] := hD
        refine lv_istore (lv' := [(5, .int r_11), (6, .int d), (0, .ref h0), (1, .int a1), (2, .int a2), (3, .int a3), (4, .int a4)]) hx hb dX1_shift_70 hl (by decide) rfl (fun ls hl => ?_)
        refine lv_iinc (v := (d + 1)) (lv' := [(6, .int (d + 1)), (5, .int r_11), (0, .ref h0), (1, .int a1), (2, .int a2), (3, .int a3), (4, .int a4)]) hx hb dX1_shift_72 hl (k := 1) rfl rfl (by decide) rfl (fun ls hl => ?_)
        refine lv_goto (tgt := 56) hx hb dX1_shift_75 (by decide) ?_
        exact ih (i := i + 1) (d := (d + 1)) (z := r_11) (u := u_12) (H9 := H) (lo9 := locs) (ls := ls) (hinv := by subst er_11; subst eu_12; rw [hinv]; simp only [l_X1_shift, if_neg c_10]) (ed := by rw [ed]; exact nI_1 i) (hit := hlt) (hm := by omega) (hP := hP) (hD := hD) (hS := hS) (hl := lv_sub hl [0, 1, 2, 3, 4, 5, 6] rfl)
  · refine lv_iconst (v := 0) hx hb dX1_shift_39 (by decide) ?_
    exact W.iret (v := 0) hx hb hr (fun t ht hW => ⟨⟨0, (y_1, fl, al), rfl, ⟨(by subst ey_1; simp only [f_X1_shift, if_neg c_6]), (by subst ey_1; simp only [f_X1_shift, if_neg c_6])⟩, by rw [ht]; exact hP, va_K.moved hW.alike hK, hD⟩, hS.F ht⟩) hS.2.2 dX1_shift_40

/-- what X0_init answers -/
def f_X0_init : Int32 :=
  0
set_option maxHeartbeats 4000000 in
set_option maxRecDepth 100000 in
theorem p_X0_init (l : Launch) (dC : Nat → ClassId) (dI : Nat → Nat → Nat) (h0 : Nat) (sz : Nat) (f : Int32) : Met l yX0_init wsX0_init ({ frames := 1, cells := 0, slots := 0, locals := 12 }) (va_Pc [.ref h0] (wr_pre (dC, dI) 1 h0 sz [.int f])) (va_Qv (fun u : Int32 => u = f_X0_init) (wr_at (dC, dI) 1 h0 (fun u : Int32 => [.int u]) (wr_A 1 h0 sz [.int f])) (wr_A 1 h0 sz [.int f])) 0 0 (wr_A 1 h0 sz [.int f]) := by
  refine Met.ofW (cc := cX0_init) (maxL := 1) (ret := none) (by decide) rfl ?_
  intro p e s m args below meth c s₁ B hml hv
  obtain ⟨rfl, hsz, hP, hK, hD0⟩ := hv
  have hx := B.exec
  have hb := B.bytes
  have hr := B.returns
  have hts := atoms_spec (ws := wsX0_init) B.pre
  have hown : s.vm.findClass RX0 = some m.cls := findClass_of_methodNamed B.named
  have hlocks := B.notSynchronized
  subst hsz
  have hD : va_D (wr_A 1 h0 s.heap.size [.int f]) [(h0, .inr (1, [.int f]))] := hD0.self (sz := s.heap.size)
  generalize hAe : wr_A 1 h0 s.heap.size [.int f] = A at hD ⊢
  have hA : ∀ q : Nat, s.heap.size ≤ q → A q := fun q h => by rw [← hAe]; exact Or.inr h
  have hS : va_S A s.heap s.heap [] := va_S.rf
  have hP : va_P (dC, dI) vwCl [(h0, .inr (1, [.int f]))] s.heap := hP
  have hD : va_D A [(h0, .inr (1, [.int f]))] := hD
  have hl := lv_entry ([.ref h0]) (n := 1) (Nat.le_of_ble_eq_true rfl)
  rw [lg_entry_eq]
  generalize (lg_sl ([.ref h0]) ++ List.replicate (1 - (lg_sl ([.ref h0])).length) Slot.unset).toArray = ls at hl ⊢
  have hl : lv_has ls 1 [(0, .ref h0)] := hl
  refine lv_aload_n hx hb dX0_init_0 rfl (lv_at hl 0 rfl) ?_
  refine W.objInit hx hb hown (hts (.methodLink RX0 1 objectInit) (by decide +kernel)) (hts (.instanceMethod objectInit) (by decide +kernel)) (hts _ (List.mem_cons_of_mem _ (List.mem_append_left _ (List.mem_of_getElem? (i := 2) rfl)))) rfl (by rw [hml]; exact hl.1) rfl dX0_init_1 (Nat.le_of_ble_eq_true rfl) (Nat.le_of_ble_eq_true rfl) ?_
  refine W.eq (g2 := F0 m 4 ls []) rfl ?_
  refine lv_aload_n hx hb dX0_init_4 rfl (lv_at hl 0 rfl) ?_
  refine lv_iconst (v := 0) hx hb dX0_init_5 (by decide) ?_
  refine va_put (D := (dC, dI)) (ci := 1) (v := .int 0) (ty := .int) (C := RX0) (T := TX0) (N := 1) hx hb hts (by decide +kernel) tyX0 tyX0_ok nmX0 hown hK hP hD hS 0 rfl rfl 0 (by decide) (hts (.fieldLink RX0 7 "WordArithmetic" "held" "I") (by decide +kernel)) (fun _ h9 => h9) rfl (by decide +kernel) rfl rfl (Nat.le_of_ble_eq_true rfl) dX0_init_6 (fun H locs hP hD hS => ?_)
  have hP : va_P (dC, dI) vwCl [(h0, .inr (1, [.int 0]))] H := hP
  have hD : va_D A [(h0, .inr (1, [.int 0]))] := hD
  exact W.vret hx hb hr (fun t ht hW => ⟨⟨0, rfl, rfl, by rw [ht]; exact hP, va_K.moved hW.alike hK, hD⟩, hS.F ht⟩) hS.2.2 dX0_init_9

/-- what X1_init answers -/
def f_X1_init : Unit :=
  ()
set_option maxHeartbeats 4000000 in
set_option maxRecDepth 100000 in
theorem p_X1_init (l : Launch) (dC : Nat → ClassId) (dI : Nat → Nat → Nat) (h0 : Nat) (sz : Nat) (cd : Int32) (fl : Int32) (al : Int32) : Met l yX1_init wsX1_init ({ frames := 1, cells := 0, slots := 0, locals := 12 }) (va_Pc [.ref h0] (wr_pre (dC, dI) 2 h0 sz [.int cd, .int fl, .int al])) (va_Qv (fun u : Unit => u = ()) (wr_at (dC, dI) 2 h0 (fun u : Unit => [.int cd, .int fl, .int al]) (wr_A 2 h0 sz [.int cd, .int fl, .int al])) (wr_A 2 h0 sz [.int cd, .int fl, .int al])) 0 0 (wr_A 2 h0 sz [.int cd, .int fl, .int al]) := by
  refine Met.ofW (cc := cX1_init) (maxL := 1) (ret := none) (by decide) rfl ?_
  intro p e s m args below meth c s₁ B hml hv
  obtain ⟨rfl, hsz, hP, hK, hD0⟩ := hv
  have hx := B.exec
  have hb := B.bytes
  have hr := B.returns
  have hts := atoms_spec (ws := wsX1_init) B.pre
  have hown : s.vm.findClass RX1 = some m.cls := findClass_of_methodNamed B.named
  have hlocks := B.notSynchronized
  subst hsz
  have hD : va_D (wr_A 2 h0 s.heap.size [.int cd, .int fl, .int al]) [(h0, .inr (2, [.int cd, .int fl, .int al]))] := hD0.self (sz := s.heap.size)
  generalize hAe : wr_A 2 h0 s.heap.size [.int cd, .int fl, .int al] = A at hD ⊢
  have hA : ∀ q : Nat, s.heap.size ≤ q → A q := fun q h => by rw [← hAe]; exact Or.inr h
  have hS : va_S A s.heap s.heap [] := va_S.rf
  have hP : va_P (dC, dI) vwCl [(h0, .inr (2, [.int cd, .int fl, .int al]))] s.heap := hP
  have hD : va_D A [(h0, .inr (2, [.int cd, .int fl, .int al]))] := hD
  have hl := lv_entry ([.ref h0]) (n := 1) (Nat.le_of_ble_eq_true rfl)
  rw [lg_entry_eq]
  generalize (lg_sl ([.ref h0]) ++ List.replicate (1 - (lg_sl ([.ref h0])).length) Slot.unset).toArray = ls at hl ⊢
  have hl : lv_has ls 1 [(0, .ref h0)] := hl
  refine lv_aload_n hx hb dX1_init_0 rfl (lv_at hl 0 rfl) ?_
  refine W.objInit hx hb hown (hts (.methodLink RX1 1 objectInit) (by decide +kernel)) (hts (.instanceMethod objectInit) (by decide +kernel)) (hts _ (List.mem_cons_of_mem _ (List.mem_of_getElem? (i := 2) rfl))) rfl (by rw [hml]; exact hl.1) rfl dX1_init_1 (Nat.le_of_ble_eq_true rfl) (Nat.le_of_ble_eq_true rfl) ?_
  refine W.eq (g2 := F0 m 4 ls []) rfl ?_
  exact W.vret hx hb hr (fun t ht hW => ⟨⟨(), rfl, rfl, by rw [ht]; exact hP, va_K.moved hW.alike hK, hD⟩, hS.F ht⟩) hS.2.2 dX1_init_4
