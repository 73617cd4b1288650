/-- what X1_thrown answers -/
def f_X1_thrown (cd : Int32) : Int32 :=
  cd
set_option maxHeartbeats 4000000 in
set_option maxRecDepth 100000 in
theorem p_X1_thrown (l : Launch) (dC : Nat → ClassId) (dI : Nat → Nat → Nat) (h0 : Nat) (HH : Heap) (cd : Int32) (fl : Int32) (al : Int32) : Met l yX1_thrown wsX1_thrown ({ frames := 0, cells := 0, slots := 0, locals := 0 }) (va_Pc [.ref h0] (pu_pre (dC, dI) 2 h0 HH [.int cd, .int fl, .int al])) (va_Qi (fun (r : Int32) (_ : Unit) => r = f_X1_thrown cd) (fun _ t => t.heap = HH) (fun _ => False)) 0 0 (fun _ => False) := by
  refine Met.ofW (cc := cX1_thrown) (maxL := 1) (ret := (some .int)) (by decide) rfl ?_
  intro p e s m args below meth c s₁ B hml hv
  obtain ⟨rfl, hsz, hP, hK⟩ := hv
  have hx := B.exec
  have hb := B.bytes
  have hr := B.returns
  have hts := atoms_spec (ws := wsX1_thrown) B.pre
  have hown : s.vm.findClass RX1 = some m.cls := findClass_of_methodNamed B.named
  have hlocks := B.notSynchronized
  subst hsz
  have hl := lv_entry ([.ref h0]) (n := 1) (Nat.le_of_ble_eq_true rfl)
  rw [lg_entry_eq]
  generalize (lg_sl ([.ref h0]) ++ List.replicate (1 - (lg_sl ([.ref h0])).length) Slot.unset).toArray = ls at hl ⊢
  have hl : lv_has ls 1 [(0, .ref h0)] := hl
  refine lv_aload_n hx hb dX1_thrown_0 rfl (lv_at hl 0 rfl) ?_
  refine va_get (D := (dC, dI)) (ci := 2) (v := .int cd) (C := RX1) (T := TX1) (N := 3) hx hb hts (by decide +kernel) hown hK hP 0 rfl rfl 0 (by decide) (hts (.fieldLink RX1 7 "WordArithmeticModel" "code" "I") (by decide +kernel)) (fun _ h9 => h9) rfl dX1_thrown_1 ?_
  exact W.iret (v := cd) hx hb hr (fun t ht hW => ⟨⟨cd, (), rfl, rfl, ht⟩, pu_F ht⟩) (fun q h => nomatch h) dX1_thrown_4

/-- what X1_length answers -/
def f_X1_length (a1 : Int32) : Int32 :=
  let y_1 : Int32 := (if a1 = 0 then 256 else 65536)
  y_1
theorem hal_len {u w : Int32} (e : u = f_X1_length w) : u = 256 ∨ u = 65536 := by
  rw [e]; unfold f_X1_length; dsimp only; split
  · exact Or.inl rfl
  · exact Or.inr rfl
set_option maxHeartbeats 4000000 in
set_option maxRecDepth 100000 in
theorem p_X1_length (l : Launch) (dC : Nat → ClassId) (dI : Nat → Nat → Nat) (h0 : Nat) (sz : Nat) (cd : Int32) (fl : Int32) (al : Int32) (a1 : Int32) : Met l yX1_length wsX1_length ({ frames := 0, cells := 0, slots := 0, locals := 0 }) (va_Pc [.ref h0, .int a1] (wr_pre (dC, dI) 2 h0 sz [.int cd, .int fl, .int al])) (va_Qv (fun u : Int32 => u = f_X1_length a1) (wr_at (dC, dI) 2 h0 (fun u : Int32 => [.int cd, .int fl, .int u]) (wr_A 2 h0 sz [.int cd, .int fl, .int al])) (wr_A 2 h0 sz [.int cd, .int fl, .int al])) 0 0 (wr_A 2 h0 sz [.int cd, .int fl, .int al]) := by
  refine Met.ofW (cc := cX1_length) (maxL := 2) (ret := none) (by decide) rfl ?_
  intro p e s m args below meth c s₁ B hml hv
  obtain ⟨rfl, hsz, hP, hK, hD0⟩ := hv
  have hx := B.exec
  have hb := B.bytes
  have hr := B.returns
  have hts := atoms_spec (ws := wsX1_length) B.pre
  have hown : s.vm.findClass RX1 = some m.cls := findClass_of_methodNamed B.named
  have hlocks := B.notSynchronized
  subst hsz
  have hD : va_D (wr_A 2 h0 s.heap.size [.int cd, .int fl, .int al]) [(h0, .inr (2, [.int cd, .int fl, .int al]))] := hD0.self (sz := s.heap.size)
  generalize hAe : wr_A 2 h0 s.heap.size [.int cd, .int fl, .int al] = A at hD ⊢
  have hA : ∀ q : Nat, s.heap.size ≤ q → A q := fun q h => by rw [← hAe]; exact Or.inr h
  have hS : va_S A s.heap s.heap [] := va_S.rf
  have hP : va_P (dC, dI) vwCl [(h0, .inr (2, [.int cd, .int fl, .int al]))] s.heap := hP
  have hD : va_D A [(h0, .inr (2, [.int cd, .int fl, .int al]))] := hD
  have hl := lv_entry ([.ref h0, .int a1]) (n := 2) (Nat.le_of_ble_eq_true rfl)
  rw [lg_entry_eq]
  generalize (lg_sl ([.ref h0, .int a1]) ++ List.replicate (2 - (lg_sl ([.ref h0, .int a1])).length) Slot.unset).toArray = ls at hl ⊢
  have hl : lv_has ls 2 [(0, .ref h0), (1, .int a1)] := hl
  refine lv_aload_n hx hb dX1_length_0 rfl (lv_at hl 0 rfl) ?_
  refine lv_iload_n hx hb dX1_length_1 rfl (lv_at hl 1 rfl) ?_
  refine rg (J := 13) (st := [.ref h0]) (if a1 = 0 then 256 else 65536) (fun k => ?_) (fun y_1 ey_1 => ?_)
  · refine lv_if_eq (tgt := 10) hx hb dX1_length_2 (by decide) (fun c_2 => ?_) (fun c_2 => ?_)
    · refine lv_sipush (v := 256) hx hb dX1_length_10 (by decide +kernel) ?_
      exact rg_e k (by first | rw [if_pos c_2] | simp only [if_pos c_2])
    · refine lv_ldc (own := RX1) (index := 13) (v := 65536) hx hb hown (hts (.constant RX1 13 (65536)) (by decide +kernel)) dX1_length_5 ?_
      refine lv_goto (tgt := 13) hx hb dX1_length_7 (by decide) ?_
      exact rg_e k (by first | rw [if_neg c_2] | simp only [if_neg c_2])
  refine va_put (D := (dC, dI)) (ci := 2) (v := .int y_1) (ty := .int) (C := RX1) (T := TX1) (N := 3) hx hb hts (by decide +kernel) tyX1 tyX1_ok nmX1 hown hK hP hD hS 0 rfl rfl 2 (by decide) (hts (.fieldLink RX1 14 "WordArithmeticModel" "all" "I") (by decide +kernel)) (fun _ h9 => h9) rfl (by decide +kernel) rfl rfl (Nat.le_of_ble_eq_true rfl) dX1_length_13 (fun H locs hP hD hS => ?_)
  have hP : va_P (dC, dI) vwCl [(h0, .inr (2, [.int cd, .int fl, .int y_1]))] H := hP
  have hD : va_D A [(h0, .inr (2, [.int cd, .int fl, .int y_1]))] := hD
  exact W.vret hx hb hr (fun t ht hW => ⟨⟨y_1, rfl, (by subst ey_1; simp only [f_X1_length]), by rw [ht]; exact hP, va_K.moved hW.alike hK, hD⟩, hS.F ht⟩) hS.2.2 dX1_length_16

/-- what X1_is answers -/
def f_X1_is (fl : Int32) (a1 : Int32) : Int32 :=
  let y_1 : Int32 := (if (jr (fl / a1) 2) = 1 then 1 else 0)
  y_1
theorem fb_X1_is (fl : Int32) (a1 : Int32) (hq : ¬ a1 = 0) : f_X1_is fl a1 = 0 ∨ f_X1_is fl a1 = 1 := by
  unfold f_X1_is
  (try dsimp only)
  repeat (first | exact Or.inl rfl | exact Or.inr rfl | assumption | split)
set_option maxHeartbeats 4000000 in
set_option maxRecDepth 100000 in
theorem p_X1_is (l : Launch) (dC : Nat → ClassId) (dI : Nat → Nat → Nat) (h0 : Nat) (HH : Heap) (cd : Int32) (fl : Int32) (al : Int32) (a1 : Int32) (hq : ¬ a1 = 0) : Met l yX1_is wsX1_is ({ frames := 0, cells := 0, slots := 0, locals := 0 }) (va_Pc [.ref h0, .int a1] (pu_pre (dC, dI) 2 h0 HH [.int cd, .int fl, .int al])) (va_Qi (fun (r : Int32) (_ : Unit) => r = f_X1_is fl a1) (fun _ t => t.heap = HH) (fun _ => False)) 0 0 (fun _ => False) := by
  refine Met.ofW (cc := cX1_is) (maxL := 2) (ret := (some .boolean)) (by decide) rfl ?_
  intro p e s m args below meth c s₁ B hml hv
  obtain ⟨rfl, hsz, hP, hK⟩ := hv
  have hx := B.exec
  have hb := B.bytes
  have hr := B.returns
  have hts := atoms_spec (ws := wsX1_is) B.pre
  have hown : s.vm.findClass RX1 = some m.cls := findClass_of_methodNamed B.named
  have hlocks := B.notSynchronized
  subst hsz
  have hl := lv_entry ([.ref h0, .int a1]) (n := 2) (Nat.le_of_ble_eq_true rfl)
  rw [lg_entry_eq]
  generalize (lg_sl ([.ref h0, .int a1]) ++ List.replicate (2 - (lg_sl ([.ref h0, .int a1])).length) Slot.unset).toArray = ls at hl ⊢
  have hl : lv_has ls 2 [(0, .ref h0), (1, .int a1)] := hl
  refine lv_aload_n hx hb dX1_is_0 rfl (lv_at hl 0 rfl) ?_
  refine va_get (D := (dC, dI)) (ci := 2) (v := .int fl) (C := RX1) (T := TX1) (N := 3) hx hb hts (by decide +kernel) hown hK hP 0 rfl rfl 1 (by decide) (hts (.fieldLink RX1 17 "WordArithmeticModel" "flags" "I") (by decide +kernel)) (fun _ h9 => h9) rfl dX1_is_1 ?_
  refine lv_iload_n hx hb dX1_is_4 rfl (lv_at hl 1 rfl) ?_
  refine lv_idiv hx hb dX1_is_5 hq ?_
  refine lv_iconst (v := 2) hx hb dX1_is_6 (by decide) ?_
  refine jr_row hx hb dX1_is_7 (by decide) ?_
  refine lv_iconst (v := 1) hx hb dX1_is_8 (by decide) ?_
  refine rg (J := 17) (st := []) (if (jr (fl / a1) 2) = 1 then 1 else 0) (fun k => ?_) (fun y_1 ey_1 => ?_)
  · refine lv_icmp_ne (tgt := 16) hx hb dX1_is_9 (by decide) (fun c_2 => ?_) (fun c_2 => ?_)
    · refine lv_iconst (v := 0) hx hb dX1_is_16 (by decide) ?_
      exact rg_e k (by first | rw [if_neg c_2] | simp only [if_neg c_2])
    · refine lv_iconst (v := 1) hx hb dX1_is_12 (by decide) ?_
      refine lv_goto (tgt := 17) hx hb dX1_is_13 (by decide) ?_
      exact rg_e k (by first | rw [if_pos c_2] | simp only [if_pos c_2])
  exact W.zret (v := y_1) hx hb hr (nb_of (by rw [ey_1]; repeat (first | exact Or.inl rfl | exact Or.inr rfl | apply fb_X0_isSet | apply fb_X0_hasHighestBit | split))) (fun t ht hW => ⟨⟨y_1, (), rfl, (by subst ey_1; simp only [f_X1_is]), ht⟩, pu_F ht⟩) (fun q h => nomatch h) dX1_is_17

/-- what X1_put answers -/
def f_X1_put (fl : Int32) (a1 : Int32) (a2 : Int32) : Int32 :=
  let y_1 : Int32 := (if a2 = (f_X1_is fl a1) then 0 else (if a2 = 0 then (-a1) else a1))
  let y_4 : Int32 := (fl + y_1)
  y_4
set_option maxHeartbeats 4000000 in
set_option maxRecDepth 100000 in
theorem p_X1_put (l : Launch) (dC : Nat → ClassId) (dI : Nat → Nat → Nat) (h0 : Nat) (sz : Nat) (cd : Int32) (fl : Int32) (al : Int32) (a1 : Int32) (a2 : Int32) (hq : ¬ a1 = 0) : Met l yX1_put wsX1_put ({ frames := 1, cells := 0, slots := 0, locals := 21 }) (va_Pc [.ref h0, .int a1, .int a2] (wr_pre (dC, dI) 2 h0 sz [.int cd, .int fl, .int al])) (va_Qv (fun u : Int32 => u = f_X1_put fl a1 a2) (wr_at (dC, dI) 2 h0 (fun u : Int32 => [.int cd, .int u, .int al]) (wr_A 2 h0 sz [.int cd, .int fl, .int al])) (wr_A 2 h0 sz [.int cd, .int fl, .int al])) 0 0 (wr_A 2 h0 sz [.int cd, .int fl, .int al]) := by
  refine Met.ofW (cc := cX1_put) (maxL := 3) (ret := none) (by decide) rfl ?_
  intro p e s m args below meth c s₁ B hml hv
  obtain ⟨rfl, hsz, hP, hK, hD0⟩ := hv
  have hx := B.exec
  have hb := B.bytes
  have hr := B.returns
  have hts := atoms_spec (ws := wsX1_put) B.pre
  have hown : s.vm.findClass RX1 = some m.cls := findClass_of_methodNamed B.named
  have hlocks := B.notSynchronized
  subst hsz
  have hD : va_D (wr_A 2 h0 s.heap.size [.int cd, .int fl, .int al]) [(h0, .inr (2, [.int cd, .int fl, .int al]))] := hD0.self (sz := s.heap.size)
  generalize hAe : wr_A 2 h0 s.heap.size [.int cd, .int fl, .int al] = A at hD ⊢
  have hA : ∀ q : Nat, s.heap.size ≤ q → A q := fun q h => by rw [← hAe]; exact Or.inr h
  have hS : va_S A s.heap s.heap [] := va_S.rf
  have hP : va_P (dC, dI) vwCl [(h0, .inr (2, [.int cd, .int fl, .int al]))] s.heap := hP
  have hD : va_D A [(h0, .inr (2, [.int cd, .int fl, .int al]))] := hD
  have hl := lv_entry ([.ref h0, .int a1, .int a2]) (n := 3) (Nat.le_of_ble_eq_true rfl)
  rw [lg_entry_eq]
  generalize (lg_sl ([.ref h0, .int a1, .int a2]) ++ List.replicate (3 - (lg_sl ([.ref h0, .int a1, .int a2])).length) Slot.unset).toArray = ls at hl ⊢
  have hl : lv_has ls 3 [(0, .ref h0), (1, .int a1), (2, .int a2)] := hl
  refine lv_aload_n hx hb dX1_put_0 rfl (lv_at hl 0 rfl) ?_
  refine lv_aload_n hx hb dX1_put_1 rfl (lv_at hl 0 rfl) ?_
  refine va_get (D := (dC, dI)) (ci := 2) (v := .int fl) (C := RX1) (T := TX1) (N := 3) hx hb hts (by decide +kernel) hown hK hP 0 rfl rfl 1 (by decide) (hts (.fieldLink RX1 17 "WordArithmeticModel" "flags" "I") (by decide +kernel)) (fun _ h9 => h9) rfl dX1_put_2 ?_
  refine lv_iload_n hx hb dX1_put_5 rfl (lv_at hl 2 rfl) ?_
  refine lv_aload_n hx hb dX1_put_6 rfl (lv_at hl 0 rfl) ?_
  refine lv_iload_n hx hb dX1_put_7 rfl (lv_at hl 1 rfl) ?_
  refine pu_calli (F := (f_X1_is fl a1)) (va_runV (As := [.int a1]) (rest := [.int a2, .int fl, .ref h0]) ⟨hx, hb, hml, hown, hts⟩ (p_X1_is l dC dI h0 _ cd fl al a1 hq) (cwV 1 hts gX1_put_X1_is rfl rfl rfl (by decide +kernel) ⟨Nat.le_of_ble_eq_true rfl, Nat.le_of_ble_eq_true rfl⟩) (pu_preV (ci := 2) rfl hK hP) rfl rfl hl.1 rfl (lv_room (Nat.le_of_ble_eq_true rfl)) dX1_put_8 ⟨Nat.le_of_ble_eq_true rfl, Nat.le_of_ble_eq_true rfl⟩) ?_
  refine rg (J := 28) (st := [.int fl, .ref h0]) (if a2 = (f_X1_is fl a1) then 0 else (if a2 = 0 then (-a1) else a1)) (fun k => ?_) (fun y_1 ey_1 => ?_)
  · refine lv_icmp_ne (tgt := 18) hx hb dX1_put_11 (by decide) (fun c_2 => ?_) (fun c_2 => ?_)
    · refine lv_iload_n hx hb dX1_put_18 rfl (lv_at hl 2 rfl) ?_
      refine lv_if_eq (tgt := 26) hx hb dX1_put_19 (by decide) (fun c_3 => ?_) (fun c_3 => ?_)
      · refine lv_iload_n hx hb dX1_put_26 rfl (lv_at hl 1 rfl) ?_
        refine lv_ineg hx hb dX1_put_27 ?_
        exact rg_e k (by first | rw [if_neg c_2, if_pos c_3] | simp only [if_neg c_2, if_pos c_3])
      · refine lv_iload_n hx hb dX1_put_22 rfl (lv_at hl 1 rfl) ?_
        refine lv_goto (tgt := 28) hx hb dX1_put_23 (by decide) ?_
        exact rg_e k (by first | rw [if_neg c_2, if_neg c_3] | simp only [if_neg c_2, if_neg c_3])
    · refine lv_iconst (v := 0) hx hb dX1_put_14 (by decide) ?_
      refine lv_goto (tgt := 28) hx hb dX1_put_15 (by decide) ?_
      exact rg_e k (by first | rw [if_pos c_2] | simp only [if_pos c_2])
  refine lv_iadd hx hb dX1_put_28 ?_
  refine lv_topi (fun y_4 ey_4 => ?_)
  refine va_put (D := (dC, dI)) (ci := 2) (v := .int y_4) (ty := .int) (C := RX1) (T := TX1) (N := 3) hx hb hts (by decide +kernel) tyX1 tyX1_ok nmX1 hown hK hP hD hS 0 rfl rfl 1 (by decide) (hts (.fieldLink RX1 17 "WordArithmeticModel" "flags" "I") (by decide +kernel)) (fun _ h9 => h9) rfl (by decide +kernel) rfl rfl (Nat.le_of_ble_eq_true rfl) dX1_put_29 (fun H locs hP hD hS => ?_)
  have hP : va_P (dC, dI) vwCl [(h0, .inr (2, [.int cd, .int y_4, .int al]))] H := hP
  have hD : va_D A [(h0, .inr (2, [.int cd, .int y_4, .int al]))] := hD
  exact W.vret hx hb hr (fun t ht hW => ⟨⟨y_4, rfl, (by subst ey_1; subst ey_4; simp only [f_X1_put]), by rw [ht]; exact hP, va_K.moved hW.alike hK, hD⟩, hS.F ht⟩) hS.2.2 dX1_put_32

/-- what X1_operand answers -/
def f_X1_operand (al : Int32) (a1 : Int32) : Int32 :=
  (a1 &&& (al - 1))
set_option maxHeartbeats 4000000 in
set_option maxRecDepth 100000 in
theorem p_X1_operand (l : Launch) (dC : Nat → ClassId) (dI : Nat → Nat → Nat) (h0 : Nat) (HH : Heap) (cd : Int32) (fl : Int32) (al : Int32) (a1 : Int32) : Met l yX1_operand wsX1_operand ({ frames := 0, cells := 0, slots := 0, locals := 0 }) (va_Pc [.ref h0, .int a1] (pu_pre (dC, dI) 2 h0 HH [.int cd, .int fl, .int al])) (va_Qi (fun (r : Int32) (_ : Unit) => r = f_X1_operand al a1) (fun _ t => t.heap = HH) (fun _ => False)) 0 0 (fun _ => False) := by
  refine Met.ofW (cc := cX1_operand) (maxL := 2) (ret := (some .int)) (by decide) rfl ?_
  intro p e s m args below meth c s₁ B hml hv
  obtain ⟨rfl, hsz, hP, hK⟩ := hv
  have hx := B.exec
  have hb := B.bytes
  have hr := B.returns
  have hts := atoms_spec (ws := wsX1_operand) B.pre
  have hown : s.vm.findClass RX1 = some m.cls := findClass_of_methodNamed B.named
  have hlocks := B.notSynchronized
  subst hsz
  have hl := lv_entry ([.ref h0, .int a1]) (n := 2) (Nat.le_of_ble_eq_true rfl)
  rw [lg_entry_eq]
  generalize (lg_sl ([.ref h0, .int a1]) ++ List.replicate (2 - (lg_sl ([.ref h0, .int a1])).length) Slot.unset).toArray = ls at hl ⊢
  have hl : lv_has ls 2 [(0, .ref h0), (1, .int a1)] := hl
  refine lv_iload_n hx hb dX1_operand_0 rfl (lv_at hl 1 rfl) ?_
  refine lv_aload_n hx hb dX1_operand_1 rfl (lv_at hl 0 rfl) ?_
  refine va_get (D := (dC, dI)) (ci := 2) (v := .int al) (C := RX1) (T := TX1) (N := 3) hx hb hts (by decide +kernel) hown hK hP 0 rfl rfl 2 (by decide) (hts (.fieldLink RX1 14 "WordArithmeticModel" "all" "I") (by decide +kernel)) (fun _ h9 => h9) rfl dX1_operand_2 ?_
  refine lv_iconst (v := 1) hx hb dX1_operand_5 (by decide) ?_
  refine lv_isub hx hb dX1_operand_6 ?_
  refine lv_iand hx hb dX1_operand_7 ?_
  exact W.iret (v := (a1 &&& (al - 1))) hx hb hr (fun t ht hW => ⟨⟨(a1 &&& (al - 1)), (), rfl, rfl, ht⟩, pu_F ht⟩) (fun q h => nomatch h) dX1_operand_8

/-- what X1_signed answers -/
def f_X1_signed (al : Int32) (a1 : Int32) : Int32 :=
  let y_1 : Int32 := (if a1 < (al / 2) then a1 else (a1 - al))
  y_1
set_option maxHeartbeats 4000000 in
set_option maxRecDepth 100000 in
theorem p_X1_signed (l : Launch) (dC : Nat → ClassId) (dI : Nat → Nat → Nat) (h0 : Nat) (HH : Heap) (cd : Int32) (fl : Int32) (al : Int32) (a1 : Int32) : Met l yX1_signed wsX1_signed ({ frames := 0, cells := 0, slots := 0, locals := 0 }) (va_Pc [.ref h0, .int a1] (pu_pre (dC, dI) 2 h0 HH [.int cd, .int fl, .int al])) (va_Qi (fun (r : Int32) (_ : Unit) => r = f_X1_signed al a1) (fun _ t => t.heap = HH) (fun _ => False)) 0 0 (fun _ => False) := by
  refine Met.ofW (cc := cX1_signed) (maxL := 2) (ret := (some .int)) (by decide) rfl ?_
  intro p e s m args below meth c s₁ B hml hv
  obtain ⟨rfl, hsz, hP, hK⟩ := hv
  have hx := B.exec
  have hb := B.bytes
  have hr := B.returns
  have hts := atoms_spec (ws := wsX1_signed) B.pre
  have hown : s.vm.findClass RX1 = some m.cls := findClass_of_methodNamed B.named
  have hlocks := B.notSynchronized
  subst hsz
  have hl := lv_entry ([.ref h0, .int a1]) (n := 2) (Nat.le_of_ble_eq_true rfl)
  rw [lg_entry_eq]
  generalize (lg_sl ([.ref h0, .int a1]) ++ List.replicate (2 - (lg_sl ([.ref h0, .int a1])).length) Slot.unset).toArray = ls at hl ⊢
  have hl : lv_has ls 2 [(0, .ref h0), (1, .int a1)] := hl
  refine lv_iload_n hx hb dX1_signed_0 rfl (lv_at hl 1 rfl) ?_
  refine lv_aload_n hx hb dX1_signed_1 rfl (lv_at hl 0 rfl) ?_
  refine va_get (D := (dC, dI)) (ci := 2) (v := .int al) (C := RX1) (T := TX1) (N := 3) hx hb hts (by decide +kernel) hown hK hP 0 rfl rfl 2 (by decide) (hts (.fieldLink RX1 14 "WordArithmeticModel" "all" "I") (by decide +kernel)) (fun _ h9 => h9) rfl dX1_signed_2 ?_
  refine lv_iconst (v := 2) hx hb dX1_signed_5 (by decide) ?_
  refine lv_idiv hx hb dX1_signed_6 (by decide) ?_
  refine rg (J := 20) (st := []) (if a1 < (al / 2) then a1 else (a1 - al)) (fun k => ?_) (fun y_1 ey_1 => ?_)
  · refine lv_icmp_lt (tgt := 19) hx hb dX1_signed_7 (by decide) (fun c_2 => ?_) (fun c_2 => ?_)
    · refine lv_iload_n hx hb dX1_signed_19 rfl (lv_at hl 1 rfl) ?_
      exact rg_e k (by first | rw [if_pos c_2] | simp only [if_pos c_2])
    · refine lv_iload_n hx hb dX1_signed_10 rfl (lv_at hl 1 rfl) ?_
      refine lv_aload_n hx hb dX1_signed_11 rfl (lv_at hl 0 rfl) ?_
      refine va_get (D := (dC, dI)) (ci := 2) (v := .int al) (C := RX1) (T := TX1) (N := 3) hx hb hts (by decide +kernel) hown hK hP 0 rfl rfl 2 (by decide) (hts (.fieldLink RX1 14 "WordArithmeticModel" "all" "I") (by decide +kernel)) (fun _ h9 => h9) rfl dX1_signed_12 ?_
      refine lv_isub hx hb dX1_signed_15 ?_
      refine lv_goto (tgt := 20) hx hb dX1_signed_16 (by decide) ?_
      exact rg_e k (by first | rw [if_neg c_2] | simp only [if_neg c_2])
  exact W.iret (v := y_1) hx hb hr (fun t ht hW => ⟨⟨y_1, (), rfl, (by subst ey_1; simp only [f_X1_signed]), ht⟩, pu_F ht⟩) (fun q h => nomatch h) dX1_signed_20

/-- what X1_set answers -/
def f_X1_set (a1 : Int32) : Int32 × Int32 :=
  let y_1 : Int32 := (a1 &&& 4053)
  (0, y_1)
set_option maxHeartbeats 4000000 in
set_option maxRecDepth 100000 in
theorem p_X1_set (l : Launch) (dC : Nat → ClassId) (dI : Nat → Nat → Nat) (h0 : Nat) (sz : Nat) (cd : Int32) (fl : Int32) (al : Int32) (a1 : Int32) : Met l yX1_set wsX1_set ({ frames := 0, cells := 0, slots := 0, locals := 0 }) (va_Pc [.ref h0, .int a1] (wr_pre (dC, dI) 2 h0 sz [.int cd, .int fl, .int al])) (va_Qv (fun u : Int32 × Int32 => u = f_X1_set a1) (wr_at (dC, dI) 2 h0 (fun u : Int32 × Int32 => [.int u.1, .int u.2, .int al]) (wr_A 2 h0 sz [.int cd, .int fl, .int al])) (wr_A 2 h0 sz [.int cd, .int fl, .int al])) 0 0 (wr_A 2 h0 sz [.int cd, .int fl, .int al]) := by
  refine Met.ofW (cc := cX1_set) (maxL := 2) (ret := none) (by decide) rfl ?_
  intro p e s m args below meth c s₁ B hml hv
  obtain ⟨rfl, hsz, hP, hK, hD0⟩ := hv
  have hx := B.exec
  have hb := B.bytes
  have hr := B.returns
  have hts := atoms_spec (ws := wsX1_set) B.pre
  have hown : s.vm.findClass RX1 = some m.cls := findClass_of_methodNamed B.named
  have hlocks := B.notSynchronized
  subst hsz
  have hD : va_D (wr_A 2 h0 s.heap.size [.int cd, .int fl, .int al]) [(h0, .inr (2, [.int cd, .int fl, .int al]))] := hD0.self (sz := s.heap.size)
  generalize hAe : wr_A 2 h0 s.heap.size [.int cd, .int fl, .int al] = A at hD ⊢
  have hA : ∀ q : Nat, s.heap.size ≤ q → A q := fun q h => by rw [← hAe]; exact Or.inr h
  have hS : va_S A s.heap s.heap [] := va_S.rf
  have hP : va_P (dC, dI) vwCl [(h0, .inr (2, [.int cd, .int fl, .int al]))] s.heap := hP
  have hD : va_D A [(h0, .inr (2, [.int cd, .int fl, .int al]))] := hD
  have hl := lv_entry ([.ref h0, .int a1]) (n := 2) (Nat.le_of_ble_eq_true rfl)
  rw [lg_entry_eq]
  generalize (lg_sl ([.ref h0, .int a1]) ++ List.replicate (2 - (lg_sl ([.ref h0, .int a1])).length) Slot.unset).toArray = ls at hl ⊢
  have hl : lv_has ls 2 [(0, .ref h0), (1, .int a1)] := hl
  refine lv_aload_n hx hb dX1_set_0 rfl (lv_at hl 0 rfl) ?_
  refine lv_iconst (v := 0) hx hb dX1_set_1 (by decide) ?_
  refine va_put (D := (dC, dI)) (ci := 2) (v := .int 0) (ty := .int) (C := RX1) (T := TX1) (N := 3) hx hb hts (by decide +kernel) tyX1 tyX1_ok nmX1 hown hK hP hD hS 0 rfl rfl 0 (by decide) (hts (.fieldLink RX1 7 "WordArithmeticModel" "code" "I") (by decide +kernel)) (fun _ h9 => h9) rfl (by decide +kernel) rfl rfl (Nat.le_of_ble_eq_true rfl) dX1_set_2 (fun H locs hP hD hS => ?_)
  have hP : va_P (dC, dI) vwCl [(h0, .inr (2, [.int 0, .int fl, .int al]))] H := hP
  have hD : va_D A [(h0, .inr (2, [.int 0, .int fl, .int al]))] := hD
  refine lv_aload_n hx hb dX1_set_5 rfl (lv_at hl 0 rfl) ?_
  refine lv_iload_n hx hb dX1_set_6 rfl (lv_at hl 1 rfl) ?_
  refine lv_sipush (v := 4053) hx hb dX1_set_7 (by decide +kernel) ?_
  refine lv_iand hx hb dX1_set_10 ?_
  refine lv_topi (fun y_1 ey_1 => ?_)
  refine va_put (D := (dC, dI)) (ci := 2) (v := .int y_1) (ty := .int) (C := RX1) (T := TX1) (N := 3) hx hb hts (by decide +kernel) tyX1 tyX1_ok nmX1 hown hK hP hD hS 0 rfl rfl 1 (by decide) (hts (.fieldLink RX1 17 "WordArithmeticModel" "flags" "I") (by decide +kernel)) (fun _ h9 => h9) rfl (by decide +kernel) rfl rfl (Nat.le_of_ble_eq_true rfl) dX1_set_11 (fun H locs hP hD hS => ?_)
  have hP : va_P (dC, dI) vwCl [(h0, .inr (2, [.int 0, .int y_1, .int al]))] H := hP
  have hD : va_D A [(h0, .inr (2, [.int 0, .int y_1, .int al]))] := hD
  exact W.vret hx hb hr (fun t ht hW => ⟨⟨(0, y_1), rfl, (by subst ey_1; simp only [f_X1_set]), by rw [ht]; exact hP, va_K.moved hW.alike hK, hD⟩, hS.F ht⟩) hS.2.2 dX1_set_14

/-- what X1_flags answers -/
def f_X1_flags (fl : Int32) : Int32 × Int32 :=
  (fl, 0)
set_option maxHeartbeats 4000000 in
set_option maxRecDepth 100000 in
theorem p_X1_flags (l : Launch) (dC : Nat → ClassId) (dI : Nat → Nat → Nat) (h0 : Nat) (sz : Nat) (cd : Int32) (fl : Int32) (al : Int32) : Met l yX1_flags wsX1_flags ({ frames := 0, cells := 0, slots := 0, locals := 0 }) (va_Pc [.ref h0] (wr_pre (dC, dI) 2 h0 sz [.int cd, .int fl, .int al])) (va_Qi (fun (r : Int32) (u : Int32) => r = (f_X1_flags fl).1 ∧ u = (f_X1_flags fl).2) (wr_at (dC, dI) 2 h0 (fun u : Int32 => [.int u, .int fl, .int al]) (wr_A 2 h0 sz [.int cd, .int fl, .int al])) (wr_A 2 h0 sz [.int cd, .int fl, .int al])) 0 0 (wr_A 2 h0 sz [.int cd, .int fl, .int al]) := by
  refine Met.ofW (cc := cX1_flags) (maxL := 1) (ret := (some .int)) (by decide) rfl ?_
  intro p e s m args below meth c s₁ B hml hv
  obtain ⟨rfl, hsz, hP, hK, hD0⟩ := hv
  have hx := B.exec
  have hb := B.bytes
  have hr := B.returns
  have hts := atoms_spec (ws := wsX1_flags) B.pre
  have hown : s.vm.findClass RX1 = some m.cls := findClass_of_methodNamed B.named
  have hlocks := B.notSynchronized
  subst hsz
  have hD : va_D (wr_A 2 h0 s.heap.size [.int cd, .int fl, .int al]) [(h0, .inr (2, [.int cd, .int fl, .int al]))] := hD0.self (sz := s.heap.size)
  generalize hAe : wr_A 2 h0 s.heap.size [.int cd, .int fl, .int al] = A at hD ⊢
  have hA : ∀ q : Nat, s.heap.size ≤ q → A q := fun q h => by rw [← hAe]; exact Or.inr h
  have hS : va_S A s.heap s.heap [] := va_S.rf
  have hP : va_P (dC, dI) vwCl [(h0, .inr (2, [.int cd, .int fl, .int al]))] s.heap := hP
  have hD : va_D A [(h0, .inr (2, [.int cd, .int fl, .int al]))] := hD
  have hl := lv_entry ([.ref h0]) (n := 1) (Nat.le_of_ble_eq_true rfl)
  rw [lg_entry_eq]
  generalize (lg_sl ([.ref h0]) ++ List.replicate (1 - (lg_sl ([.ref h0])).length) Slot.unset).toArray = ls at hl ⊢
  have hl : lv_has ls 1 [(0, .ref h0)] := hl
  refine lv_aload_n hx hb dX1_flags_0 rfl (lv_at hl 0 rfl) ?_
  refine lv_iconst (v := 0) hx hb dX1_flags_1 (by decide) ?_
  refine va_put (D := (dC, dI)) (ci := 2) (v := .int 0) (ty := .int) (C := RX1) (T := TX1) (N := 3) hx hb hts (by decide +kernel) tyX1 tyX1_ok nmX1 hown hK hP hD hS 0 rfl rfl 0 (by decide) (hts (.fieldLink RX1 7 "WordArithmeticModel" "code" "I") (by decide +kernel)) (fun _ h9 => h9) rfl (by decide +kernel) rfl rfl (Nat.le_of_ble_eq_true rfl) dX1_flags_2 (fun H locs hP hD hS => ?_)
  have hP : va_P (dC, dI) vwCl [(h0, .inr (2, [.int 0, .int fl, .int al]))] H := hP
  have hD : va_D A [(h0, .inr (2, [.int 0, .int fl, .int al]))] := hD
  refine lv_aload_n hx hb dX1_flags_5 rfl (lv_at hl 0 rfl) ?_
  refine va_get (D := (dC, dI)) (ci := 2) (v := .int fl) (C := RX1) (T := TX1) (N := 3) hx hb hts (by decide +kernel) hown hK hP 0 rfl rfl 1 (by decide) (hts (.fieldLink RX1 17 "WordArithmeticModel" "flags" "I") (by decide +kernel)) (fun _ h9 => h9) rfl dX1_flags_6 ?_
  exact W.iret (v := fl) hx hb hr (fun t ht hW => ⟨⟨fl, 0, rfl, ⟨rfl, rfl⟩, by rw [ht]; exact hP, va_K.moved hW.alike hK, hD⟩, hS.F ht⟩) hS.2.2 dX1_flags_9

/-- what X1_byAnswer answers -/
def f_X1_byAnswer (fl : Int32) (al : Int32) (a1 : Int32) : Int32 :=
  let y_1 : Int32 := (if a1 = 0 then 1 else 0)
  let u_4 : Int32 := (f_X1_put fl 64 y_1)
  let y_5 : Int32 := (if a1 < (al / 2) then 0 else 1)
  let u_8 : Int32 := (f_X1_put u_4 128 y_5)
  let y_9 : Int32 := (0 + (jr a1 2))
  let y_10 : Int32 := (a1 / 2)
  let y_11 : Int32 := (y_9 + (jr y_10 2))
  let y_12 : Int32 := (y_10 / 2)
  let y_13 : Int32 := (y_11 + (jr y_12 2))
  let y_14 : Int32 := (y_12 / 2)
  let y_15 : Int32 := (y_13 + (jr y_14 2))
  let y_16 : Int32 := (y_14 / 2)
  let y_17 : Int32 := (y_15 + (jr y_16 2))
  let y_18 : Int32 := (y_16 / 2)
  let y_19 : Int32 := (y_17 + (jr y_18 2))
  let y_20 : Int32 := (y_18 / 2)
  let y_21 : Int32 := (y_19 + (jr y_20 2))
  let y_22 : Int32 := (y_20 / 2)
  let y_23 : Int32 := (y_21 + (jr y_22 2))
  let y_24 : Int32 := (y_22 / 2)
  let y_25 : Int32 := (if (jr y_23 2) = 0 then 1 else 0)
  let u_28 : Int32 := (f_X1_put u_8 4 y_25)
  u_28
set_option maxHeartbeats 4000000 in
set_option maxRecDepth 100000 in
theorem p_X1_byAnswer (l : Launch) (dC : Nat → ClassId) (dI : Nat → Nat → Nat) (h0 : Nat) (sz : Nat) (cd : Int32) (fl : Int32) (al : Int32) (a1 : Int32) : Met l yX1_byAnswer wsX1_byAnswer ({ frames := 2, cells := 0, slots := 0, locals := 43 }) (va_Pc [.ref h0, .int a1] (wr_pre (dC, dI) 2 h0 sz [.int cd, .int fl, .int al])) (va_Qv (fun u : Int32 => u = f_X1_byAnswer fl al a1) (wr_at (dC, dI) 2 h0 (fun u : Int32 => [.int cd, .int u, .int al]) (wr_A 2 h0 sz [.int cd, .int fl, .int al])) (wr_A 2 h0 sz [.int cd, .int fl, .int al])) 0 0 (wr_A 2 h0 sz [.int cd, .int fl, .int al]) := by
  refine Met.ofW (cc := cX1_byAnswer) (maxL := 5) (ret := none) (by decide) rfl ?_
  intro p e s m args below meth c s₁ B hml hv
  obtain ⟨rfl, hsz, hP, hK, hD0⟩ := hv
  have hx := B.exec
  have hb := B.bytes
  have hr := B.returns
  have hts := atoms_spec (ws := wsX1_byAnswer) B.pre
  have hown : s.vm.findClass RX1 = some m.cls := findClass_of_methodNamed B.named
  have hlocks := B.notSynchronized
  subst hsz
  have hD : va_D (wr_A 2 h0 s.heap.size [.int cd, .int fl, .int al]) [(h0, .inr (2, [.int cd, .int fl, .int al]))] := hD0.self (sz := s.heap.size)
  generalize hAe : wr_A 2 h0 s.heap.size [.int cd, .int fl, .int al] = A at hD ⊢
  have hA : ∀ q : Nat, s.heap.size ≤ q → A q := fun q h => by rw [← hAe]; exact Or.inr h
  have hS : va_S A s.heap s.heap [] := va_S.rf
  have hP : va_P (dC, dI) vwCl [(h0, .inr (2, [.int cd, .int fl, .int al]))] s.heap := hP
  have hD : va_D A [(h0, .inr (2, [.int cd, .int fl, .int al]))] := hD
  have hl := lv_entry ([.ref h0, .int a1]) (n := 5) (Nat.le_of_ble_eq_true rfl)
  rw [lg_entry_eq]
  generalize (lg_sl ([.ref h0, .int a1]) ++ List.replicate (5 - (lg_sl ([.ref h0, .int a1])).length) Slot.unset).toArray = ls at hl ⊢
  have hl : lv_has ls 5 [(0, .ref h0), (1, .int a1)] := hl
  refine lv_aload_n hx hb dX1_byAnswer_0 rfl (lv_at hl 0 rfl) ?_
  refine lv_bipush (v := 64) hx hb dX1_byAnswer_1 (by decide +kernel) ?_
  refine lv_iload_n hx hb dX1_byAnswer_3 rfl (lv_at hl 1 rfl) ?_
  refine rg (J := 12) (st := [.int 64, .ref h0]) (if a1 = 0 then 1 else 0) (fun k => ?_) (fun y_1 ey_1 => ?_)
  · refine lv_if_ne (tgt := 11) hx hb dX1_byAnswer_4 (by decide) (fun c_2 => ?_) (fun c_2 => ?_)
    · refine lv_iconst (v := 0) hx hb dX1_byAnswer_11 (by decide) ?_
      exact rg_e k (by first | rw [if_neg c_2] | simp only [if_neg c_2])
    · refine lv_iconst (v := 1) hx hb dX1_byAnswer_7 (by decide) ?_
      refine lv_goto (tgt := 12) hx hb dX1_byAnswer_8 (by decide) ?_
      exact rg_e k (by first | rw [if_pos c_2] | simp only [if_pos c_2])
  refine wr_callv (va_runV (As := [.int 64, .int y_1]) (rest := []) ⟨hx, hb, hml, hown, hts⟩ (p_X1_put l dC dI h0 _ cd fl al 64 y_1 (by decide)) (cwV 2 hts gX1_byAnswer_X1_put rfl rfl rfl (by decide +kernel) ⟨Nat.le_of_ble_eq_true rfl, Nat.le_of_ble_eq_true rfl⟩) (wr_preV (ci := 2) rfl hK hP hD) rfl rfl hl.1 rfl (lv_room (Nat.le_of_ble_eq_true rfl)) dX1_byAnswer_12 ⟨Nat.le_of_ble_eq_true rfl, Nat.le_of_ble_eq_true rfl⟩) hP hD hS hA (fun u_4 H locs eu_4 hP hD hS => ?_)
  have hP : va_P (dC, dI) vwCl [(h0, .inr (2, [.int cd, .int u_4, .int al]))] H := hP
  have hD : va_D A [(h0, .inr (2, [.int cd, .int u_4, .int al]))] := hD
  refine lv_aload_n hx hb dX1_byAnswer_15 rfl (lv_at hl 0 rfl) ?_
  refine lv_sipush (v := 128) hx hb dX1_byAnswer_16 (by decide +kernel) ?_
  refine lv_iload_n hx hb dX1_byAnswer_19 rfl (lv_at hl 1 rfl) ?_
  refine lv_aload_n hx hb dX1_byAnswer_20 rfl (lv_at hl 0 rfl) ?_
  refine va_get (D := (dC, dI)) (ci := 2) (v := .int al) (C := RX1) (T := TX1) (N := 3) hx hb hts (by decide +kernel) hown hK hP 0 rfl rfl 2 (by decide) (hts (.fieldLink RX1 14 "WordArithmeticModel" "all" "I") (by decide +kernel)) (fun _ h9 => h9) rfl dX1_byAnswer_21 ?_
  refine lv_iconst (v := 2) hx hb dX1_byAnswer_24 (by decide) ?_
  refine lv_idiv hx hb dX1_byAnswer_25 (by decide) ?_
  refine rg (J := 34) (st := [.int 128, .ref h0]) (if a1 < (al / 2) then 0 else 1) (fun k => ?_) (fun y_5 ey_5 => ?_)
  · refine lv_icmp_lt (tgt := 33) hx hb dX1_byAnswer_26 (by decide) (fun c_6 => ?_) (fun c_6 => ?_)
    · refine lv_iconst (v := 0) hx hb dX1_byAnswer_33 (by decide) ?_
      exact rg_e k (by first | rw [if_pos c_6] | simp only [if_pos c_6])
    · refine lv_iconst (v := 1) hx hb dX1_byAnswer_29 (by decide) ?_
      refine lv_goto (tgt := 34) hx hb dX1_byAnswer_30 (by decide) ?_
      exact rg_e k (by first | rw [if_neg c_6] | simp only [if_neg c_6])
  refine wr_callv (va_runV (As := [.int 128, .int y_5]) (rest := []) ⟨hx, hb, hml, hown, hts⟩ (p_X1_put l dC dI h0 _ cd u_4 al 128 y_5 (by decide)) (cwV 2 hts gX1_byAnswer_X1_put rfl rfl rfl (by decide +kernel) ⟨Nat.le_of_ble_eq_true rfl, Nat.le_of_ble_eq_true rfl⟩) (wr_preV (ci := 2) rfl hK hP hD) rfl rfl hl.1 rfl (lv_room (Nat.le_of_ble_eq_true rfl)) dX1_byAnswer_34 ⟨Nat.le_of_ble_eq_true rfl, Nat.le_of_ble_eq_true rfl⟩) hP hD hS hA (fun u_8 H locs eu_8 hP hD hS => ?_)
  have hP : va_P (dC, dI) vwCl [(h0, .inr (2, [.int cd, .int u_8, .int al]))] H := hP
  have hD : va_D A [(h0, .inr (2, [.int cd, .int u_8, .int al]))] := hD
  refine lv_iconst (v := 0) hx hb dX1_byAnswer_37 (by decide) ?_
  refine lv_istore_n (lv' := [(2, .int 0), (0, .ref h0), (1, .int a1)]) hx hb dX1_byAnswer_38 rfl hl (by decide) rfl (fun ls hl => ?_)
  refine lv_iconst (v := 0) hx hb dX1_byAnswer_39 (by decide) ?_
  refine lv_istore_n (lv' := [(3, .int 0), (2, .int 0), (0, .ref h0), (1, .int a1)]) hx hb dX1_byAnswer_40 rfl hl (by decide) rfl (fun ls hl => ?_)
  refine lv_iload_n hx hb dX1_byAnswer_41 rfl (lv_at hl 3 rfl) ?_
  refine lv_istore (lv' := [(4, .int a1), (3, .int 0), (2, .int 0), (0, .ref h0), (1, .int a1)]) hx hb dX1_byAnswer_42 hl (by decide) rfl (fun ls hl => ?_)
  refine lv_iload_n hx hb dX1_byAnswer_44 rfl (lv_at hl 1 rfl) ?_
  refine lv_bipush (v := 8) hx hb dX1_byAnswer_45 (by decide +kernel) ?_
  refine lv_icmp_ge (tgt := 69) hx hb dX1_byAnswer_47 (by decide) (fun c => absurd c (by decide)) (fun _ => ?_)
  refine lv_iload_n hx hb dX1_byAnswer_50 rfl (lv_at hl 2 rfl) ?_
  refine lv_iload hx hb dX1_byAnswer_51 (lv_at hl 0 rfl) ?_
  refine lv_iconst (v := 2) hx hb dX1_byAnswer_53 (by decide) ?_
  refine jr_row hx hb dX1_byAnswer_54 (by decide) ?_
  refine lv_iadd hx hb dX1_byAnswer_55 ?_
  refine lv_topi (fun y_9 ey_9 => ?_)
  refine lv_istore_n (lv' := [(2, .int y_9), (4, .int a1), (3, .int 0), (0, .ref h0), (1, .int a1)]) hx hb dX1_byAnswer_56 rfl hl (by decide) rfl (fun ls hl => ?_)
  refine lv_iinc (v := 1) (lv' := [(3, .int 1), (2, .int y_9), (4, .int a1), (0, .ref h0), (1, .int a1)]) hx hb dX1_byAnswer_57 hl (k := 2) rfl (by decide) (by decide) rfl (fun ls hl => ?_)
  refine lv_iload hx hb dX1_byAnswer_60 (lv_at hl 2 rfl) ?_
  refine lv_iconst (v := 2) hx hb dX1_byAnswer_62 (by decide) ?_
  refine lv_idiv hx hb dX1_byAnswer_63 (by decide) ?_
  refine lv_topi (fun y_10 ey_10 => ?_)
  refine lv_istore (lv' := [(4, .int y_10), (3, .int 1), (2, .int y_9), (0, .ref h0), (1, .int a1)]) hx hb dX1_byAnswer_64 hl (by decide) rfl (fun ls hl => ?_)
  refine lv_goto (tgt := 44) hx hb dX1_byAnswer_66 (by decide) ?_
  refine lv_iload_n hx hb dX1_byAnswer_44 rfl (lv_at hl 1 rfl) ?_
  refine lv_bipush (v := 8) hx hb dX1_byAnswer_45 (by decide +kernel) ?_
  refine lv_icmp_ge (tgt := 69) hx hb dX1_byAnswer_47 (by decide) (fun c => absurd c (by decide)) (fun _ => ?_)
  refine lv_iload_n hx hb dX1_byAnswer_50 rfl (lv_at hl 2 rfl) ?_
  refine lv_iload hx hb dX1_byAnswer_51 (lv_at hl 0 rfl) ?_
  refine lv_iconst (v := 2) hx hb dX1_byAnswer_53 (by decide) ?_
  refine jr_row hx hb dX1_byAnswer_54 (by decide) ?_
  refine lv_iadd hx hb dX1_byAnswer_55 ?_
  refine lv_topi (fun y_11 ey_11 => ?_)
  refine lv_istore_n (lv' := [(2, .int y_11), (4, .int y_10), (3, .int 1), (0, .ref h0), (1, .int a1)]) hx hb dX1_byAnswer_56 rfl hl (by decide) rfl (fun ls hl => ?_)
  refine lv_iinc (v := 2) (lv' := [(3, .int 2), (2, .int y_11), (4, .int y_10), (0, .ref h0), (1, .int a1)]) hx hb dX1_byAnswer_57 hl (k := 2) rfl (by decide) (by decide) rfl (fun ls hl => ?_)
  refine lv_iload hx hb dX1_byAnswer_60 (lv_at hl 2 rfl) ?_
  refine lv_iconst (v := 2) hx hb dX1_byAnswer_62 (by decide) ?_
  refine lv_idiv hx hb dX1_byAnswer_63 (by decide) ?_
  refine lv_topi (fun y_12 ey_12 => ?_)
  refine lv_istore (lv' := [(4, .int y_12), (3, .int 2), (2, .int y_11), (0, .ref h0), (1, .int a1)]) hx hb dX1_byAnswer_64 hl (by decide) rfl (fun ls hl => ?_)
  refine lv_goto (tgt := 44) hx hb dX1_byAnswer_66 (by decide) ?_
  refine lv_iload_n hx hb dX1_byAnswer_44 rfl (lv_at hl 1 rfl) ?_
  refine lv_bipush (v := 8) hx hb dX1_byAnswer_45 (by decide +kernel) ?_
  refine lv_icmp_ge (tgt := 69) hx hb dX1_byAnswer_47 (by decide) (fun c => absurd c (by decide)) (fun _ => ?_)
  refine lv_iload_n hx hb dX1_byAnswer_50 rfl (lv_at hl 2 rfl) ?_
  refine lv_iload hx hb dX1_byAnswer_51 (lv_at hl 0 rfl) ?_
  refine lv_iconst (v := 2) hx hb dX1_byAnswer_53 (by decide) ?_
  refine jr_row hx hb dX1_byAnswer_54 (by decide) ?_
  refine lv_iadd hx hb dX1_byAnswer_55 ?_
  refine lv_topi (fun y_13 ey_13 => ?_)
  refine lv_istore_n (lv' := [(2, .int y_13), (4, .int y_12), (3, .int 2), (0, .ref h0), (1, .int a1)]) hx hb dX1_byAnswer_56 rfl hl (by decide) rfl (fun ls hl => ?_)
  refine lv_iinc (v := 3) (lv' := [(3, .int 3), (2, .int y_13), (4, .int y_12), (0, .ref h0), (1, .int a1)]) hx hb dX1_byAnswer_57 hl (k := 2) rfl (by decide) (by decide) rfl (fun ls hl => ?_)
  refine lv_iload hx hb dX1_byAnswer_60 (lv_at hl 2 rfl) ?_
  refine lv_iconst (v := 2) hx hb dX1_byAnswer_62 (by decide) ?_
  refine lv_idiv hx hb dX1_byAnswer_63 (by decide) ?_
  refine lv_topi (fun y_14 ey_14 => ?_)
  refine lv_istore (lv' := [(4, .int y_14), (3, .int 3), (2, .int y_13), (0, .ref h0), (1, .int a1)]) hx hb dX1_byAnswer_64 hl (by decide) rfl (fun ls hl => ?_)
  refine lv_goto (tgt := 44) hx hb dX1_byAnswer_66 (by decide) ?_
  refine lv_iload_n hx hb dX1_byAnswer_44 rfl (lv_at hl 1 rfl) ?_
  refine lv_bipush (v := 8) hx hb dX1_byAnswer_45 (by decide +kernel) ?_
  refine lv_icmp_ge (tgt := 69) hx hb dX1_byAnswer_47 (by decide) (fun c => absurd c (by decide)) (fun _ => ?_)
  refine lv_iload_n hx hb dX1_byAnswer_50 rfl (lv_at hl 2 rfl) ?_
  refine lv_iload hx hb dX1_byAnswer_51 (lv_at hl 0 rfl) ?_
  refine lv_iconst (v := 2) hx hb dX1_byAnswer_53 (by decide) ?_
  refine jr_row hx hb dX1_byAnswer_54 (by decide) ?_
  refine lv_iadd hx hb dX1_byAnswer_55 ?_
  refine lv_topi (fun y_15 ey_15 => ?_)
  refine lv_istore_n (lv' := [(2, .int y_15), (4, .int y_14), (3, .int 3), (0, .ref h0), (1, .int a1)]) hx hb dX1_byAnswer_56 rfl hl (by decide) rfl (fun ls hl => ?_)
  refine lv_iinc (v := 4) (lv' := [(3, .int 4), (2, .int y_15), (4, .int y_14), (0, .ref h0), (1, .int a1)]) hx hb dX1_byAnswer_57 hl (k := 2) rfl (by decide) (by decide) rfl (fun ls hl => ?_)
  refine lv_iload hx hb dX1_byAnswer_60 (lv_at hl 2 rfl) ?_
  refine lv_iconst (v := 2) hx hb dX1_byAnswer_62 (by decide) ?_
  refine lv_idiv hx hb dX1_byAnswer_63 (by decide) ?_
  refine lv_topi (fun y_16 ey_16 => ?_)
  refine lv_istore (lv' := [(4, .int y_16), (3, .int 4), (2, .int y_15), (0, .ref h0), (1, .int a1)]) hx hb dX1_byAnswer_64 hl (by decide) rfl (fun ls hl => ?_)
  refine lv_goto (tgt := 44) hx hb dX1_byAnswer_66 (by decide) ?_
  refine lv_iload_n hx hb dX1_byAnswer_44 rfl (lv_at hl 1 rfl) ?_
  refine lv_bipush (v := 8) hx hb dX1_byAnswer_45 (by decide +kernel) ?_
  refine lv_icmp_ge (tgt := 69) hx hb dX1_byAnswer_47 (by decide) (fun c => absurd c (by decide)) (fun _ => ?_)
  refine lv_iload_n hx hb dX1_byAnswer_50 rfl (lv_at hl 2 rfl) ?_
  refine lv_iload hx hb dX1_byAnswer_51 (lv_at hl 0 rfl) ?_
  refine lv_iconst (v := 2) hx hb dX1_byAnswer_53 (by decide) ?_
  refine jr_row hx hb dX1_byAnswer_54 (by decide) ?_
  refine lv_iadd hx hb dX1_byAnswer_55 ?_
  refine lv_topi (fun y_17 ey_17 => ?_)
  refine lv_istore_n (lv' := [(2, .int y_17), (4, .int y_16), (3, .int 4), (0, .ref h0), (1, .int a1)]) hx hb dX1_byAnswer_56 rfl hl (by decide) rfl (fun ls hl => ?_)
  refine lv_iinc (v := 5) (lv' := [(3, .int 5), (2, .int y_17), (4, .int y_16), (0, .ref h0), (1, .int a1)]) hx hb dX1_byAnswer_57 hl (k := 2) rfl (by decide) (by decide) rfl (fun ls hl => ?_)
  refine lv_iload hx hb dX1_byAnswer_60 (lv_at hl 2 rfl) ?_
  refine lv_iconst (v := 2) hx hb dX1_byAnswer_62 (by decide) ?_
  refine lv_idiv hx hb dX1_byAnswer_63 (by decide) ?_
  refine lv_topi (fun y_18 ey_18 => ?_)
  refine lv_istore (lv' := [(4, .int y_18), (3, .int 5), (2, .int y_17), (0, .ref h0), (1, .int a1)]) hx hb dX1_byAnswer_64 hl (by decide) rfl (fun ls hl => ?_)
  refine lv_goto (tgt := 44) hx hb dX1_byAnswer_66 (by decide) ?_
  refine lv_iload_n hx hb dX1_byAnswer_44 rfl (lv_at hl 1 rfl) ?_
  refine lv_bipush (v := 8) hx hb dX1_byAnswer_45 (by decide +kernel) ?_
  refine lv_icmp_ge (tgt := 69) hx hb dX1_byAnswer_47 (by decide) (fun c => absurd c (by decide)) (fun _ => ?_)
  refine lv_iload_n hx hb dX1_byAnswer_50 rfl (lv_at hl 2 rfl) ?_
  refine lv_iload hx hb dX1_byAnswer_51 (lv_at hl 0 rfl) ?_
  refine lv_iconst (v := 2) hx hb dX1_byAnswer_53 (by decide) ?_
  refine jr_row hx hb dX1_byAnswer_54 (by decide) ?_
  refine lv_iadd hx hb dX1_byAnswer_55 ?_
  refine lv_topi (fun y_19 ey_19 => ?_)
  refine lv_istore_n (lv' := [(2, .int y_19), (4, .int y_18), (3, .int 5), (0, .ref h0), (1, .int a1)]) hx hb dX1_byAnswer_56 rfl hl (by decide) rfl (fun ls hl => ?_)
  refine lv_iinc (v := 6) (lv' := [(3, .int 6), (2, .int y_19), (4, .int y_18), (0, .ref h0), (1, .int a1)]) hx hb dX1_byAnswer_57 hl (k := 2) rfl (by decide) (by decide) rfl (fun ls hl => ?_)
  refine lv_iload hx hb dX1_byAnswer_60 (lv_at hl 2 rfl) ?_
  refine lv_iconst (v := 2) hx hb dX1_byAnswer_62 (by decide) ?_
  refine lv_idiv hx hb dX1_byAnswer_63 (by decide) ?_
  refine lv_topi (fun y_20 ey_20 => ?_)
  refine lv_istore (lv' := [(4, .int y_20), (3, .int 6), (2, .int y_19), (0, .ref h0), (1, .int a1)]) hx hb dX1_byAnswer_64 hl (by decide) rfl (fun ls hl => ?_)
  refine lv_goto (tgt := 44) hx hb dX1_byAnswer_66 (by decide) ?_
  refine lv_iload_n hx hb dX1_byAnswer_44 rfl (lv_at hl 1 rfl) ?_
  refine lv_bipush (v := 8) hx hb dX1_byAnswer_45 (by decide +kernel) ?_
  refine lv_icmp_ge (tgt := 69) hx hb dX1_byAnswer_47 (by decide) (fun c => absurd c (by decide)) (fun _ => ?_)
  refine lv_iload_n hx hb dX1_byAnswer_50 rfl (lv_at hl 2 rfl) ?_
  refine lv_iload hx hb dX1_byAnswer_51 (lv_at hl 0 rfl) ?_
  refine lv_iconst (v := 2) hx hb dX1_byAnswer_53 (by decide) ?_
  refine jr_row hx hb dX1_byAnswer_54 (by decide) ?_
  refine lv_iadd hx hb dX1_byAnswer_55 ?_
  refine lv_topi (fun y_21 ey_21 => ?_)
  refine lv_istore_n (lv' := [(2, .int y_21), (4, .int y_20), (3, .int 6), (0, .ref h0), (1, .int a1)]) hx hb dX1_byAnswer_56 rfl hl (by decide) rfl (fun ls hl => ?_)
  refine lv_iinc (v := 7) (lv' := [(3, .int 7), (2, .int y_21), (4, .int y_20), (0, .ref h0), (1, .int a1)]) hx hb dX1_byAnswer_57 hl (k := 2) rfl (by decide) (by decide) rfl (fun ls hl => ?_)
  refine lv_iload hx hb dX1_byAnswer_60 (lv_at hl 2 rfl) ?_
  refine lv_iconst (v := 2) hx hb dX1_byAnswer_62 (by decide) ?_
  refine lv_idiv hx hb dX1_byAnswer_63 (by decide) ?_
  refine lv_topi (fun y_22 ey_22 => ?_)
  refine lv_istore (lv' := [(4, .int y_22), (3, .int 7), (2, .int y_21), (0, .ref h0), (1, .int a1)]) hx hb dX1_byAnswer_64 hl (by decide) rfl (fun ls hl => ?_)
  refine lv_goto (tgt := 44) hx hb dX1_byAnswer_66 (by decide) ?_
  refine lv_iload_n hx hb dX1_byAnswer_44 rfl (lv_at hl 1 rfl) ?_
  refine lv_bipush (v := 8) hx hb dX1_byAnswer_45 (by decide +kernel) ?_
  refine lv_icmp_ge (tgt := 69) hx hb dX1_byAnswer_47 (by decide) (fun c => absurd c (by decide)) (fun _ => ?_)
  refine lv_iload_n hx hb dX1_byAnswer_50 rfl (lv_at hl 2 rfl) ?_
  refine lv_iload hx hb dX1_byAnswer_51 (lv_at hl 0 rfl) ?_
  refine lv_iconst (v := 2) hx hb dX1_byAnswer_53 (by decide) ?_
  refine jr_row hx hb dX1_byAnswer_54 (by decide) ?_
  refine lv_iadd hx hb dX1_byAnswer_55 ?_
  refine lv_topi (fun y_23 ey_23 => ?_)
  refine lv_istore_n (lv' := [(2, .int y_23), (4, .int y_22), (3, .int 7), (0, .ref h0), (1, .int a1)]) hx hb dX1_byAnswer_56 rfl hl (by decide) rfl (fun ls hl => ?_)
  refine lv_iinc (v := 8) (lv' := [(3, .int 8), (2, .int y_23), (4, .int y_22), (0, .ref h0), (1, .int a1)]) hx hb dX1_byAnswer_57 hl (k := 2) rfl (by decide) (by decide) rfl (fun ls hl => ?_)
  refine lv_iload hx hb dX1_byAnswer_60 (lv_at hl 2 rfl) ?_
  refine lv_iconst (v := 2) hx hb dX1_byAnswer_62 (by decide) ?_
  refine lv_idiv hx hb dX1_byAnswer_63 (by decide) ?_
  refine lv_topi (fun y_24 ey_24 => ?_)
  refine lv_istore (lv' := [(4, .int y_24), (3, .int 8), (2, .int y_23), (0, .ref h0), (1, .int a1)]) hx hb dX1_byAnswer_64 hl (by decide) rfl (fun ls hl => ?_)
  refine lv_goto (tgt := 44) hx hb dX1_byAnswer_66 (by decide) ?_
  refine lv_iload_n hx hb dX1_byAnswer_44 rfl (lv_at hl 1 rfl) ?_
  refine lv_bipush (v := 8) hx hb dX1_byAnswer_45 (by decide +kernel) ?_
  refine lv_icmp_ge (tgt := 69) hx hb dX1_byAnswer_47 (by decide) (fun _ => ?_) (fun c => absurd (by decide) c)
  refine lv_aload_n hx hb dX1_byAnswer_69 rfl (lv_at hl 3 rfl) ?_
  refine lv_iconst (v := 4) hx hb dX1_byAnswer_70 (by decide) ?_
  refine lv_iload_n hx hb dX1_byAnswer_71 rfl (lv_at hl 2 rfl) ?_
  refine lv_iconst (v := 2) hx hb dX1_byAnswer_72 (by decide) ?_
  refine jr_row hx hb dX1_byAnswer_73 (by decide) ?_
  refine rg (J := 82) (st := [.int 4, .ref h0]) (if (jr y_23 2) = 0 then 1 else 0) (fun k => ?_) (fun y_25 ey_25 => ?_)
  · refine lv_if_ne (tgt := 81) hx hb dX1_byAnswer_74 (by decide) (fun c_26 => ?_) (fun c_26 => ?_)
    · refine lv_iconst (v := 0) hx hb dX1_byAnswer_81 (by decide) ?_
      exact rg_e k (by first | rw [if_neg c_26] | simp only [if_neg c_26])
    · refine lv_iconst (v := 1) hx hb dX1_byAnswer_77 (by decide) ?_
      refine lv_goto (tgt := 82) hx hb dX1_byAnswer_78 (by decide) ?_
      exact rg_e k (by first | rw [if_pos c_26] | simp only [if_pos c_26])
  refine wr_callv (va_runV (As := [.int 4, .int y_25]) (rest := []) ⟨hx, hb, hml, hown, hts⟩ (p_X1_put l dC dI h0 _ cd u_8 al 4 y_25 (by decide)) (cwV 2 hts gX1_byAnswer_X1_put rfl rfl rfl (by decide +kernel) ⟨Nat.le_of_ble_eq_true rfl, Nat.le_of_ble_eq_true rfl⟩) (wr_preV (ci := 2) rfl hK hP hD) rfl rfl hl.1 rfl (lv_room (Nat.le_of_ble_eq_true rfl)) dX1_byAnswer_82 ⟨Nat.le_of_ble_eq_true rfl, Nat.le_of_ble_eq_true rfl⟩) hP hD hS hA (fun u_28 H locs eu_28 hP hD hS => ?_)
  have hP : va_P (dC, dI) vwCl [(h0, .inr (2, [.int cd, .int u_28, .int al]))] H := hP
  have hD : va_D A [(h0, .inr (2, [.int cd, .int u_28, .int al]))] := hD
  exact W.vret hx hb hr (fun t ht hW => ⟨⟨u_28, rfl, (by subst ey_1; subst eu_4; subst ey_5; subst eu_8; subst ey_9; subst ey_10; subst ey_11; subst ey_12; subst ey_13; subst ey_14; subst ey_15; subst ey_16; subst ey_17; subst ey_18; subst ey_19; subst ey_20; subst ey_21; subst ey_22; subst ey_23; subst ey_24; subst ey_25; subst eu_28; simp only [f_X1_byAnswer]), by rw [ht]; exact hP, va_K.moved hW.alike hK, hD⟩, hS.F ht⟩) hS.2.2 dX1_byAnswer_85

/-- what X1_sum answers -/
def f_X1_sum (fl : Int32) (al : Int32) (a1 : Int32) (a2 : Int32) (a3 : Int32) : Int32 × Int32 :=
  let y_1 : Int32 := ((a1 + a2) + a3)
  let y_2 : Int32 := (((f_X1_signed al a1) + (f_X1_signed al a2)) + a3)
  let y_3 : Int32 := (if y_1 < al then 0 else 1)
  let u_6 : Int32 := (f_X1_put fl 1 y_3)
  let y_7 : Int32 := (if (((jr a1 16) + (jr a2 16)) + a3) < 16 then 0 else 1)
  let u_10 : Int32 := (f_X1_put u_6 16 y_7)
  let y_11 : Int32 := (if (al / 2) ≤ y_2 then 1 else (if ((-al) / 2) ≤ y_2 then 0 else 1))
  let u_15 : Int32 := (f_X1_put u_10 2048 y_11)
  let u_17 : Int32 := (f_X1_byAnswer u_15 al (jr y_1 al))
  ((jr y_1 al), u_17)
set_option maxHeartbeats 4000000 in
set_option maxRecDepth 100000 in
theorem p_X1_sum (l : Launch) (dC : Nat → ClassId) (dI : Nat → Nat → Nat) (h0 : Nat) (sz : Nat) (cd : Int32) (fl : Int32) (al : Int32) (a1 : Int32) (a2 : Int32) (a3 : Int32) (hal : al = 256 ∨ al = 65536) : Met l yX1_sum wsX1_sum ({ frames := 3, cells := 0, slots := 0, locals := 67 }) (va_Pc [.ref h0, .int a1, .int a2, .int a3] (wr_pre (dC, dI) 2 h0 sz [.int cd, .int fl, .int al])) (va_Qi (fun (r : Int32) (u : Int32) => r = (f_X1_sum fl al a1 a2 a3).1 ∧ u = (f_X1_sum fl al a1 a2 a3).2) (wr_at (dC, dI) 2 h0 (fun u : Int32 => [.int cd, .int u, .int al]) (wr_A 2 h0 sz [.int cd, .int fl, .int al])) (wr_A 2 h0 sz [.int cd, .int fl, .int al])) 0 0 (wr_A 2 h0 sz [.int cd, .int fl, .int al]) := by
  refine Met.ofW (cc := cX1_sum) (maxL := 6) (ret := (some .int)) (by decide) rfl ?_
  intro p e s m args below meth c s₁ B hml hv
  obtain ⟨rfl, hsz, hP, hK, hD0⟩ := hv
  have hx := B.exec
  have hb := B.bytes
  have hr := B.returns
  have hts := atoms_spec (ws := wsX1_sum) B.pre
  have hown : s.vm.findClass RX1 = some m.cls := findClass_of_methodNamed B.named
  have hlocks := B.notSynchronized
  subst hsz
  have hD : va_D (wr_A 2 h0 s.heap.size [.int cd, .int fl, .int al]) [(h0, .inr (2, [.int cd, .int fl, .int al]))] := hD0.self (sz := s.heap.size)
  generalize hAe : wr_A 2 h0 s.heap.size [.int cd, .int fl, .int al] = A at hD ⊢
  have hA : ∀ q : Nat, s.heap.size ≤ q → A q := fun q h => by rw [← hAe]; exact Or.inr h
  have hS : va_S A s.heap s.heap [] := va_S.rf
  have hP : va_P (dC, dI) vwCl [(h0, .inr (2, [.int cd, .int fl, .int al]))] s.heap := hP
  have hD : va_D A [(h0, .inr (2, [.int cd, .int fl, .int al]))] := hD
  have hl := lv_entry ([.ref h0, .int a1, .int a2, .int a3]) (n := 6) (Nat.le_of_ble_eq_true rfl)
  rw [lg_entry_eq]
  generalize (lg_sl ([.ref h0, .int a1, .int a2, .int a3]) ++ List.replicate (6 - (lg_sl ([.ref h0, .int a1, .int a2, .int a3])).length) Slot.unset).toArray = ls at hl ⊢
  have hl : lv_has ls 6 [(0, .ref h0), (1, .int a1), (2, .int a2), (3, .int a3)] := hl
  refine lv_iload_n hx hb dX1_sum_0 rfl (lv_at hl 1 rfl) ?_
  refine lv_iload_n hx hb dX1_sum_1 rfl (lv_at hl 2 rfl) ?_
  refine lv_iadd hx hb dX1_sum_2 ?_
  refine lv_iload_n hx hb dX1_sum_3 rfl (lv_at hl 3 rfl) ?_
  refine lv_iadd hx hb dX1_sum_4 ?_
  refine lv_topi (fun y_1 ey_1 => ?_)
  refine lv_istore (lv' := [(4, .int y_1), (0, .ref h0), (1, .int a1), (2, .int a2), (3, .int a3)]) hx hb dX1_sum_5 hl (by decide) rfl (fun ls hl => ?_)
  refine lv_aload_n hx hb dX1_sum_7 rfl (lv_at hl 1 rfl) ?_
  refine lv_iload_n hx hb dX1_sum_8 rfl (lv_at hl 2 rfl) ?_
  refine pu_calli (F := (f_X1_signed al a1)) (va_runV (As := [.int a1]) (rest := []) ⟨hx, hb, hml, hown, hts⟩ (p_X1_signed l dC dI h0 _ cd fl al a1) (cwV 1 hts gX1_sum_X1_signed rfl rfl rfl (by decide +kernel) ⟨Nat.le_of_ble_eq_true rfl, Nat.le_of_ble_eq_true rfl⟩) (pu_preV (ci := 2) rfl hK hP) rfl rfl hl.1 rfl (lv_room (Nat.le_of_ble_eq_true rfl)) dX1_sum_9 ⟨Nat.le_of_ble_eq_true rfl, Nat.le_of_ble_eq_true rfl⟩) ?_
  refine lv_aload_n hx hb dX1_sum_12 rfl (lv_at hl 1 rfl) ?_
  refine lv_iload_n hx hb dX1_sum_13 rfl (lv_at hl 3 rfl) ?_
  refine pu_calli (F := (f_X1_signed al a2)) (va_runV (As := [.int a2]) (rest := [.int (f_X1_signed al a1)]) ⟨hx, hb, hml, hown, hts⟩ (p_X1_signed l dC dI h0 _ cd fl al a2) (cwV 1 hts gX1_sum_X1_signed rfl rfl rfl (by decide +kernel) ⟨Nat.le_of_ble_eq_true rfl, Nat.le_of_ble_eq_true rfl⟩) (pu_preV (ci := 2) rfl hK hP) rfl rfl hl.1 rfl (lv_room (Nat.le_of_ble_eq_true rfl)) dX1_sum_14 ⟨Nat.le_of_ble_eq_true rfl, Nat.le_of_ble_eq_true rfl⟩) ?_
  refine lv_iadd hx hb dX1_sum_17 ?_
  refine lv_iload_n hx hb dX1_sum_18 rfl (lv_at hl 4 rfl) ?_
  refine lv_iadd hx hb dX1_sum_19 ?_
  refine lv_topi (fun y_2 ey_2 => ?_)
  refine lv_istore (lv' := [(5, .int y_2), (4, .int y_1), (0, .ref h0), (1, .int a1), (2, .int a2), (3, .int a3)]) hx hb dX1_sum_20 hl (by decide) rfl (fun ls hl => ?_)
  refine lv_aload_n hx hb dX1_sum_22 rfl (lv_at hl 2 rfl) ?_
  refine lv_iconst (v := 1) hx hb dX1_sum_23 (by decide) ?_
  refine lv_iload hx hb dX1_sum_24 (lv_at hl 1 rfl) ?_
  refine lv_aload_n hx hb dX1_sum_26 rfl (lv_at hl 2 rfl) ?_
  refine va_get (D := (dC, dI)) (ci := 2) (v := .int al) (C := RX1) (T := TX1) (N := 3) hx hb hts (by decide +kernel) hown hK hP 0 rfl rfl 2 (by decide) (hts (.fieldLink RX1 14 "WordArithmeticModel" "all" "I") (by decide +kernel)) (fun _ h9 => h9) rfl dX1_sum_27 ?_
  refine rg (J := 38) (st := [.int 1, .ref h0]) (if y_1 < al then 0 else 1) (fun k => ?_) (fun y_3 ey_3 => ?_)
  · refine lv_icmp_lt (tgt := 37) hx hb dX1_sum_30 (by decide) (fun c_4 => ?_) (fun c_4 => ?_)
    · refine lv_iconst (v := 0) hx hb dX1_sum_37 (by decide) ?_
      exact rg_e k (by first | rw [if_pos c_4] | simp only [if_pos c_4])
    · refine lv_iconst (v := 1) hx hb dX1_sum_33 (by decide) ?_
      refine lv_goto (tgt := 38) hx hb dX1_sum_34 (by decide) ?_
      exact rg_e k (by first | rw [if_neg c_4] | simp only [if_neg c_4])
  refine wr_callv (va_runV (As := [.int 1, .int y_3]) (rest := []) ⟨hx, hb, hml, hown, hts⟩ (p_X1_put l dC dI h0 _ cd fl al 1 y_3 (by decide)) (cwV 2 hts gX1_sum_X1_put rfl rfl rfl (by decide +kernel) ⟨Nat.le_of_ble_eq_true rfl, Nat.le_of_ble_eq_true rfl⟩) (wr_preV (ci := 2) rfl hK hP hD) rfl rfl hl.1 rfl (lv_room (Nat.le_of_ble_eq_true rfl)) dX1_sum_38 ⟨Nat.le_of_ble_eq_true rfl, Nat.le_of_ble_eq_true rfl⟩) hP hD hS hA (fun u_6 H locs eu_6 hP hD hS => ?_)
  have hP : va_P (dC, dI) vwCl [(h0, .inr (2, [.int cd, .int u_6, .int al]))] H := hP
  have hD : va_D A [(h0, .inr (2, [.int cd, .int u_6, .int al]))] := hD
  refine lv_aload_n hx hb dX1_sum_41 rfl (lv_at hl 2 rfl) ?_
  refine lv_bipush (v := 16) hx hb dX1_sum_42 (by decide +kernel) ?_
  refine lv_iload_n hx hb dX1_sum_44 rfl (lv_at hl 3 rfl) ?_
  refine lv_bipush (v := 16) hx hb dX1_sum_45 (by decide +kernel) ?_
  refine jr_row hx hb dX1_sum_47 (by decide) ?_
  refine lv_iload_n hx hb dX1_sum_48 rfl (lv_at hl 4 rfl) ?_
  refine lv_bipush (v := 16) hx hb dX1_sum_49 (by decide +kernel) ?_
  refine jr_row hx hb dX1_sum_51 (by decide) ?_
  refine lv_iadd hx hb dX1_sum_52 ?_
  refine lv_iload_n hx hb dX1_sum_53 rfl (lv_at hl 5 rfl) ?_
  refine lv_iadd hx hb dX1_sum_54 ?_
  refine lv_bipush (v := 16) hx hb dX1_sum_55 (by decide +kernel) ?_
  refine rg (J := 65) (st := [.int 16, .ref h0]) (if (((jr a1 16) + (jr a2 16)) + a3) < 16 then 0 else 1) (fun k => ?_) (fun y_7 ey_7 => ?_)
  · refine lv_icmp_lt (tgt := 64) hx hb dX1_sum_57 (by decide) (fun c_8 => ?_) (fun c_8 => ?_)
    · refine lv_iconst (v := 0) hx hb dX1_sum_64 (by decide) ?_
      exact rg_e k (by first | rw [if_pos c_8] | simp only [if_pos c_8])
    · refine lv_iconst (v := 1) hx hb dX1_sum_60 (by decide) ?_
      refine lv_goto (tgt := 65) hx hb dX1_sum_61 (by decide) ?_
      exact rg_e k (by first | rw [if_neg c_8] | simp only [if_neg c_8])
  refine wr_callv (va_runV (As := [.int 16, .int y_7]) (rest := []) ⟨hx, hb, hml, hown, hts⟩ (p_X1_put l dC dI h0 _ cd u_6 al 16 y_7 (by decide)) (cwV 2 hts gX1_sum_X1_put rfl rfl rfl (by decide +kernel) ⟨Nat.le_of_ble_eq_true rfl, Nat.le_of_ble_eq_true rfl⟩) (wr_preV (ci := 2) rfl hK hP hD) rfl rfl hl.1 rfl (lv_room (Nat.le_of_ble_eq_true rfl)) dX1_sum_65 ⟨Nat.le_of_ble_eq_true rfl, Nat.le_of_ble_eq_true rfl⟩) hP hD hS hA (fun u_10 H locs eu_10 hP hD hS => ?_)
  have hP : va_P (dC, dI) vwCl [(h0, .inr (2, [.int cd, .int u_10, .int al]))] H := hP
  have hD : va_D A [(h0, .inr (2, [.int cd, .int u_10, .int al]))] := hD
  refine lv_aload_n hx hb dX1_sum_68 rfl (lv_at hl 2 rfl) ?_
  refine lv_sipush (v := 2048) hx hb dX1_sum_69 (by decide +kernel) ?_
  refine lv_iload hx hb dX1_sum_72 (lv_at hl 0 rfl) ?_
  refine lv_aload_n hx hb dX1_sum_74 rfl (lv_at hl 2 rfl) ?_
  refine va_get (D := (dC, dI)) (ci := 2) (v := .int al) (C := RX1) (T := TX1) (N := 3) hx hb hts (by decide +kernel) hown hK hP 0 rfl rfl 2 (by decide) (hts (.fieldLink RX1 14 "WordArithmeticModel" "all" "I") (by decide +kernel)) (fun _ h9 => h9) rfl dX1_sum_75 ?_
  refine lv_iconst (v := 2) hx hb dX1_sum_78 (by decide) ?_
  refine lv_idiv hx hb dX1_sum_79 (by decide) ?_
  refine rg (J := 100) (st := [.int 2048, .ref h0]) (if (al / 2) ≤ y_2 then 1 else (if ((-al) / 2) ≤ y_2 then 0 else 1)) (fun k => ?_) (fun y_11 ey_11 => ?_)
  · refine lv_icmp_ge (tgt := 95) hx hb dX1_sum_80 (by decide) (fun c_12 => ?_) (fun c_12 => ?_)
    · refine lv_iconst (v := 1) hx hb dX1_sum_95 (by decide) ?_
      refine lv_goto (tgt := 100) hx hb dX1_sum_96 (by decide) ?_
      exact rg_e k (by first | rw [if_pos c_12] | simp only [if_pos c_12])
    · refine lv_iload hx hb dX1_sum_83 (lv_at hl 0 rfl) ?_
      refine lv_aload_n hx hb dX1_sum_85 rfl (lv_at hl 2 rfl) ?_
      refine va_get (D := (dC, dI)) (ci := 2) (v := .int al) (C := RX1) (T := TX1) (N := 3) hx hb hts (by decide +kernel) hown hK hP 0 rfl rfl 2 (by decide) (hts (.fieldLink RX1 14 "WordArithmeticModel" "all" "I") (by decide +kernel)) (fun _ h9 => h9) rfl dX1_sum_86 ?_
      refine lv_ineg hx hb dX1_sum_89 ?_
      refine lv_iconst (v := 2) hx hb dX1_sum_90 (by decide) ?_
      refine lv_idiv hx hb dX1_sum_91 (by decide) ?_
      refine lv_icmp_ge (tgt := 99) hx hb dX1_sum_92 (by decide) (fun c_13 => ?_) (fun c_13 => ?_)
      · refine lv_iconst (v := 0) hx hb dX1_sum_99 (by decide) ?_
        exact rg_e k (by first | rw [if_neg c_12, if_pos c_13] | simp only [if_neg c_12, if_pos c_13])
      · refine lv_iconst (v := 1) hx hb dX1_sum_95 (by decide) ?_
        refine lv_goto (tgt := 100) hx hb dX1_sum_96 (by decide) ?_
        exact rg_e k (by first | rw [if_neg c_12, if_neg c_13] | simp only [if_neg c_12, if_neg c_13])
  refine wr_callv (va_runV (As := [.int 2048, .int y_11]) (rest := []) ⟨hx, hb, hml, hown, hts⟩ (p_X1_put l dC dI h0 _ cd u_10 al 2048 y_11 (by decide)) (cwV 2 hts gX1_sum_X1_put rfl rfl rfl (by decide +kernel) ⟨Nat.le_of_ble_eq_true rfl, Nat.le_of_ble_eq_true rfl⟩) (wr_preV (ci := 2) rfl hK hP hD) rfl rfl hl.1 rfl (lv_room (Nat.le_of_ble_eq_true rfl)) dX1_sum_100 ⟨Nat.le_of_ble_eq_true rfl, Nat.le_of_ble_eq_true rfl⟩) hP hD hS hA (fun u_15 H locs eu_15 hP hD hS => ?_)
  have hP : va_P (dC, dI) vwCl [(h0, .inr (2, [.int cd, .int u_15, .int al]))] H := hP
  have hD : va_D A [(h0, .inr (2, [.int cd, .int u_15, .int al]))] := hD
  refine lv_aload_n hx hb dX1_sum_103 rfl (lv_at hl 2 rfl) ?_
  refine lv_iload hx hb dX1_sum_104 (lv_at hl 1 rfl) ?_
  refine lv_aload_n hx hb dX1_sum_106 rfl (lv_at hl 2 rfl) ?_
  refine va_get (D := (dC, dI)) (ci := 2) (v := .int al) (C := RX1) (T := TX1) (N := 3) hx hb hts (by decide +kernel) hown hK hP 0 rfl rfl 2 (by decide) (hts (.fieldLink RX1 14 "WordArithmeticModel" "all" "I") (by decide +kernel)) (fun _ h9 => h9) rfl dX1_sum_107 ?_
  refine jr_row hx hb dX1_sum_110 (hal_0 hal) ?_
  refine wr_callv (va_runV (As := [.int (jr y_1 al)]) (rest := []) ⟨hx, hb, hml, hown, hts⟩ (p_X1_byAnswer l dC dI h0 _ cd u_15 al (jr y_1 al)) (cwV 1 hts gX1_sum_X1_byAnswer rfl rfl rfl (by decide +kernel) ⟨Nat.le_of_ble_eq_true rfl, Nat.le_of_ble_eq_true rfl⟩) (wr_preV (ci := 2) rfl hK hP hD) rfl rfl hl.1 rfl (lv_room (Nat.le_of_ble_eq_true rfl)) dX1_sum_111 ⟨Nat.le_of_ble_eq_true rfl, Nat.le_of_ble_eq_true rfl⟩) hP hD hS hA (fun u_17 H locs eu_17 hP hD hS => ?_)
  have hP : va_P (dC, dI) vwCl [(h0, .inr (2, [.int cd, .int u_17, .int al]))] H := hP
  have hD : va_D A [(h0, .inr (2, [.int cd, .int u_17, .int al]))] := hD
  refine lv_iload hx hb dX1_sum_114 (lv_at hl 1 rfl) ?_
  refine lv_aload_n hx hb dX1_sum_116 rfl (lv_at hl 2 rfl) ?_
  refine va_get (D := (dC, dI)) (ci := 2) (v := .int al) (C := RX1) (T := TX1) (N := 3) hx hb hts (by decide +kernel) hown hK hP 0 rfl rfl 2 (by decide) (hts (.fieldLink RX1 14 "WordArithmeticModel" "all" "I") (by decide +kernel)) (fun _ h9 => h9) rfl dX1_sum_117 ?_
  refine jr_row hx hb dX1_sum_120 (hal_0 hal) ?_
  exact W.iret (v := (jr y_1 al)) hx hb hr (fun t ht hW => ⟨⟨(jr y_1 al), u_17, rfl, ⟨(by subst ey_1; subst ey_2; subst ey_3; subst eu_6; subst ey_7; subst eu_10; subst ey_11; subst eu_15; subst eu_17; simp only [f_X1_sum]), (by subst ey_1; subst ey_2; subst ey_3; subst eu_6; subst ey_7; subst eu_10; subst ey_11; subst eu_15; subst eu_17; simp only [f_X1_sum])⟩, by rw [ht]; exact hP, va_K.moved hW.alike hK, hD⟩, hS.F ht⟩) hS.2.2 dX1_sum_121

/-- what X1_difference answers -/
def f_X1_difference (fl : Int32) (al : Int32) (a1 : Int32) (a2 : Int32) (a3 : Int32) : Int32 × Int32 :=
  let y_1 : Int32 := ((a1 - a2) - a3)
  let y_2 : Int32 := (((f_X1_signed al a1) - (f_X1_signed al a2)) - a3)
  let y_3 : Int32 := (if 0 ≤ y_1 then 0 else 1)
  let u_6 : Int32 := (f_X1_put fl 1 y_3)
  let y_7 : Int32 := (if 0 ≤ (((jr a1 16) - (jr a2 16)) - a3) then 0 else 1)
  let u_10 : Int32 := (f_X1_put u_6 16 y_7)
  let y_11 : Int32 := (if (al / 2) ≤ y_2 then 1 else (if ((-al) / 2) ≤ y_2 then 0 else 1))
  let u_15 : Int32 := (f_X1_put u_10 2048 y_11)
  let y_16 : Int32 := (if 0 ≤ y_1 then y_1 else (y_1 + al))
  let u_19 : Int32 := (f_X1_byAnswer u_15 al y_16)
  (y_16, u_19)
set_option maxHeartbeats 4000000 in
set_option maxRecDepth 100000 in
theorem p_X1_difference (l : Launch) (dC : Nat → ClassId) (dI : Nat → Nat → Nat) (h0 : Nat) (sz : Nat) (cd : Int32) (fl : Int32) (al : Int32) (a1 : Int32) (a2 : Int32) (a3 : Int32) : Met l yX1_difference wsX1_difference ({ frames := 3, cells := 0, slots := 0, locals := 67 }) (va_Pc [.ref h0, .int a1, .int a2, .int a3] (wr_pre (dC, dI) 2 h0 sz [.int cd, .int fl, .int al])) (va_Qi (fun (r : Int32) (u : Int32) => r = (f_X1_difference fl al a1 a2 a3).1 ∧ u = (f_X1_difference fl al a1 a2 a3).2) (wr_at (dC, dI) 2 h0 (fun u : Int32 => [.int cd, .int u, .int al]) (wr_A 2 h0 sz [.int cd, .int fl, .int al])) (wr_A 2 h0 sz [.int cd, .int fl, .int al])) 0 0 (wr_A 2 h0 sz [.int cd, .int fl, .int al]) := by
  refine Met.ofW (cc := cX1_difference) (maxL := 7) (ret := (some .int)) (by decide) rfl ?_
  intro p e s m args below meth c s₁ B hml hv
  obtain ⟨rfl, hsz, hP, hK, hD0⟩ := hv
  have hx := B.exec
  have hb := B.bytes
  have hr := B.returns
  have hts := atoms_spec (ws := wsX1_difference) B.pre
  have hown : s.vm.findClass RX1 = some m.cls := findClass_of_methodNamed B.named
  have hlocks := B.notSynchronized
  subst hsz
  have hD : va_D (wr_A 2 h0 s.heap.size [.int cd, .int fl, .int al]) [(h0, .inr (2, [.int cd, .int fl, .int al]))] := hD0.self (sz := s.heap.size)
  generalize hAe : wr_A 2 h0 s.heap.size [.int cd, .int fl, .int al] = A at hD ⊢
  have hA : ∀ q : Nat, s.heap.size ≤ q → A q := fun q h => by rw [← hAe]; exact Or.inr h
  have hS : va_S A s.heap s.heap [] := va_S.rf
  have hP : va_P (dC, dI) vwCl [(h0, .inr (2, [.int cd, .int fl, .int al]))] s.heap := hP
  have hD : va_D A [(h0, .inr (2, [.int cd, .int fl, .int al]))] := hD
  have hl := lv_entry ([.ref h0, .int a1, .int a2, .int a3]) (n := 7) (Nat.le_of_ble_eq_true rfl)
  rw [lg_entry_eq]
  generalize (lg_sl ([.ref h0, .int a1, .int a2, .int a3]) ++ List.replicate (7 - (lg_sl ([.ref h0, .int a1, .int a2, .int a3])).length) Slot.unset).toArray = ls at hl ⊢
  have hl : lv_has ls 7 [(0, .ref h0), (1, .int a1), (2, .int a2), (3, .int a3)] := hl
  refine lv_iload_n hx hb dX1_difference_0 rfl (lv_at hl 1 rfl) ?_
  refine lv_iload_n hx hb dX1_difference_1 rfl (lv_at hl 2 rfl) ?_
  refine lv_isub hx hb dX1_difference_2 ?_
  refine lv_iload_n hx hb dX1_difference_3 rfl (lv_at hl 3 rfl) ?_
  refine lv_isub hx hb dX1_difference_4 ?_
  refine lv_topi (fun y_1 ey_1 => ?_)
  refine lv_istore (lv' := [(4, .int y_1), (0, .ref h0), (1, .int a1), (2, .int a2), (3, .int a3)]) hx hb dX1_difference_5 hl (by decide) rfl (fun ls hl => ?_)
  refine lv_aload_n hx hb dX1_difference_7 rfl (lv_at hl 1 rfl) ?_
  refine lv_iload_n hx hb dX1_difference_8 rfl (lv_at hl 2 rfl) ?_
  refine pu_calli (F := (f_X1_signed al a1)) (va_runV (As := [.int a1]) (rest := []) ⟨hx, hb, hml, hown, hts⟩ (p_X1_signed l dC dI h0 _ cd fl al a1) (cwV 1 hts gX1_difference_X1_signed rfl rfl rfl (by decide +kernel) ⟨Nat.le_of_ble_eq_true rfl, Nat.le_of_ble_eq_true rfl⟩) (pu_preV (ci := 2) rfl hK hP) rfl rfl hl.1 rfl (lv_room (Nat.le_of_ble_eq_true rfl)) dX1_difference_9 ⟨Nat.le_of_ble_eq_true rfl, Nat.le_of_ble_eq_true rfl⟩) ?_
  refine lv_aload_n hx hb dX1_difference_12 rfl (lv_at hl 1 rfl) ?_
  refine lv_iload_n hx hb dX1_difference_13 rfl (lv_at hl 3 rfl) ?_
  refine pu_calli (F := (f_X1_signed al a2)) (va_runV (As := [.int a2]) (rest := [.int (f_X1_signed al a1)]) ⟨hx, hb, hml, hown, hts⟩ (p_X1_signed l dC dI h0 _ cd fl al a2) (cwV 1 hts gX1_difference_X1_signed rfl rfl rfl (by decide +kernel) ⟨Nat.le_of_ble_eq_true rfl, Nat.le_of_ble_eq_true rfl⟩) (pu_preV (ci := 2) rfl hK hP) rfl rfl hl.1 rfl (lv_room (Nat.le_of_ble_eq_true rfl)) dX1_difference_14 ⟨Nat.le_of_ble_eq_true rfl, Nat.le_of_ble_eq_true rfl⟩) ?_
  refine lv_isub hx hb dX1_difference_17 ?_
  refine lv_iload_n hx hb dX1_difference_18 rfl (lv_at hl 4 rfl) ?_
  refine lv_isub hx hb dX1_difference_19 ?_
  refine lv_topi (fun y_2 ey_2 => ?_)
  refine lv_istore (lv' := [(5, .int y_2), (4, .int y_1), (0, .ref h0), (1, .int a1), (2, .int a2), (3, .int a3)]) hx hb dX1_difference_20 hl (by decide) rfl (fun ls hl => ?_)
  refine lv_aload_n hx hb dX1_difference_22 rfl (lv_at hl 2 rfl) ?_
  refine lv_iconst (v := 1) hx hb dX1_difference_23 (by decide) ?_
  refine lv_iload hx hb dX1_difference_24 (lv_at hl 1 rfl) ?_
  refine rg (J := 34) (st := [.int 1, .ref h0]) (if 0 ≤ y_1 then 0 else 1) (fun k => ?_) (fun y_3 ey_3 => ?_)
  · refine lv_if_ge (tgt := 33) hx hb dX1_difference_26 (by decide) (fun c_4 => ?_) (fun c_4 => ?_)
    · refine lv_iconst (v := 0) hx hb dX1_difference_33 (by decide) ?_
      exact rg_e k (by first | rw [if_pos c_4] | simp only [if_pos c_4])
    · refine lv_iconst (v := 1) hx hb dX1_difference_29 (by decide) ?_
      refine lv_goto (tgt := 34) hx hb dX1_difference_30 (by decide) ?_
      exact rg_e k (by first | rw [if_neg c_4] | simp only [if_neg c_4])
  refine wr_callv (va_runV (As := [.int 1, .int y_3]) (rest := []) ⟨hx, hb, hml, hown, hts⟩ (p_X1_put l dC dI h0 _ cd fl al 1 y_3 (by decide)) (cwV 2 hts gX1_difference_X1_put rfl rfl rfl (by decide +kernel) ⟨Nat.le_of_ble_eq_true rfl, Nat.le_of_ble_eq_true rfl⟩) (wr_preV (ci := 2) rfl hK hP hD) rfl rfl hl.1 rfl (lv_room (Nat.le_of_ble_eq_true rfl)) dX1_difference_34 ⟨Nat.le_of_ble_eq_true rfl, Nat.le_of_ble_eq_true rfl⟩) hP hD hS hA (fun u_6 H locs eu_6 hP hD hS => ?_)
  have hP : va_P (dC, dI) vwCl [(h0, .inr (2, [.int cd, .int u_6, .int al]))] H := hP
  have hD : va_D A [(h0, .inr (2, [.int cd, .int u_6, .int al]))] := hD
  refine lv_aload_n hx hb dX1_difference_37 rfl (lv_at hl 2 rfl) ?_
  refine lv_bipush (v := 16) hx hb dX1_difference_38 (by decide +kernel) ?_
  refine lv_iload_n hx hb dX1_difference_40 rfl (lv_at hl 3 rfl) ?_
  refine lv_bipush (v := 16) hx hb dX1_difference_41 (by decide +kernel) ?_
  refine jr_row hx hb dX1_difference_43 (by decide) ?_
  refine lv_iload_n hx hb dX1_difference_44 rfl (lv_at hl 4 rfl) ?_
  refine lv_bipush (v := 16) hx hb dX1_difference_45 (by decide +kernel) ?_
  refine jr_row hx hb dX1_difference_47 (by decide) ?_
  refine lv_isub hx hb dX1_difference_48 ?_
  refine lv_iload_n hx hb dX1_difference_49 rfl (lv_at hl 5 rfl) ?_
  refine lv_isub hx hb dX1_difference_50 ?_
  refine rg (J := 59) (st := [.int 16, .ref h0]) (if 0 ≤ (((jr a1 16) - (jr a2 16)) - a3) then 0 else 1) (fun k => ?_) (fun y_7 ey_7 => ?_)
  · refine lv_if_ge (tgt := 58) hx hb dX1_difference_51 (by decide) (fun c_8 => ?_) (fun c_8 => ?_)
    · refine lv_iconst (v := 0) hx hb dX1_difference_58 (by decide) ?_
      exact rg_e k (by first | rw [if_pos c_8] | simp only [if_pos c_8])
    · refine lv_iconst (v := 1) hx hb dX1_difference_54 (by decide) ?_
      refine lv_goto (tgt := 59) hx hb dX1_difference_55 (by decide) ?_
      exact rg_e k (by first | rw [if_neg c_8] | simp only [if_neg c_8])
  refine wr_callv (va_runV (As := [.int 16, .int y_7]) (rest := []) ⟨hx, hb, hml, hown, hts⟩ (p_X1_put l dC dI h0 _ cd u_6 al 16 y_7 (by decide)) (cwV 2 hts gX1_difference_X1_put rfl rfl rfl (by decide +kernel) ⟨Nat.le_of_ble_eq_true rfl, Nat.le_of_ble_eq_true rfl⟩) (wr_preV (ci := 2) rfl hK hP hD) rfl rfl hl.1 rfl (lv_room (Nat.le_of_ble_eq_true rfl)) dX1_difference_59 ⟨Nat.le_of_ble_eq_true rfl, Nat.le_of_ble_eq_true rfl⟩) hP hD hS hA (fun u_10 H locs eu_10 hP hD hS => ?_)
  have hP : va_P (dC, dI) vwCl [(h0, .inr (2, [.int cd, .int u_10, .int al]))] H := hP
  have hD : va_D A [(h0, .inr (2, [.int cd, .int u_10, .int al]))] := hD
  refine lv_aload_n hx hb dX1_difference_62 rfl (lv_at hl 2 rfl) ?_
  refine lv_sipush (v := 2048) hx hb dX1_difference_63 (by decide +kernel) ?_
  refine lv_iload hx hb dX1_difference_66 (lv_at hl 0 rfl) ?_
  refine lv_aload_n hx hb dX1_difference_68 rfl (lv_at hl 2 rfl) ?_
  refine va_get (D := (dC, dI)) (ci := 2) (v := .int al) (C := RX1) (T := TX1) (N := 3) hx hb hts (by decide +kernel) hown hK hP 0 rfl rfl 2 (by decide) (hts (.fieldLink RX1 14 "WordArithmeticModel" "all" "I") (by decide +kernel)) (fun _ h9 => h9) rfl dX1_difference_69 ?_
  refine lv_iconst (v := 2) hx hb dX1_difference_72 (by decide) ?_
  refine lv_idiv hx hb dX1_difference_73 (by decide) ?_
  refine rg (J := 94) (st := [.int 2048, .ref h0]) (if (al / 2) ≤ y_2 then 1 else (if ((-al) / 2) ≤ y_2 then 0 else 1)) (fun k => ?_) (fun y_11 ey_11 => ?_)
  · refine lv_icmp_ge (tgt := 89) hx hb dX1_difference_74 (by decide) (fun c_12 => ?_) (fun c_12 => ?_)
    · refine lv_iconst (v := 1) hx hb dX1_difference_89 (by decide) ?_
      refine lv_goto (tgt := 94) hx hb dX1_difference_90 (by decide) ?_
      exact rg_e k (by first | rw [if_pos c_12] | simp only [if_pos c_12])
    · refine lv_iload hx hb dX1_difference_77 (lv_at hl 0 rfl) ?_
      refine lv_aload_n hx hb dX1_difference_79 rfl (lv_at hl 2 rfl) ?_
      refine va_get (D := (dC, dI)) (ci := 2) (v := .int al) (C := RX1) (T := TX1) (N := 3) hx hb hts (by decide +kernel) hown hK hP 0 rfl rfl 2 (by decide) (hts (.fieldLink RX1 14 "WordArithmeticModel" "all" "I") (by decide +kernel)) (fun _ h9 => h9) rfl dX1_difference_80 ?_
      refine lv_ineg hx hb dX1_difference_83 ?_
      refine lv_iconst (v := 2) hx hb dX1_difference_84 (by decide) ?_
      refine lv_idiv hx hb dX1_difference_85 (by decide) ?_
      refine lv_icmp_ge (tgt := 93) hx hb dX1_difference_86 (by decide) (fun c_13 => ?_) (fun c_13 => ?_)
      · refine lv_iconst (v := 0) hx hb dX1_difference_93 (by decide) ?_
        exact rg_e k (by first | rw [if_neg c_12, if_pos c_13] | simp only [if_neg c_12, if_pos c_13])
      · refine lv_iconst (v := 1) hx hb dX1_difference_89 (by decide) ?_
        refine lv_goto (tgt := 94) hx hb dX1_difference_90 (by decide) ?_
        exact rg_e k (by first | rw [if_neg c_12, if_neg c_13] | simp only [if_neg c_12, if_neg c_13])
  refine wr_callv (va_runV (As := [.int 2048, .int y_11]) (rest := []) ⟨hx, hb, hml, hown, hts⟩ (p_X1_put l dC dI h0 _ cd u_10 al 2048 y_11 (by decide)) (cwV 2 hts gX1_difference_X1_put rfl rfl rfl (by decide +kernel) ⟨Nat.le_of_ble_eq_true rfl, Nat.le_of_ble_eq_true rfl⟩) (wr_preV (ci := 2) rfl hK hP hD) rfl rfl hl.1 rfl (lv_room (Nat.le_of_ble_eq_true rfl)) dX1_difference_94 ⟨Nat.le_of_ble_eq_true rfl, Nat.le_of_ble_eq_true rfl⟩) hP hD hS hA (fun u_15 H locs eu_15 hP hD hS => ?_)
  have hP : va_P (dC, dI) vwCl [(h0, .inr (2, [.int cd, .int u_15, .int al]))] H := hP
  have hD : va_D A [(h0, .inr (2, [.int cd, .int u_15, .int al]))] := hD
  refine lv_iload hx hb dX1_difference_97 (lv_at hl 1 rfl) ?_
  refine rg (J := 114) (st := []) (if 0 ≤ y_1 then y_1 else (y_1 + al)) (fun k => ?_) (fun y_16 ey_16 => ?_)
  · refine lv_if_ge (tgt := 112) hx hb dX1_difference_99 (by decide) (fun c_17 => ?_) (fun c_17 => ?_)
    · refine lv_iload hx hb dX1_difference_112 (lv_at hl 1 rfl) ?_
      exact rg_e k (by first | rw [if_pos c_17] | simp only [if_pos c_17])
    · refine lv_iload hx hb dX1_difference_102 (lv_at hl 1 rfl) ?_
      refine lv_aload_n hx hb dX1_difference_104 rfl (lv_at hl 2 rfl) ?_
      refine va_get (D := (dC, dI)) (ci := 2) (v := .int al) (C := RX1) (T := TX1) (N := 3) hx hb hts (by decide +kernel) hown hK hP 0 rfl rfl 2 (by decide) (hts (.fieldLink RX1 14 "WordArithmeticModel" "all" "I") (by decide +kernel)) (fun _ h9 => h9) rfl dX1_difference_105 ?_
      refine lv_iadd hx hb dX1_difference_108 ?_
      refine lv_goto (tgt := 114) hx hb dX1_difference_109 (by decide) ?_
      exact rg_e k (by first | rw [if_neg c_17] | simp only [if_neg c_17])
  refine lv_istore (lv' := [(6, .int y_16), (5, .int y_2), (4, .int y_1), (0, .ref h0), (1, .int a1), (2, .int a2), (3, .int a3)]) hx hb dX1_difference_114 hl (by decide) rfl (fun ls hl => ?_)
  refine lv_aload_n hx hb dX1_difference_116 rfl (lv_at hl 3 rfl) ?_
  refine lv_iload hx hb dX1_difference_117 (lv_at hl 0 rfl) ?_
  refine wr_callv (va_runV (As := [.int y_16]) (rest := []) ⟨hx, hb, hml, hown, hts⟩ (p_X1_byAnswer l dC dI h0 _ cd u_15 al y_16) (cwV 1 hts gX1_difference_X1_byAnswer rfl rfl rfl (by decide +kernel) ⟨Nat.le_of_ble_eq_true rfl, Nat.le_of_ble_eq_true rfl⟩) (wr_preV (ci := 2) rfl hK hP hD) rfl rfl hl.1 rfl (lv_room (Nat.le_of_ble_eq_true rfl)) dX1_difference_119 ⟨Nat.le_of_ble_eq_true rfl, Nat.le_of_ble_eq_true rfl⟩) hP hD hS hA (fun u_19 H locs eu_19 hP hD hS => ?_)
  have hP : va_P (dC, dI) vwCl [(h0, .inr (2, [.int cd, .int u_19, .int al]))] H := hP
  have hD : va_D A [(h0, .inr (2, [.int cd, .int u_19, .int al]))] := hD
  refine lv_iload hx hb dX1_difference_122 (lv_at hl 0 rfl) ?_
  exact W.iret (v := y_16) hx hb hr (fun t ht hW => ⟨⟨y_16, u_19, rfl, ⟨(by subst ey_1; subst ey_2; subst ey_3; subst eu_6; subst ey_7; subst eu_10; subst ey_11; subst eu_15; subst ey_16; subst eu_19; simp only [f_X1_difference]), (by subst ey_1; subst ey_2; subst ey_3; subst eu_6; subst ey_7; subst eu_10; subst ey_11; subst eu_15; subst ey_16; subst eu_19; simp only [f_X1_difference])⟩, by rw [ht]; exact hP, va_K.moved hW.alike hK, hD⟩, hS.F ht⟩) hS.2.2 dX1_difference_124

/-- what X1_once answers -/
def f_X1_once (fl : Int32) (al : Int32) (a1 : Int32) (a2 : Int32) : Int32 × Int32 :=
  let y_1 : Int32 := (if a2 < (al / 2) then 0 else 1)
  let y_3 : Int32 := (if (jr a2 2) = 1 then 1 else 0)
  let y_5 : Int32 := (f_X1_is fl 1)
  let y_6 : Int32 := (if (jr a1 2) = 0 then 1 else 0)
  let y_8 : Int32 := (if a1 = 0 then y_1 else (if a1 = 1 then y_3 else (if 4 ≤ a1 then (if a1 = 7 then (if y_1 = 0 then 0 else 1) else 0) else y_5)))
  let y_14 : Int32 := (if y_6 = 0 then (if y_8 = 0 then ((a2 / 2) + 0) else ((a2 / 2) + (al / 2))) else (if y_8 = 0 then ((jr (2 * a2) al) + 0) else ((jr (2 * a2) al) + 1)))
  let y_18 : Int32 := (if y_6 = 0 then y_3 else y_1)
  let u_21 : Int32 := (f_X1_put fl 1 y_18)
  let y_22 : Int32 := (if y_14 < (al / 2) then 0 else 1)
  let y_24 : Int32 := (if (jr y_14 (al / 2)) < (al / 4) then 0 else 1)
  let y_26 : Int32 := (if y_6 = 0 then (if 4 ≤ a1 then (if a1 = 5 then (if y_1 = 0 then 0 else 1) else 0) else (if y_22 = y_24 then 0 else 1)) else (if (f_X1_is u_21 1) = y_22 then 0 else 1))
  let u_34 : Int32 := (f_X1_put u_21 2048 y_26)
  if a1 ≤ 3 then
  ((y_14, u_34))
  else
  (let u_37 : Int32 := (f_X1_byAnswer u_34 al y_14)
  (y_14, u_37))
set_option maxHeartbeats 4000000 in
set_option maxRecDepth 100000 in
theorem p_X1_once (l : Launch) (dC : Nat → ClassId) (dI : Nat → Nat → Nat) (h0 : Nat) (sz : Nat) (cd : Int32) (fl : Int32) (al : Int32) (a1 : Int32) (a2 : Int32) (hal : al = 256 ∨ al = 65536) : Met l yX1_once wsX1_once ({ frames := 3, cells := 0, slots := 0, locals := 67 }) (va_Pc [.ref h0, .int a1, .int a2] (wr_pre (dC, dI) 2 h0 sz [.int cd, .int fl, .int al])) (va_Qi (fun (r : Int32) (u : Int32) => r = (f_X1_once fl al a1 a2).1 ∧ u = (f_X1_once fl al a1 a2).2) (wr_at (dC, dI) 2 h0 (fun u : Int32 => [.int cd, .int u, .int al]) (wr_A 2 h0 sz [.int cd, .int fl, .int al])) (wr_A 2 h0 sz [.int cd, .int fl, .int al])) 0 0 (wr_A 2 h0 sz [.int cd, .int fl, .int al]) := by
  refine Met.ofW (cc := cX1_once) (maxL := 11) (ret := (some .int)) (by decide) rfl ?_
  intro p e s m args below meth c s₁ B hml hv
  obtain ⟨rfl, hsz, hP, hK, hD0⟩ := hv
  have hx := B.exec
  have hb := B.bytes
  have hr := B.returns
  have hts := atoms_spec (ws := wsX1_once) B.pre
  have hown : s.vm.findClass RX1 = some m.cls := findClass_of_methodNamed B.named
  have hlocks := B.notSynchronized
  subst hsz
  have hD : va_D (wr_A 2 h0 s.heap.size [.int cd, .int fl, .int al]) [(h0, .inr (2, [.int cd, .int fl, .int al]))] := hD0.self (sz := s.heap.size)
  generalize hAe : wr_A 2 h0 s.heap.size [.int cd, .int fl, .int al] = A at hD ⊢
  have hA : ∀ q : Nat, s.heap.size ≤ q → A q := fun q h => by rw [← hAe]; exact Or.inr h
  have hS : va_S A s.heap s.heap [] := va_S.rf
  have hP : va_P (dC, dI) vwCl [(h0, .inr (2, [.int cd, .int fl, .int al]))] s.heap := hP
  have hD : va_D A [(h0, .inr (2, [.int cd, .int fl, .int al]))] := hD
  have hl := lv_entry ([.ref h0, .int a1, .int a2]) (n := 11) (Nat.le_of_ble_eq_true rfl)
  rw [lg_entry_eq]
  generalize (lg_sl ([.ref h0, .int a1, .int a2]) ++ List.replicate (11 - (lg_sl ([.ref h0, .int a1, .int a2])).length) Slot.unset).toArray = ls at hl ⊢
  have hl : lv_has ls 11 [(0, .ref h0), (1, .int a1), (2, .int a2)] := hl
  refine lv_iload_n hx hb dX1_once_0 rfl (lv_at hl 2 rfl) ?_
  refine lv_aload_n hx hb dX1_once_1 rfl (lv_at hl 0 rfl) ?_
  refine va_get (D := (dC, dI)) (ci := 2) (v := .int al) (C := RX1) (T := TX1) (N := 3) hx hb hts (by decide +kernel) hown hK hP 0 rfl rfl 2 (by decide) (hts (.fieldLink RX1 14 "WordArithmeticModel" "all" "I") (by decide +kernel)) (fun _ h9 => h9) rfl dX1_once_2 ?_
  refine lv_iconst (v := 2) hx hb dX1_once_5 (by decide) ?_
  refine lv_idiv hx hb dX1_once_6 (by decide) ?_
  refine rg (J := 15) (st := []) (if a2 < (al / 2) then 0 else 1) (fun k => ?_) (fun y_1 ey_1 => ?_)
  · refine lv_icmp_lt (tgt := 14) hx hb dX1_once_7 (by decide) (fun c_2 => ?_) (fun c_2 => ?_)
    · refine lv_iconst (v := 0) hx hb dX1_once_14 (by decide) ?_
      exact rg_e k (by first | rw [if_pos c_2] | simp only [if_pos c_2])
    · refine lv_iconst (v := 1) hx hb dX1_once_10 (by decide) ?_
      refine lv_goto (tgt := 15) hx hb dX1_once_11 (by decide) ?_
      exact rg_e k (by first | rw [if_neg c_2] | simp only [if_neg c_2])
  refine lv_istore_n (lv' := [(3, .int y_1), (0, .ref h0), (1, .int a1), (2, .int a2)]) hx hb dX1_once_15 rfl hl (by decide) rfl (fun ls hl => ?_)
  refine lv_iload_n hx hb dX1_once_16 rfl (lv_at hl 3 rfl) ?_
  refine lv_iconst (v := 2) hx hb dX1_once_17 (by decide) ?_
  refine jr_row hx hb dX1_once_18 (by decide) ?_
  refine lv_iconst (v := 1) hx hb dX1_once_19 (by decide) ?_
  refine rg (J := 28) (st := []) (if (jr a2 2) = 1 then 1 else 0) (fun k => ?_) (fun y_3 ey_3 => ?_)
  · refine lv_icmp_ne (tgt := 27) hx hb dX1_once_20 (by decide) (fun c_4 => ?_) (fun c_4 => ?_)
    · refine lv_iconst (v := 0) hx hb dX1_once_27 (by decide) ?_
      exact rg_e k (by first | rw [if_neg c_4] | simp only [if_neg c_4])
    · refine lv_iconst (v := 1) hx hb dX1_once_23 (by decide) ?_
      refine lv_goto (tgt := 28) hx hb dX1_once_24 (by decide) ?_
      exact rg_e k (by first | rw [if_pos c_4] | simp only [if_pos c_4])
  refine lv_istore (lv' := [(4, .int y_3), (3, .int y_1), (0, .ref h0), (1, .int a1), (2, .int a2)]) hx hb dX1_once_28 hl (by decide) rfl (fun ls hl => ?_)
  refine lv_aload_n hx hb dX1_once_30 rfl (lv_at hl 2 rfl) ?_
  refine lv_iconst (v := 1) hx hb dX1_once_31 (by decide) ?_
  refine pu_calli (F := (f_X1_is fl 1)) (va_runV (As := [.int 1]) (rest := []) ⟨hx, hb, hml, hown, hts⟩ (p_X1_is l dC dI h0 _ cd fl al 1 (by decide)) (cwV 1 hts gX1_once_X1_is rfl rfl rfl (by decide +kernel) ⟨Nat.le_of_ble_eq_true rfl, Nat.le_of_ble_eq_true rfl⟩) (pu_preV (ci := 2) rfl hK hP) rfl rfl hl.1 rfl (lv_room (Nat.le_of_ble_eq_true rfl)) dX1_once_32 ⟨Nat.le_of_ble_eq_true rfl, Nat.le_of_ble_eq_true rfl⟩) ?_
  refine lv_topi (fun y_5 ey_5 => ?_)
  refine lv_istore (lv' := [(5, .int y_5), (4, .int y_3), (3, .int y_1), (0, .ref h0), (1, .int a1), (2, .int a2)]) hx hb dX1_once_35 hl (by decide) rfl (fun ls hl => ?_)
  refine lv_iload_n hx hb dX1_once_37 rfl (lv_at hl 4 rfl) ?_
  refine lv_iconst (v := 2) hx hb dX1_once_38 (by decide) ?_
  refine jr_row hx hb dX1_once_39 (by decide) ?_
  refine rg (J := 48) (st := []) (if (jr a1 2) = 0 then 1 else 0) (fun k => ?_) (fun y_6 ey_6 => ?_)
  · refine lv_if_ne (tgt := 47) hx hb dX1_once_40 (by decide) (fun c_7 => ?_) (fun c_7 => ?_)
    · refine lv_iconst (v := 0) hx hb dX1_once_47 (by decide) ?_
      exact rg_e k (by first | rw [if_neg c_7] | simp only [if_neg c_7])
    · refine lv_iconst (v := 1) hx hb dX1_once_43 (by decide) ?_
      refine lv_goto (tgt := 48) hx hb dX1_once_44 (by decide) ?_
      exact rg_e k (by first | rw [if_pos c_7] | simp only [if_pos c_7])
  refine lv_istore (lv' := [(6, .int y_6), (5, .int y_5), (4, .int y_3), (3, .int y_1), (0, .ref h0), (1, .int a1), (2, .int a2)]) hx hb dX1_once_48 hl (by decide) rfl (fun ls hl => ?_)
  refine lv_iload_n hx hb dX1_once_50 rfl (lv_at hl 5 rfl) ?_
  refine rg (J := 93) (st := []) (if a1 = 0 then y_1 else (if a1 = 1 then y_3 else (if 4 ≤ a1 then (if a1 = 7 then (if y_1 = 0 then 0 else 1) else 0) else y_5))) (fun k => ?_) (fun y_8 ey_8 => ?_)
  · refine lv_if_ne (tgt := 58) hx hb dX1_once_51 (by decide) (fun c_9 => ?_) (fun c_9 => ?_)
    · refine lv_iload_n hx hb dX1_once_58 rfl (lv_at hl 5 rfl) ?_
      refine lv_iconst (v := 1) hx hb dX1_once_59 (by decide) ?_
      refine lv_icmp_ne (tgt := 68) hx hb dX1_once_60 (by decide) (fun c_10 => ?_) (fun c_10 => ?_)
      · refine lv_iload_n hx hb dX1_once_68 rfl (lv_at hl 5 rfl) ?_
        refine lv_iconst (v := 4) hx hb dX1_once_69 (by decide) ?_
        refine lv_icmp_ge (tgt := 78) hx hb dX1_once_70 (by decide) (fun c_11 => ?_) (fun c_11 => ?_)
        · refine lv_iload_n hx hb dX1_once_78 rfl (lv_at hl 5 rfl) ?_
          refine lv_bipush (v := 7) hx hb dX1_once_79 (by decide +kernel) ?_
          refine lv_icmp_ne (tgt := 92) hx hb dX1_once_81 (by decide) (fun c_12 => ?_) (fun c_12 => ?_)
          · refine lv_iconst (v := 0) hx hb dX1_once_92 (by decide) ?_
            exact rg_e k (by first | rw [if_neg c_9, if_neg c_10, if_pos c_11, if_neg c_12] | simp only [if_neg c_9, if_neg c_10, if_pos c_11, if_neg c_12])
          · refine lv_iload_n hx hb dX1_once_84 rfl (lv_at hl 3 rfl) ?_
            refine lv_if_eq (tgt := 92) hx hb dX1_once_85 (by decide) (fun c_13 => ?_) (fun c_13 => ?_)
            · refine lv_iconst (v := 0) hx hb dX1_once_92 (by decide) ?_
              exact rg_e k (by first | rw [if_neg c_9, if_neg c_10, if_pos c_11, if_pos c_12, if_pos c_13] | simp only [if_neg c_9, if_neg c_10, if_pos c_11, if_pos c_12, if_pos c_13])
            · refine lv_iconst (v := 1) hx hb dX1_once_88 (by decide) ?_
              refine lv_goto (tgt := 93) hx hb dX1_once_89 (by decide) ?_
              exact rg_e k (by first | rw [if_neg c_9, if_neg c_10, if_pos c_11, if_pos c_12, if_neg c_13] | simp only [if_neg c_9, if_neg c_10, if_pos c_11, if_pos c_12, if_neg c_13])
        · refine lv_iload hx hb dX1_once_73 (lv_at hl 1 rfl) ?_
          refine lv_goto (tgt := 93) hx hb dX1_once_75 (by decide) ?_
          exact rg_e k (by first | rw [if_neg c_9, if_neg c_10, if_neg c_11] | simp only [if_neg c_9, if_neg c_10, if_neg c_11])
      · refine lv_iload hx hb dX1_once_63 (lv_at hl 2 rfl) ?_
        refine lv_goto (tgt := 93) hx hb dX1_once_65 (by decide) ?_
        exact rg_e k (by first | rw [if_neg c_9, if_pos c_10] | simp only [if_neg c_9, if_pos c_10])
    · refine lv_iload_n hx hb dX1_once_54 rfl (lv_at hl 3 rfl) ?_
      refine lv_goto (tgt := 93) hx hb dX1_once_55 (by decide) ?_
      exact rg_e k (by first | rw [if_pos c_9] | simp only [if_pos c_9])
  refine lv_istore (lv' := [(7, .int y_8), (6, .int y_6), (5, .int y_5), (4, .int y_3), (3, .int y_1), (0, .ref h0), (1, .int a1), (2, .int a2)]) hx hb dX1_once_93 hl (by decide) rfl (fun ls hl => ?_)
  refine lv_iload hx hb dX1_once_95 (lv_at hl 1 rfl) ?_
  refine rg (J := 141) (st := []) (if y_6 = 0 then (if y_8 = 0 then ((a2 / 2) + 0) else ((a2 / 2) + (al / 2))) else (if y_8 = 0 then ((jr (2 * a2) al) + 0) else ((jr (2 * a2) al) + 1))) (fun k => ?_) (fun y_14 ey_14 => ?_)
  · refine lv_if_eq (tgt := 122) hx hb dX1_once_97 (by decide) (fun c_15 => ?_) (fun c_15 => ?_)
    · refine lv_iload_n hx hb dX1_once_122 rfl (lv_at hl 7 rfl) ?_
      refine lv_iconst (v := 2) hx hb dX1_once_123 (by decide) ?_
      refine lv_idiv hx hb dX1_once_124 (by decide) ?_
      refine lv_iload hx hb dX1_once_125 (lv_at hl 0 rfl) ?_
      refine lv_if_eq (tgt := 139) hx hb dX1_once_127 (by decide) (fun c_16 => ?_) (fun c_16 => ?_)
      · refine lv_iconst (v := 0) hx hb dX1_once_139 (by decide) ?_
        refine lv_iadd hx hb dX1_once_140 ?_
        exact rg_e k (by first | rw [if_pos c_15, if_pos c_16] | simp only [if_pos c_15, if_pos c_16])
      · refine lv_aload_n hx hb dX1_once_130 rfl (lv_at hl 5 rfl) ?_
        refine va_get (D := (dC, dI)) (ci := 2) (v := .int al) (C := RX1) (T := TX1) (N := 3) hx hb hts (by decide +kernel) hown hK hP 0 rfl rfl 2 (by decide) (hts (.fieldLink RX1 14 "WordArithmeticModel" "all" "I") (by decide +kernel)) (fun _ h9 => h9) rfl dX1_once_131 ?_
        refine lv_iconst (v := 2) hx hb dX1_once_134 (by decide) ?_
        refine lv_idiv hx hb dX1_once_135 (by decide) ?_
        refine lv_goto (tgt := 140) hx hb dX1_once_136 (by decide) ?_
        refine lv_iadd hx hb dX1_once_140 ?_
        exact rg_e k (by first | rw [if_pos c_15, if_neg c_16] | simp only [if_pos c_15, if_neg c_16])
    · refine lv_iconst (v := 2) hx hb dX1_once_100 (by decide) ?_
      refine lv_iload_n hx hb dX1_once_101 rfl (lv_at hl 7 rfl) ?_
      refine lv_imul hx hb dX1_once_102 ?_
      refine lv_aload_n hx hb dX1_once_103 rfl (lv_at hl 5 rfl) ?_
      refine va_get (D := (dC, dI)) (ci := 2) (v := .int al) (C := RX1) (T := TX1) (N := 3) hx hb hts (by decide +kernel) hown hK hP 0 rfl rfl 2 (by decide) (hts (.fieldLink RX1 14 "WordArithmeticModel" "all" "I") (by decide +kernel)) (fun _ h9 => h9) rfl dX1_once_104 ?_
      refine jr_row hx hb dX1_once_107 (hal_0 hal) ?_
      refine lv_iload hx hb dX1_once_108 (lv_at hl 0 rfl) ?_
      refine lv_if_eq (tgt := 117) hx hb dX1_once_110 (by decide) (fun c_17 => ?_) (fun c_17 => ?_)
      · refine lv_iconst (v := 0) hx hb dX1_once_117 (by decide) ?_
        refine lv_iadd hx hb dX1_once_118 ?_
        refine lv_goto (tgt := 141) hx hb dX1_once_119 (by decide) ?_
        exact rg_e k (by first | rw [if_neg c_15, if_pos c_17] | simp only [if_neg c_15, if_pos c_17])
      · refine lv_iconst (v := 1) hx hb dX1_once_113 (by decide) ?_
        refine lv_goto (tgt := 118) hx hb dX1_once_114 (by decide) ?_
        refine lv_iadd hx hb dX1_once_118 ?_
        refine lv_goto (tgt := 141) hx hb dX1_once_119 (by decide) ?_
        exact rg_e k (by first | rw [if_neg c_15, if_neg c_17] | simp only [if_neg c_15, if_neg c_17])
  refine lv_istore (lv' := [(8, .int y_14), (7, .int y_8), (6, .int y_6), (5, .int y_5), (4, .int y_3), (3, .int y_1), (0, .ref h0), (1, .int a1), (2, .int a2)]) hx hb dX1_once_141 hl (by decide) rfl (fun ls hl => ?_)
  refine lv_aload_n hx hb dX1_once_143 rfl (lv_at hl 6 rfl) ?_
  refine lv_iconst (v := 1) hx hb dX1_once_144 (by decide) ?_
  refine lv_iload hx hb dX1_once_145 (lv_at hl 2 rfl) ?_
  refine rg (J := 156) (st := [.int 1, .ref h0]) (if y_6 = 0 then y_3 else y_1) (fun k => ?_) (fun y_18 ey_18 => ?_)
  · refine lv_if_eq (tgt := 154) hx hb dX1_once_147 (by decide) (fun c_19 => ?_) (fun c_19 => ?_)
    · refine lv_iload hx hb dX1_once_154 (lv_at hl 4 rfl) ?_
      exact rg_e k (by first | rw [if_pos c_19] | simp only [if_pos c_19])
    · refine lv_iload_n hx hb dX1_once_150 rfl (lv_at hl 5 rfl) ?_
      refine lv_goto (tgt := 156) hx hb dX1_once_151 (by decide) ?_
      exact rg_e k (by first | rw [if_neg c_19] | simp only [if_neg c_19])
  refine wr_callv (va_runV (As := [.int 1, .int y_18]) (rest := []) ⟨hx, hb, hml, hown, hts⟩ (p_X1_put l dC dI h0 _ cd fl al 1 y_18 (by decide)) (cwV 2 hts gX1_once_X1_put rfl rfl rfl (by decide +kernel) ⟨Nat.le_of_ble_eq_true rfl, Nat.le_of_ble_eq_true rfl⟩) (wr_preV (ci := 2) rfl hK hP hD) rfl rfl hl.1 rfl (lv_room (Nat.le_of_ble_eq_true rfl)) dX1_once_156 ⟨Nat.le_of_ble_eq_true rfl, Nat.le_of_ble_eq_true rfl⟩) hP hD hS hA (fun u_21 H locs eu_21 hP hD hS => ?_)
  have hP : va_P (dC, dI) vwCl [(h0, .inr (2, [.int cd, .int u_21, .int al]))] H := hP
  have hD : va_D A [(h0, .inr (2, [.int cd, .int u_21, .int al]))] := hD
  refine lv_iload hx hb dX1_once_159 (lv_at hl 0 rfl) ?_
  refine lv_aload_n hx hb dX1_once_161 rfl (lv_at hl 6 rfl) ?_
  refine va_get (D := (dC, dI)) (ci := 2) (v := .int al) (C := RX1) (T := TX1) (N := 3) hx hb hts (by decide +kernel) hown hK hP 0 rfl rfl 2 (by decide) (hts (.fieldLink RX1 14 "WordArithmeticModel" "all" "I") (by decide +kernel)) (fun _ h9 => h9) rfl dX1_once_162 ?_
  refine lv_iconst (v := 2) hx hb dX1_once_165 (by decide) ?_
  refine lv_idiv hx hb dX1_once_166 (by decide) ?_
  refine rg (J := 175) (st := []) (if y_14 < (al / 2) then 0 else 1) (fun k => ?_) (fun y_22 ey_22 => ?_)
  · refine lv_icmp_lt (tgt := 174) hx hb dX1_once_167 (by decide) (fun c_23 => ?_) (fun c_23 => ?_)
    · refine lv_iconst (v := 0) hx hb dX1_once_174 (by decide) ?_
      exact rg_e k (by first | rw [if_pos c_23] | simp only [if_pos c_23])
    · refine lv_iconst (v := 1) hx hb dX1_once_170 (by decide) ?_
      refine lv_goto (tgt := 175) hx hb dX1_once_171 (by decide) ?_
      exact rg_e k (by first | rw [if_neg c_23] | simp only [if_neg c_23])
  refine lv_istore (lv' := [(9, .int y_22), (8, .int y_14), (7, .int y_8), (6, .int y_6), (5, .int y_5), (4, .int y_3), (3, .int y_1), (0, .ref h0), (1, .int a1), (2, .int a2)]) hx hb dX1_once_175 hl (by decide) rfl (fun ls hl => ?_)
  refine lv_iload hx hb dX1_once_177 (lv_at hl 1 rfl) ?_
  refine lv_aload_n hx hb dX1_once_179 rfl (lv_at hl 7 rfl) ?_
  refine va_get (D := (dC, dI)) (ci := 2) (v := .int al) (C := RX1) (T := TX1) (N := 3) hx hb hts (by decide +kernel) hown hK hP 0 rfl rfl 2 (by decide) (hts (.fieldLink RX1 14 "WordArithmeticModel" "all" "I") (by decide +kernel)) (fun _ h9 => h9) rfl dX1_once_180 ?_
  refine lv_iconst (v := 2) hx hb dX1_once_183 (by decide) ?_
  refine lv_idiv hx hb dX1_once_184 (by decide) ?_
  refine jr_row hx hb dX1_once_185 (hal_2 hal) ?_
  refine lv_aload_n hx hb dX1_once_186 rfl (lv_at hl 7 rfl) ?_
  refine va_get (D := (dC, dI)) (ci := 2) (v := .int al) (C := RX1) (T := TX1) (N := 3) hx hb hts (by decide +kernel) hown hK hP 0 rfl rfl 2 (by decide) (hts (.fieldLink RX1 14 "WordArithmeticModel" "all" "I") (by decide +kernel)) (fun _ h9 => h9) rfl dX1_once_187 ?_
  refine lv_iconst (v := 4) hx hb dX1_once_190 (by decide) ?_
  refine lv_idiv hx hb dX1_once_191 (by decide) ?_
  refine rg (J := 200) (st := []) (if (jr y_14 (al / 2)) < (al / 4) then 0 else 1) (fun k => ?_) (fun y_24 ey_24 => ?_)
  · refine lv_icmp_lt (tgt := 199) hx hb dX1_once_192 (by decide) (fun c_25 => ?_) (fun c_25 => ?_)
    · refine lv_iconst (v := 0) hx hb dX1_once_199 (by decide) ?_
      exact rg_e k (by first | rw [if_pos c_25] | simp only [if_pos c_25])
    · refine lv_iconst (v := 1) hx hb dX1_once_195 (by decide) ?_
      refine lv_goto (tgt := 200) hx hb dX1_once_196 (by decide) ?_
      exact rg_e k (by first | rw [if_neg c_25] | simp only [if_neg c_25])
  refine lv_istore (lv' := [(10, .int y_24), (9, .int y_22), (8, .int y_14), (7, .int y_8), (6, .int y_6), (5, .int y_5), (4, .int y_3), (3, .int y_1), (0, .ref h0), (1, .int a1), (2, .int a2)]) hx hb dX1_once_200 hl (by decide) rfl (fun ls hl => ?_)
  refine lv_aload_n hx hb dX1_once_202 rfl (lv_at hl 8 rfl) ?_
  refine lv_sipush (v := 2048) hx hb dX1_once_203 (by decide +kernel) ?_
  refine lv_iload hx hb dX1_once_206 (lv_at hl 4 rfl) ?_
  refine rg (J := 263) (st := [.int 2048, .ref h0]) (if y_6 = 0 then (if 4 ≤ a1 then (if a1 = 5 then (if y_1 = 0 then 0 else 1) else 0) else (if y_22 = y_24 then 0 else 1)) else (if (f_X1_is u_21 1) = y_22 then 0 else 1)) (fun k => ?_) (fun y_26 ey_26 => ?_)
  · refine lv_if_eq (tgt := 229) hx hb dX1_once_208 (by decide) (fun c_27 => ?_) (fun c_27 => ?_)
    · refine lv_iload_n hx hb dX1_once_229 rfl (lv_at hl 9 rfl) ?_
      refine lv_iconst (v := 4) hx hb dX1_once_230 (by decide) ?_
      refine lv_icmp_ge (tgt := 249) hx hb dX1_once_231 (by decide) (fun c_28 => ?_) (fun c_28 => ?_)
      · refine lv_iload_n hx hb dX1_once_249 rfl (lv_at hl 9 rfl) ?_
        refine lv_iconst (v := 5) hx hb dX1_once_250 (by decide) ?_
        refine lv_icmp_ne (tgt := 262) hx hb dX1_once_251 (by decide) (fun c_29 => ?_) (fun c_29 => ?_)
        · refine lv_iconst (v := 0) hx hb dX1_once_262 (by decide) ?_
          exact rg_e k (by first | rw [if_pos c_27, if_pos c_28, if_neg c_29] | simp only [if_pos c_27, if_pos c_28, if_neg c_29])
        · refine lv_iload_n hx hb dX1_once_254 rfl (lv_at hl 7 rfl) ?_
          refine lv_if_eq (tgt := 262) hx hb dX1_once_255 (by decide) (fun c_30 => ?_) (fun c_30 => ?_)
          · refine lv_iconst (v := 0) hx hb dX1_once_262 (by decide) ?_
            exact rg_e k (by first | rw [if_pos c_27, if_pos c_28, if_pos c_29, if_pos c_30] | simp only [if_pos c_27, if_pos c_28, if_pos c_29, if_pos c_30])
          · refine lv_iconst (v := 1) hx hb dX1_once_258 (by decide) ?_
            refine lv_goto (tgt := 263) hx hb dX1_once_259 (by decide) ?_
            exact rg_e k (by first | rw [if_pos c_27, if_pos c_28, if_pos c_29, if_neg c_30] | simp only [if_pos c_27, if_pos c_28, if_pos c_29, if_neg c_30])
      · refine lv_iload hx hb dX1_once_234 (lv_at hl 1 rfl) ?_
        refine lv_iload hx hb dX1_once_236 (lv_at hl 0 rfl) ?_
        refine lv_icmp_eq (tgt := 245) hx hb dX1_once_238 (by decide) (fun c_31 => ?_) (fun c_31 => ?_)
        · refine lv_iconst (v := 0) hx hb dX1_once_245 (by decide) ?_
          refine lv_goto (tgt := 263) hx hb dX1_once_246 (by decide) ?_
          exact rg_e k (by first | rw [if_pos c_27, if_neg c_28, if_pos c_31] | simp only [if_pos c_27, if_neg c_28, if_pos c_31])
        · refine lv_iconst (v := 1) hx hb dX1_once_241 (by decide) ?_
          refine lv_goto (tgt := 263) hx hb dX1_once_242 (by decide) ?_
          exact rg_e k (by first | rw [if_pos c_27, if_neg c_28, if_neg c_31] | simp only [if_pos c_27, if_neg c_28, if_neg c_31])
    · refine lv_aload_n hx hb dX1_once_211 rfl (lv_at hl 8 rfl) ?_
      refine lv_iconst (v := 1) hx hb dX1_once_212 (by decide) ?_
      refine pu_calli (F := (f_X1_is u_21 1)) (va_runV (As := [.int 1]) (rest := [.int 2048, .ref h0]) ⟨hx, hb, hml, hown, hts⟩ (p_X1_is l dC dI h0 _ cd u_21 al 1 (by decide)) (cwV 1 hts gX1_once_X1_is rfl rfl rfl (by decide +kernel) ⟨Nat.le_of_ble_eq_true rfl, Nat.le_of_ble_eq_true rfl⟩) (pu_preV (ci := 2) rfl hK hP) rfl rfl hl.1 rfl (lv_room (Nat.le_of_ble_eq_true rfl)) dX1_once_213 ⟨Nat.le_of_ble_eq_true rfl, Nat.le_of_ble_eq_true rfl⟩) ?_
      refine lv_iload hx hb dX1_once_216 (lv_at hl 1 rfl) ?_
      refine lv_icmp_eq (tgt := 225) hx hb dX1_once_218 (by decide) (fun c_32 => ?_) (fun c_32 => ?_)
      · refine lv_iconst (v := 0) hx hb dX1_once_225 (by decide) ?_
        refine lv_goto (tgt := 263) hx hb dX1_once_226 (by decide) ?_
        exact rg_e k (by first | rw [if_neg c_27, if_pos c_32] | simp only [if_neg c_27, if_pos c_32])
      · refine lv_iconst (v := 1) hx hb dX1_once_221 (by decide) ?_
        refine lv_goto (tgt := 263) hx hb dX1_once_222 (by decide) ?_
        exact rg_e k (by first | rw [if_neg c_27, if_neg c_32] | simp only [if_neg c_27, if_neg c_32])
  refine wr_callv (va_runV (As := [.int 2048, .int y_26]) (rest := []) ⟨hx, hb, hml, hown, hts⟩ (p_X1_put l dC dI h0 _ cd u_21 al 2048 y_26 (by decide)) (cwV 2 hts gX1_once_X1_put rfl rfl rfl (by decide +kernel) ⟨Nat.le_of_ble_eq_true rfl, Nat.le_of_ble_eq_true rfl⟩) (wr_preV (ci := 2) rfl hK hP hD) rfl rfl hl.1 rfl (lv_room (Nat.le_of_ble_eq_true rfl)) dX1_once_263 ⟨Nat.le_of_ble_eq_true rfl, Nat.le_of_ble_eq_true rfl⟩) hP hD hS hA (fun u_34 H locs eu_34 hP hD hS => ?_)
  have hP : va_P (dC, dI) vwCl [(h0, .inr (2, [.int cd, .int u_34, .int al]))] H := hP
  have hD : va_D A [(h0, .inr (2, [.int cd, .int u_34, .int al]))] := hD
  refine lv_iload_n hx hb dX1_once_266 rfl (lv_at hl 9 rfl) ?_
  refine lv_iconst (v := 3) hx hb dX1_once_267 (by decide) ?_
  refine lv_icmp_le (tgt := 277) hx hb dX1_once_268 (by decide) (fun c_35 => ?_) (fun c_35 => ?_)
  · refine lv_iload hx hb dX1_once_277 (lv_at hl 2 rfl) ?_
    exact W.iret (v := y_14) hx hb hr (fun t ht hW => ⟨⟨y_14, u_34, rfl, ⟨(by subst ey_1; subst ey_3; subst ey_5; subst ey_6; subst ey_8; subst ey_14; subst ey_18; subst eu_21; subst ey_22; subst ey_24; subst ey_26; subst eu_34; simp only [f_X1_once, if_pos c_35]), (by subst ey_1; subst ey_3; subst ey_5; subst ey_6; subst ey_8; subst ey_14; subst ey_18; subst eu_21; subst ey_22; subst ey_24; subst ey_26; subst eu_34; simp only [f_X1_once, if_pos c_35])⟩, by rw [ht]; exact hP, va_K.moved hW.alike hK, hD⟩, hS.F ht⟩) hS.2.2 dX1_once_279
  · refine lv_aload_n hx hb dX1_once_271 rfl (lv_at hl 8 rfl) ?_
    refine lv_iload hx hb dX1_once_272 (lv_at hl 2 rfl) ?_
    refine wr_callv (va_runV (As := [.int y_14]) (rest := []) ⟨hx, hb, hml, hown, hts⟩ (p_X1_byAnswer l dC dI h0 _ cd u_34 al y_14) (cwV 1 hts gX1_once_X1_byAnswer rfl rfl rfl (by decide +kernel) ⟨Nat.le_of_ble_eq_true rfl, Nat.le_of_ble_eq_true rfl⟩) (wr_preV (ci := 2) rfl hK hP hD) rfl rfl hl.1 rfl (lv_room (Nat.le_of_ble_eq_true rfl)) dX1_once_274 ⟨Nat.le_of_ble_eq_true rfl, Nat.le_of_ble_eq_true rfl⟩) hP hD hS hA (fun u_37 H locs eu_37 hP hD hS => ?_)
    have hP : va_P (dC, dI) vwCl [(h0, .inr (2, [.int cd, .int u_37, .int al]))] H := hP
    have hD : va_D A [(h0, .inr (2, [.int cd, .int u_37, .int al]))] := hD
    refine lv_iload hx hb dX1_once_277 (lv_at hl 2 rfl) ?_
    exact W.iret (v := y_14) hx hb hr (fun t ht hW => ⟨⟨y_14, u_37, rfl, ⟨(by subst ey_1; subst ey_3; subst ey_5; subst ey_6; subst ey_8; subst ey_14; subst ey_18; subst eu_21; subst ey_22; subst ey_24; subst ey_26; subst eu_34; subst eu_37; simp only [f_X1_once, if_neg c_35]), (by subst ey_1; subst ey_3; subst ey_5; subst ey_6; subst ey_8; subst ey_14; subst ey_18; subst eu_21; subst ey_22; subst ey_24; subst ey_26; subst eu_34; subst eu_37; simp only [f_X1_once, if_neg c_35])⟩, by rw [ht]; exact hP, va_K.moved hW.alike hK, hD⟩, hS.F ht⟩) hS.2.2 dX1_once_279

/-- what X1_multiply answers -/
def f_X1_multiply (fl : Int32) (a1 : Int32) (a2 : Int32) (a3 : Int32) (a4 : Int32) : Int32 × (Int32 × Int32 × Int32) :=
  let u_2 : Int32 := (f_X1_length a1)
  let y_3 : Int32 := (f_X1_operand u_2 a3)
  let y_4 : Int32 := (f_X1_operand u_2 a4)
  let y_5 : Int64 := (if a2 = 0 then (((y_3 : Int32).toInt64) * ((y_4 : Int32).toInt64)) else ((((f_X1_signed u_2 y_3) : Int32).toInt64) * (((f_X1_signed u_2 y_4) : Int32).toInt64)))
  let y_7 : Int64 := (((u_2 : Int32).toInt64) * ((u_2 : Int32).toInt64))
  let y_8 : Int64 := (if 0 ≤ (lg_cmp y_5 0) then y_5 else (y_5 + y_7))
  let y_10 : Int32 := (((jrL y_8 ((u_2 : Int32).toInt64)) : Int64).toInt32)
  let y_11 : Int32 := (if a2 = 0 then y_10 else (f_X1_signed u_2 y_10))
  let y_13 : Int32 := (if (lg_cmp y_5 ((y_11 : Int32).toInt64)) = 0 then 0 else 1)
  let u_16 : Int32 := (f_X1_put fl 1 y_13)
  let u_18 : Int32 := (f_X1_put u_16 2048 y_13)
  (((y_8 : Int64).toInt32), (0, u_18, u_2))
set_option maxHeartbeats 4000000 in
set_option maxRecDepth 100000 in
theorem p_X1_multiply (l : Launch) (dC : Nat → ClassId) (dI : Nat → Nat → Nat) (h0 : Nat) (sz : Nat) (cd : Int32) (fl : Int32) (al : Int32) (a1 : Int32) (a2 : Int32) (a3 : Int32) (a4 : Int32) : Met l yX1_multiply wsX1_multiply ({ frames := 2, cells := 0, slots := 0, locals := 43 }) (va_Pc [.ref h0, .int a1, .int a2, .int a3, .int a4] (wr_pre (dC, dI) 2 h0 sz [.int cd, .int fl, .int al])) (va_Qi (fun (r : Int32) (u : Int32 × Int32 × Int32) => r = (f_X1_multiply fl a1 a2 a3 a4).1 ∧ u = (f_X1_multiply fl a1 a2 a3 a4).2) (wr_at (dC, dI) 2 h0 (fun u : Int32 × Int32 × Int32 => [.int u.1, .int u.2.1, .int u.2.2]) (wr_A 2 h0 sz [.int cd, .int fl, .int al])) (wr_A 2 h0 sz [.int cd, .int fl, .int al])) 0 0 (wr_A 2 h0 sz [.int cd, .int fl, .int al]) := by
  refine Met.ofW (cc := cX1_multiply) (maxL := 15) (ret := (some .int)) (by decide) rfl ?_
  intro p e s m args below meth c s₁ B hml hv
  obtain ⟨rfl, hsz, hP, hK, hD0⟩ := hv
  have hx := B.exec
  have hb := B.bytes
  have hr := B.returns
  have hts := atoms_spec (ws := wsX1_multiply) B.pre
  have hown : s.vm.findClass RX1 = some m.cls := findClass_of_methodNamed B.named
  have hlocks := B.notSynchronized
  subst hsz
  have hD : va_D (wr_A 2 h0 s.heap.size [.int cd, .int fl, .int al]) [(h0, .inr (2, [.int cd, .int fl, .int al]))] := hD0.self (sz := s.heap.size)
  generalize hAe : wr_A 2 h0 s.heap.size [.int cd, .int fl, .int al] = A at hD ⊢
  have hA : ∀ q : Nat, s.heap.size ≤ q → A q := fun q h => by rw [← hAe]; exact Or.inr h
  have hS : va_S A s.heap s.heap [] := va_S.rf
  have hP : va_P (dC, dI) vwCl [(h0, .inr (2, [.int cd, .int fl, .int al]))] s.heap := hP
  have hD : va_D A [(h0, .inr (2, [.int cd, .int fl, .int al]))] := hD
  have hl := lv_entry ([.ref h0, .int a1, .int a2, .int a3, .int a4]) (n := 15) (Nat.le_of_ble_eq_true rfl)
  rw [lg_entry_eq]
  generalize (lg_sl ([.ref h0, .int a1, .int a2, .int a3, .int a4]) ++ List.replicate (15 - (lg_sl ([.ref h0, .int a1, .int a2, .int a3, .int a4])).length) Slot.unset).toArray = ls at hl ⊢
  have hl : lv_has ls 15 [(0, .ref h0), (1, .int a1), (2, .int a2), (3, .int a3), (4, .int a4)] := hl
  refine lv_aload_n hx hb dX1_multiply_0 rfl (lv_at hl 0 rfl) ?_
  refine lv_iconst (v := 0) hx hb dX1_multiply_1 (by decide) ?_
  refine va_put (D := (dC, dI)) (ci := 2) (v := .int 0) (ty := .int) (C := RX1) (T := TX1) (N := 3) hx hb hts (by decide +kernel) tyX1 tyX1_ok nmX1 hown hK hP hD hS 0 rfl rfl 0 (by decide) (hts (.fieldLink RX1 7 "WordArithmeticModel" "code" "I") (by decide +kernel)) (fun _ h9 => h9) rfl (by decide +kernel) rfl rfl (Nat.le_of_ble_eq_true rfl) dX1_multiply_2 (fun H locs hP hD hS => ?_)
  have hP : va_P (dC, dI) vwCl [(h0, .inr (2, [.int 0, .int fl, .int al]))] H := hP
  have hD : va_D A [(h0, .inr (2, [.int 0, .int fl, .int al]))] := hD
  refine lv_aload_n hx hb dX1_multiply_5 rfl (lv_at hl 0 rfl) ?_
  refine lv_iload_n hx hb dX1_multiply_6 rfl (lv_at hl 1 rfl) ?_
  refine wr_callv (va_runV (As := [.int a1]) (rest := []) ⟨hx, hb, hml, hown, hts⟩ (p_X1_length l dC dI h0 _ 0 fl al a1) (cwV 1 hts gX1_multiply_X1_length rfl rfl rfl (by decide +kernel) ⟨Nat.le_of_ble_eq_true rfl, Nat.le_of_ble_eq_true rfl⟩) (wr_preV (ci := 2) rfl hK hP hD) rfl rfl hl.1 rfl (lv_room (Nat.le_of_ble_eq_true rfl)) dX1_multiply_7 ⟨Nat.le_of_ble_eq_true rfl, Nat.le_of_ble_eq_true rfl⟩) hP hD hS hA (fun u_2 H locs eu_2 hP hD hS => ?_)
  have hP : va_P (dC, dI) vwCl [(h0, .inr (2, [.int 0, .int fl, .int u_2]))] H := hP
  have hD : va_D A [(h0, .inr (2, [.int 0, .int fl, .int u_2]))] := hD
  refine lv_aload_n hx hb dX1_multiply_10 rfl (lv_at hl 0 rfl) ?_
  refine lv_iload_n hx hb dX1_multiply_11 rfl (lv_at hl 3 rfl) ?_
  refine pu_calli (F := (f_X1_operand u_2 a3)) (va_runV (As := [.int a3]) (rest := []) ⟨hx, hb, hml, hown, hts⟩ (p_X1_operand l dC dI h0 _ 0 fl u_2 a3) (cwV 1 hts gX1_multiply_X1_operand rfl rfl rfl (by decide +kernel) ⟨Nat.le_of_ble_eq_true rfl, Nat.le_of_ble_eq_true rfl⟩) (pu_preV (ci := 2) rfl hK hP) rfl rfl hl.1 rfl (lv_room (Nat.le_of_ble_eq_true rfl)) dX1_multiply_12 ⟨Nat.le_of_ble_eq_true rfl, Nat.le_of_ble_eq_true rfl⟩) ?_
  refine lv_topi (fun y_3 ey_3 => ?_)
  refine lv_istore (lv' := [(5, .int y_3), (0, .ref h0), (1, .int a1), (2, .int a2), (3, .int a3), (4, .int a4)]) hx hb dX1_multiply_15 hl (by decide) rfl (fun ls hl => ?_)
  refine lv_aload_n hx hb dX1_multiply_17 rfl (lv_at hl 1 rfl) ?_
  refine lv_iload hx hb dX1_multiply_18 (lv_at hl 5 rfl) ?_
  refine pu_calli (F := (f_X1_operand u_2 a4)) (va_runV (As := [.int a4]) (rest := []) ⟨hx, hb, hml, hown, hts⟩ (p_X1_operand l dC dI h0 _ 0 fl u_2 a4) (cwV 1 hts gX1_multiply_X1_operand rfl rfl rfl (by decide +kernel) ⟨Nat.le_of_ble_eq_true rfl, Nat.le_of_ble_eq_true rfl⟩) (pu_preV (ci := 2) rfl hK hP) rfl rfl hl.1 rfl (lv_room (Nat.le_of_ble_eq_true rfl)) dX1_multiply_20 ⟨Nat.le_of_ble_eq_true rfl, Nat.le_of_ble_eq_true rfl⟩) ?_
  refine lv_topi (fun y_4 ey_4 => ?_)
  refine lv_istore (lv' := [(6, .int y_4), (5, .int y_3), (0, .ref h0), (1, .int a1), (2, .int a2), (3, .int a3), (4, .int a4)]) hx hb dX1_multiply_23 hl (by decide) rfl (fun ls hl => ?_)
  refine lv_iload_n hx hb dX1_multiply_25 rfl (lv_at hl 4 rfl) ?_
  refine rgL (J := 54) (st := []) (if a2 = 0 then (((y_3 : Int32).toInt64) * ((y_4 : Int32).toInt64)) else ((((f_X1_signed u_2 y_3) : Int32).toInt64) * (((f_X1_signed u_2 y_4) : Int32).toInt64))) (fun k => ?_) (fun y_5 ey_5 => ?_)
  · refine lv_if_eq (tgt := 47) hx hb dX1_multiply_26 (by decide) (fun c_6 => ?_) (fun c_6 => ?_)
    · refine lv_iload hx hb dX1_multiply_47 (lv_at hl 1 rfl) ?_
      refine lv_i2l (v := (y_3 : Int32).toInt64) hx hb dX1_multiply_49 rfl ?_
      refine lv_iload hx hb dX1_multiply_50 (lv_at hl 0 rfl) ?_
      refine lv_i2l (v := (y_4 : Int32).toInt64) hx hb dX1_multiply_52 rfl ?_
      refine lv_lmul hx hb dX1_multiply_53 ?_
      exact rgL_e k (by first | rw [if_pos c_6] | simp only [if_pos c_6])
    · refine lv_aload_n hx hb dX1_multiply_29 rfl (lv_at hl 2 rfl) ?_
      refine lv_iload hx hb dX1_multiply_30 (lv_at hl 1 rfl) ?_
      refine pu_calli (F := (f_X1_signed u_2 y_3)) (va_runV (As := [.int y_3]) (rest := []) ⟨hx, hb, hml, hown, hts⟩ (p_X1_signed l dC dI h0 _ 0 fl u_2 y_3) (cwV 1 hts gX1_multiply_X1_signed rfl rfl rfl (by decide +kernel) ⟨Nat.le_of_ble_eq_true rfl, Nat.le_of_ble_eq_true rfl⟩) (pu_preV (ci := 2) rfl hK hP) rfl rfl hl.1 rfl (lv_room (Nat.le_of_ble_eq_true rfl)) dX1_multiply_32 ⟨Nat.le_of_ble_eq_true rfl, Nat.le_of_ble_eq_true rfl⟩) ?_
      refine lv_i2l (v := ((f_X1_signed u_2 y_3) : Int32).toInt64) hx hb dX1_multiply_35 rfl ?_
      refine lv_aload_n hx hb dX1_multiply_36 rfl (lv_at hl 2 rfl) ?_
      refine lv_iload hx hb dX1_multiply_37 (lv_at hl 0 rfl) ?_
      refine pu_calli (F := (f_X1_signed u_2 y_4)) (va_runV (As := [.int y_4]) (rest := [.long (((f_X1_signed u_2 y_3) : Int32).toInt64)]) ⟨hx, hb, hml, hown, hts⟩ (p_X1_signed l dC dI h0 _ 0 fl u_2 y_4) (cwV 1 hts gX1_multiply_X1_signed rfl rfl rfl (by decide +kernel) ⟨Nat.le_of_ble_eq_true rfl, Nat.le_of_ble_eq_true rfl⟩) (pu_preV (ci := 2) rfl hK hP) rfl rfl hl.1 rfl (lv_room (Nat.le_of_ble_eq_true rfl)) dX1_multiply_39 ⟨Nat.le_of_ble_eq_true rfl, Nat.le_of_ble_eq_true rfl⟩) ?_
      refine lv_i2l (v := ((f_X1_signed u_2 y_4) : Int32).toInt64) hx hb dX1_multiply_42 rfl ?_
      refine lv_lmul hx hb dX1_multiply_43 ?_
      refine lv_goto (tgt := 54) hx hb dX1_multiply_44 (by decide) ?_
      exact rgL_e k (by first | rw [if_neg c_6] | simp only [if_neg c_6])
  refine lv_lstore (lv' := [(7, .long y_5), (6, .int y_4), (5, .int y_3), (0, .ref h0), (1, .int a1), (2, .int a2), (3, .int a3), (4, .int a4)]) hx hb dX1_multiply_54 hl (by decide) rfl (fun ls hl => ?_)
  refine lv_aload_n hx hb dX1_multiply_56 rfl (lv_at hl 3 rfl) ?_
  refine va_get (D := (dC, dI)) (ci := 2) (v := .int u_2) (C := RX1) (T := TX1) (N := 3) hx hb hts (by decide +kernel) hown hK hP 0 rfl rfl 2 (by decide) (hts (.fieldLink RX1 14 "WordArithmeticModel" "all" "I") (by decide +kernel)) (fun _ h9 => h9) rfl dX1_multiply_57 ?_
  refine lv_i2l (v := (u_2 : Int32).toInt64) hx hb dX1_multiply_60 rfl ?_
  refine lv_aload_n hx hb dX1_multiply_61 rfl (lv_at hl 3 rfl) ?_
  refine va_get (D := (dC, dI)) (ci := 2) (v := .int u_2) (C := RX1) (T := TX1) (N := 3) hx hb hts (by decide +kernel) hown hK hP 0 rfl rfl 2 (by decide) (hts (.fieldLink RX1 14 "WordArithmeticModel" "all" "I") (by decide +kernel)) (fun _ h9 => h9) rfl dX1_multiply_62 ?_
  refine lv_i2l (v := (u_2 : Int32).toInt64) hx hb dX1_multiply_65 rfl ?_
  refine lv_lmul hx hb dX1_multiply_66 ?_
  refine lv_topl (fun y_7 ey_7 => ?_)
  refine lv_lstore (lv' := [(9, .long y_7), (7, .long y_5), (6, .int y_4), (5, .int y_3), (0, .ref h0), (1, .int a1), (2, .int a2), (3, .int a3), (4, .int a4)]) hx hb dX1_multiply_67 hl (by decide) rfl (fun ls hl => ?_)
  refine lv_lload hx hb dX1_multiply_69 (lv_at hl 1 rfl) ?_
  refine lv_lconst (v := 0) hx hb dX1_multiply_71 (by decide +kernel) ?_
  refine W.lcmp hx hb dX1_multiply_72 ?_
  refine rgL (J := 86) (st := []) (if 0 ≤ (lg_cmp y_5 0) then y_5 else (y_5 + y_7)) (fun k => ?_) (fun y_8 ey_8 => ?_)
  · refine lv_if_ge (tgt := 84) hx hb dX1_multiply_73 (by decide) (fun c_9 => ?_) (fun c_9 => ?_)
    · refine lv_lload hx hb dX1_multiply_84 (lv_at hl 1 rfl) ?_
      exact rgL_e k (by first | rw [if_pos c_9] | simp only [if_pos c_9])
    · refine lv_lload hx hb dX1_multiply_76 (lv_at hl 1 rfl) ?_
      refine lv_lload hx hb dX1_multiply_78 (lv_at hl 0 rfl) ?_
      refine lv_ladd hx hb dX1_multiply_80 ?_
      refine lv_goto (tgt := 86) hx hb dX1_multiply_81 (by decide) ?_
      exact rgL_e k (by first | rw [if_neg c_9] | simp only [if_neg c_9])
  refine lv_lstore (lv' := [(11, .long y_8), (9, .long y_7), (7, .long y_5), (6, .int y_4), (5, .int y_3), (0, .ref h0), (1, .int a1), (2, .int a2), (3, .int a3), (4, .int a4)]) hx hb dX1_multiply_86 hl (by decide) rfl (fun ls hl => ?_)
  refine lv_lload hx hb dX1_multiply_88 (lv_at hl 0 rfl) ?_
  refine lv_aload_n hx hb dX1_multiply_90 rfl (lv_at hl 5 rfl) ?_
  refine va_get (D := (dC, dI)) (ci := 2) (v := .int u_2) (C := RX1) (T := TX1) (N := 3) hx hb hts (by decide +kernel) hown hK hP 0 rfl rfl 2 (by decide) (hts (.fieldLink RX1 14 "WordArithmeticModel" "all" "I") (by decide +kernel)) (fun _ h9 => h9) rfl dX1_multiply_91 ?_
  refine lv_i2l (v := (u_2 : Int32).toInt64) hx hb dX1_multiply_94 rfl ?_
  refine jrL_row hx hb dX1_multiply_95 (hal_L (hal_len eu_2)) ?_
  refine lv_l2i (v := ((jrL y_8 ((u_2 : Int32).toInt64)) : Int64).toInt32) hx hb dX1_multiply_96 rfl ?_
  refine lv_topi (fun y_10 ey_10 => ?_)
  refine lv_istore (lv' := [(13, .int y_10), (11, .long y_8), (9, .long y_7), (7, .long y_5), (6, .int y_4), (5, .int y_3), (0, .ref h0), (1, .int a1), (2, .int a2), (3, .int a3), (4, .int a4)]) hx hb dX1_multiply_97 hl (by decide) rfl (fun ls hl => ?_)
  refine lv_lload hx hb dX1_multiply_99 (lv_at hl 3 rfl) ?_
  refine lv_iload_n hx hb dX1_multiply_101 rfl (lv_at hl 8 rfl) ?_
  refine rg (J := 116) (st := [.long y_5]) (if a2 = 0 then y_10 else (f_X1_signed u_2 y_10)) (fun k => ?_) (fun y_11 ey_11 => ?_)
  · refine lv_if_eq (tgt := 114) hx hb dX1_multiply_102 (by decide) (fun c_12 => ?_) (fun c_12 => ?_)
    · refine lv_iload hx hb dX1_multiply_114 (lv_at hl 0 rfl) ?_
      exact rg_e k (by first | rw [if_pos c_12] | simp only [if_pos c_12])
    · refine lv_aload_n hx hb dX1_multiply_105 rfl (lv_at hl 6 rfl) ?_
      refine lv_iload hx hb dX1_multiply_106 (lv_at hl 0 rfl) ?_
      refine pu_calli (F := (f_X1_signed u_2 y_10)) (va_runV (As := [.int y_10]) (rest := [.long y_5]) ⟨hx, hb, hml, hown, hts⟩ (p_X1_signed l dC dI h0 _ 0 fl u_2 y_10) (cwV 1 hts gX1_multiply_X1_signed rfl rfl rfl (by decide +kernel) ⟨Nat.le_of_ble_eq_true rfl, Nat.le_of_ble_eq_true rfl⟩) (pu_preV (ci := 2) rfl hK hP) rfl rfl hl.1 rfl (lv_room (Nat.le_of_ble_eq_true rfl)) dX1_multiply_108 ⟨Nat.le_of_ble_eq_true rfl, Nat.le_of_ble_eq_true rfl⟩) ?_
      refine lv_goto (tgt := 116) hx hb dX1_multiply_111 (by decide) ?_
      exact rg_e k (by first | rw [if_neg c_12] | simp only [if_neg c_12])
  refine lv_i2l (v := (y_11 : Int32).toInt64) hx hb dX1_multiply_116 rfl ?_
  refine W.lcmp hx hb dX1_multiply_117 ?_
  refine rg (J := 126) (st := []) (if (lg_cmp y_5 ((y_11 : Int32).toInt64)) = 0 then 0 else 1) (fun k => ?_) (fun y_13 ey_13 => ?_)
  · refine lv_if_eq (tgt := 125) hx hb dX1_multiply_118 (by decide) (fun c_14 => ?_) (fun c_14 => ?_)
    · refine lv_iconst (v := 0) hx hb dX1_multiply_125 (by decide) ?_
      exact rg_e k (by first | rw [if_pos c_14] | simp only [if_pos c_14])
    · refine lv_iconst (v := 1) hx hb dX1_multiply_121 (by decide) ?_
      refine lv_goto (tgt := 126) hx hb dX1_multiply_122 (by decide) ?_
      exact rg_e k (by first | rw [if_neg c_14] | simp only [if_neg c_14])
  refine lv_istore (lv' := [(14, .int y_13), (13, .int y_10), (11, .long y_8), (9, .long y_7), (7, .long y_5), (6, .int y_4), (5, .int y_3), (0, .ref h0), (1, .int a1), (2, .int a2), (3, .int a3), (4, .int a4)]) hx hb dX1_multiply_126 hl (by decide) rfl (fun ls hl => ?_)
  refine lv_aload_n hx hb dX1_multiply_128 rfl (lv_at hl 7 rfl) ?_
  refine lv_iconst (v := 1) hx hb dX1_multiply_129 (by decide) ?_
  refine lv_iload hx hb dX1_multiply_130 (lv_at hl 0 rfl) ?_
  refine wr_callv (va_runV (As := [.int 1, .int y_13]) (rest := []) ⟨hx, hb, hml, hown, hts⟩ (p_X1_put l dC dI h0 _ 0 fl u_2 1 y_13 (by decide)) (cwV 2 hts gX1_multiply_X1_put rfl rfl rfl (by decide +kernel) ⟨Nat.le_of_ble_eq_true rfl, Nat.le_of_ble_eq_true rfl⟩) (wr_preV (ci := 2) rfl hK hP hD) rfl rfl hl.1 rfl (lv_room (Nat.le_of_ble_eq_true rfl)) dX1_multiply_132 ⟨Nat.le_of_ble_eq_true rfl, Nat.le_of_ble_eq_true rfl⟩) hP hD hS hA (fun u_16 H locs eu_16 hP hD hS => ?_)
  have hP : va_P (dC, dI) vwCl [(h0, .inr (2, [.int 0, .int u_16, .int u_2]))] H := hP
  have hD : va_D A [(h0, .inr (2, [.int 0, .int u_16, .int u_2]))] := hD
  refine lv_aload_n hx hb dX1_multiply_135 rfl (lv_at hl 7 rfl) ?_
  refine lv_sipush (v := 2048) hx hb dX1_multiply_136 (by decide +kernel) ?_
  refine lv_iload hx hb dX1_multiply_139 (lv_at hl 0 rfl) ?_
  refine wr_callv (va_runV (As := [.int 2048, .int y_13]) (rest := []) ⟨hx, hb, hml, hown, hts⟩ (p_X1_put l dC dI h0 _ 0 u_16 u_2 2048 y_13 (by decide)) (cwV 2 hts gX1_multiply_X1_put rfl rfl rfl (by decide +kernel) ⟨Nat.le_of_ble_eq_true rfl, Nat.le_of_ble_eq_true rfl⟩) (wr_preV (ci := 2) rfl hK hP hD) rfl rfl hl.1 rfl (lv_room (Nat.le_of_ble_eq_true rfl)) dX1_multiply_141 ⟨Nat.le_of_ble_eq_true rfl, Nat.le_of_ble_eq_true rfl⟩) hP hD hS hA (fun u_18 H locs eu_18 hP hD hS => ?_)
  have hP : va_P (dC, dI) vwCl [(h0, .inr (2, [.int 0, .int u_18, .int u_2]))] H := hP
  have hD : va_D A [(h0, .inr (2, [.int 0, .int u_18, .int u_2]))] := hD
  refine lv_lload hx hb dX1_multiply_144 (lv_at hl 2 rfl) ?_
  refine lv_l2i (v := (y_8 : Int64).toInt32) hx hb dX1_multiply_146 rfl ?_
  exact W.iret (v := ((y_8 : Int64).toInt32)) hx hb hr (fun t ht hW => ⟨⟨((y_8 : Int64).toInt32), (0, u_18, u_2), rfl, ⟨(by subst eu_2; subst ey_3; subst ey_4; subst ey_5; subst ey_7; subst ey_8; subst ey_10; subst ey_11; subst ey_13; subst eu_16; subst eu_18; simp only [f_X1_multiply]), (by subst eu_2; subst ey_3; subst ey_4; subst ey_5; subst ey_7; subst ey_8; subst ey_10; subst ey_11; subst ey_13; subst eu_16; subst eu_18; simp only [f_X1_multiply])⟩, by rw [ht]; exact hP, va_K.moved hW.alike hK, hD⟩, hS.F ht⟩) hS.2.2 dX1_multiply_147

/-- what X1_divide answers -/
def f_X1_divide (a1 : Int32) (a2 : Int32) (a3 : Int32) (a4 : Int32) : Int32 × (Int32 × Int32) :=
  let u_2 : Int32 := (f_X1_length a1)
  let y_3 : Int64 := (((u_2 : Int32).toInt64) * ((u_2 : Int32).toInt64))
  let y_4 : Int64 := (((a3 : Int32).toInt64) &&& (y_3 - 1))
  let y_5 : Int64 := (if a2 = 0 then y_4 else (if (lg_cmp y_4 (y_3 / 2)) < 0 then y_4 else (y_4 - y_3)))
  let y_8 : Int32 := (f_X1_operand u_2 a4)
  let y_9 : Int64 := (if a2 = 0 then ((y_8 : Int32).toInt64) else (((f_X1_signed u_2 y_8) : Int32).toInt64))
  let y_11 : Int64 := (if (lg_cmp y_9 0) = 0 then 0 else (y_5 / y_9))
  let y_13 : Int32 := (if (lg_cmp y_9 0) = 0 then 0 else (if a2 = 0 then (if 0 ≤ (lg_cmp y_11 ((u_2 : Int32).toInt64)) then 0 else 1) else (if 0 ≤ (lg_cmp y_11 (((u_2 / 2) : Int32).toInt64)) then 0 else (if (lg_cmp y_11 ((((-u_2) / 2) : Int32).toInt64)) ≤ 0 then 0 else 1))))
  let y_19 : Int32 := (if y_13 = 0 then 1 else 0)
  if y_19 ≤ 0 then
  (let y_22 : Int64 := (y_5 - (y_11 * y_9))
  let y_23 : Int64 := (if 0 ≤ (lg_cmp y_22 0) then y_22 else (y_22 + ((u_2 : Int32).toInt64)))
  let y_25 : Int64 := (if 0 ≤ (lg_cmp y_11 0) then y_11 else (y_11 + ((u_2 : Int32).toInt64)))
  (((((y_23 * ((u_2 : Int32).toInt64)) + y_25) : Int64).toInt32), (y_19, u_2)))
  else
  ((0, (y_19, u_2)))
set_option maxHeartbeats 4000000 in
set_option maxRecDepth 100000 in
theorem p_X1_divide (l : Launch) (dC : Nat → ClassId) (dI : Nat → Nat → Nat) (h0 : Nat) (sz : Nat) (cd : Int32) (fl : Int32) (al : Int32) (a1 : Int32) (a2 : Int32) (a3 : Int32) (a4 : Int32) : Met l yX1_divide wsX1_divide ({ frames := 1, cells := 0, slots := 0, locals := 21 }) (va_Pc [.ref h0, .int a1, .int a2, .int a3, .int a4] (wr_pre (dC, dI) 2 h0 sz [.int cd, .int fl, .int al])) (va_Qi (fun (r : Int32) (u : Int32 × Int32) => r = (f_X1_divide a1 a2 a3 a4).1 ∧ u = (f_X1_divide a1 a2 a3 a4).2) (wr_at (dC, dI) 2 h0 (fun u : Int32 × Int32 => [.int u.1, .int fl, .int u.2]) (wr_A 2 h0 sz [.int cd, .int fl, .int al])) (wr_A 2 h0 sz [.int cd, .int fl, .int al])) 0 0 (wr_A 2 h0 sz [.int cd, .int fl, .int al]) := by
  refine Met.ofW (cc := cX1_divide) (maxL := 17) (ret := (some .int)) (by decide) rfl ?_
  intro p e s m args below meth c s₁ B hml hv
  obtain ⟨rfl, hsz, hP, hK, hD0⟩ := hv
  have hx := B.exec
  have hb := B.bytes
  have hr := B.returns
  have hts := atoms_spec (ws := wsX1_divide) B.pre
  have hown : s.vm.findClass RX1 = some m.cls := findClass_of_methodNamed B.named
  have hlocks := B.notSynchronized
  subst hsz
  have hD : va_D (wr_A 2 h0 s.heap.size [.int cd, .int fl, .int al]) [(h0, .inr (2, [.int cd, .int fl, .int al]))] := hD0.self (sz := s.heap.size)
  generalize hAe : wr_A 2 h0 s.heap.size [.int cd, .int fl, .int al] = A at hD ⊢
  have hA : ∀ q : Nat, s.heap.size ≤ q → A q := fun q h => by rw [← hAe]; exact Or.inr h
  have hS : va_S A s.heap s.heap [] := va_S.rf
  have hP : va_P (dC, dI) vwCl [(h0, .inr (2, [.int cd, .int fl, .int al]))] s.heap := hP
  have hD : va_D A [(h0, .inr (2, [.int cd, .int fl, .int al]))] := hD
  have hl := lv_entry ([.ref h0, .int a1, .int a2, .int a3, .int a4]) (n := 17) (Nat.le_of_ble_eq_true rfl)
  rw [lg_entry_eq]
  generalize (lg_sl ([.ref h0, .int a1, .int a2, .int a3, .int a4]) ++ List.replicate (17 - (lg_sl ([.ref h0, .int a1, .int a2, .int a3, .int a4])).length) Slot.unset).toArray = ls at hl ⊢
  have hl : lv_has ls 17 [(0, .ref h0), (1, .int a1), (2, .int a2), (3, .int a3), (4, .int a4)] := hl
  refine lv_aload_n hx hb dX1_divide_0 rfl (lv_at hl 0 rfl) ?_
  refine lv_iload_n hx hb dX1_divide_1 rfl (lv_at hl 1 rfl) ?_
  refine wr_callv (va_runV (As := [.int a1]) (rest := []) ⟨hx, hb, hml, hown, hts⟩ (p_X1_length l dC dI h0 _ cd fl al a1) (cwV 1 hts gX1_divide_X1_length rfl rfl rfl (by decide +kernel) ⟨Nat.le_of_ble_eq_true rfl, Nat.le_of_ble_eq_true rfl⟩) (wr_preV (ci := 2) rfl hK hP hD) rfl rfl hl.1 rfl (lv_room (Nat.le_of_ble_eq_true rfl)) dX1_divide_2 ⟨Nat.le_of_ble_eq_true rfl, Nat.le_of_ble_eq_true rfl⟩) hP hD hS hA (fun u_2 H locs eu_2 hP hD hS => ?_)
  have hP : va_P (dC, dI) vwCl [(h0, .inr (2, [.int cd, .int fl, .int u_2]))] H := hP
  have hD : va_D A [(h0, .inr (2, [.int cd, .int fl, .int u_2]))] := hD
  refine lv_aload_n hx hb dX1_divide_5 rfl (lv_at hl 0 rfl) ?_
  refine va_get (D := (dC, dI)) (ci := 2) (v := .int u_2) (C := RX1) (T := TX1) (N := 3) hx hb hts (by decide +kernel) hown hK hP 0 rfl rfl 2 (by decide) (hts (.fieldLink RX1 14 "WordArithmeticModel" "all" "I") (by decide +kernel)) (fun _ h9 => h9) rfl dX1_divide_6 ?_
  refine lv_i2l (v := (u_2 : Int32).toInt64) hx hb dX1_divide_9 rfl ?_
  refine lv_aload_n hx hb dX1_divide_10 rfl (lv_at hl 0 rfl) ?_
  refine va_get (D := (dC, dI)) (ci := 2) (v := .int u_2) (C := RX1) (T := TX1) (N := 3) hx hb hts (by decide +kernel) hown hK hP 0 rfl rfl 2 (by decide) (hts (.fieldLink RX1 14 "WordArithmeticModel" "all" "I") (by decide +kernel)) (fun _ h9 => h9) rfl dX1_divide_11 ?_
  refine lv_i2l (v := (u_2 : Int32).toInt64) hx hb dX1_divide_14 rfl ?_
  refine lv_lmul hx hb dX1_divide_15 ?_
  refine lv_topl (fun y_3 ey_3 => ?_)
  refine lv_lstore (lv' := [(5, .long y_3), (0, .ref h0), (1, .int a1), (2, .int a2), (3, .int a3), (4, .int a4)]) hx hb dX1_divide_16 hl (by decide) rfl (fun ls hl => ?_)
  refine lv_iload_n hx hb dX1_divide_18 rfl (lv_at hl 4 rfl) ?_
  refine lv_i2l (v := (a3 : Int32).toInt64) hx hb dX1_divide_19 rfl ?_
  refine lv_lload hx hb dX1_divide_20 (lv_at hl 0 rfl) ?_
  refine lv_lconst (v := 1) hx hb dX1_divide_22 (by decide +kernel) ?_
  refine lv_lsub hx hb dX1_divide_23 ?_
  refine lv_land hx hb dX1_divide_24 ?_
  refine lv_topl (fun y_4 ey_4 => ?_)
  refine lv_lstore (lv' := [(7, .long y_4), (5, .long y_3), (0, .ref h0), (1, .int a1), (2, .int a2), (3, .int a3), (4, .int a4)]) hx hb dX1_divide_25 hl (by decide) rfl (fun ls hl => ?_)
  refine lv_iload_n hx hb dX1_divide_27 rfl (lv_at hl 4 rfl) ?_
  refine rgL (J := 53) (st := []) (if a2 = 0 then y_4 else (if (lg_cmp y_4 (y_3 / 2)) < 0 then y_4 else (y_4 - y_3))) (fun k => ?_) (fun y_5 ey_5 => ?_)
  · refine lv_if_eq (tgt := 51) hx hb dX1_divide_28 (by decide) (fun c_6 => ?_) (fun c_6 => ?_)
    · refine lv_lload hx hb dX1_divide_51 (lv_at hl 0 rfl) ?_
      exact rgL_e k (by first | rw [if_pos c_6] | simp only [if_pos c_6])
    · refine lv_lload hx hb dX1_divide_31 (lv_at hl 0 rfl) ?_
      refine lv_lload hx hb dX1_divide_33 (lv_at hl 1 rfl) ?_
      refine lv_ldc2 (own := RX1) (index := 57) (v := 2) hx hb hown (hts (.constantLong RX1 57 (2)) (by decide +kernel)) dX1_divide_35 ?_
      refine lv_ldiv hx hb dX1_divide_38 (by decide) ?_
      refine W.lcmp hx hb dX1_divide_39 ?_
      refine lv_if_lt (tgt := 51) hx hb dX1_divide_40 (by decide) (fun c_7 => ?_) (fun c_7 => ?_)
      · refine lv_lload hx hb dX1_divide_51 (lv_at hl 0 rfl) ?_
        exact rgL_e k (by first | rw [if_neg c_6, if_pos c_7] | simp only [if_neg c_6, if_pos c_7])
      · refine lv_lload hx hb dX1_divide_43 (lv_at hl 0 rfl) ?_
        refine lv_lload hx hb dX1_divide_45 (lv_at hl 1 rfl) ?_
        refine lv_lsub hx hb dX1_divide_47 ?_
        refine lv_goto (tgt := 53) hx hb dX1_divide_48 (by decide) ?_
        exact rgL_e k (by first | rw [if_neg c_6, if_neg c_7] | simp only [if_neg c_6, if_neg c_7])
  refine lv_lstore (lv' := [(7, .long y_5), (5, .long y_3), (0, .ref h0), (1, .int a1), (2, .int a2), (3, .int a3), (4, .int a4)]) hx hb dX1_divide_53 hl (by decide) rfl (fun ls hl => ?_)
  refine lv_aload_n hx hb dX1_divide_55 rfl (lv_at hl 2 rfl) ?_
  refine lv_iload hx hb dX1_divide_56 (lv_at hl 6 rfl) ?_
  refine pu_calli (F := (f_X1_operand u_2 a4)) (va_runV (As := [.int a4]) (rest := []) ⟨hx, hb, hml, hown, hts⟩ (p_X1_operand l dC dI h0 _ cd fl u_2 a4) (cwV 1 hts gX1_divide_X1_operand rfl rfl rfl (by decide +kernel) ⟨Nat.le_of_ble_eq_true rfl, Nat.le_of_ble_eq_true rfl⟩) (pu_preV (ci := 2) rfl hK hP) rfl rfl hl.1 rfl (lv_room (Nat.le_of_ble_eq_true rfl)) dX1_divide_58 ⟨Nat.le_of_ble_eq_true rfl, Nat.le_of_ble_eq_true rfl⟩) ?_
  refine lv_topi (fun y_8 ey_8 => ?_)
  refine lv_istore (lv' := [(9, .int y_8), (7, .long y_5), (5, .long y_3), (0, .ref h0), (1, .int a1), (2, .int a2), (3, .int a3), (4, .int a4)]) hx hb dX1_divide_61 hl (by decide) rfl (fun ls hl => ?_)
  refine lv_iload_n hx hb dX1_divide_63 rfl (lv_at hl 5 rfl) ?_
  refine rgL (J := 80) (st := []) (if a2 = 0 then ((y_8 : Int32).toInt64) else (((f_X1_signed u_2 y_8) : Int32).toInt64)) (fun k => ?_) (fun y_9 ey_9 => ?_)
  · refine lv_if_eq (tgt := 77) hx hb dX1_divide_64 (by decide) (fun c_10 => ?_) (fun c_10 => ?_)
    · refine lv_iload hx hb dX1_divide_77 (lv_at hl 0 rfl) ?_
      refine lv_i2l (v := (y_8 : Int32).toInt64) hx hb dX1_divide_79 rfl ?_
      exact rgL_e k (by first | rw [if_pos c_10] | simp only [if_pos c_10])
    · refine lv_aload_n hx hb dX1_divide_67 rfl (lv_at hl 3 rfl) ?_
      refine lv_iload hx hb dX1_divide_68 (lv_at hl 0 rfl) ?_
      refine pu_calli (F := (f_X1_signed u_2 y_8)) (va_runV (As := [.int y_8]) (rest := []) ⟨hx, hb, hml, hown, hts⟩ (p_X1_signed l dC dI h0 _ cd fl u_2 y_8) (cwV 1 hts gX1_divide_X1_signed rfl rfl rfl (by decide +kernel) ⟨Nat.le_of_ble_eq_true rfl, Nat.le_of_ble_eq_true rfl⟩) (pu_preV (ci := 2) rfl hK hP) rfl rfl hl.1 rfl (lv_room (Nat.le_of_ble_eq_true rfl)) dX1_divide_70 ⟨Nat.le_of_ble_eq_true rfl, Nat.le_of_ble_eq_true rfl⟩) ?_
      refine lv_i2l (v := ((f_X1_signed u_2 y_8) : Int32).toInt64) hx hb dX1_divide_73 rfl ?_
      refine lv_goto (tgt := 80) hx hb dX1_divide_74 (by decide) ?_
      exact rgL_e k (by first | rw [if_neg c_10] | simp only [if_neg c_10])
  refine lv_lstore (lv' := [(10, .long y_9), (9, .int y_8), (7, .long y_5), (5, .long y_3), (0, .ref h0), (1, .int a1), (2, .int a2), (3, .int a3), (4, .int a4)]) hx hb dX1_divide_80 hl (by decide) rfl (fun ls hl => ?_)
  refine lv_lload hx hb dX1_divide_82 (lv_at hl 0 rfl) ?_
  refine lv_lconst (v := 0) hx hb dX1_divide_84 (by decide +kernel) ?_
  refine W.lcmp hx hb dX1_divide_85 ?_
  refine rgL (J := 98) (st := []) (if (lg_cmp y_9 0) = 0 then 0 else (y_5 / y_9)) (fun k => ?_) (fun y_11 ey_11 => ?_)
  · refine lv_if_ne (tgt := 93) hx hb dX1_divide_86 (by decide) (fun c_12 => ?_) (fun c_12 => ?_)
    · refine lv_lload hx hb dX1_divide_93 (lv_at hl 2 rfl) ?_
      refine lv_lload hx hb dX1_divide_95 (lv_at hl 0 rfl) ?_
      refine lv_ldiv hx hb dX1_divide_97 (fun h => c_12 ((lg_cmp_eq _ _).mpr h)) ?_
      exact rgL_e k (by first | rw [if_neg c_12] | simp only [if_neg c_12])
    · refine lv_lconst (v := 0) hx hb dX1_divide_89 (by decide +kernel) ?_
      refine lv_goto (tgt := 98) hx hb dX1_divide_90 (by decide) ?_
      exact rgL_e k (by first | rw [if_pos c_12] | simp only [if_pos c_12])
  refine lv_lstore (lv' := [(12, .long y_11), (10, .long y_9), (9, .int y_8), (7, .long y_5), (5, .long y_3), (0, .ref h0), (1, .int a1), (2, .int a2), (3, .int a3), (4, .int a4)]) hx hb dX1_divide_98 hl (by decide) rfl (fun ls hl => ?_)
  refine lv_lload hx hb dX1_divide_100 (lv_at hl 1 rfl) ?_
  refine lv_lconst (v := 0) hx hb dX1_divide_102 (by decide +kernel) ?_
  refine W.lcmp hx hb dX1_divide_103 ?_
  refine rg (J := 157) (st := []) (if (lg_cmp y_9 0) = 0 then 0 else (if a2 = 0 then (if 0 ≤ (lg_cmp y_11 ((u_2 : Int32).toInt64)) then 0 else 1) else (if 0 ≤ (lg_cmp y_11 (((u_2 / 2) : Int32).toInt64)) then 0 else (if (lg_cmp y_11 ((((-u_2) / 2) : Int32).toInt64)) ≤ 0 then 0 else 1)))) (fun k => ?_) (fun y_13 ey_13 => ?_)
  · refine lv_if_eq (tgt := 156) hx hb dX1_divide_104 (by decide) (fun c_14 => ?_) (fun c_14 => ?_)
    · refine lv_iconst (v := 0) hx hb dX1_divide_156 (by decide) ?_
      exact rg_e k (by first | rw [if_pos c_14] | simp only [if_pos c_14])
    · refine lv_iload_n hx hb dX1_divide_107 rfl (lv_at hl 7 rfl) ?_
      refine lv_if_eq (tgt := 141) hx hb dX1_divide_108 (by decide) (fun c_15 => ?_) (fun c_15 => ?_)
      · refine lv_lload hx hb dX1_divide_141 (lv_at hl 0 rfl) ?_
        refine lv_aload_n hx hb dX1_divide_143 rfl (lv_at hl 5 rfl) ?_
        refine va_get (D := (dC, dI)) (ci := 2) (v := .int u_2) (C := RX1) (T := TX1) (N := 3) hx hb hts (by decide +kernel) hown hK hP 0 rfl rfl 2 (by decide) (hts (.fieldLink RX1 14 "WordArithmeticModel" "all" "I") (by decide +kernel)) (fun _ h9 => h9) rfl dX1_divide_144 ?_
        refine lv_i2l (v := (u_2 : Int32).toInt64) hx hb dX1_divide_147 rfl ?_
        refine W.lcmp hx hb dX1_divide_148 ?_
        refine lv_if_ge (tgt := 156) hx hb dX1_divide_149 (by decide) (fun c_16 => ?_) (fun c_16 => ?_)
        · refine lv_iconst (v := 0) hx hb dX1_divide_156 (by decide) ?_
          exact rg_e k (by first | rw [if_neg c_14, if_pos c_15, if_pos c_16] | simp only [if_neg c_14, if_pos c_15, if_pos c_16])
        · refine lv_iconst (v := 1) hx hb dX1_divide_152 (by decide) ?_
          refine lv_goto (tgt := 157) hx hb dX1_divide_153 (by decide) ?_
          exact rg_e k (by first | rw [if_neg c_14, if_pos c_15, if_neg c_16] | simp only [if_neg c_14, if_pos c_15, if_neg c_16])
      · refine lv_lload hx hb dX1_divide_111 (lv_at hl 0 rfl) ?_
        refine lv_aload_n hx hb dX1_divide_113 rfl (lv_at hl 5 rfl) ?_
        refine va_get (D := (dC, dI)) (ci := 2) (v := .int u_2) (C := RX1) (T := TX1) (N := 3) hx hb hts (by decide +kernel) hown hK hP 0 rfl rfl 2 (by decide) (hts (.fieldLink RX1 14 "WordArithmeticModel" "all" "I") (by decide +kernel)) (fun _ h9 => h9) rfl dX1_divide_114 ?_
        refine lv_iconst (v := 2) hx hb dX1_divide_117 (by decide) ?_
        refine lv_idiv hx hb dX1_divide_118 (by decide) ?_
        refine lv_i2l (v := ((u_2 / 2) : Int32).toInt64) hx hb dX1_divide_119 rfl ?_
        refine W.lcmp hx hb dX1_divide_120 ?_
        refine lv_if_ge (tgt := 156) hx hb dX1_divide_121 (by decide) (fun c_17 => ?_) (fun c_17 => ?_)
        · refine lv_iconst (v := 0) hx hb dX1_divide_156 (by decide) ?_
          exact rg_e k (by first | rw [if_neg c_14, if_neg c_15, if_pos c_17] | simp only [if_neg c_14, if_neg c_15, if_pos c_17])
        · refine lv_lload hx hb dX1_divide_124 (lv_at hl 0 rfl) ?_
          refine lv_aload_n hx hb dX1_divide_126 rfl (lv_at hl 5 rfl) ?_
          refine va_get (D := (dC, dI)) (ci := 2) (v := .int u_2) (C := RX1) (T := TX1) (N := 3) hx hb hts (by decide +kernel) hown hK hP 0 rfl rfl 2 (by decide) (hts (.fieldLink RX1 14 "WordArithmeticModel" "all" "I") (by decide +kernel)) (fun _ h9 => h9) rfl dX1_divide_127 ?_
          refine lv_ineg hx hb dX1_divide_130 ?_
          refine lv_iconst (v := 2) hx hb dX1_divide_131 (by decide) ?_
          refine lv_idiv hx hb dX1_divide_132 (by decide) ?_
          refine lv_i2l (v := (((-u_2) / 2) : Int32).toInt64) hx hb dX1_divide_133 rfl ?_
          refine W.lcmp hx hb dX1_divide_134 ?_
          refine lv_if_le (tgt := 156) hx hb dX1_divide_135 (by decide) (fun c_18 => ?_) (fun c_18 => ?_)
          · refine lv_iconst (v := 0) hx hb dX1_divide_156 (by decide) ?_
            exact rg_e k (by first | rw [if_neg c_14, if_neg c_15, if_neg c_17, if_pos c_18] | simp only [if_neg c_14, if_neg c_15, if_neg c_17, if_pos c_18])
          · refine lv_goto (tgt := 152) hx hb dX1_divide_138 (by decide) ?_
            refine lv_iconst (v := 1) hx hb dX1_divide_152 (by decide) ?_
            refine lv_goto (tgt := 157) hx hb dX1_divide_153 (by decide) ?_
            exact rg_e k (by first | rw [if_neg c_14, if_neg c_15, if_neg c_17, if_neg c_18] | simp only [if_neg c_14, if_neg c_15, if_neg c_17, if_neg c_18])
  refine lv_istore (lv' := [(14, .int y_13), (12, .long y_11), (10, .long y_9), (9, .int y_8), (7, .long y_5), (5, .long y_3), (0, .ref h0), (1, .int a1), (2, .int a2), (3, .int a3), (4, .int a4)]) hx hb dX1_divide_157 hl (by decide) rfl (fun ls hl => ?_)
  refine lv_aload_n hx hb dX1_divide_159 rfl (lv_at hl 6 rfl) ?_
  refine lv_iload hx hb dX1_divide_160 (lv_at hl 0 rfl) ?_
  refine rg (J := 170) (st := [.ref h0]) (if y_13 = 0 then 1 else 0) (fun k => ?_) (fun y_19 ey_19 => ?_)
  · refine lv_if_eq (tgt := 169) hx hb dX1_divide_162 (by decide) (fun c_20 => ?_) (fun c_20 => ?_)
    · refine lv_iconst (v := 1) hx hb dX1_divide_169 (by decide) ?_
      exact rg_e k (by first | rw [if_pos c_20] | simp only [if_pos c_20])
    · refine lv_iconst (v := 0) hx hb dX1_divide_165 (by decide) ?_
      refine lv_goto (tgt := 170) hx hb dX1_divide_166 (by decide) ?_
      exact rg_e k (by first | rw [if_neg c_20] | simp only [if_neg c_20])
  refine va_put (D := (dC, dI)) (ci := 2) (v := .int y_19) (ty := .int) (C := RX1) (T := TX1) (N := 3) hx hb hts (by decide +kernel) tyX1 tyX1_ok nmX1 hown hK hP hD hS 0 rfl rfl 0 (by decide) (hts (.fieldLink RX1 7 "WordArithmeticModel" "code" "I") (by decide +kernel)) (fun _ h9 => h9) rfl (by decide +kernel) rfl rfl (Nat.le_of_ble_eq_true rfl) dX1_divide_170 (fun H locs hP hD hS => ?_)
  have hP : va_P (dC, dI) vwCl [(h0, .inr (2, [.int y_19, .int fl, .int u_2]))] H := hP
  have hD : va_D A [(h0, .inr (2, [.int y_19, .int fl, .int u_2]))] := hD
  refine lv_aload_n hx hb dX1_divide_173 rfl (lv_at hl 6 rfl) ?_
  refine va_get (D := (dC, dI)) (ci := 2) (v := .int y_19) (C := RX1) (T := TX1) (N := 3) hx hb hts (by decide +kernel) hown hK hP 0 rfl rfl 0 (by decide) (hts (.fieldLink RX1 7 "WordArithmeticModel" "code" "I") (by decide +kernel)) (fun _ h9 => h9) rfl dX1_divide_174 ?_
  refine lv_if_le (tgt := 182) hx hb dX1_divide_177 (by decide) (fun c_21 => ?_) (fun c_21 => ?_)
  · refine lv_lload hx hb dX1_divide_182 (lv_at hl 4 rfl) ?_
    refine lv_lload hx hb dX1_divide_184 (lv_at hl 1 rfl) ?_
    refine lv_lload hx hb dX1_divide_186 (lv_at hl 2 rfl) ?_
    refine lv_lmul hx hb dX1_divide_188 ?_
    refine lv_lsub hx hb dX1_divide_189 ?_
    refine lv_topl (fun y_22 ey_22 => ?_)
    refine lv_lstore (lv' := [(15, .long y_22), (14, .int y_13), (12, .long y_11), (10, .long y_9), (9, .int y_8), (7, .long y_5), (5, .long y_3), (0, .ref h0), (1, .int a1), (2, .int a2), (3, .int a3), (4, .int a4)]) hx hb dX1_divide_190 hl (by decide) rfl (fun ls hl => ?_)
    refine lv_lload hx hb dX1_divide_192 (lv_at hl 0 rfl) ?_
    refine lv_lconst (v := 0) hx hb dX1_divide_194 (by decide +kernel) ?_
    refine W.lcmp hx hb dX1_divide_195 ?_
    refine rgL (J := 212) (st := []) (if 0 ≤ (lg_cmp y_22 0) then y_22 else (y_22 + ((u_2 : Int32).toInt64))) (fun k => ?_) (fun y_23 ey_23 => ?_)
    · refine lv_if_ge (tgt := 210) hx hb dX1_divide_196 (by decide) (fun c_24 => ?_) (fun c_24 => ?_)
      · refine lv_lload hx hb dX1_divide_210 (lv_at hl 0 rfl) ?_
        exact rgL_e k (by first | rw [if_pos c_24] | simp only [if_pos c_24])
      · refine lv_lload hx hb dX1_divide_199 (lv_at hl 0 rfl) ?_
        refine lv_aload_n hx hb dX1_divide_201 rfl (lv_at hl 7 rfl) ?_
        refine va_get (D := (dC, dI)) (ci := 2) (v := .int u_2) (C := RX1) (T := TX1) (N := 3) hx hb hts (by decide +kernel) hown hK hP 0 rfl rfl 2 (by decide) (hts (.fieldLink RX1 14 "WordArithmeticModel" "all" "I") (by decide +kernel)) (fun _ h9 => h9) rfl dX1_divide_202 ?_
        refine lv_i2l (v := (u_2 : Int32).toInt64) hx hb dX1_divide_205 rfl ?_
        refine lv_ladd hx hb dX1_divide_206 ?_
        refine lv_goto (tgt := 212) hx hb dX1_divide_207 (by decide) ?_
        exact rgL_e k (by first | rw [if_neg c_24] | simp only [if_neg c_24])
    refine lv_lstore (lv' := [(15, .long y_23), (14, .int y_13), (12, .long y_11), (10, .long y_9), (9, .int y_8), (7, .long y_5), (5, .long y_3), (0, .ref h0), (1, .int a1), (2, .int a2), (3, .int a3), (4, .int a4)]) hx hb dX1_divide_212 hl (by decide) rfl (fun ls hl => ?_)
    refine lv_lload hx hb dX1_divide_214 (lv_at hl 2 rfl) ?_
    refine lv_lconst (v := 0) hx hb dX1_divide_216 (by decide +kernel) ?_
    refine W.lcmp hx hb dX1_divide_217 ?_
    refine rgL (J := 234) (st := []) (if 0 ≤ (lg_cmp y_11 0) then y_11 else (y_11 + ((u_2 : Int32).toInt64))) (fun k => ?_) (fun y_25 ey_25 => ?_)
    · refine lv_if_ge (tgt := 232) hx hb dX1_divide_218 (by decide) (fun c_26 => ?_) (fun c_26 => ?_)
      · refine lv_lload hx hb dX1_divide_232 (lv_at hl 2 rfl) ?_
        exact rgL_e k (by first | rw [if_pos c_26] | simp only [if_pos c_26])
      · refine lv_lload hx hb dX1_divide_221 (lv_at hl 2 rfl) ?_
        refine lv_aload_n hx hb dX1_divide_223 rfl (lv_at hl 7 rfl) ?_
        refine va_get (D := (dC, dI)) (ci := 2) (v := .int u_2) (C := RX1) (T := TX1) (N := 3) hx hb hts (by decide +kernel) hown hK hP 0 rfl rfl 2 (by decide) (hts (.fieldLink RX1 14 "WordArithmeticModel" "all" "I") (by decide +kernel)) (fun _ h9 => h9) rfl dX1_divide_224 ?_
        refine lv_i2l (v := (u_2 : Int32).toInt64) hx hb dX1_divide_227 rfl ?_
        refine lv_ladd hx hb dX1_divide_228 ?_
        refine lv_goto (tgt := 234) hx hb dX1_divide_229 (by decide) ?_
        exact rgL_e k (by first | rw [if_neg c_26] | simp only [if_neg c_26])
    refine lv_lstore (lv' := [(12, .long y_25), (15, .long y_23), (14, .int y_13), (10, .long y_9), (9, .int y_8), (7, .long y_5), (5, .long y_3), (0, .ref h0), (1, .int a1), (2, .int a2), (3, .int a3), (4, .int a4)]) hx hb dX1_divide_234 hl (by decide) rfl (fun ls hl => ?_)
    refine lv_lload hx hb dX1_divide_236 (lv_at hl 1 rfl) ?_
    refine lv_aload_n hx hb dX1_divide_238 rfl (lv_at hl 7 rfl) ?_
    refine va_get (D := (dC, dI)) (ci := 2) (v := .int u_2) (C := RX1) (T := TX1) (N := 3) hx hb hts (by decide +kernel) hown hK hP 0 rfl rfl 2 (by decide) (hts (.fieldLink RX1 14 "WordArithmeticModel" "all" "I") (by decide +kernel)) (fun _ h9 => h9) rfl dX1_divide_239 ?_
    refine lv_i2l (v := (u_2 : Int32).toInt64) hx hb dX1_divide_242 rfl ?_
    refine lv_lmul hx hb dX1_divide_243 ?_
    refine lv_lload hx hb dX1_divide_244 (lv_at hl 0 rfl) ?_
    refine lv_ladd hx hb dX1_divide_246 ?_
    refine lv_l2i (v := (((y_23 * ((u_2 : Int32).toInt64)) + y_25) : Int64).toInt32) hx hb dX1_divide_247 rfl ?_
    exact W.iret (v := ((((y_23 * ((u_2 : Int32).toInt64)) + y_25) : Int64).toInt32)) hx hb hr (fun t ht hW => ⟨⟨((((y_23 * ((u_2 : Int32).toInt64)) + y_25) : Int64).toInt32), (y_19, u_2), rfl, ⟨(by subst eu_2; subst ey_3; subst ey_4; subst ey_5; subst ey_8; subst ey_9; subst ey_11; subst ey_13; subst ey_19; subst ey_22; subst ey_23; subst ey_25; simp only [f_X1_divide, if_pos c_21]), (by subst eu_2; subst ey_3; subst ey_4; subst ey_5; subst ey_8; subst ey_9; subst ey_11; subst ey_13; subst ey_19; subst ey_22; subst ey_23; subst ey_25; simp only [f_X1_divide, if_pos c_21])⟩, by rw [ht]; exact hP, va_K.moved hW.alike hK, hD⟩, hS.F ht⟩) hS.2.2 dX1_divide_248
  · refine lv_iconst (v := 0) hx hb dX1_divide_180 (by decide) ?_
    exact W.iret (v := 0) hx hb hr (fun t ht hW => ⟨⟨0, (y_19, u_2), rfl, ⟨(by subst eu_2; subst ey_3; subst ey_4; subst ey_5; subst ey_8; subst ey_9; subst ey_11; subst ey_13; subst ey_19; simp only [f_X1_divide, if_neg c_21]), (by subst eu_2; subst ey_3; subst ey_4; subst ey_5; subst ey_8; subst ey_9; subst ey_11; subst ey_13; subst ey_19; simp only [f_X1_divide, if_neg c_21])⟩, by rw [ht]; exact hP, va_K.moved hW.alike hK, hD⟩, hS.F ht⟩) hS.2.2 dX1_divide_181

/-- what X1_byteOf answers -/
def f_X1_byteOf (a1 : Int32) : Int32 :=
  (a1 &&& 255)
set_option maxHeartbeats 4000000 in
set_option maxRecDepth 100000 in
theorem p_X1_byteOf (l : Launch) (HH : Heap) (a1 : Int32) : Met l yX1_byteOf wsX1_byteOf ({ frames := 0, cells := 0, slots := 0, locals := 0 }) (va_Pc [.int a1] (fun U => U.heap = HH)) (va_Qi (fun (r : Int32) (_ : Unit) => r = f_X1_byteOf a1) (fun _ t => t.heap = HH) (fun _ => False)) 0 0 (fun _ => False) := by
  refine Met.ofW (cc := cX1_byteOf) (maxL := 1) (ret := (some .int)) (by decide) rfl ?_
  intro p e s m args below meth c s₁ B hml hv
  obtain ⟨rfl, hsz⟩ := hv
  have hx := B.exec
  have hb := B.bytes
  have hr := B.returns
  have hts := atoms_spec (ws := wsX1_byteOf) B.pre
  have hown : s.vm.findClass RX1 = some m.cls := findClass_of_methodNamed B.named
  have hlocks := B.notSynchronized
  subst hsz
  have hl := lv_entry ([.int a1]) (n := 1) (Nat.le_of_ble_eq_true rfl)
  rw [lg_entry_eq]
  generalize (lg_sl ([.int a1]) ++ List.replicate (1 - (lg_sl ([.int a1])).length) Slot.unset).toArray = ls at hl ⊢
  have hl : lv_has ls 1 [(0, .int a1)] := hl
  refine lv_iload_n hx hb dX1_byteOf_0 rfl (lv_at hl 0 rfl) ?_
  refine lv_sipush (v := 255) hx hb dX1_byteOf_1 (by decide +kernel) ?_
  refine lv_iand hx hb dX1_byteOf_4 ?_
  exact W.iret (v := (a1 &&& 255)) hx hb hr (fun t ht hW => ⟨⟨(a1 &&& 255), (), rfl, rfl, ht⟩, pu_F ht⟩) (fun q h => nomatch h) dX1_byteOf_5

/-- what X1_adjust answers -/
def f_X1_adjust (fl : Int32) (al : Int32) (a1 : Int32) (a2 : Int32) (a3 : Int32) : Int32 × (Int32 × Int32 × Int32) :=
  let y_1 : Int32 := (f_X1_byteOf a2)
  let y_2 : Int32 := (f_X1_byteOf (a2 / 256))
  let y_3 : Int32 := (if 0 ≤ a2 then y_2 else (f_X1_byteOf (a2 >>> (8 &&& 31))))
  let y_5 : Int32 := (f_X1_byteOf a3)
  let y_6 : Int32 := (if a1 < 0 then 1 else (if a1 ≤ 5 then (if a1 = 4 then (if y_5 = 0 then 2 else 0) else 0) else 1))
  if y_6 ≤ 0 then
  (let u_13 : Int32 := (f_X1_length 0)
  let y_14 : Int32 := (if 9 < (jr y_1 16) then 1 else (if (f_X1_is fl 16) = 0 then 0 else 1))
  let y_17 : Int32 := (if 153 < y_1 then 1 else (if (f_X1_is fl 1) = 0 then 0 else 1))
  if a1 = 0 then
  (let y_21 : Int32 := (if y_14 = 0 then 0 else 6)
  let y_23 : Int32 := (if y_17 = 0 then 0 else 96)
  let y_25 : Int32 := (f_X1_byteOf ((y_1 + y_21) + y_23))
  let u_27 : Int32 := (f_X1_put fl 16 y_14)
  let u_29 : Int32 := (f_X1_put u_27 1 y_17)
  let u_31 : Int32 := (f_X1_byAnswer u_29 u_13 y_25)
  (((256 * y_3) + y_25), (y_6, u_31, u_13)))
  else
  if a1 = 1 then
  (let y_33 : Int32 := (if y_14 = 0 then 0 else 6)
  let y_35 : Int32 := (if y_17 = 0 then 0 else 96)
  let y_37 : Int32 := (f_X1_byteOf ((y_1 - y_33) - y_35))
  let u_39 : Int32 := (f_X1_put fl 16 y_14)
  let y_40 : Int32 := (if y_17 = 0 then (if y_14 = 0 then 0 else (if 6 ≤ y_1 then 0 else 1)) else 1)
  let u_45 : Int32 := (f_X1_put u_39 1 y_40)
  let u_47 : Int32 := (f_X1_byAnswer u_45 u_13 y_37)
  (((256 * y_3) + y_37), (y_6, u_47, u_13)))
  else
  if a1 = 2 then
  (let u_50 : Int32 := (f_X1_put fl 16 y_14)
  let u_52 : Int32 := (f_X1_put u_50 1 y_14)
  let y_53 : Int32 := (if y_14 = 0 then y_3 else (y_3 + 1))
  let y_55 : Int32 := (if y_14 = 0 then y_1 else (y_1 + 6))
  (((256 * (f_X1_byteOf y_53)) + (jr y_55 16)), (y_6, u_52, u_13)))
  else
  if a1 = 3 then
  (let u_59 : Int32 := (f_X1_put fl 16 y_14)
  let u_61 : Int32 := (f_X1_put u_59 1 y_14)
  let y_62 : Int32 := (if y_14 = 0 then y_3 else (y_3 - 1))
  let y_64 : Int32 := (if y_14 = 0 then y_1 else (y_1 + 10))
  (((256 * (f_X1_byteOf y_62)) + (jr y_64 16)), (y_6, u_61, u_13)))
  else
  if a1 = 4 then
  (let u_68 : Int32 := (f_X1_byAnswer fl u_13 (jr y_1 y_5))
  (((256 * (y_1 / y_5)) + (jr y_1 y_5)), (y_6, u_68, u_13)))
  else
  (let y_69 : Int32 := (f_X1_byteOf ((y_3 * y_5) + y_1))
  let u_71 : Int32 := (f_X1_byAnswer fl u_13 y_69)
  (y_69, (y_6, u_71, u_13))))
  else
  ((0, (y_6, fl, al)))
set_option maxHeartbeats 4000000 in
set_option maxRecDepth 100000 in
theorem p_X1_adjust (l : Launch) (dC : Nat → ClassId) (dI : Nat → Nat → Nat) (h0 : Nat) (sz : Nat) (cd : Int32) (fl : Int32) (al : Int32) (a1 : Int32) (a2 : Int32) (a3 : Int32) : Met l yX1_adjust wsX1_adjust ({ frames := 3, cells := 0, slots := 0, locals := 67 }) (va_Pc [.ref h0, .int a1, .int a2, .int a3] (wr_pre (dC, dI) 2 h0 sz [.int cd, .int fl, .int al])) (va_Qi (fun (r : Int32) (u : Int32 × Int32 × Int32) => r = (f_X1_adjust fl al a1 a2 a3).1 ∧ u = (f_X1_adjust fl al a1 a2 a3).2) (wr_at (dC, dI) 2 h0 (fun u : Int32 × Int32 × Int32 => [.int u.1, .int u.2.1, .int u.2.2]) (wr_A 2 h0 sz [.int cd, .int fl, .int al])) (wr_A 2 h0 sz [.int cd, .int fl, .int al])) 0 0 (wr_A 2 h0 sz [.int cd, .int fl, .int al]) := by
  refine Met.ofW (cc := cX1_adjust) (maxL := 10) (ret := (some .int)) (by decide) rfl ?_
  intro p e s m args below meth c s₁ B hml hv
  obtain ⟨rfl, hsz, hP, hK, hD0⟩ := hv
  have hx := B.exec
  have hb := B.bytes
  have hr := B.returns
  have hts := atoms_spec (ws := wsX1_adjust) B.pre
  have hown : s.vm.findClass RX1 = some m.cls := findClass_of_methodNamed B.named
  have hlocks := B.notSynchronized
  subst hsz
  have hD : va_D (wr_A 2 h0 s.heap.size [.int cd, .int fl, .int al]) [(h0, .inr (2, [.int cd, .int fl, .int al]))] := hD0.self (sz := s.heap.size)
  generalize hAe : wr_A 2 h0 s.heap.size [.int cd, .int fl, .int al] = A at hD ⊢
  have hA : ∀ q : Nat, s.heap.size ≤ q → A q := fun q h => by rw [← hAe]; exact Or.inr h
  have hS : va_S A s.heap s.heap [] := va_S.rf
  have hP : va_P (dC, dI) vwCl [(h0, .inr (2, [.int cd, .int fl, .int al]))] s.heap := hP
  have hD : va_D A [(h0, .inr (2, [.int cd, .int fl, .int al]))] := hD
  have hl := lv_entry ([.ref h0, .int a1, .int a2, .int a3]) (n := 10) (Nat.le_of_ble_eq_true rfl)
  rw [lg_entry_eq]
  generalize (lg_sl ([.ref h0, .int a1, .int a2, .int a3]) ++ List.replicate (10 - (lg_sl ([.ref h0, .int a1, .int a2, .int a3])).length) Slot.unset).toArray = ls at hl ⊢
  have hl : lv_has ls 10 [(0, .ref h0), (1, .int a1), (2, .int a2), (3, .int a3)] := hl
  refine lv_iload_n hx hb dX1_adjust_0 rfl (lv_at hl 2 rfl) ?_
  refine pu_calli (F := (f_X1_byteOf a2)) (va_runS (As := [.int a2]) (rest := []) ⟨hx, hb, hml, hown, hts⟩ (p_X1_byteOf l _ a2) (va_cwS 1 hts gX1_adjust_X1_byteOf rfl rfl rfl (by decide +kernel) ⟨Nat.le_of_ble_eq_true rfl, Nat.le_of_ble_eq_true rfl⟩) pu_preS rfl rfl hl.1 rfl (lv_room (Nat.le_of_ble_eq_true rfl)) dX1_adjust_1 ⟨Nat.le_of_ble_eq_true rfl, Nat.le_of_ble_eq_true rfl⟩) ?_
  refine lv_topi (fun y_1 ey_1 => ?_)
  refine lv_istore (lv' := [(4, .int y_1), (0, .ref h0), (1, .int a1), (2, .int a2), (3, .int a3)]) hx hb dX1_adjust_4 hl (by decide) rfl (fun ls hl => ?_)
  refine lv_iload_n hx hb dX1_adjust_6 rfl (lv_at hl 3 rfl) ?_
  refine lv_sipush (v := 256) hx hb dX1_adjust_7 (by decide +kernel) ?_
  refine lv_idiv hx hb dX1_adjust_10 (by decide) ?_
  refine pu_calli (F := (f_X1_byteOf (a2 / 256))) (va_runS (As := [.int (a2 / 256)]) (rest := []) ⟨hx, hb, hml, hown, hts⟩ (p_X1_byteOf l _ (a2 / 256)) (va_cwS 1 hts gX1_adjust_X1_byteOf rfl rfl rfl (by decide +kernel) ⟨Nat.le_of_ble_eq_true rfl, Nat.le_of_ble_eq_true rfl⟩) pu_preS rfl rfl hl.1 rfl (lv_room (Nat.le_of_ble_eq_true rfl)) dX1_adjust_11 ⟨Nat.le_of_ble_eq_true rfl, Nat.le_of_ble_eq_true rfl⟩) ?_
  refine lv_topi (fun y_2 ey_2 => ?_)
  refine lv_istore (lv' := [(5, .int y_2), (4, .int y_1), (0, .ref h0), (1, .int a1), (2, .int a2), (3, .int a3)]) hx hb dX1_adjust_14 hl (by decide) rfl (fun ls hl => ?_)
  refine lv_iload_n hx hb dX1_adjust_16 rfl (lv_at hl 4 rfl) ?_
  refine rg (J := 32) (st := []) (if 0 ≤ a2 then y_2 else (f_X1_byteOf (a2 >>> (8 &&& 31)))) (fun k => ?_) (fun y_3 ey_3 => ?_)
  · refine lv_if_ge (tgt := 30) hx hb dX1_adjust_17 (by decide) (fun c_4 => ?_) (fun c_4 => ?_)
    · refine lv_iload hx hb dX1_adjust_30 (lv_at hl 0 rfl) ?_
      exact rg_e k (by first | rw [if_pos c_4] | simp only [if_pos c_4])
    · refine lv_iload_n hx hb dX1_adjust_20 rfl (lv_at hl 4 rfl) ?_
      refine lv_bipush (v := 8) hx hb dX1_adjust_21 (by decide +kernel) ?_
      refine lv_ishr hx hb dX1_adjust_23 ?_
      refine pu_calli (F := (f_X1_byteOf (a2 >>> (8 &&& 31)))) (va_runS (As := [.int (a2 >>> (8 &&& 31))]) (rest := []) ⟨hx, hb, hml, hown, hts⟩ (p_X1_byteOf l _ (a2 >>> (8 &&& 31))) (va_cwS 1 hts gX1_adjust_X1_byteOf rfl rfl rfl (by decide +kernel) ⟨Nat.le_of_ble_eq_true rfl, Nat.le_of_ble_eq_true rfl⟩) pu_preS rfl rfl hl.1 rfl (lv_room (Nat.le_of_ble_eq_true rfl)) dX1_adjust_24 ⟨Nat.le_of_ble_eq_true rfl, Nat.le_of_ble_eq_true rfl⟩) ?_
      refine lv_goto (tgt := 32) hx hb dX1_adjust_27 (by decide) ?_
      exact rg_e k (by first | rw [if_neg c_4] | simp only [if_neg c_4])
  refine lv_istore (lv' := [(5, .int y_3), (4, .int y_1), (0, .ref h0), (1, .int a1), (2, .int a2), (3, .int a3)]) hx hb dX1_adjust_32 hl (by decide) rfl (fun ls hl => ?_)
  refine lv_iload_n hx hb dX1_adjust_34 rfl (lv_at hl 5 rfl) ?_
  refine pu_calli (F := (f_X1_byteOf a3)) (va_runS (As := [.int a3]) (rest := []) ⟨hx, hb, hml, hown, hts⟩ (p_X1_byteOf l _ a3) (va_cwS 1 hts gX1_adjust_X1_byteOf rfl rfl rfl (by decide +kernel) ⟨Nat.le_of_ble_eq_true rfl, Nat.le_of_ble_eq_true rfl⟩) pu_preS rfl rfl hl.1 rfl (lv_room (Nat.le_of_ble_eq_true rfl)) dX1_adjust_35 ⟨Nat.le_of_ble_eq_true rfl, Nat.le_of_ble_eq_true rfl⟩) ?_
  refine lv_topi (fun y_5 ey_5 => ?_)
  refine lv_istore (lv' := [(6, .int y_5), (5, .int y_3), (4, .int y_1), (0, .ref h0), (1, .int a1), (2, .int a2), (3, .int a3)]) hx hb dX1_adjust_38 hl (by decide) rfl (fun ls hl => ?_)
  refine lv_aload_n hx hb dX1_adjust_40 rfl (lv_at hl 3 rfl) ?_
  refine lv_iload_n hx hb dX1_adjust_41 rfl (lv_at hl 4 rfl) ?_
  refine rg (J := 69) (st := [.ref h0]) (if a1 < 0 then 1 else (if a1 ≤ 5 then (if a1 = 4 then (if y_5 = 0 then 2 else 0) else 0) else 1)) (fun k => ?_) (fun y_6 ey_6 => ?_)
  · refine lv_if_lt (tgt := 50) hx hb dX1_adjust_42 (by decide) (fun c_7 => ?_) (fun c_7 => ?_)
    · refine lv_iconst (v := 1) hx hb dX1_adjust_50 (by decide) ?_
      refine lv_goto (tgt := 69) hx hb dX1_adjust_51 (by decide) ?_
      exact rg_e k (by first | rw [if_pos c_7] | simp only [if_pos c_7])
    · refine lv_iload_n hx hb dX1_adjust_45 rfl (lv_at hl 4 rfl) ?_
      refine lv_iconst (v := 5) hx hb dX1_adjust_46 (by decide) ?_
      refine lv_icmp_le (tgt := 54) hx hb dX1_adjust_47 (by decide) (fun c_8 => ?_) (fun c_8 => ?_)
      · refine lv_iload_n hx hb dX1_adjust_54 rfl (lv_at hl 4 rfl) ?_
        refine lv_iconst (v := 4) hx hb dX1_adjust_55 (by decide) ?_
        refine lv_icmp_ne (tgt := 68) hx hb dX1_adjust_56 (by decide) (fun c_9 => ?_) (fun c_9 => ?_)
        · refine lv_iconst (v := 0) hx hb dX1_adjust_68 (by decide) ?_
          exact rg_e k (by first | rw [if_neg c_7, if_pos c_8, if_neg c_9] | simp only [if_neg c_7, if_pos c_8, if_neg c_9])
        · refine lv_iload hx hb dX1_adjust_59 (lv_at hl 0 rfl) ?_
          refine lv_if_ne (tgt := 68) hx hb dX1_adjust_61 (by decide) (fun c_10 => ?_) (fun c_10 => ?_)
          · refine lv_iconst (v := 0) hx hb dX1_adjust_68 (by decide) ?_
            exact rg_e k (by first | rw [if_neg c_7, if_pos c_8, if_pos c_9, if_neg c_10] | simp only [if_neg c_7, if_pos c_8, if_pos c_9, if_neg c_10])
          · refine lv_iconst (v := 2) hx hb dX1_adjust_64 (by decide) ?_
            refine lv_goto (tgt := 69) hx hb dX1_adjust_65 (by decide) ?_
            exact rg_e k (by first | rw [if_neg c_7, if_pos c_8, if_pos c_9, if_pos c_10] | simp only [if_neg c_7, if_pos c_8, if_pos c_9, if_pos c_10])
      · refine lv_iconst (v := 1) hx hb dX1_adjust_50 (by decide) ?_
        refine lv_goto (tgt := 69) hx hb dX1_adjust_51 (by decide) ?_
        exact rg_e k (by first | rw [if_neg c_7, if_neg c_8] | simp only [if_neg c_7, if_neg c_8])
  refine va_put (D := (dC, dI)) (ci := 2) (v := .int y_6) (ty := .int) (C := RX1) (T := TX1) (N := 3) hx hb hts (by decide +kernel) tyX1 tyX1_ok nmX1 hown hK hP hD hS 0 rfl rfl 0 (by decide) (hts (.fieldLink RX1 7 "WordArithmeticModel" "code" "I") (by decide +kernel)) (fun _ h9 => h9) rfl (by decide +kernel) rfl rfl (Nat.le_of_ble_eq_true rfl) dX1_adjust_69 (fun H locs hP hD hS => ?_)
  have hP : va_P (dC, dI) vwCl [(h0, .inr (2, [.int y_6, .int fl, .int al]))] H := hP
  have hD : va_D A [(h0, .inr (2, [.int y_6, .int fl, .int al]))] := hD
  refine lv_aload_n hx hb dX1_adjust_72 rfl (lv_at hl 3 rfl) ?_
  refine va_get (D := (dC, dI)) (ci := 2) (v := .int y_6) (C := RX1) (T := TX1) (N := 3) hx hb hts (by decide +kernel) hown hK hP 0 rfl rfl 0 (by decide) (hts (.fieldLink RX1 7 "WordArithmeticModel" "code" "I") (by decide +kernel)) (fun _ h9 => h9) rfl dX1_adjust_73 ?_
  refine lv_if_le (tgt := 81) hx hb dX1_adjust_76 (by decide) (fun c_11 => ?_) (fun c_11 => ?_)
  · refine lv_aload_n hx hb dX1_adjust_81 rfl (lv_at hl 3 rfl) ?_
    refine lv_iconst (v := 0) hx hb dX1_adjust_82 (by decide) ?_
    refine wr_callv (va_runV (As := [.int 0]) (rest := []) ⟨hx, hb, hml, hown, hts⟩ (p_X1_length l dC dI h0 _ y_6 fl al 0) (cwV 1 hts gX1_adjust_X1_length rfl rfl rfl (by decide +kernel) ⟨Nat.le_of_ble_eq_true rfl, Nat.le_of_ble_eq_true rfl⟩) (wr_preV (ci := 2) rfl hK hP hD) rfl rfl hl.1 rfl (lv_room (Nat.le_of_ble_eq_true rfl)) dX1_adjust_83 ⟨Nat.le_of_ble_eq_true rfl, Nat.le_of_ble_eq_true rfl⟩) hP hD hS hA (fun u_13 H locs eu_13 hP hD hS => ?_)
    have hP : va_P (dC, dI) vwCl [(h0, .inr (2, [.int y_6, .int fl, .int u_13]))] H := hP
    have hD : va_D A [(h0, .inr (2, [.int y_6, .int fl, .int u_13]))] := hD
    refine lv_iload hx hb dX1_adjust_86 (lv_at hl 2 rfl) ?_
    refine lv_bipush (v := 16) hx hb dX1_adjust_88 (by decide +kernel) ?_
    refine jr_row hx hb dX1_adjust_90 (by decide) ?_
    refine lv_bipush (v := 9) hx hb dX1_adjust_91 (by decide +kernel) ?_
    refine rg (J := 110) (st := []) (if 9 < (jr y_1 16) then 1 else (if (f_X1_is fl 16) = 0 then 0 else 1)) (fun k => ?_) (fun y_14 ey_14 => ?_)
    · refine lv_icmp_gt (tgt := 105) hx hb dX1_adjust_93 (by decide) (fun c_15 => ?_) (fun c_15 => ?_)
      · refine lv_iconst (v := 1) hx hb dX1_adjust_105 (by decide) ?_
        refine lv_goto (tgt := 110) hx hb dX1_adjust_106 (by decide) ?_
        exact rg_e k (by first | rw [if_pos c_15] | simp only [if_pos c_15])
      · refine lv_aload_n hx hb dX1_adjust_96 rfl (lv_at hl 3 rfl) ?_
        refine lv_bipush (v := 16) hx hb dX1_adjust_97 (by decide +kernel) ?_
        refine pu_calli (F := (f_X1_is fl 16)) (va_runV (As := [.int 16]) (rest := []) ⟨hx, hb, hml, hown, hts⟩ (p_X1_is l dC dI h0 _ y_6 fl u_13 16 (by decide)) (cwV 1 hts gX1_adjust_X1_is rfl rfl rfl (by decide +kernel) ⟨Nat.le_of_ble_eq_true rfl, Nat.le_of_ble_eq_true rfl⟩) (pu_preV (ci := 2) rfl hK hP) rfl rfl hl.1 rfl (lv_room (Nat.le_of_ble_eq_true rfl)) dX1_adjust_99 ⟨Nat.le_of_ble_eq_true rfl, Nat.le_of_ble_eq_true rfl⟩) ?_
        refine lv_if_eq (tgt := 109) hx hb dX1_adjust_102 (by decide) (fun c_16 => ?_) (fun c_16 => ?_)
        · refine lv_iconst (v := 0) hx hb dX1_adjust_109 (by decide) ?_
          exact rg_e k (by first | rw [if_neg c_15, if_pos c_16] | simp only [if_neg c_15, if_pos c_16])
        · refine lv_iconst (v := 1) hx hb dX1_adjust_105 (by decide) ?_
          refine lv_goto (tgt := 110) hx hb dX1_adjust_106 (by decide) ?_
          exact rg_e k (by first | rw [if_neg c_15, if_neg c_16] | simp only [if_neg c_15, if_neg c_16])
    refine lv_istore (lv' := [(7, .int y_14), (6, .int y_5), (5, .int y_3), (4, .int y_1), (0, .ref h0), (1, .int a1), (2, .int a2), (3, .int a3)]) hx hb dX1_adjust_110 hl (by decide) rfl (fun ls hl => ?_)
    refine lv_iload hx hb dX1_adjust_112 (lv_at hl 3 rfl) ?_
    refine lv_sipush (v := 153) hx hb dX1_adjust_114 (by decide +kernel) ?_
    refine rg (J := 133) (st := []) (if 153 < y_1 then 1 else (if (f_X1_is fl 1) = 0 then 0 else 1)) (fun k => ?_) (fun y_17 ey_17 => ?_)
    · refine lv_icmp_gt (tgt := 128) hx hb dX1_adjust_117 (by decide) (fun c_18 => ?_) (fun c_18 => ?_)
      · refine lv_iconst (v := 1) hx hb dX1_adjust_128 (by decide) ?_
        refine lv_goto (tgt := 133) hx hb dX1_adjust_129 (by decide) ?_
        exact rg_e k (by first | rw [if_pos c_18] | simp only [if_pos c_18])
      · refine lv_aload_n hx hb dX1_adjust_120 rfl (lv_at hl 4 rfl) ?_
        refine lv_iconst (v := 1) hx hb dX1_adjust_121 (by decide) ?_
        refine pu_calli (F := (f_X1_is fl 1)) (va_runV (As := [.int 1]) (rest := []) ⟨hx, hb, hml, hown, hts⟩ (p_X1_is l dC dI h0 _ y_6 fl u_13 1 (by decide)) (cwV 1 hts gX1_adjust_X1_is rfl rfl rfl (by decide +kernel) ⟨Nat.le_of_ble_eq_true rfl, Nat.le_of_ble_eq_true rfl⟩) (pu_preV (ci := 2) rfl hK hP) rfl rfl hl.1 rfl (lv_room (Nat.le_of_ble_eq_true rfl)) dX1_adjust_122 ⟨Nat.le_of_ble_eq_true rfl, Nat.le_of_ble_eq_true rfl⟩) ?_
        refine lv_if_eq (tgt := 132) hx hb dX1_adjust_125 (by decide) (fun c_19 => ?_) (fun c_19 => ?_)
        · refine lv_iconst (v := 0) hx hb dX1_adjust_132 (by decide) ?_
          exact rg_e k (by first | rw [if_neg c_18, if_pos c_19] | simp only [if_neg c_18, if_pos c_19])
        · refine lv_iconst (v := 1) hx hb dX1_adjust_128 (by decide) ?_
          refine lv_goto (tgt := 133) hx hb dX1_adjust_129 (by decide) ?_
          exact rg_e k (by first | rw [if_neg c_18, if_neg c_19] | simp only [if_neg c_18, if_neg c_19])
    refine lv_istore (lv' := [(8, .int y_17), (7, .int y_14), (6, .int y_5), (5, .int y_3), (4, .int y_1), (0, .ref h0), (1, .int a1), (2, .int a2), (3, .int a3)]) hx hb dX1_adjust_133 hl (by decide) rfl (fun ls hl => ?_)
    refine lv_iload hx hb dX1_adjust_135 (lv_at hl 4 rfl) ?_
    refine lv_istore (lv' := [(9, .int y_1), (8, .int y_17), (7, .int y_14), (6, .int y_5), (5, .int y_3), (4, .int y_1), (0, .ref h0), (1, .int a1), (2, .int a2), (3, .int a3)]) hx hb dX1_adjust_137 hl (by decide) rfl (fun ls hl => ?_)
    refine lv_iload_n hx hb dX1_adjust_139 rfl (lv_at hl 7 rfl) ?_
    by_cases c_20 : a1 = 0
    · refine lv_tableIn (off := 36) (tgt := 176) hx hb dX1_adjust_140 (by rw [c_20]; decide) (by rw [c_20]; decide) (by rw [c_20]; rfl) (by decide) ?_
      refine lv_iload hx hb dX1_adjust_176 (lv_at hl 5 rfl) ?_
      refine lv_iload hx hb dX1_adjust_178 (lv_at hl 2 rfl) ?_
      refine rg (J := 189) (st := [.int y_1]) (if y_14 = 0 then 0 else 6) (fun k => ?_) (fun y_21 ey_21 => ?_)
      · refine lv_if_eq (tgt := 188) hx hb dX1_adjust_180 (by decide) (fun c_22 => ?_) (fun c_22 => ?_)
        · refine lv_iconst (v := 0) hx hb dX1_adjust_188 (by decide) ?_
          exact rg_e k (by first | rw [if_pos c_22] | simp only [if_pos c_22])
        · refine lv_bipush (v := 6) hx hb dX1_adjust_183 (by decide +kernel) ?_
          refine lv_goto (tgt := 189) hx hb dX1_adjust_185 (by decide) ?_
          exact rg_e k (by first | rw [if_neg c_22] | simp only [if_neg c_22])
      refine lv_iadd hx hb dX1_adjust_189 ?_
      refine lv_iload hx hb dX1_adjust_190 (lv_at hl 1 rfl) ?_
      refine rg (J := 201) (st := [.int (y_1 + y_21)]) (if y_17 = 0 then 0 else 96) (fun k => ?_) (fun y_23 ey_23 => ?_)
      · refine lv_if_eq (tgt := 200) hx hb dX1_adjust_192 (by decide) (fun c_24 => ?_) (fun c_24 => ?_)
        · refine lv_iconst (v := 0) hx hb dX1_adjust_200 (by decide) ?_
          exact rg_e k (by first | rw [if_pos c_24] | simp only [if_pos c_24])
        · refine lv_bipush (v := 96) hx hb dX1_adjust_195 (by decide +kernel) ?_
          refine lv_goto (tgt := 201) hx hb dX1_adjust_197 (by decide) ?_
          exact rg_e k (by first | rw [if_neg c_24] | simp only [if_neg c_24])
      refine lv_iadd hx hb dX1_adjust_201 ?_
      refine pu_calli (F := (f_X1_byteOf ((y_1 + y_21) + y_23))) (va_runS (As := [.int ((y_1 + y_21) + y_23)]) (rest := []) ⟨hx, hb, hml, hown, hts⟩ (p_X1_byteOf l _ ((y_1 + y_21) + y_23)) (va_cwS 1 hts gX1_adjust_X1_byteOf rfl rfl rfl (by decide +kernel) ⟨Nat.le_of_ble_eq_true rfl, Nat.le_of_ble_eq_true rfl⟩) pu_preS rfl rfl hl.1 rfl (lv_room (Nat.le_of_ble_eq_true rfl)) dX1_adjust_202 ⟨Nat.le_of_ble_eq_true rfl, Nat.le_of_ble_eq_true rfl⟩) ?_
      refine lv_topi (fun y_25 ey_25 => ?_)
      refine lv_istore (lv' := [(9, .int y_25), (8, .int y_17), (7, .int y_14), (6, .int y_5), (5, .int y_3), (4, .int y_1), (0, .ref h0), (1, .int a1), (2, .int a2), (3, .int a3)]) hx hb dX1_adjust_205 hl (by decide) rfl (fun ls hl => ?_)
      refine lv_aload_n hx hb dX1_adjust_207 rfl (lv_at hl 6 rfl) ?_
      refine lv_bipush (v := 16) hx hb dX1_adjust_208 (by decide +kernel) ?_
      refine lv_iload hx hb dX1_adjust_210 (lv_at hl 2 rfl) ?_
      refine wr_callv (va_runV (As := [.int 16, .int y_14]) (rest := []) ⟨hx, hb, hml, hown, hts⟩ (p_X1_put l dC dI h0 _ y_6 fl u_13 16 y_14 (by decide)) (cwV 2 hts gX1_adjust_X1_put rfl rfl rfl (by decide +kernel) ⟨Nat.le_of_ble_eq_true rfl, Nat.le_of_ble_eq_true rfl⟩) (wr_preV (ci := 2) rfl hK hP hD) rfl rfl hl.1 rfl (lv_room (Nat.le_of_ble_eq_true rfl)) dX1_adjust_212 ⟨Nat.le_of_ble_eq_true rfl, Nat.le_of_ble_eq_true rfl⟩) hP hD hS hA (fun u_27 H locs eu_27 hP hD hS => ?_)
      have hP : va_P (dC, dI) vwCl [(h0, .inr (2, [.int y_6, .int u_27, .int u_13]))] H := hP
      have hD : va_D A [(h0, .inr (2, [.int y_6, .int u_27, .int u_13]))] := hD
      refine lv_aload_n hx hb dX1_adjust_215 rfl (lv_at hl 6 rfl) ?_
      refine lv_iconst (v := 1) hx hb dX1_adjust_216 (by decide) ?_
      refine lv_iload hx hb dX1_adjust_217 (lv_at hl 1 rfl) ?_
      refine wr_callv (va_runV (As := [.int 1, .int y_17]) (rest := []) ⟨hx, hb, hml, hown, hts⟩ (p_X1_put l dC dI h0 _ y_6 u_27 u_13 1 y_17 (by decide)) (cwV 2 hts gX1_adjust_X1_put rfl rfl rfl (by decide +kernel) ⟨Nat.le_of_ble_eq_true rfl, Nat.le_of_ble_eq_true rfl⟩) (wr_preV (ci := 2) rfl hK hP hD) rfl rfl hl.1 rfl (lv_room (Nat.le_of_ble_eq_true rfl)) dX1_adjust_219 ⟨Nat.le_of_ble_eq_true rfl, Nat.le_of_ble_eq_true rfl⟩) hP hD hS hA (fun u_29 H locs eu_29 hP hD hS => ?_)
      have hP : va_P (dC, dI) vwCl [(h0, .inr (2, [.int y_6, .int u_29, .int u_13]))] H := hP
      have hD : va_D A [(h0, .inr (2, [.int y_6, .int u_29, .int u_13]))] := hD
      refine lv_aload_n hx hb dX1_adjust_222 rfl (lv_at hl 6 rfl) ?_
      refine lv_iload hx hb dX1_adjust_223 (lv_at hl 0 rfl) ?_
      refine wr_callv (va_runV (As := [.int y_25]) (rest := []) ⟨hx, hb, hml, hown, hts⟩ (p_X1_byAnswer l dC dI h0 _ y_6 u_29 u_13 y_25) (cwV 1 hts gX1_adjust_X1_byAnswer rfl rfl rfl (by decide +kernel) ⟨Nat.le_of_ble_eq_true rfl, Nat.le_of_ble_eq_true rfl⟩) (wr_preV (ci := 2) rfl hK hP hD) rfl rfl hl.1 rfl (lv_room (Nat.le_of_ble_eq_true rfl)) dX1_adjust_225 ⟨Nat.le_of_ble_eq_true rfl, Nat.le_of_ble_eq_true rfl⟩) hP hD hS hA (fun u_31 H locs eu_31 hP hD hS => ?_)
      have hP : va_P (dC, dI) vwCl [(h0, .inr (2, [.int y_6, .int u_31, .int u_13]))] H := hP
      have hD : va_D A [(h0, .inr (2, [.int y_6, .int u_31, .int u_13]))] := hD
      refine lv_sipush (v := 256) hx hb dX1_adjust_228 (by decide +kernel) ?_
      refine lv_iload hx hb dX1_adjust_231 (lv_at hl 4 rfl) ?_
      refine lv_imul hx hb dX1_adjust_233 ?_
      refine lv_iload hx hb dX1_adjust_234 (lv_at hl 0 rfl) ?_
      refine lv_iadd hx hb dX1_adjust_236 ?_
      exact W.iret (v := ((256 * y_3) + y_25)) hx hb hr (fun t ht hW => ⟨⟨((256 * y_3) + y_25), (y_6, u_31, u_13), rfl, ⟨(by subst ey_1; subst ey_2; subst ey_3; subst ey_5; subst ey_6; subst eu_13; subst ey_14; subst ey_17; subst ey_21; subst ey_23; subst ey_25; subst eu_27; subst eu_29; subst eu_31; simp only [f_X1_adjust, if_pos c_11]; simp only [if_pos c_20]), (by subst ey_1; subst ey_2; subst ey_3; subst ey_5; subst ey_6; subst eu_13; subst ey_14; subst ey_17; subst ey_21; subst ey_23; subst ey_25; subst eu_27; subst eu_29; subst eu_31; simp only [f_X1_adjust, if_pos c_11]; simp only [if_pos c_20])⟩, by rw [ht]; exact hP, va_K.moved hW.alike hK, hD⟩, hS.F ht⟩) hS.2.2 dX1_adjust_237
    by_cases c_32 : a1 = 1
    · refine lv_tableIn (off := 98) (tgt := 238) hx hb dX1_adjust_140 (by rw [c_32]; decide) (by rw [c_32]; decide) (by rw [c_32]; rfl) (by decide) ?_
      refine lv_iload hx hb dX1_adjust_238 (lv_at hl 5 rfl) ?_
      refine lv_iload hx hb dX1_adjust_240 (lv_at hl 2 rfl) ?_
      refine rg (J := 251) (st := [.int y_1]) (if y_14 = 0 then 0 else 6) (fun k => ?_) (fun y_33 ey_33 => ?_)
      · refine lv_if_eq (tgt := 250) hx hb dX1_adjust_242 (by decide) (fun c_34 => ?_) (fun c_34 => ?_)
        · refine lv_iconst (v := 0) hx hb dX1_adjust_250 (by decide) ?_
          exact rg_e k (by first | rw [if_pos c_34] | simp only [if_pos c_34])
        · refine lv_bipush (v := 6) hx hb dX1_adjust_245 (by decide +kernel) ?_
          refine lv_goto (tgt := 251) hx hb dX1_adjust_247 (by decide) ?_
          exact rg_e k (by first | rw [if_neg c_34] | simp only [if_neg c_34])
      refine lv_isub hx hb dX1_adjust_251 ?_
      refine lv_iload hx hb dX1_adjust_252 (lv_at hl 1 rfl) ?_
      refine rg (J := 263) (st := [.int (y_1 - y_33)]) (if y_17 = 0 then 0 else 96) (fun k => ?_) (fun y_35 ey_35 => ?_)
      · refine lv_if_eq (tgt := 262) hx hb dX1_adjust_254 (by decide) (fun c_36 => ?_) (fun c_36 => ?_)
        · refine lv_iconst (v := 0) hx hb dX1_adjust_262 (by decide) ?_
          exact rg_e k (by first | rw [if_pos c_36] | simp only [if_pos c_36])
        · refine lv_bipush (v := 96) hx hb dX1_adjust_257 (by decide +kernel) ?_
          refine lv_goto (tgt := 263) hx hb dX1_adjust_259 (by decide) ?_
          exact rg_e k (by first | rw [if_neg c_36] | simp only [if_neg c_36])
      refine lv_isub hx hb dX1_adjust_263 ?_
      refine pu_calli (F := (f_X1_byteOf ((y_1 - y_33) - y_35))) (va_runS (As := [.int ((y_1 - y_33) - y_35)]) (rest := []) ⟨hx, hb, hml, hown, hts⟩ (p_X1_byteOf l _ ((y_1 - y_33) - y_35)) (va_cwS 1 hts gX1_adjust_X1_byteOf rfl rfl rfl (by decide +kernel) ⟨Nat.le_of_ble_eq_true rfl, Nat.le_of_ble_eq_true rfl⟩) pu_preS rfl rfl hl.1 rfl (lv_room (Nat.le_of_ble_eq_true rfl)) dX1_adjust_264 ⟨Nat.le_of_ble_eq_true rfl, Nat.le_of_ble_eq_true rfl⟩) ?_
      refine lv_topi (fun y_37 ey_37 => ?_)
      refine lv_istore (lv' := [(9, .int y_37), (8, .int y_17), (7, .int y_14), (6, .int y_5), (5, .int y_3), (4, .int y_1), (0, .ref h0), (1, .int a1), (2, .int a2), (3, .int a3)]) hx hb dX1_adjust_267 hl (by decide) rfl (fun ls hl => ?_)
      refine lv_aload_n hx hb dX1_adjust_269 rfl (lv_at hl 6 rfl) ?_
      refine lv_bipush (v := 16) hx hb dX1_adjust_270 (by decide +kernel) ?_
      refine lv_iload hx hb dX1_adjust_272 (lv_at hl 2 rfl) ?_
      refine wr_callv (va_runV (As := [.int 16, .int y_14]) (rest := []) ⟨hx, hb, hml, hown, hts⟩ (p_X1_put l dC dI h0 _ y_6 fl u_13 16 y_14 (by decide)) (cwV 2 hts gX1_adjust_X1_put rfl rfl rfl (by decide +kernel) ⟨Nat.le_of_ble_eq_true rfl, Nat.le_of_ble_eq_true rfl⟩) (wr_preV (ci := 2) rfl hK hP hD) rfl rfl hl.1 rfl (lv_room (Nat.le_of_ble_eq_true rfl)) dX1_adjust_274 ⟨Nat.le_of_ble_eq_true rfl, Nat.le_of_ble_eq_true rfl⟩) hP hD hS hA (fun u_39 H locs eu_39 hP hD hS => ?_)
      have hP : va_P (dC, dI) vwCl [(h0, .inr (2, [.int y_6, .int u_39, .int u_13]))] H := hP
      have hD : va_D A [(h0, .inr (2, [.int y_6, .int u_39, .int u_13]))] := hD
      refine lv_aload_n hx hb dX1_adjust_277 rfl (lv_at hl 6 rfl) ?_
      refine lv_iconst (v := 1) hx hb dX1_adjust_278 (by decide) ?_
      refine lv_iload hx hb dX1_adjust_279 (lv_at hl 1 rfl) ?_
      refine rg (J := 301) (st := [.int 1, .ref h0]) (if y_17 = 0 then (if y_14 = 0 then 0 else (if 6 ≤ y_1 then 0 else 1)) else 1) (fun k => ?_) (fun y_40 ey_40 => ?_)
      · refine lv_if_ne (tgt := 296) hx hb dX1_adjust_281 (by decide) (fun c_41 => ?_) (fun c_41 => ?_)
        · refine lv_iconst (v := 1) hx hb dX1_adjust_296 (by decide) ?_
          refine lv_goto (tgt := 301) hx hb dX1_adjust_297 (by decide) ?_
          exact rg_e k (by first | rw [if_neg c_41] | simp only [if_neg c_41])
        · refine lv_iload hx hb dX1_adjust_284 (lv_at hl 2 rfl) ?_
          refine lv_if_eq (tgt := 300) hx hb dX1_adjust_286 (by decide) (fun c_42 => ?_) (fun c_42 => ?_)
          · refine lv_iconst (v := 0) hx hb dX1_adjust_300 (by decide) ?_
            exact rg_e k (by first | rw [if_pos c_41, if_pos c_42] | simp only [if_pos c_41, if_pos c_42])
          · refine lv_iload hx hb dX1_adjust_289 (lv_at hl 5 rfl) ?_
            refine lv_bipush (v := 6) hx hb dX1_adjust_291 (by decide +kernel) ?_
            refine lv_icmp_ge (tgt := 300) hx hb dX1_adjust_293 (by decide) (fun c_43 => ?_) (fun c_43 => ?_)
            · refine lv_iconst (v := 0) hx hb dX1_adjust_300 (by decide) ?_
              exact rg_e k (by first | rw [if_pos c_41, if_neg c_42, if_pos c_43] | simp only [if_pos c_41, if_neg c_42, if_pos c_43])
            · refine lv_iconst (v := 1) hx hb dX1_adjust_296 (by decide) ?_
              refine lv_goto (tgt := 301) hx hb dX1_adjust_297 (by decide) ?_
              exact rg_e k (by first | rw [if_pos c_41, if_neg c_42, if_neg c_43] | simp only [if_pos c_41, if_neg c_42, if_neg c_43])
      refine wr_callv (va_runV (As := [.int 1, .int y_40]) (rest := []) ⟨hx, hb, hml, hown, hts⟩ (p_X1_put l dC dI h0 _ y_6 u_39 u_13 1 y_40 (by decide)) (cwV 2 hts gX1_adjust_X1_put rfl rfl rfl (by decide +kernel) ⟨Nat.le_of_ble_eq_true rfl, Nat.le_of_ble_eq_true rfl⟩) (wr_preV (ci := 2) rfl hK hP hD) rfl rfl hl.1 rfl (lv_room (Nat.le_of_ble_eq_true rfl)) dX1_adjust_301 ⟨Nat.le_of_ble_eq_true rfl, Nat.le_of_ble_eq_true rfl⟩) hP hD hS hA (fun u_45 H locs eu_45 hP hD hS => ?_)
      have hP : va_P (dC, dI) vwCl [(h0, .inr (2, [.int y_6, .int u_45, .int u_13]))] H := hP
      have hD : va_D A [(h0, .inr (2, [.int y_6, .int u_45, .int u_13]))] := hD
      refine lv_aload_n hx hb dX1_adjust_304 rfl (lv_at hl 6 rfl) ?_
      refine lv_iload hx hb dX1_adjust_305 (lv_at hl 0 rfl) ?_
      refine wr_callv (va_runV (As := [.int y_37]) (rest := []) ⟨hx, hb, hml, hown, hts⟩ (p_X1_byAnswer l dC dI h0 _ y_6 u_45 u_13 y_37) (cwV 1 hts gX1_adjust_X1_byAnswer rfl rfl rfl (by decide +kernel) ⟨Nat.le_of_ble_eq_true rfl, Nat.le_of_ble_eq_true rfl⟩) (wr_preV (ci := 2) rfl hK hP hD) rfl rfl hl.1 rfl (lv_room (Nat.le_of_ble_eq_true rfl)) dX1_adjust_307 ⟨Nat.le_of_ble_eq_true rfl, Nat.le_of_ble_eq_true rfl⟩) hP hD hS hA (fun u_47 H locs eu_47 hP hD hS => ?_)
      have hP : va_P (dC, dI) vwCl [(h0, .inr (2, [.int y_6, .int u_47, .int u_13]))] H := hP
      have hD : va_D A [(h0, .inr (2, [.int y_6, .int u_47, .int u_13]))] := hD
      refine lv_sipush (v := 256) hx hb dX1_adjust_310 (by decide +kernel) ?_
      refine lv_iload hx hb dX1_adjust_313 (lv_at hl 4 rfl) ?_
      refine lv_imul hx hb dX1_adjust_315 ?_
      refine lv_iload hx hb dX1_adjust_316 (lv_at hl 0 rfl) ?_
      refine lv_iadd hx hb dX1_adjust_318 ?_
      exact W.iret (v := ((256 * y_3) + y_37)) hx hb hr (fun t ht hW => ⟨⟨((256 * y_3) + y_37), (y_6, u_47, u_13), rfl, ⟨(by subst ey_1; subst ey_2; subst ey_3; subst ey_5; subst ey_6; subst eu_13; subst ey_14; subst ey_17; subst ey_33; subst ey_35; subst ey_37; subst eu_39; subst ey_40; subst eu_45; subst eu_47; simp only [f_X1_adjust, if_pos c_11]; simp only [if_neg c_20, if_pos c_32]), (by subst ey_1; subst ey_2; subst ey_3; subst ey_5; subst ey_6; subst eu_13; subst ey_14; subst ey_17; subst ey_33; subst ey_35; subst ey_37; subst eu_39; subst ey_40; subst eu_45; subst eu_47; simp only [f_X1_adjust, if_pos c_11]; simp only [if_neg c_20, if_pos c_32])⟩, by rw [ht]; exact hP, va_K.moved hW.alike hK, hD⟩, hS.F ht⟩) hS.2.2 dX1_adjust_319
    by_cases c_48 : a1 = 2
    · refine lv_tableIn (off := 180) (tgt := 320) hx hb dX1_adjust_140 (by rw [c_48]; decide) (by rw [c_48]; decide) (by rw [c_48]; rfl) (by decide) ?_
      refine lv_aload_n hx hb dX1_adjust_320 rfl (lv_at hl 6 rfl) ?_
      refine lv_bipush (v := 16) hx hb dX1_adjust_321 (by decide +kernel) ?_
      refine lv_iload hx hb dX1_adjust_323 (lv_at hl 2 rfl) ?_
      refine wr_callv (va_runV (As := [.int 16, .int y_14]) (rest := []) ⟨hx, hb, hml, hown, hts⟩ (p_X1_put l dC dI h0 _ y_6 fl u_13 16 y_14 (by decide)) (cwV 2 hts gX1_adjust_X1_put rfl rfl rfl (by decide +kernel) ⟨Nat.le_of_ble_eq_true rfl, Nat.le_of_ble_eq_true rfl⟩) (wr_preV (ci := 2) rfl hK hP hD) rfl rfl hl.1 rfl (lv_room (Nat.le_of_ble_eq_true rfl)) dX1_adjust_325 ⟨Nat.le_of_ble_eq_true rfl, Nat.le_of_ble_eq_true rfl⟩) hP hD hS hA (fun u_50 H locs eu_50 hP hD hS => ?_)
      have hP : va_P (dC, dI) vwCl [(h0, .inr (2, [.int y_6, .int u_50, .int u_13]))] H := hP
      have hD : va_D A [(h0, .inr (2, [.int y_6, .int u_50, .int u_13]))] := hD
      refine lv_aload_n hx hb dX1_adjust_328 rfl (lv_at hl 6 rfl) ?_
      refine lv_iconst (v := 1) hx hb dX1_adjust_329 (by decide) ?_
      refine lv_iload hx hb dX1_adjust_330 (lv_at hl 2 rfl) ?_
      refine wr_callv (va_runV (As := [.int 1, .int y_14]) (rest := []) ⟨hx, hb, hml, hown, hts⟩ (p_X1_put l dC dI h0 _ y_6 u_50 u_13 1 y_14 (by decide)) (cwV 2 hts gX1_adjust_X1_put rfl rfl rfl (by decide +kernel) ⟨Nat.le_of_ble_eq_true rfl, Nat.le_of_ble_eq_true rfl⟩) (wr_preV (ci := 2) rfl hK hP hD) rfl rfl hl.1 rfl (lv_room (Nat.le_of_ble_eq_true rfl)) dX1_adjust_332 ⟨Nat.le_of_ble_eq_true rfl, Nat.le_of_ble_eq_true rfl⟩) hP hD hS hA (fun u_52 H locs eu_52 hP hD hS => ?_)
      have hP : va_P (dC, dI) vwCl [(h0, .inr (2, [.int y_6, .int u_52, .int u_13]))] H := hP
      have hD : va_D A [(h0, .inr (2, [.int y_6, .int u_52, .int u_13]))] := hD
      refine lv_sipush (v := 256) hx hb dX1_adjust_335 (by decide +kernel) ?_
      refine lv_iload hx hb dX1_adjust_338 (lv_at hl 2 rfl) ?_
      refine rg (J := 352) (st := [.int 256]) (if y_14 = 0 then y_3 else (y_3 + 1)) (fun k => ?_) (fun y_53 ey_53 => ?_)
      · refine lv_if_eq (tgt := 350) hx hb dX1_adjust_340 (by decide) (fun c_54 => ?_) (fun c_54 => ?_)
        · refine lv_iload hx hb dX1_adjust_350 (lv_at hl 4 rfl) ?_
          exact rg_e k (by first | rw [if_pos c_54] | simp only [if_pos c_54])
        · refine lv_iload hx hb dX1_adjust_343 (lv_at hl 4 rfl) ?_
          refine lv_iconst (v := 1) hx hb dX1_adjust_345 (by decide) ?_
          refine lv_iadd hx hb dX1_adjust_346 ?_
          refine lv_goto (tgt := 352) hx hb dX1_adjust_347 (by decide) ?_
          exact rg_e k (by first | rw [if_neg c_54] | simp only [if_neg c_54])
      refine pu_calli (F := (f_X1_byteOf y_53)) (va_runS (As := [.int y_53]) (rest := [.int 256]) ⟨hx, hb, hml, hown, hts⟩ (p_X1_byteOf l _ y_53) (va_cwS 1 hts gX1_adjust_X1_byteOf rfl rfl rfl (by decide +kernel) ⟨Nat.le_of_ble_eq_true rfl, Nat.le_of_ble_eq_true rfl⟩) pu_preS rfl rfl hl.1 rfl (lv_room (Nat.le_of_ble_eq_true rfl)) dX1_adjust_352 ⟨Nat.le_of_ble_eq_true rfl, Nat.le_of_ble_eq_true rfl⟩) ?_
      refine lv_imul hx hb dX1_adjust_355 ?_
      refine lv_iload hx hb dX1_adjust_356 (lv_at hl 2 rfl) ?_
      refine rg (J := 371) (st := [.int (256 * (f_X1_byteOf y_53))]) (if y_14 = 0 then y_1 else (y_1 + 6)) (fun k => ?_) (fun y_55 ey_55 => ?_)
      · refine lv_if_eq (tgt := 369) hx hb dX1_adjust_358 (by decide) (fun c_56 => ?_) (fun c_56 => ?_)
        · refine lv_iload hx hb dX1_adjust_369 (lv_at hl 5 rfl) ?_
          exact rg_e k (by first | rw [if_pos c_56] | simp only [if_pos c_56])
        · refine lv_iload hx hb dX1_adjust_361 (lv_at hl 5 rfl) ?_
          refine lv_bipush (v := 6) hx hb dX1_adjust_363 (by decide +kernel) ?_
          refine lv_iadd hx hb dX1_adjust_365 ?_
          refine lv_goto (tgt := 371) hx hb dX1_adjust_366 (by decide) ?_
          exact rg_e k (by first | rw [if_neg c_56] | simp only [if_neg c_56])
      refine lv_bipush (v := 16) hx hb dX1_adjust_371 (by decide +kernel) ?_
      refine jr_row hx hb dX1_adjust_373 (by decide) ?_
      refine lv_iadd hx hb dX1_adjust_374 ?_
      exact W.iret (v := ((256 * (f_X1_byteOf y_53)) + (jr y_55 16))) hx hb hr (fun t ht hW => ⟨⟨((256 * (f_X1_byteOf y_53)) + (jr y_55 16)), (y_6, u_52, u_13), rfl, ⟨(by subst ey_1; subst ey_2; subst ey_3; subst ey_5; subst ey_6; subst eu_13; subst ey_14; subst ey_17; subst eu_50; subst eu_52; subst ey_53; subst ey_55; simp only [f_X1_adjust, if_pos c_11]; simp only [if_neg c_20, if_neg c_32, if_pos c_48]), (by subst ey_1; subst ey_2; subst ey_3; subst ey_5; subst ey_6; subst eu_13; subst ey_14; subst ey_17; subst eu_50; subst eu_52; subst ey_53; subst ey_55; simp only [f_X1_adjust, if_pos c_11]; simp only [if_neg c_20, if_neg c_32, if_pos c_48])⟩, by rw [ht]; exact hP, va_K.moved hW.alike hK, hD⟩, hS.F ht⟩) hS.2.2 dX1_adjust_375
    by_cases c_57 : a1 = 3
    · refine lv_tableIn (off := 236) (tgt := 376) hx hb dX1_adjust_140 (by rw [c_57]; decide) (by rw [c_57]; decide) (by rw [c_57]; rfl) (by decide) ?_
      refine lv_aload_n hx hb dX1_adjust_376 rfl (lv_at hl 6 rfl) ?_
      refine lv_bipush (v := 16) hx hb dX1_adjust_377 (by decide +kernel) ?_
      refine lv_iload hx hb dX1_adjust_379 (lv_at hl 2 rfl) ?_
      refine wr_callv (va_runV (As := [.int 16, .int y_14]) (rest := []) ⟨hx, hb, hml, hown, hts⟩ (p_X1_put l dC dI h0 _ y_6 fl u_13 16 y_14 (by decide)) (cwV 2 hts gX1_adjust_X1_put rfl rfl rfl (by decide +kernel) ⟨Nat.le_of_ble_eq_true rfl, Nat.le_of_ble_eq_true rfl⟩) (wr_preV (ci := 2) rfl hK hP hD) rfl rfl hl.1 rfl (lv_room (Nat.le_of_ble_eq_true rfl)) dX1_adjust_381 ⟨Nat.le_of_ble_eq_true rfl, Nat.le_of_ble_eq_true rfl⟩) hP hD hS hA (fun u_59 H locs eu_59 hP hD hS => ?_)
      have hP : va_P (dC, dI) vwCl [(h0, .inr (2, [.int y_6, .int u_59, .int u_13]))] H := hP
      have hD : va_D A [(h0, .inr (2, [.int y_6, .int u_59, .int u_13]))] := hD
      refine lv_aload_n hx hb dX1_adjust_384 rfl (lv_at hl 6 rfl) ?_
      refine lv_iconst (v := 1) hx hb dX1_adjust_385 (by decide) ?_
      refine lv_iload hx hb dX1_adjust_386 (lv_at hl 2 rfl) ?_
      refine wr_callv (va_runV (As := [.int 1, .int y_14]) (rest := []) ⟨hx, hb, hml, hown, hts⟩ (p_X1_put l dC dI h0 _ y_6 u_59 u_13 1 y_14 (by decide)) (cwV 2 hts gX1_adjust_X1_put rfl rfl rfl (by decide +kernel) ⟨Nat.le_of_ble_eq_true rfl, Nat.le_of_ble_eq_true rfl⟩) (wr_preV (ci := 2) rfl hK hP hD) rfl rfl hl.1 rfl (lv_room (Nat.le_of_ble_eq_true rfl)) dX1_adjust_388 ⟨Nat.le_of_ble_eq_true rfl, Nat.le_of_ble_eq_true rfl⟩) hP hD hS hA (fun u_61 H locs eu_61 hP hD hS => ?_)
      have hP : va_P (dC, dI) vwCl [(h0, .inr (2, [.int y_6, .int u_61, .int u_13]))] H := hP
      have hD : va_D A [(h0, .inr (2, [.int y_6, .int u_61, .int u_13]))] := hD
      refine lv_sipush (v := 256) hx hb dX1_adjust_391 (by decide +kernel) ?_
      refine lv_iload hx hb dX1_adjust_394 (lv_at hl 2 rfl) ?_
      refine rg (J := 408) (st := [.int 256]) (if y_14 = 0 then y_3 else (y_3 - 1)) (fun k => ?_) (fun y_62 ey_62 => ?_)
      · refine lv_if_eq (tgt := 406) hx hb dX1_adjust_396 (by decide) (fun c_63 => ?_) (fun c_63 => ?_)
        · refine lv_iload hx hb dX1_adjust_406 (lv_at hl 4 rfl) ?_
          exact rg_e k (by first | rw [if_pos c_63] | simp only [if_pos c_63])
        · refine lv_iload hx hb dX1_adjust_399 (lv_at hl 4 rfl) ?_
          refine lv_iconst (v := 1) hx hb dX1_adjust_401 (by decide) ?_
          refine lv_isub hx hb dX1_adjust_402 ?_
          refine lv_goto (tgt := 408) hx hb dX1_adjust_403 (by decide) ?_
          exact rg_e k (by first | rw [if_neg c_63] | simp only [if_neg c_63])
      refine pu_calli (F := (f_X1_byteOf y_62)) (va_runS (As := [.int y_62]) (rest := [.int 256]) ⟨hx, hb, hml, hown, hts⟩ (p_X1_byteOf l _ y_62) (va_cwS 1 hts gX1_adjust_X1_byteOf rfl rfl rfl (by decide +kernel) ⟨Nat.le_of_ble_eq_true rfl, Nat.le_of_ble_eq_true rfl⟩) pu_preS rfl rfl hl.1 rfl (lv_room (Nat.le_of_ble_eq_true rfl)) dX1_adjust_408 ⟨Nat.le_of_ble_eq_true rfl, Nat.le_of_ble_eq_true rfl⟩) ?_
      refine lv_imul hx hb dX1_adjust_411 ?_
      refine lv_iload hx hb dX1_adjust_412 (lv_at hl 2 rfl) ?_
      refine rg (J := 427) (st := [.int (256 * (f_X1_byteOf y_62))]) (if y_14 = 0 then y_1 else (y_1 + 10)) (fun k => ?_) (fun y_64 ey_64 => ?_)
      · refine lv_if_eq (tgt := 425) hx hb dX1_adjust_414 (by decide) (fun c_65 => ?_) (fun c_65 => ?_)
        · refine lv_iload hx hb dX1_adjust_425 (lv_at hl 5 rfl) ?_
          exact rg_e k (by first | rw [if_pos c_65] | simp only [if_pos c_65])
        · refine lv_iload hx hb dX1_adjust_417 (lv_at hl 5 rfl) ?_
          refine lv_bipush (v := 10) hx hb dX1_adjust_419 (by decide +kernel) ?_
          refine lv_iadd hx hb dX1_adjust_421 ?_
          refine lv_goto (tgt := 427) hx hb dX1_adjust_422 (by decide) ?_
          exact rg_e k (by first | rw [if_neg c_65] | simp only [if_neg c_65])
      refine lv_bipush (v := 16) hx hb dX1_adjust_427 (by decide +kernel) ?_
      refine jr_row hx hb dX1_adjust_429 (by decide) ?_
      refine lv_iadd hx hb dX1_adjust_430 ?_
      exact W.iret (v := ((256 * (f_X1_byteOf y_62)) + (jr y_64 16))) hx hb hr (fun t ht hW => ⟨⟨((256 * (f_X1_byteOf y_62)) + (jr y_64 16)), (y_6, u_61, u_13), rfl, ⟨(by subst ey_1; subst ey_2; subst ey_3; subst ey_5; subst ey_6; subst eu_13; subst ey_14; subst ey_17; subst eu_59; subst eu_61; subst ey_62; subst ey_64; simp only [f_X1_adjust, if_pos c_11]; simp only [if_neg c_20, if_neg c_32, if_neg c_48, if_pos c_57]), (by subst ey_1; subst ey_2; subst ey_3; subst ey_5; subst ey_6; subst eu_13; subst ey_14; subst ey_17; subst eu_59; subst eu_61; subst ey_62; subst ey_64; simp only [f_X1_adjust, if_pos c_11]; simp only [if_neg c_20, if_neg c_32, if_neg c_48, if_pos c_57])⟩, by rw [ht]; exact hP, va_K.moved hW.alike hK, hD⟩, hS.F ht⟩) hS.2.2 dX1_adjust_431
    by_cases c_66 : a1 = 4
    · refine lv_tableIn (off := 292) (tgt := 432) hx hb dX1_adjust_140 (by rw [c_66]; decide) (by rw [c_66]; decide) (by rw [c_66]; rfl) (by decide) ?_
      refine lv_aload_n hx hb dX1_adjust_432 rfl (lv_at hl 6 rfl) ?_
      refine lv_iload hx hb dX1_adjust_433 (lv_at hl 5 rfl) ?_
      refine lv_iload hx hb dX1_adjust_435 (lv_at hl 3 rfl) ?_
      refine jr_row hx hb dX1_adjust_437 (fun h => absurd c_11 (by rw [ey_6, c_66, h]; decide)) ?_
      refine wr_callv (va_runV (As := [.int (jr y_1 y_5)]) (rest := []) ⟨hx, hb, hml, hown, hts⟩ (p_X1_byAnswer l dC dI h0 _ y_6 fl u_13 (jr y_1 y_5)) (cwV 1 hts gX1_adjust_X1_byAnswer rfl rfl rfl (by decide +kernel) ⟨Nat.le_of_ble_eq_true rfl, Nat.le_of_ble_eq_true rfl⟩) (wr_preV (ci := 2) rfl hK hP hD) rfl rfl hl.1 rfl (lv_room (Nat.le_of_ble_eq_true rfl)) dX1_adjust_438 ⟨Nat.le_of_ble_eq_true rfl, Nat.le_of_ble_eq_true rfl⟩) hP hD hS hA (fun u_68 H locs eu_68 hP hD hS => ?_)
      have hP : va_P (dC, dI) vwCl [(h0, .inr (2, [.int y_6, .int u_68, .int u_13]))] H := hP
      have hD : va_D A [(h0, .inr (2, [.int y_6, .int u_68, .int u_13]))] := hD
      refine lv_sipush (v := 256) hx hb dX1_adjust_441 (by decide +kernel) ?_
      refine lv_iload hx hb dX1_adjust_444 (lv_at hl 5 rfl) ?_
      refine lv_iload hx hb dX1_adjust_446 (lv_at hl 3 rfl) ?_
      refine lv_idiv hx hb dX1_adjust_448 (fun h => absurd c_11 (by rw [ey_6, c_66, h]; decide)) ?_
      refine lv_imul hx hb dX1_adjust_449 ?_
      refine lv_iload hx hb dX1_adjust_450 (lv_at hl 5 rfl) ?_
      refine lv_iload hx hb dX1_adjust_452 (lv_at hl 3 rfl) ?_
      refine jr_row hx hb dX1_adjust_454 (fun h => absurd c_11 (by rw [ey_6, c_66, h]; decide)) ?_
      refine lv_iadd hx hb dX1_adjust_455 ?_
      exact W.iret (v := ((256 * (y_1 / y_5)) + (jr y_1 y_5))) hx hb hr (fun t ht hW => ⟨⟨((256 * (y_1 / y_5)) + (jr y_1 y_5)), (y_6, u_68, u_13), rfl, ⟨(by subst ey_1; subst ey_2; subst ey_3; subst ey_5; subst ey_6; subst eu_13; subst ey_14; subst ey_17; subst eu_68; simp only [f_X1_adjust, if_pos c_11]; simp only [if_neg c_20, if_neg c_32, if_neg c_48, if_neg c_57, if_pos c_66]), (by subst ey_1; subst ey_2; subst ey_3; subst ey_5; subst ey_6; subst eu_13; subst ey_14; subst ey_17; subst eu_68; simp only [f_X1_adjust, if_pos c_11]; simp only [if_neg c_20, if_neg c_32, if_neg c_48, if_neg c_57, if_pos c_66])⟩, by rw [ht]; exact hP, va_K.moved hW.alike hK, hD⟩, hS.F ht⟩) hS.2.2 dX1_adjust_456
    refine lv_tableOut (tgt := 457) hx hb dX1_adjust_140 (sw_out 4 (by decide) (fun k hk => by rcases (show k = 0 ∨ k = 1 ∨ k = 2 ∨ k = 3 ∨ k = 4 by omega) with rfl | rfl | rfl | rfl | rfl <;> assumption)) (by decide) ?_
    refine lv_iload hx hb dX1_adjust_457 (lv_at hl 4 rfl) ?_
    refine lv_iload hx hb dX1_adjust_459 (lv_at hl 3 rfl) ?_
    refine lv_imul hx hb dX1_adjust_461 ?_
    refine lv_iload hx hb dX1_adjust_462 (lv_at hl 5 rfl) ?_
    refine lv_iadd hx hb dX1_adjust_464 ?_
    refine pu_calli (F := (f_X1_byteOf ((y_3 * y_5) + y_1))) (va_runS (As := [.int ((y_3 * y_5) + y_1)]) (rest := []) ⟨hx, hb, hml, hown, hts⟩ (p_X1_byteOf l _ ((y_3 * y_5) + y_1)) (va_cwS 1 hts gX1_adjust_X1_byteOf rfl rfl rfl (by decide +kernel) ⟨Nat.le_of_ble_eq_true rfl, Nat.le_of_ble_eq_true rfl⟩) pu_preS rfl rfl hl.1 rfl (lv_room (Nat.le_of_ble_eq_true rfl)) dX1_adjust_465 ⟨Nat.le_of_ble_eq_true rfl, Nat.le_of_ble_eq_true rfl⟩) ?_
    refine lv_topi (fun y_69 ey_69 => ?_)
    refine lv_istore (lv' := [(9, .int y_69), (8, .int y_17), (7, .int y_14), (6, .int y_5), (5, .int y_3), (4, .int y_1), (0, .ref h0), (1, .int a1), (2, .int a2), (3, .int a3)]) hx hb dX1_adjust_468 hl (by decide) rfl (fun ls hl => ?_)
    refine lv_aload_n hx hb dX1_adjust_470 rfl (lv_at hl 6 rfl) ?_
    refine lv_iload hx hb dX1_adjust_471 (lv_at hl 0 rfl) ?_
    refine wr_callv (va_runV (As := [.int y_69]) (rest := []) ⟨hx, hb, hml, hown, hts⟩ (p_X1_byAnswer l dC dI h0 _ y_6 fl u_13 y_69) (cwV 1 hts gX1_adjust_X1_byAnswer rfl rfl rfl (by decide +kernel) ⟨Nat.le_of_ble_eq_true rfl, Nat.le_of_ble_eq_true rfl⟩) (wr_preV (ci := 2) rfl hK hP hD) rfl rfl hl.1 rfl (lv_room (Nat.le_of_ble_eq_true rfl)) dX1_adjust_473 ⟨Nat.le_of_ble_eq_true rfl, Nat.le_of_ble_eq_true rfl⟩) hP hD hS hA (fun u_71 H locs eu_71 hP hD hS => ?_)
    have hP : va_P (dC, dI) vwCl [(h0, .inr (2, [.int y_6, .int u_71, .int u_13]))] H := hP
    have hD : va_D A [(h0, .inr (2, [.int y_6, .int u_71, .int u_13]))] := hD
    refine lv_iload hx hb dX1_adjust_476 (lv_at hl 0 rfl) ?_
    exact W.iret (v := y_69) hx hb hr (fun t ht hW => ⟨⟨y_69, (y_6, u_71, u_13), rfl, ⟨(by subst ey_1; subst ey_2; subst ey_3; subst ey_5; subst ey_6; subst eu_13; subst ey_14; subst ey_17; subst ey_69; subst eu_71; simp only [f_X1_adjust, if_pos c_11]; simp only [if_neg c_20, if_neg c_32, if_neg c_48, if_neg c_57, if_neg c_66]), (by subst ey_1; subst ey_2; subst ey_3; subst ey_5; subst ey_6; subst eu_13; subst ey_14; subst ey_17; subst ey_69; subst eu_71; simp only [f_X1_adjust, if_pos c_11]; simp only [if_neg c_20, if_neg c_32, if_neg c_48, if_neg c_57, if_neg c_66])⟩, by rw [ht]; exact hP, va_K.moved hW.alike hK, hD⟩, hS.F ht⟩) hS.2.2 dX1_adjust_478
  · refine lv_iconst (v := 0) hx hb dX1_adjust_79 (by decide) ?_
    exact W.iret (v := 0) hx hb hr (fun t ht hW => ⟨⟨0, (y_6, fl, al), rfl, ⟨(by subst ey_1; subst ey_2; subst ey_3; subst ey_5; subst ey_6; simp only [f_X1_adjust, if_neg c_11]), (by subst ey_1; subst ey_2; subst ey_3; subst ey_5; subst ey_6; simp only [f_X1_adjust, if_neg c_11])⟩, by rw [ht]; exact hP, va_K.moved hW.alike hK, hD⟩, hS.F ht⟩) hS.2.2 dX1_adjust_80

/-- what X1_extend answers -/
def f_X1_extend (a1 : Int32) (a2 : Int32) : Int32 × (Int32 × Int32) :=
  let u_2 : Int32 := (f_X1_length a1)
  let y_3 : Int32 := (f_X1_signed u_2 (f_X1_operand u_2 a2))
  let y_4 : Int32 := (if a1 = 0 then (if 0 ≤ y_3 then y_3 else (y_3 + 65536)) else y_3)
  (y_4, (0, u_2))
set_option maxHeartbeats 4000000 in
set_option maxRecDepth 100000 in
theorem p_X1_extend (l : Launch) (dC : Nat → ClassId) (dI : Nat → Nat → Nat) (h0 : Nat) (sz : Nat) (cd : Int32) (fl : Int32) (al : Int32) (a1 : Int32) (a2 : Int32) : Met l yX1_extend wsX1_extend ({ frames := 1, cells := 0, slots := 0, locals := 21 }) (va_Pc [.ref h0, .int a1, .int a2] (wr_pre (dC, dI) 2 h0 sz [.int cd, .int fl, .int al])) (va_Qi (fun (r : Int32) (u : Int32 × Int32) => r = (f_X1_extend a1 a2).1 ∧ u = (f_X1_extend a1 a2).2) (wr_at (dC, dI) 2 h0 (fun u : Int32 × Int32 => [.int u.1, .int fl, .int u.2]) (wr_A 2 h0 sz [.int cd, .int fl, .int al])) (wr_A 2 h0 sz [.int cd, .int fl, .int al])) 0 0 (wr_A 2 h0 sz [.int cd, .int fl, .int al]) := by
  refine Met.ofW (cc := cX1_extend) (maxL := 4) (ret := (some .int)) (by decide) rfl ?_
  intro p e s m args below meth c s₁ B hml hv
  obtain ⟨rfl, hsz, hP, hK, hD0⟩ := hv
  have hx := B.exec
  have hb := B.bytes
  have hr := B.returns
  have hts := atoms_spec (ws := wsX1_extend) B.pre
  have hown : s.vm.findClass RX1 = some m.cls := findClass_of_methodNamed B.named
  have hlocks := B.notSynchronized
  subst hsz
  have hD : va_D (wr_A 2 h0 s.heap.size [.int cd, .int fl, .int al]) [(h0, .inr (2, [.int cd, .int fl, .int al]))] := hD0.self (sz := s.heap.size)
  generalize hAe : wr_A 2 h0 s.heap.size [.int cd, .int fl, .int al] = A at hD ⊢
  have hA : ∀ q : Nat, s.heap.size ≤ q → A q := fun q h => by rw [← hAe]; exact Or.inr h
  have hS : va_S A s.heap s.heap [] := va_S.rf
  have hP : va_P (dC, dI) vwCl [(h0, .inr (2, [.int cd, .int fl, .int al]))] s.heap := hP
  have hD : va_D A [(h0, .inr (2, [.int cd, .int fl, .int al]))] := hD
  have hl := lv_entry ([.ref h0, .int a1, .int a2]) (n := 4) (Nat.le_of_ble_eq_true rfl)
  rw [lg_entry_eq]
  generalize (lg_sl ([.ref h0, .int a1, .int a2]) ++ List.replicate (4 - (lg_sl ([.ref h0, .int a1, .int a2])).length) Slot.unset).toArray = ls at hl ⊢
  have hl : lv_has ls 4 [(0, .ref h0), (1, .int a1), (2, .int a2)] := hl
  refine lv_aload_n hx hb dX1_extend_0 rfl (lv_at hl 0 rfl) ?_
  refine lv_iconst (v := 0) hx hb dX1_extend_1 (by decide) ?_
  refine va_put (D := (dC, dI)) (ci := 2) (v := .int 0) (ty := .int) (C := RX1) (T := TX1) (N := 3) hx hb hts (by decide +kernel) tyX1 tyX1_ok nmX1 hown hK hP hD hS 0 rfl rfl 0 (by decide) (hts (.fieldLink RX1 7 "WordArithmeticModel" "code" "I") (by decide +kernel)) (fun _ h9 => h9) rfl (by decide +kernel) rfl rfl (Nat.le_of_ble_eq_true rfl) dX1_extend_2 (fun H locs hP hD hS => ?_)
  have hP : va_P (dC, dI) vwCl [(h0, .inr (2, [.int 0, .int fl, .int al]))] H := hP
  have hD : va_D A [(h0, .inr (2, [.int 0, .int fl, .int al]))] := hD
  refine lv_aload_n hx hb dX1_extend_5 rfl (lv_at hl 0 rfl) ?_
  refine lv_iload_n hx hb dX1_extend_6 rfl (lv_at hl 1 rfl) ?_
  refine wr_callv (va_runV (As := [.int a1]) (rest := []) ⟨hx, hb, hml, hown, hts⟩ (p_X1_length l dC dI h0 _ 0 fl al a1) (cwV 1 hts gX1_extend_X1_length rfl rfl rfl (by decide +kernel) ⟨Nat.le_of_ble_eq_true rfl, Nat.le_of_ble_eq_true rfl⟩) (wr_preV (ci := 2) rfl hK hP hD) rfl rfl hl.1 rfl (lv_room (Nat.le_of_ble_eq_true rfl)) dX1_extend_7 ⟨Nat.le_of_ble_eq_true rfl, Nat.le_of_ble_eq_true rfl⟩) hP hD hS hA (fun u_2 H locs eu_2 hP hD hS => ?_)
  have hP : va_P (dC, dI) vwCl [(h0, .inr (2, [.int 0, .int fl, .int u_2]))] H := hP
  have hD : va_D A [(h0, .inr (2, [.int 0, .int fl, .int u_2]))] := hD
  refine lv_aload_n hx hb dX1_extend_10 rfl (lv_at hl 0 rfl) ?_
  refine lv_aload_n hx hb dX1_extend_11 rfl (lv_at hl 0 rfl) ?_
  refine lv_iload_n hx hb dX1_extend_12 rfl (lv_at hl 2 rfl) ?_
  refine pu_calli (F := (f_X1_operand u_2 a2)) (va_runV (As := [.int a2]) (rest := [.ref h0]) ⟨hx, hb, hml, hown, hts⟩ (p_X1_operand l dC dI h0 _ 0 fl u_2 a2) (cwV 1 hts gX1_extend_X1_operand rfl rfl rfl (by decide +kernel) ⟨Nat.le_of_ble_eq_true rfl, Nat.le_of_ble_eq_true rfl⟩) (pu_preV (ci := 2) rfl hK hP) rfl rfl hl.1 rfl (lv_room (Nat.le_of_ble_eq_true rfl)) dX1_extend_13 ⟨Nat.le_of_ble_eq_true rfl, Nat.le_of_ble_eq_true rfl⟩) ?_
  refine pu_calli (F := (f_X1_signed u_2 (f_X1_operand u_2 a2))) (va_runV (As := [.int (f_X1_operand u_2 a2)]) (rest := []) ⟨hx, hb, hml, hown, hts⟩ (p_X1_signed l dC dI h0 _ 0 fl u_2 (f_X1_operand u_2 a2)) (cwV 1 hts gX1_extend_X1_signed rfl rfl rfl (by decide +kernel) ⟨Nat.le_of_ble_eq_true rfl, Nat.le_of_ble_eq_true rfl⟩) (pu_preV (ci := 2) rfl hK hP) rfl rfl hl.1 rfl (lv_room (Nat.le_of_ble_eq_true rfl)) dX1_extend_16 ⟨Nat.le_of_ble_eq_true rfl, Nat.le_of_ble_eq_true rfl⟩) ?_
  refine lv_topi (fun y_3 ey_3 => ?_)
  refine lv_istore_n (lv' := [(3, .int y_3), (0, .ref h0), (1, .int a1), (2, .int a2)]) hx hb dX1_extend_19 rfl hl (by decide) rfl (fun ls hl => ?_)
  refine lv_iload_n hx hb dX1_extend_20 rfl (lv_at hl 2 rfl) ?_
  refine rg (J := 36) (st := []) (if a1 = 0 then (if 0 ≤ y_3 then y_3 else (y_3 + 65536)) else y_3) (fun k => ?_) (fun y_4 ey_4 => ?_)
  · refine lv_if_ne (tgt := 35) hx hb dX1_extend_21 (by decide) (fun c_5 => ?_) (fun c_5 => ?_)
    · refine lv_iload_n hx hb dX1_extend_35 rfl (lv_at hl 0 rfl) ?_
      exact rg_e k (by first | rw [if_neg c_5] | simp only [if_neg c_5])
    · refine lv_iload_n hx hb dX1_extend_24 rfl (lv_at hl 0 rfl) ?_
      refine lv_if_ge (tgt := 35) hx hb dX1_extend_25 (by decide) (fun c_6 => ?_) (fun c_6 => ?_)
      · refine lv_iload_n hx hb dX1_extend_35 rfl (lv_at hl 0 rfl) ?_
        exact rg_e k (by first | rw [if_pos c_5, if_pos c_6] | simp only [if_pos c_5, if_pos c_6])
      · refine lv_iload_n hx hb dX1_extend_28 rfl (lv_at hl 0 rfl) ?_
        refine lv_ldc (own := RX1) (index := 13) (v := 65536) hx hb hown (hts (.constant RX1 13 (65536)) (by decide +kernel)) dX1_extend_29 ?_
        refine lv_iadd hx hb dX1_extend_31 ?_
        refine lv_goto (tgt := 36) hx hb dX1_extend_32 (by decide) ?_
        exact rg_e k (by first | rw [if_pos c_5, if_neg c_6] | simp only [if_pos c_5, if_neg c_6])
  exact W.iret (v := y_4) hx hb hr (fun t ht hW => ⟨⟨y_4, (0, u_2), rfl, ⟨(by subst eu_2; subst ey_3; subst ey_4; simp only [f_X1_extend]), (by subst eu_2; subst ey_3; subst ey_4; simp only [f_X1_extend])⟩, by rw [ht]; exact hP, va_K.moved hW.alike hK, hD⟩, hS.F ht⟩) hS.2.2 dX1_extend_36
