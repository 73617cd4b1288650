/-- what X0_width answers -/
def f_X0_width (a1 : Int32) : Int32 :=
  let y_1 : Int32 := (if a1 = 0 then 8 else 16)
  y_1
set_option maxHeartbeats 4000000 in
set_option maxRecDepth 100000 in
theorem p_X0_width (l : Launch) (HH : Heap) (a1 : Int32) : Met l yX0_width wsX0_width ({ frames := 0, cells := 0, slots := 0, locals := 0 }) (va_Pc [.int a1] (fun U => U.heap = HH)) (va_Qi (fun (r : Int32) (_ : Unit) => r = f_X0_width a1) (fun _ t => t.heap = HH) (fun _ => False)) 0 0 (fun _ => False) := by
  refine Met.ofW (cc := cX0_width) (maxL := 1) (ret := (some .int)) (by decide) rfl ?_
  intro p e s m args below meth c s₁ B hml hv
  obtain ⟨rfl, hsz⟩ := hv
  have hx := B.exec
  have hb := B.bytes
  have hr := B.returns
  have hts := atoms_spec (ws := wsX0_width) B.pre
  have hown : s.vm.findClass RX0 = some m.cls := findClass_of_methodNamed B.named
  have hlocks := B.notSynchronized
  subst hsz
  have hl := lv_entry ([.int a1]) (n := 1) (Nat.le_of_ble_eq_true rfl)
  rw [lg_entry_eq]
  generalize (lg_sl ([.int a1]) ++ List.replicate (1 - (lg_sl ([.int a1])).length) Slot.unset).toArray = ls at hl ⊢
  have hl : lv_has ls 1 [(0, .int a1)] := hl
  refine lv_iload_n hx hb dX0_width_0 rfl (lv_at hl 0 rfl) ?_
  refine rg (J := 11) (st := []) (if a1 = 0 then 8 else 16) (fun k => ?_) (fun y_1 ey_1 => ?_)
  · refine lv_if_eq (tgt := 9) hx hb dX0_width_1 (by decide) (fun c_2 => ?_) (fun c_2 => ?_)
    · refine lv_bipush (v := 8) hx hb dX0_width_9 (by decide +kernel) ?_
      exact rg_e k (by first | rw [if_pos c_2] | simp only [if_pos c_2])
    · refine lv_bipush (v := 16) hx hb dX0_width_4 (by decide +kernel) ?_
      refine lv_goto (tgt := 11) hx hb dX0_width_6 (by decide) ?_
      exact rg_e k (by first | rw [if_neg c_2] | simp only [if_neg c_2])
  exact W.iret (v := y_1) hx hb hr (fun t ht hW => ⟨⟨y_1, (), rfl, (by subst ey_1; simp only [f_X0_width]), ht⟩, pu_F ht⟩) (fun q h => nomatch h) dX0_width_11

/-- what X0_mask answers -/
def f_X0_mask (a1 : Int32) : Int32 :=
  let y_1 : Int32 := (if a1 = 0 then 255 else 65535)
  y_1
set_option maxHeartbeats 4000000 in
set_option maxRecDepth 100000 in
theorem p_X0_mask (l : Launch) (HH : Heap) (a1 : Int32) : Met l yX0_mask wsX0_mask ({ frames := 0, cells := 0, slots := 0, locals := 0 }) (va_Pc [.int a1] (fun U => U.heap = HH)) (va_Qi (fun (r : Int32) (_ : Unit) => r = f_X0_mask a1) (fun _ t => t.heap = HH) (fun _ => False)) 0 0 (fun _ => False) := by
  refine Met.ofW (cc := cX0_mask) (maxL := 1) (ret := (some .int)) (by decide) rfl ?_
  intro p e s m args below meth c s₁ B hml hv
  obtain ⟨rfl, hsz⟩ := hv
  have hx := B.exec
  have hb := B.bytes
  have hr := B.returns
  have hts := atoms_spec (ws := wsX0_mask) B.pre
  have hown : s.vm.findClass RX0 = some m.cls := findClass_of_methodNamed B.named
  have hlocks := B.notSynchronized
  subst hsz
  have hl := lv_entry ([.int a1]) (n := 1) (Nat.le_of_ble_eq_true rfl)
  rw [lg_entry_eq]
  generalize (lg_sl ([.int a1]) ++ List.replicate (1 - (lg_sl ([.int a1])).length) Slot.unset).toArray = ls at hl ⊢
  have hl : lv_has ls 1 [(0, .int a1)] := hl
  refine lv_iload_n hx hb dX0_mask_0 rfl (lv_at hl 0 rfl) ?_
  refine rg (J := 12) (st := []) (if a1 = 0 then 255 else 65535) (fun k => ?_) (fun y_1 ey_1 => ?_)
  · refine lv_if_eq (tgt := 9) hx hb dX0_mask_1 (by decide) (fun c_2 => ?_) (fun c_2 => ?_)
    · refine lv_sipush (v := 255) hx hb dX0_mask_9 (by decide +kernel) ?_
      exact rg_e k (by first | rw [if_pos c_2] | simp only [if_pos c_2])
    · refine lv_ldc (own := RX0) (index := 63) (v := 65535) hx hb hown (hts (.constant RX0 63 (65535)) (by decide +kernel)) dX0_mask_4 ?_
      refine lv_goto (tgt := 12) hx hb dX0_mask_6 (by decide) ?_
      exact rg_e k (by first | rw [if_neg c_2] | simp only [if_neg c_2])
  exact W.iret (v := y_1) hx hb hr (fun t ht hW => ⟨⟨y_1, (), rfl, (by subst ey_1; simp only [f_X0_mask]), ht⟩, pu_F ht⟩) (fun q h => nomatch h) dX0_mask_12

/-- what X0_highestBit answers -/
def f_X0_highestBit (a1 : Int32) : Int32 :=
  let y_1 : Int32 := (if a1 = 0 then 128 else 32768)
  y_1
set_option maxHeartbeats 4000000 in
set_option maxRecDepth 100000 in
theorem p_X0_highestBit (l : Launch) (HH : Heap) (a1 : Int32) : Met l yX0_highestBit wsX0_highestBit ({ frames := 0, cells := 0, slots := 0, locals := 0 }) (va_Pc [.int a1] (fun U => U.heap = HH)) (va_Qi (fun (r : Int32) (_ : Unit) => r = f_X0_highestBit a1) (fun _ t => t.heap = HH) (fun _ => False)) 0 0 (fun _ => False) := by
  refine Met.ofW (cc := cX0_highestBit) (maxL := 1) (ret := (some .int)) (by decide) rfl ?_
  intro p e s m args below meth c s₁ B hml hv
  obtain ⟨rfl, hsz⟩ := hv
  have hx := B.exec
  have hb := B.bytes
  have hr := B.returns
  have hts := atoms_spec (ws := wsX0_highestBit) B.pre
  have hown : s.vm.findClass RX0 = some m.cls := findClass_of_methodNamed B.named
  have hlocks := B.notSynchronized
  subst hsz
  have hl := lv_entry ([.int a1]) (n := 1) (Nat.le_of_ble_eq_true rfl)
  rw [lg_entry_eq]
  generalize (lg_sl ([.int a1]) ++ List.replicate (1 - (lg_sl ([.int a1])).length) Slot.unset).toArray = ls at hl ⊢
  have hl : lv_has ls 1 [(0, .int a1)] := hl
  refine lv_iload_n hx hb dX0_highestBit_0 rfl (lv_at hl 0 rfl) ?_
  refine rg (J := 12) (st := []) (if a1 = 0 then 128 else 32768) (fun k => ?_) (fun y_1 ey_1 => ?_)
  · refine lv_if_eq (tgt := 9) hx hb dX0_highestBit_1 (by decide) (fun c_2 => ?_) (fun c_2 => ?_)
    · refine lv_sipush (v := 128) hx hb dX0_highestBit_9 (by decide +kernel) ?_
      exact rg_e k (by first | rw [if_pos c_2] | simp only [if_pos c_2])
    · refine lv_ldc (own := RX0) (index := 127) (v := 32768) hx hb hown (hts (.constant RX0 127 (32768)) (by decide +kernel)) dX0_highestBit_4 ?_
      refine lv_goto (tgt := 12) hx hb dX0_highestBit_6 (by decide) ?_
      exact rg_e k (by first | rw [if_neg c_2] | simp only [if_neg c_2])
  exact W.iret (v := y_1) hx hb hr (fun t ht hW => ⟨⟨y_1, (), rfl, (by subst ey_1; simp only [f_X0_highestBit]), ht⟩, pu_F ht⟩) (fun q h => nomatch h) dX0_highestBit_12

/-- what X0_hasHighestBit answers -/
def f_X0_hasHighestBit (a1 : Int32) (a2 : Int32) : Int32 :=
  let y_1 : Int32 := (if (a2 &&& (f_X0_highestBit a1)) = 0 then 0 else 1)
  y_1
theorem fb_X0_hasHighestBit (a1 : Int32) (a2 : Int32) : f_X0_hasHighestBit a1 a2 = 0 ∨ f_X0_hasHighestBit a1 a2 = 1 := by
  unfold f_X0_hasHighestBit
  repeat (first | exact Or.inl rfl | exact Or.inr rfl | apply fb_X0_isSet | split)
set_option maxHeartbeats 4000000 in
set_option maxRecDepth 100000 in
theorem p_X0_hasHighestBit (l : Launch) (HH : Heap) (a1 : Int32) (a2 : Int32) : Met l yX0_hasHighestBit wsX0_hasHighestBit ({ frames := 1, cells := 0, slots := 0, locals := 20 }) (va_Pc [.int a1, .int a2] (fun U => U.heap = HH)) (va_Qi (fun (r : Int32) (_ : Unit) => r = f_X0_hasHighestBit a1 a2) (fun _ t => t.heap = HH) (fun _ => False)) 0 0 (fun _ => False) := by
  refine Met.ofW (cc := cX0_hasHighestBit) (maxL := 2) (ret := (some .boolean)) (by decide) rfl ?_
  intro p e s m args below meth c s₁ B hml hv
  obtain ⟨rfl, hsz⟩ := hv
  have hx := B.exec
  have hb := B.bytes
  have hr := B.returns
  have hts := atoms_spec (ws := wsX0_hasHighestBit) B.pre
  have hown : s.vm.findClass RX0 = some m.cls := findClass_of_methodNamed B.named
  have hlocks := B.notSynchronized
  subst hsz
  have hl := lv_entry ([.int a1, .int a2]) (n := 2) (Nat.le_of_ble_eq_true rfl)
  rw [lg_entry_eq]
  generalize (lg_sl ([.int a1, .int a2]) ++ List.replicate (2 - (lg_sl ([.int a1, .int a2])).length) Slot.unset).toArray = ls at hl ⊢
  have hl : lv_has ls 2 [(0, .int a1), (1, .int a2)] := hl
  refine lv_iload_n hx hb dX0_hasHighestBit_0 rfl (lv_at hl 1 rfl) ?_
  refine lv_iload_n hx hb dX0_hasHighestBit_1 rfl (lv_at hl 0 rfl) ?_
  refine pu_calli (F := (f_X0_highestBit a1)) (va_runS (As := [.int a1]) (rest := [.int a2]) ⟨hx, hb, hml, hown, hts⟩ (p_X0_highestBit l _ a1) (va_cwS 1 hts gX0_hasHighestBit_X0_highestBit rfl rfl rfl (by decide +kernel) ⟨Nat.le_of_ble_eq_true rfl, Nat.le_of_ble_eq_true rfl⟩) pu_preS rfl rfl hl.1 rfl (lv_room (Nat.le_of_ble_eq_true rfl)) dX0_hasHighestBit_2 ⟨Nat.le_of_ble_eq_true rfl, Nat.le_of_ble_eq_true rfl⟩) ?_
  refine lv_iand hx hb dX0_hasHighestBit_5 ?_
  refine rg (J := 14) (st := []) (if (a2 &&& (f_X0_highestBit a1)) = 0 then 0 else 1) (fun k => ?_) (fun y_1 ey_1 => ?_)
  · refine lv_if_eq (tgt := 13) hx hb dX0_hasHighestBit_6 (by decide) (fun c_2 => ?_) (fun c_2 => ?_)
    · refine lv_iconst (v := 0) hx hb dX0_hasHighestBit_13 (by decide) ?_
      exact rg_e k (by first | rw [if_pos c_2] | simp only [if_pos c_2])
    · refine lv_iconst (v := 1) hx hb dX0_hasHighestBit_9 (by decide) ?_
      refine lv_goto (tgt := 14) hx hb dX0_hasHighestBit_10 (by decide) ?_
      exact rg_e k (by first | rw [if_neg c_2] | simp only [if_neg c_2])
  exact W.zret (v := y_1) hx hb hr (nb_of (by rw [ey_1]; repeat (first | exact Or.inl rfl | exact Or.inr rfl | split))) (fun t ht hW => ⟨⟨y_1, (), rfl, (by subst ey_1; simp only [f_X0_hasHighestBit]), ht⟩, pu_F ht⟩) (fun q h => nomatch h) dX0_hasHighestBit_14

/-- what X0_operand answers -/
def f_X0_operand (a1 : Int32) (a2 : Int32) : Int32 :=
  (a2 &&& (f_X0_mask a1))
set_option maxHeartbeats 4000000 in
set_option maxRecDepth 100000 in
theorem p_X0_operand (l : Launch) (HH : Heap) (a1 : Int32) (a2 : Int32) : Met l yX0_operand wsX0_operand ({ frames := 1, cells := 0, slots := 0, locals := 20 }) (va_Pc [.int a1, .int a2] (fun U => U.heap = HH)) (va_Qi (fun (r : Int32) (_ : Unit) => r = f_X0_operand a1 a2) (fun _ t => t.heap = HH) (fun _ => False)) 0 0 (fun _ => False) := by
  refine Met.ofW (cc := cX0_operand) (maxL := 2) (ret := (some .int)) (by decide) rfl ?_
  intro p e s m args below meth c s₁ B hml hv
  obtain ⟨rfl, hsz⟩ := hv
  have hx := B.exec
  have hb := B.bytes
  have hr := B.returns
  have hts := atoms_spec (ws := wsX0_operand) B.pre
  have hown : s.vm.findClass RX0 = some m.cls := findClass_of_methodNamed B.named
  have hlocks := B.notSynchronized
  subst hsz
  have hl := lv_entry ([.int a1, .int a2]) (n := 2) (Nat.le_of_ble_eq_true rfl)
  rw [lg_entry_eq]
  generalize (lg_sl ([.int a1, .int a2]) ++ List.replicate (2 - (lg_sl ([.int a1, .int a2])).length) Slot.unset).toArray = ls at hl ⊢
  have hl : lv_has ls 2 [(0, .int a1), (1, .int a2)] := hl
  refine lv_iload_n hx hb dX0_operand_0 rfl (lv_at hl 1 rfl) ?_
  refine lv_iload_n hx hb dX0_operand_1 rfl (lv_at hl 0 rfl) ?_
  refine pu_calli (F := (f_X0_mask a1)) (va_runS (As := [.int a1]) (rest := [.int a2]) ⟨hx, hb, hml, hown, hts⟩ (p_X0_mask l _ a1) (va_cwS 1 hts gX0_operand_X0_mask rfl rfl rfl (by decide +kernel) ⟨Nat.le_of_ble_eq_true rfl, Nat.le_of_ble_eq_true rfl⟩) pu_preS rfl rfl hl.1 rfl (lv_room (Nat.le_of_ble_eq_true rfl)) dX0_operand_2 ⟨Nat.le_of_ble_eq_true rfl, Nat.le_of_ble_eq_true rfl⟩) ?_
  refine lv_iand hx hb dX0_operand_5 ?_
  exact W.iret (v := (a2 &&& (f_X0_mask a1))) hx hb hr (fun t ht hW => ⟨⟨(a2 &&& (f_X0_mask a1)), (), rfl, rfl, ht⟩, pu_F ht⟩) (fun q h => nomatch h) dX0_operand_6

/-- what X0_signedValue answers -/
def f_X0_signedValue (a1 : Int32) (a2 : Int32) : Int32 :=
  let y_1 : Int32 := (if a1 = 0 then ((a2 : Int32).toInt8.toInt32) else ((a2 : Int32).toInt16.toInt32))
  y_1
set_option maxHeartbeats 4000000 in
set_option maxRecDepth 100000 in
theorem p_X0_signedValue (l : Launch) (HH : Heap) (a1 : Int32) (a2 : Int32) : Met l yX0_signedValue wsX0_signedValue ({ frames := 0, cells := 0, slots := 0, locals := 0 }) (va_Pc [.int a1, .int a2] (fun U => U.heap = HH)) (va_Qi (fun (r : Int32) (_ : Unit) => r = f_X0_signedValue a1 a2) (fun _ t => t.heap = HH) (fun _ => False)) 0 0 (fun _ => False) := by
  refine Met.ofW (cc := cX0_signedValue) (maxL := 2) (ret := (some .int)) (by decide) rfl ?_
  intro p e s m args below meth c s₁ B hml hv
  obtain ⟨rfl, hsz⟩ := hv
  have hx := B.exec
  have hb := B.bytes
  have hr := B.returns
  have hts := atoms_spec (ws := wsX0_signedValue) B.pre
  have hown : s.vm.findClass RX0 = some m.cls := findClass_of_methodNamed B.named
  have hlocks := B.notSynchronized
  subst hsz
  have hl := lv_entry ([.int a1, .int a2]) (n := 2) (Nat.le_of_ble_eq_true rfl)
  rw [lg_entry_eq]
  generalize (lg_sl ([.int a1, .int a2]) ++ List.replicate (2 - (lg_sl ([.int a1, .int a2])).length) Slot.unset).toArray = ls at hl ⊢
  have hl : lv_has ls 2 [(0, .int a1), (1, .int a2)] := hl
  refine lv_iload_n hx hb dX0_signedValue_0 rfl (lv_at hl 0 rfl) ?_
  refine rg (J := 11) (st := []) (if a1 = 0 then ((a2 : Int32).toInt8.toInt32) else ((a2 : Int32).toInt16.toInt32)) (fun k => ?_) (fun y_1 ey_1 => ?_)
  · refine lv_if_eq (tgt := 9) hx hb dX0_signedValue_1 (by decide) (fun c_2 => ?_) (fun c_2 => ?_)
    · refine lv_iload_n hx hb dX0_signedValue_9 rfl (lv_at hl 1 rfl) ?_
      refine lv_i2b (v := (a2 : Int32).toInt8.toInt32) hx hb dX0_signedValue_10 rfl ?_
      exact rg_e k (by first | rw [if_pos c_2] | simp only [if_pos c_2])
    · refine lv_iload_n hx hb dX0_signedValue_4 rfl (lv_at hl 1 rfl) ?_
      refine lv_i2s (v := (a2 : Int32).toInt16.toInt32) hx hb dX0_signedValue_5 rfl ?_
      refine lv_goto (tgt := 11) hx hb dX0_signedValue_6 (by decide) ?_
      exact rg_e k (by first | rw [if_neg c_2] | simp only [if_neg c_2])
  exact W.iret (v := y_1) hx hb hr (fun t ht hW => ⟨⟨y_1, (), rfl, (by subst ey_1; simp only [f_X0_signedValue]), ht⟩, pu_F ht⟩) (fun q h => nomatch h) dX0_signedValue_11

/-- what X0_valueOf answers -/
def f_X0_valueOf (a1 : Int32) (a2 : Int32) (a3 : Int32) : Int32 :=
  let y_1 : Int32 := (if a2 = 0 then (f_X0_operand a1 a3) else (f_X0_signedValue a1 a3))
  y_1
set_option maxHeartbeats 4000000 in
set_option maxRecDepth 100000 in
theorem p_X0_valueOf (l : Launch) (HH : Heap) (a1 : Int32) (a2 : Int32) (a3 : Int32) : Met l yX0_valueOf wsX0_valueOf ({ frames := 2, cells := 0, slots := 0, locals := 41 }) (va_Pc [.int a1, .int a2, .int a3] (fun U => U.heap = HH)) (va_Qi (fun (r : Int32) (_ : Unit) => r = f_X0_valueOf a1 a2 a3) (fun _ t => t.heap = HH) (fun _ => False)) 0 0 (fun _ => False) := by
  refine Met.ofW (cc := cX0_valueOf) (maxL := 3) (ret := (some .int)) (by decide) rfl ?_
  intro p e s m args below meth c s₁ B hml hv
  obtain ⟨rfl, hsz⟩ := hv
  have hx := B.exec
  have hb := B.bytes
  have hr := B.returns
  have hts := atoms_spec (ws := wsX0_valueOf) B.pre
  have hown : s.vm.findClass RX0 = some m.cls := findClass_of_methodNamed B.named
  have hlocks := B.notSynchronized
  subst hsz
  have hl := lv_entry ([.int a1, .int a2, .int a3]) (n := 3) (Nat.le_of_ble_eq_true rfl)
  rw [lg_entry_eq]
  generalize (lg_sl ([.int a1, .int a2, .int a3]) ++ List.replicate (3 - (lg_sl ([.int a1, .int a2, .int a3])).length) Slot.unset).toArray = ls at hl ⊢
  have hl : lv_has ls 3 [(0, .int a1), (1, .int a2), (2, .int a3)] := hl
  refine lv_iload_n hx hb dX0_valueOf_0 rfl (lv_at hl 1 rfl) ?_
  refine rg (J := 17) (st := []) (if a2 = 0 then (f_X0_operand a1 a3) else (f_X0_signedValue a1 a3)) (fun k => ?_) (fun y_1 ey_1 => ?_)
  · refine lv_if_eq (tgt := 12) hx hb dX0_valueOf_1 (by decide) (fun c_2 => ?_) (fun c_2 => ?_)
    · refine lv_iload_n hx hb dX0_valueOf_12 rfl (lv_at hl 0 rfl) ?_
      refine lv_iload_n hx hb dX0_valueOf_13 rfl (lv_at hl 2 rfl) ?_
      refine pu_calli (F := (f_X0_operand a1 a3)) (va_runS (As := [.int a1, .int a3]) (rest := []) ⟨hx, hb, hml, hown, hts⟩ (p_X0_operand l _ a1 a3) (va_cwS 2 hts gX0_valueOf_X0_operand rfl rfl rfl (by decide +kernel) ⟨Nat.le_of_ble_eq_true rfl, Nat.le_of_ble_eq_true rfl⟩) pu_preS rfl rfl hl.1 rfl (lv_room (Nat.le_of_ble_eq_true rfl)) dX0_valueOf_14 ⟨Nat.le_of_ble_eq_true rfl, Nat.le_of_ble_eq_true rfl⟩) ?_
      exact rg_e k (by first | rw [if_pos c_2] | simp only [if_pos c_2])
    · refine lv_iload_n hx hb dX0_valueOf_4 rfl (lv_at hl 0 rfl) ?_
      refine lv_iload_n hx hb dX0_valueOf_5 rfl (lv_at hl 2 rfl) ?_
      refine pu_calli (F := (f_X0_signedValue a1 a3)) (va_runS (As := [.int a1, .int a3]) (rest := []) ⟨hx, hb, hml, hown, hts⟩ (p_X0_signedValue l _ a1 a3) (va_cwS 2 hts gX0_valueOf_X0_signedValue rfl rfl rfl (by decide +kernel) ⟨Nat.le_of_ble_eq_true rfl, Nat.le_of_ble_eq_true rfl⟩) pu_preS rfl rfl hl.1 rfl (lv_room (Nat.le_of_ble_eq_true rfl)) dX0_valueOf_6 ⟨Nat.le_of_ble_eq_true rfl, Nat.le_of_ble_eq_true rfl⟩) ?_
      refine lv_goto (tgt := 17) hx hb dX0_valueOf_9 (by decide) ?_
      exact rg_e k (by first | rw [if_neg c_2] | simp only [if_neg c_2])
  exact W.iret (v := y_1) hx hb hr (fun t ht hW => ⟨⟨y_1, (), rfl, (by subst ey_1; simp only [f_X0_valueOf]), ht⟩, pu_F ht⟩) (fun q h => nomatch h) dX0_valueOf_17

/-- what X0_valueTwiceAsLong answers -/
def f_X0_valueTwiceAsLong (a1 : Int32) (a2 : Int32) (a3 : Int32) : Int64 :=
  if a1 = 0 then
  ((((f_X0_valueOf 1 a2 a3) : Int32).toInt64))
  else
  (let y_2 : Int64 := (if a2 = 0 then (((a3 : Int32).toInt64) &&& 4294967295) else ((a3 : Int32).toInt64))
  y_2)
set_option maxHeartbeats 4000000 in
set_option maxRecDepth 100000 in
theorem p_X0_valueTwiceAsLong (l : Launch) (HH : Heap) (a1 : Int32) (a2 : Int32) (a3 : Int32) : Met l yX0_valueTwiceAsLong wsX0_valueTwiceAsLong ({ frames := 3, cells := 0, slots := 0, locals := 63 }) (va_Pc [.int a1, .int a2, .int a3] (fun U => U.heap = HH)) (va_Ql (fun (r : Int64) (_ : Unit) => r = f_X0_valueTwiceAsLong a1 a2 a3) (fun _ t => t.heap = HH) (fun _ => False)) 0 0 (fun _ => False) := by
  refine Met.ofW (cc := cX0_valueTwiceAsLong) (maxL := 3) (ret := (some .long)) (by decide) rfl ?_
  intro p e s m args below meth c s₁ B hml hv
  obtain ⟨rfl, hsz⟩ := hv
  have hx := B.exec
  have hb := B.bytes
  have hr := B.returns
  have hts := atoms_spec (ws := wsX0_valueTwiceAsLong) B.pre
  have hown : s.vm.findClass RX0 = some m.cls := findClass_of_methodNamed B.named
  have hlocks := B.notSynchronized
  subst hsz
  have hl := lv_entry ([.int a1, .int a2, .int a3]) (n := 3) (Nat.le_of_ble_eq_true rfl)
  rw [lg_entry_eq]
  generalize (lg_sl ([.int a1, .int a2, .int a3]) ++ List.replicate (3 - (lg_sl ([.int a1, .int a2, .int a3])).length) Slot.unset).toArray = ls at hl ⊢
  have hl : lv_has ls 3 [(0, .int a1), (1, .int a2), (2, .int a3)] := hl
  refine lv_iload_n hx hb dX0_valueTwiceAsLong_0 rfl (lv_at hl 0 rfl) ?_
  refine lv_if_eq (tgt := 20) hx hb dX0_valueTwiceAsLong_1 (by decide) (fun c_1 => ?_) (fun c_1 => ?_)
  · refine lv_iconst (v := 1) hx hb dX0_valueTwiceAsLong_20 (by decide) ?_
    refine lv_iload_n hx hb dX0_valueTwiceAsLong_21 rfl (lv_at hl 1 rfl) ?_
    refine lv_iload_n hx hb dX0_valueTwiceAsLong_22 rfl (lv_at hl 2 rfl) ?_
    refine pu_calli (F := (f_X0_valueOf 1 a2 a3)) (va_runS (As := [.int 1, .int a2, .int a3]) (rest := []) ⟨hx, hb, hml, hown, hts⟩ (p_X0_valueOf l _ 1 a2 a3) (va_cwS 3 hts gX0_valueTwiceAsLong_X0_valueOf rfl rfl rfl (by decide +kernel) ⟨Nat.le_of_ble_eq_true rfl, Nat.le_of_ble_eq_true rfl⟩) pu_preS rfl rfl hl.1 rfl (lv_room (Nat.le_of_ble_eq_true rfl)) dX0_valueTwiceAsLong_23 ⟨Nat.le_of_ble_eq_true rfl, Nat.le_of_ble_eq_true rfl⟩) ?_
    refine lv_i2l (v := ((f_X0_valueOf 1 a2 a3) : Int32).toInt64) hx hb dX0_valueTwiceAsLong_26 rfl ?_
    exact W.lret (v := (((f_X0_valueOf 1 a2 a3) : Int32).toInt64)) hx hb hr (fun t ht hW => ⟨⟨(((f_X0_valueOf 1 a2 a3) : Int32).toInt64), (), rfl, (by simp only [f_X0_valueTwiceAsLong, if_pos c_1]), ht⟩, pu_F ht⟩) (fun q h => nomatch h) dX0_valueTwiceAsLong_27
  · refine lv_iload_n hx hb dX0_valueTwiceAsLong_4 rfl (lv_at hl 1 rfl) ?_
    refine rgL (J := 19) (st := []) (if a2 = 0 then (((a3 : Int32).toInt64) &&& 4294967295) else ((a3 : Int32).toInt64)) (fun k => ?_) (fun y_2 ey_2 => ?_)
    · refine lv_if_eq (tgt := 13) hx hb dX0_valueTwiceAsLong_5 (by decide) (fun c_3 => ?_) (fun c_3 => ?_)
      · refine lv_iload_n hx hb dX0_valueTwiceAsLong_13 rfl (lv_at hl 2 rfl) ?_
        refine lv_i2l (v := (a3 : Int32).toInt64) hx hb dX0_valueTwiceAsLong_14 rfl ?_
        refine lv_ldc2 (own := RX0) (index := 134) (v := 4294967295) hx hb hown (hts (.constantLong RX0 134 (4294967295)) (by decide +kernel)) dX0_valueTwiceAsLong_15 ?_
        refine lv_land hx hb dX0_valueTwiceAsLong_18 ?_
        exact rgL_e k (by first | rw [if_pos c_3] | simp only [if_pos c_3])
      · refine lv_iload_n hx hb dX0_valueTwiceAsLong_8 rfl (lv_at hl 2 rfl) ?_
        refine lv_i2l (v := (a3 : Int32).toInt64) hx hb dX0_valueTwiceAsLong_9 rfl ?_
        refine lv_goto (tgt := 19) hx hb dX0_valueTwiceAsLong_10 (by decide) ?_
        exact rgL_e k (by first | rw [if_neg c_3] | simp only [if_neg c_3])
    exact W.lret (v := y_2) hx hb hr (fun t ht hW => ⟨⟨y_2, (), rfl, (by subst ey_2; simp only [f_X0_valueTwiceAsLong, if_neg c_1]), ht⟩, pu_F ht⟩) (fun q h => nomatch h) dX0_valueTwiceAsLong_19

/-- what X0_isSet answers -/
def f_X0_isSet (f : Int32) (a1 : Int32) : Int32 :=
  let y_1 : Int32 := (if (f &&& a1) = 0 then 0 else 1)
  y_1
theorem fb_X0_isSet (f : Int32) (a1 : Int32) : f_X0_isSet f a1 = 0 ∨ f_X0_isSet f a1 = 1 := by
  unfold f_X0_isSet
  repeat (first | exact Or.inl rfl | exact Or.inr rfl | split)
set_option maxHeartbeats 4000000 in
set_option maxRecDepth 100000 in
theorem p_X0_isSet (l : Launch) (dC : Nat → ClassId) (dI : Nat → Nat → Nat) (h0 : Nat) (HH : Heap) (f : Int32) (a1 : Int32) : Met l yX0_isSet wsX0_isSet ({ frames := 0, cells := 0, slots := 0, locals := 0 }) (va_Pc [.ref h0, .int a1] (pu_pre (dC, dI) 1 h0 HH [.int f])) (va_Qi (fun (r : Int32) (_ : Unit) => r = f_X0_isSet f a1) (fun _ t => t.heap = HH) (fun _ => False)) 0 0 (fun _ => False) := by
  refine Met.ofW (cc := cX0_isSet) (maxL := 2) (ret := (some .boolean)) (by decide) rfl ?_
  intro p e s m args below meth c s₁ B hml hv
  obtain ⟨rfl, hsz, hP, hK⟩ := hv
  have hx := B.exec
  have hb := B.bytes
  have hr := B.returns
  have hts := atoms_spec (ws := wsX0_isSet) B.pre
  have hown : s.vm.findClass RX0 = some m.cls := findClass_of_methodNamed B.named
  have hlocks := B.notSynchronized
  subst hsz
  have hl := lv_entry ([.ref h0, .int a1]) (n := 2) (Nat.le_of_ble_eq_true rfl)
  rw [lg_entry_eq]
  generalize (lg_sl ([.ref h0, .int a1]) ++ List.replicate (2 - (lg_sl ([.ref h0, .int a1])).length) Slot.unset).toArray = ls at hl ⊢
  have hl : lv_has ls 2 [(0, .ref h0), (1, .int a1)] := hl
  refine lv_aload_n hx hb dX0_isSet_0 rfl (lv_at hl 0 rfl) ?_
  refine va_get (D := (dC, dI)) (ci := 1) (v := .int f) (C := RX0) (T := TX0) (N := 1) hx hb hts (by decide +kernel) hown hK hP 0 rfl rfl 0 (by decide) (hts (.fieldLink RX0 7 "WordArithmetic" "held" "I") (by decide +kernel)) (fun _ h9 => h9) rfl dX0_isSet_1 ?_
  refine lv_iload_n hx hb dX0_isSet_4 rfl (lv_at hl 1 rfl) ?_
  refine lv_iand hx hb dX0_isSet_5 ?_
  refine rg (J := 14) (st := []) (if (f &&& a1) = 0 then 0 else 1) (fun k => ?_) (fun y_1 ey_1 => ?_)
  · refine lv_if_eq (tgt := 13) hx hb dX0_isSet_6 (by decide) (fun c_2 => ?_) (fun c_2 => ?_)
    · refine lv_iconst (v := 0) hx hb dX0_isSet_13 (by decide) ?_
      exact rg_e k (by first | rw [if_pos c_2] | simp only [if_pos c_2])
    · refine lv_iconst (v := 1) hx hb dX0_isSet_9 (by decide) ?_
      refine lv_goto (tgt := 14) hx hb dX0_isSet_10 (by decide) ?_
      exact rg_e k (by first | rw [if_neg c_2] | simp only [if_neg c_2])
  exact W.zret (v := y_1) hx hb hr (nb_of (by rw [ey_1]; repeat (first | exact Or.inl rfl | exact Or.inr rfl | split))) (fun t ht hW => ⟨⟨y_1, (), rfl, (by subst ey_1; simp only [f_X0_isSet]), ht⟩, pu_F ht⟩) (fun q h => nomatch h) dX0_isSet_14

/-- what X0_isLess answers -/
def f_X0_isLess (f : Int32) : Int32 :=
  let y_1 : Int32 := (if (f_X0_isSet f 128) = (f_X0_isSet f 2048) then 0 else 1)
  y_1
theorem fb_X0_isLess (f : Int32) : f_X0_isLess f = 0 ∨ f_X0_isLess f = 1 := by
  unfold f_X0_isLess
  repeat (first | exact Or.inl rfl | exact Or.inr rfl | apply fb_X0_isSet | split)
set_option maxHeartbeats 4000000 in
set_option maxRecDepth 100000 in
theorem p_X0_isLess (l : Launch) (dC : Nat → ClassId) (dI : Nat → Nat → Nat) (h0 : Nat) (HH : Heap) (f : Int32) : Met l yX0_isLess wsX0_isLess ({ frames := 1, cells := 0, slots := 0, locals := 21 }) (va_Pc [.ref h0] (pu_pre (dC, dI) 1 h0 HH [.int f])) (va_Qi (fun (r : Int32) (_ : Unit) => r = f_X0_isLess f) (fun _ t => t.heap = HH) (fun _ => False)) 0 0 (fun _ => False) := by
  refine Met.ofW (cc := cX0_isLess) (maxL := 1) (ret := (some .boolean)) (by decide) rfl ?_
  intro p e s m args below meth c s₁ B hml hv
  obtain ⟨rfl, hsz, hP, hK⟩ := hv
  have hx := B.exec
  have hb := B.bytes
  have hr := B.returns
  have hts := atoms_spec (ws := wsX0_isLess) B.pre
  have hown : s.vm.findClass RX0 = some m.cls := findClass_of_methodNamed B.named
  have hlocks := B.notSynchronized
  subst hsz
  have hl := lv_entry ([.ref h0]) (n := 1) (Nat.le_of_ble_eq_true rfl)
  rw [lg_entry_eq]
  generalize (lg_sl ([.ref h0]) ++ List.replicate (1 - (lg_sl ([.ref h0])).length) Slot.unset).toArray = ls at hl ⊢
  have hl : lv_has ls 1 [(0, .ref h0)] := hl
  refine lv_aload_n hx hb dX0_isLess_0 rfl (lv_at hl 0 rfl) ?_
  refine lv_sipush (v := 128) hx hb dX0_isLess_1 (by decide +kernel) ?_
  refine pu_calli (F := (f_X0_isSet f 128)) (va_runV (As := [.int 128]) (rest := []) ⟨hx, hb, hml, hown, hts⟩ (p_X0_isSet l dC dI h0 _ f 128) (cwV 1 hts gX0_isLess_X0_isSet rfl rfl rfl (by decide +kernel) ⟨Nat.le_of_ble_eq_true rfl, Nat.le_of_ble_eq_true rfl⟩) (pu_preV (ci := 1) rfl hK hP) rfl rfl hl.1 rfl (lv_room (Nat.le_of_ble_eq_true rfl)) dX0_isLess_4 ⟨Nat.le_of_ble_eq_true rfl, Nat.le_of_ble_eq_true rfl⟩) ?_
  refine lv_aload_n hx hb dX0_isLess_7 rfl (lv_at hl 0 rfl) ?_
  refine lv_sipush (v := 2048) hx hb dX0_isLess_8 (by decide +kernel) ?_
  refine pu_calli (F := (f_X0_isSet f 2048)) (va_runV (As := [.int 2048]) (rest := [.int (f_X0_isSet f 128)]) ⟨hx, hb, hml, hown, hts⟩ (p_X0_isSet l dC dI h0 _ f 2048) (cwV 1 hts gX0_isLess_X0_isSet rfl rfl rfl (by decide +kernel) ⟨Nat.le_of_ble_eq_true rfl, Nat.le_of_ble_eq_true rfl⟩) (pu_preV (ci := 1) rfl hK hP) rfl rfl hl.1 rfl (lv_room (Nat.le_of_ble_eq_true rfl)) dX0_isLess_11 ⟨Nat.le_of_ble_eq_true rfl, Nat.le_of_ble_eq_true rfl⟩) ?_
  refine rg (J := 22) (st := []) (if (f_X0_isSet f 128) = (f_X0_isSet f 2048) then 0 else 1) (fun k => ?_) (fun y_1 ey_1 => ?_)
  · refine lv_icmp_eq (tgt := 21) hx hb dX0_isLess_14 (by decide) (fun c_2 => ?_) (fun c_2 => ?_)
    · refine lv_iconst (v := 0) hx hb dX0_isLess_21 (by decide) ?_
      exact rg_e k (by first | rw [if_pos c_2] | simp only [if_pos c_2])
    · refine lv_iconst (v := 1) hx hb dX0_isLess_17 (by decide) ?_
      refine lv_goto (tgt := 22) hx hb dX0_isLess_18 (by decide) ?_
      exact rg_e k (by first | rw [if_neg c_2] | simp only [if_neg c_2])
  exact W.zret (v := y_1) hx hb hr (nb_of (by rw [ey_1]; repeat (first | exact Or.inl rfl | exact Or.inr rfl | split))) (fun t ht hW => ⟨⟨y_1, (), rfl, (by subst ey_1; simp only [f_X0_isLess]), ht⟩, pu_F ht⟩) (fun q h => nomatch h) dX0_isLess_22

/-- what X0_flags answers -/
def f_X0_flags (f : Int32) : Int32 :=
  f
set_option maxHeartbeats 4000000 in
set_option maxRecDepth 100000 in
theorem p_X0_flags (l : Launch) (dC : Nat → ClassId) (dI : Nat → Nat → Nat) (h0 : Nat) (HH : Heap) (f : Int32) : Met l yX0_flags wsX0_flags ({ frames := 0, cells := 0, slots := 0, locals := 0 }) (va_Pc [.ref h0] (pu_pre (dC, dI) 1 h0 HH [.int f])) (va_Qi (fun (r : Int32) (_ : Unit) => r = f_X0_flags f) (fun _ t => t.heap = HH) (fun _ => False)) 0 0 (fun _ => False) := by
  refine Met.ofW (cc := cX0_flags) (maxL := 1) (ret := (some .int)) (by decide) rfl ?_
  intro p e s m args below meth c s₁ B hml hv
  obtain ⟨rfl, hsz, hP, hK⟩ := hv
  have hx := B.exec
  have hb := B.bytes
  have hr := B.returns
  have hts := atoms_spec (ws := wsX0_flags) B.pre
  have hown : s.vm.findClass RX0 = some m.cls := findClass_of_methodNamed B.named
  have hlocks := B.notSynchronized
  subst hsz
  have hl := lv_entry ([.ref h0]) (n := 1) (Nat.le_of_ble_eq_true rfl)
  rw [lg_entry_eq]
  generalize (lg_sl ([.ref h0]) ++ List.replicate (1 - (lg_sl ([.ref h0])).length) Slot.unset).toArray = ls at hl ⊢
  have hl : lv_has ls 1 [(0, .ref h0)] := hl
  refine lv_aload_n hx hb dX0_flags_0 rfl (lv_at hl 0 rfl) ?_
  refine va_get (D := (dC, dI)) (ci := 1) (v := .int f) (C := RX0) (T := TX0) (N := 1) hx hb hts (by decide +kernel) hown hK hP 0 rfl rfl 0 (by decide) (hts (.fieldLink RX0 7 "WordArithmetic" "held" "I") (by decide +kernel)) (fun _ h9 => h9) rfl dX0_flags_1 ?_
  exact W.iret (v := f) hx hb hr (fun t ht hW => ⟨⟨f, (), rfl, rfl, ht⟩, pu_F ht⟩) (fun q h => nomatch h) dX0_flags_4

/-- what X0_put answers -/
def f_X0_put (f : Int32) (a1 : Int32) (a2 : Int32) : Int32 :=
  let y_1 : Int32 := (if a2 = 0 then (f &&& (a1 ^^^ (-1))) else (f ||| a1))
  y_1
set_option maxHeartbeats 4000000 in
set_option maxRecDepth 100000 in
theorem p_X0_put (l : Launch) (dC : Nat → ClassId) (dI : Nat → Nat → Nat) (h0 : Nat) (sz : Nat) (f : Int32) (a1 : Int32) (a2 : Int32) : Met l yX0_put wsX0_put ({ frames := 0, cells := 0, slots := 0, locals := 0 }) (va_Pc [.ref h0, .int a1, .int a2] (wr_pre (dC, dI) 1 h0 sz [.int f])) (va_Qv (fun u : Int32 => u = f_X0_put f a1 a2) (wr_at (dC, dI) 1 h0 (fun u : Int32 => [.int u]) (wr_A 1 h0 sz [.int f])) (wr_A 1 h0 sz [.int f])) 0 0 (wr_A 1 h0 sz [.int f]) := by
  refine Met.ofW (cc := cX0_put) (maxL := 3) (ret := none) (by decide) rfl ?_
  intro p e s m args below meth c s₁ B hml hv
  obtain ⟨rfl, hsz, hP, hK, hD0⟩ := hv
  have hx := B.exec
  have hb := B.bytes
  have hr := B.returns
  have hts := atoms_spec (ws := wsX0_put) B.pre
  have hown : s.vm.findClass RX0 = some m.cls := findClass_of_methodNamed B.named
  have hlocks := B.notSynchronized
  subst hsz
  have hD : va_D (wr_A 1 h0 s.heap.size [.int f]) [(h0, .inr (1, [.int f]))] := hD0.self (sz := s.heap.size)
  generalize hAe : wr_A 1 h0 s.heap.size [.int f] = A at hD ⊢
  have hA : ∀ q : Nat, s.heap.size ≤ q → A q := fun q h => by rw [← hAe]; exact Or.inr h
  have hS : va_S A s.heap s.heap [] := va_S.rf
  have hP : va_P (dC, dI) vwCl [(h0, .inr (1, [.int f]))] s.heap := hP
  have hD : va_D A [(h0, .inr (1, [.int f]))] := hD
  have hl := lv_entry ([.ref h0, .int a1, .int a2]) (n := 3) (Nat.le_of_ble_eq_true rfl)
  rw [lg_entry_eq]
  generalize (lg_sl ([.ref h0, .int a1, .int a2]) ++ List.replicate (3 - (lg_sl ([.ref h0, .int a1, .int a2])).length) Slot.unset).toArray = ls at hl ⊢
  have hl : lv_has ls 3 [(0, .ref h0), (1, .int a1), (2, .int a2)] := hl
  refine lv_aload_n hx hb dX0_put_0 rfl (lv_at hl 0 rfl) ?_
  refine lv_iload_n hx hb dX0_put_1 rfl (lv_at hl 2 rfl) ?_
  refine rg (J := 22) (st := [.ref h0]) (if a2 = 0 then (f &&& (a1 ^^^ (-1))) else (f ||| a1)) (fun k => ?_) (fun y_1 ey_1 => ?_)
  · refine lv_if_eq (tgt := 14) hx hb dX0_put_2 (by decide) (fun c_2 => ?_) (fun c_2 => ?_)
    · refine lv_aload_n hx hb dX0_put_14 rfl (lv_at hl 0 rfl) ?_
      refine va_get (D := (dC, dI)) (ci := 1) (v := .int f) (C := RX0) (T := TX0) (N := 1) hx hb hts (by decide +kernel) hown hK hP 0 rfl rfl 0 (by decide) (hts (.fieldLink RX0 7 "WordArithmetic" "held" "I") (by decide +kernel)) (fun _ h9 => h9) rfl dX0_put_15 ?_
      refine lv_iload_n hx hb dX0_put_18 rfl (lv_at hl 1 rfl) ?_
      refine lv_iconst (v := (-1)) hx hb dX0_put_19 (by decide) ?_
      refine lv_ixor hx hb dX0_put_20 ?_
      refine lv_iand hx hb dX0_put_21 ?_
      exact rg_e k (by first | rw [if_pos c_2] | simp only [if_pos c_2])
    · refine lv_aload_n hx hb dX0_put_5 rfl (lv_at hl 0 rfl) ?_
      refine va_get (D := (dC, dI)) (ci := 1) (v := .int f) (C := RX0) (T := TX0) (N := 1) hx hb hts (by decide +kernel) hown hK hP 0 rfl rfl 0 (by decide) (hts (.fieldLink RX0 7 "WordArithmetic" "held" "I") (by decide +kernel)) (fun _ h9 => h9) rfl dX0_put_6 ?_
      refine lv_iload_n hx hb dX0_put_9 rfl (lv_at hl 1 rfl) ?_
      refine lv_ior hx hb dX0_put_10 ?_
      refine lv_goto (tgt := 22) hx hb dX0_put_11 (by decide) ?_
      exact rg_e k (by first | rw [if_neg c_2] | simp only [if_neg c_2])
  refine va_put (D := (dC, dI)) (ci := 1) (v := .int y_1) (ty := .int) (C := RX0) (T := TX0) (N := 1) hx hb hts (by decide +kernel) tyX0 tyX0_ok nmX0 hown hK hP hD hS 0 rfl rfl 0 (by decide) (hts (.fieldLink RX0 7 "WordArithmetic" "held" "I") (by decide +kernel)) (fun _ h9 => h9) rfl (by decide +kernel) rfl rfl (Nat.le_of_ble_eq_true rfl) dX0_put_22 (fun H locs hP hD hS => ?_)
  have hP : va_P (dC, dI) vwCl [(h0, .inr (1, [.int y_1]))] H := hP
  have hD : va_D A [(h0, .inr (1, [.int y_1]))] := hD
  exact W.vret hx hb hr (fun t ht hW => ⟨⟨y_1, rfl, (by subst ey_1; simp only [f_X0_put]), by rw [ht]; exact hP, va_K.moved hW.alike hK, hD⟩, hS.F ht⟩) hS.2.2 dX0_put_25

/-- what X0_putOverflow answers -/
def f_X0_putOverflow (f : Int32) (a1 : Int32) (a2 : Int32) : Int32 :=
  let y_1 : Int32 := (if a2 = (f_X0_signedValue a1 a2) then 0 else 1)
  let u_4 : Int32 := (f_X0_put f 2048 y_1)
  u_4
set_option maxHeartbeats 4000000 in
set_option maxRecDepth 100000 in
theorem p_X0_putOverflow (l : Launch) (dC : Nat → ClassId) (dI : Nat → Nat → Nat) (h0 : Nat) (sz : Nat) (f : Int32) (a1 : Int32) (a2 : Int32) : Met l yX0_putOverflow wsX0_putOverflow ({ frames := 1, cells := 0, slots := 0, locals := 22 }) (va_Pc [.ref h0, .int a1, .int a2] (wr_pre (dC, dI) 1 h0 sz [.int f])) (va_Qv (fun u : Int32 => u = f_X0_putOverflow f a1 a2) (wr_at (dC, dI) 1 h0 (fun u : Int32 => [.int u]) (wr_A 1 h0 sz [.int f])) (wr_A 1 h0 sz [.int f])) 0 0 (wr_A 1 h0 sz [.int f]) := by
  refine Met.ofW (cc := cX0_putOverflow) (maxL := 3) (ret := none) (by decide) rfl ?_
  intro p e s m args below meth c s₁ B hml hv
  obtain ⟨rfl, hsz, hP, hK, hD0⟩ := hv
  have hx := B.exec
  have hb := B.bytes
  have hr := B.returns
  have hts := atoms_spec (ws := wsX0_putOverflow) B.pre
  have hown : s.vm.findClass RX0 = some m.cls := findClass_of_methodNamed B.named
  have hlocks := B.notSynchronized
  subst hsz
  have hD : va_D (wr_A 1 h0 s.heap.size [.int f]) [(h0, .inr (1, [.int f]))] := hD0.self (sz := s.heap.size)
  generalize hAe : wr_A 1 h0 s.heap.size [.int f] = A at hD ⊢
  have hA : ∀ q : Nat, s.heap.size ≤ q → A q := fun q h => by rw [← hAe]; exact Or.inr h
  have hS : va_S A s.heap s.heap [] := va_S.rf
  have hP : va_P (dC, dI) vwCl [(h0, .inr (1, [.int f]))] s.heap := hP
  have hD : va_D A [(h0, .inr (1, [.int f]))] := hD
  have hl := lv_entry ([.ref h0, .int a1, .int a2]) (n := 3) (Nat.le_of_ble_eq_true rfl)
  rw [lg_entry_eq]
  generalize (lg_sl ([.ref h0, .int a1, .int a2]) ++ List.replicate (3 - (lg_sl ([.ref h0, .int a1, .int a2])).length) Slot.unset).toArray = ls at hl ⊢
  have hl : lv_has ls 3 [(0, .ref h0), (1, .int a1), (2, .int a2)] := hl
  refine lv_aload_n hx hb dX0_putOverflow_0 rfl (lv_at hl 0 rfl) ?_
  refine lv_sipush (v := 2048) hx hb dX0_putOverflow_1 (by decide +kernel) ?_
  refine lv_iload_n hx hb dX0_putOverflow_4 rfl (lv_at hl 2 rfl) ?_
  refine lv_iload_n hx hb dX0_putOverflow_5 rfl (lv_at hl 1 rfl) ?_
  refine lv_iload_n hx hb dX0_putOverflow_6 rfl (lv_at hl 2 rfl) ?_
  refine pu_calli (F := (f_X0_signedValue a1 a2)) (va_runS (As := [.int a1, .int a2]) (rest := [.int a2, .int 2048, .ref h0]) ⟨hx, hb, hml, hown, hts⟩ (p_X0_signedValue l _ a1 a2) (va_cwS 2 hts gX0_putOverflow_X0_signedValue rfl rfl rfl (by decide +kernel) ⟨Nat.le_of_ble_eq_true rfl, Nat.le_of_ble_eq_true rfl⟩) pu_preS rfl rfl hl.1 rfl (lv_room (Nat.le_of_ble_eq_true rfl)) dX0_putOverflow_7 ⟨Nat.le_of_ble_eq_true rfl, Nat.le_of_ble_eq_true rfl⟩) ?_
  refine rg (J := 18) (st := [.int 2048, .ref h0]) (if a2 = (f_X0_signedValue a1 a2) then 0 else 1) (fun k => ?_) (fun y_1 ey_1 => ?_)
  · refine lv_icmp_eq (tgt := 17) hx hb dX0_putOverflow_10 (by decide) (fun c_2 => ?_) (fun c_2 => ?_)
    · refine lv_iconst (v := 0) hx hb dX0_putOverflow_17 (by decide) ?_
      exact rg_e k (by first | rw [if_pos c_2] | simp only [if_pos c_2])
    · refine lv_iconst (v := 1) hx hb dX0_putOverflow_13 (by decide) ?_
      refine lv_goto (tgt := 18) hx hb dX0_putOverflow_14 (by decide) ?_
      exact rg_e k (by first | rw [if_neg c_2] | simp only [if_neg c_2])
  refine wr_callv (va_runV (As := [.int 2048, .int y_1]) (rest := []) ⟨hx, hb, hml, hown, hts⟩ (p_X0_put l dC dI h0 _ f 2048 y_1) (cwV 2 hts gX0_putOverflow_X0_put rfl rfl rfl (by decide +kernel) ⟨Nat.le_of_ble_eq_true rfl, Nat.le_of_ble_eq_true rfl⟩) (wr_preV (ci := 1) rfl hK hP hD) rfl rfl hl.1 rfl (lv_room (Nat.le_of_ble_eq_true rfl)) dX0_putOverflow_18 ⟨Nat.le_of_ble_eq_true rfl, Nat.le_of_ble_eq_true rfl⟩) hP hD hS hA (fun u_4 H locs eu_4 hP hD hS => ?_)
  have hP : va_P (dC, dI) vwCl [(h0, .inr (1, [.int u_4]))] H := hP
  have hD : va_D A [(h0, .inr (1, [.int u_4]))] := hD
  exact W.vret hx hb hr (fun t ht hW => ⟨⟨u_4, rfl, (by subst ey_1; subst eu_4; simp only [f_X0_putOverflow]), by rw [ht]; exact hP, va_K.moved hW.alike hK, hD⟩, hS.F ht⟩) hS.2.2 dX0_putOverflow_21

/-- what J6_bitCount_0f7a4 answers -/
def f_J6_bitCount_0f7a4 (a1 : Int32) : Int32 :=
  let y_1 : Int32 := (a1 - ((((a1).toUInt32 >>> ((1 : Int32).toUInt32 &&& Int32.toUInt32 31)).toInt32) &&& 1431655765))
  let y_2 : Int32 := ((y_1 &&& 858993459) + ((((y_1).toUInt32 >>> ((2 : Int32).toUInt32 &&& Int32.toUInt32 31)).toInt32) &&& 858993459))
  let y_3 : Int32 := ((y_2 + (((y_2).toUInt32 >>> ((4 : Int32).toUInt32 &&& Int32.toUInt32 31)).toInt32)) &&& 252645135)
  let y_4 : Int32 := (y_3 + (((y_3).toUInt32 >>> ((8 : Int32).toUInt32 &&& Int32.toUInt32 31)).toInt32))
  let y_5 : Int32 := (y_4 + (((y_4).toUInt32 >>> ((16 : Int32).toUInt32 &&& Int32.toUInt32 31)).toInt32))
  (y_5 &&& 63)
set_option maxHeartbeats 4000000 in
set_option maxRecDepth 100000 in
theorem p_J6_bitCount_0f7a4 (l : Launch) (HH : Heap) (a1 : Int32) : Met l yJ6_bitCount_0f7a4 wsJ6_bitCount_0f7a4 ({ frames := 0, cells := 0, slots := 0, locals := 0 }) (va_Pc [.int a1] (fun U => U.heap = HH)) (va_Qi (fun (r : Int32) (_ : Unit) => r = f_J6_bitCount_0f7a4 a1) (fun _ t => t.heap = HH) (fun _ => False)) 0 0 (fun _ => False) := by
  refine Met.ofW (cc := cJ6_bitCount_0f7a4) (maxL := 1) (ret := (some .int)) (by decide) rfl ?_
  intro p e s m args below meth c s₁ B hml hv
  obtain ⟨rfl, hsz⟩ := hv
  have hx := B.exec
  have hb := B.bytes
  have hr := B.returns
  have hts := atoms_spec (ws := wsJ6_bitCount_0f7a4) B.pre
  have hown : s.vm.findClass RJ6 = some m.cls := findClass_of_methodNamed B.named
  have hlocks := B.notSynchronized
  subst hsz
  have hl := lv_entry ([.int a1]) (n := 1) (Nat.le_of_ble_eq_true rfl)
  rw [lg_entry_eq]
  generalize (lg_sl ([.int a1]) ++ List.replicate (1 - (lg_sl ([.int a1])).length) Slot.unset).toArray = ls at hl ⊢
  have hl : lv_has ls 1 [(0, .int a1)] := hl
  refine lv_iload_n hx hb dJ6_bitCount_0f7a4_0 rfl (lv_at hl 0 rfl) ?_
  refine lv_iload_n hx hb dJ6_bitCount_0f7a4_1 rfl (lv_at hl 0 rfl) ?_
  refine lv_iconst (v := 1) hx hb dJ6_bitCount_0f7a4_2 (by decide) ?_
  refine lv_iushr (v := ((a1).toUInt32 >>> ((1 : Int32).toUInt32 &&& Int32.toUInt32 31)).toInt32) hx hb dJ6_bitCount_0f7a4_3 rfl ?_
  refine lv_ldcw (own := RJ6) (index := 265) (v := 1431655765) hx hb hown (hts (.constant RJ6 265 (1431655765)) (by decide +kernel)) dJ6_bitCount_0f7a4_4 ?_
  refine lv_iand hx hb dJ6_bitCount_0f7a4_7 ?_
  refine lv_isub hx hb dJ6_bitCount_0f7a4_8 ?_
  refine lv_topi (fun y_1 ey_1 => ?_)
  refine lv_istore_n (lv' := [(0, .int y_1)]) hx hb dJ6_bitCount_0f7a4_9 rfl hl (by decide) rfl (fun ls hl => ?_)
  refine lv_iload_n hx hb dJ6_bitCount_0f7a4_10 rfl (lv_at hl 0 rfl) ?_
  refine lv_ldcw (own := RJ6) (index := 266) (v := 858993459) hx hb hown (hts (.constant RJ6 266 (858993459)) (by decide +kernel)) dJ6_bitCount_0f7a4_11 ?_
  refine lv_iand hx hb dJ6_bitCount_0f7a4_14 ?_
  refine lv_iload_n hx hb dJ6_bitCount_0f7a4_15 rfl (lv_at hl 0 rfl) ?_
  refine lv_iconst (v := 2) hx hb dJ6_bitCount_0f7a4_16 (by decide) ?_
  refine lv_iushr (v := ((y_1).toUInt32 >>> ((2 : Int32).toUInt32 &&& Int32.toUInt32 31)).toInt32) hx hb dJ6_bitCount_0f7a4_17 rfl ?_
  refine lv_ldcw (own := RJ6) (index := 266) (v := 858993459) hx hb hown (hts (.constant RJ6 266 (858993459)) (by decide +kernel)) dJ6_bitCount_0f7a4_18 ?_
  refine lv_iand hx hb dJ6_bitCount_0f7a4_21 ?_
  refine lv_iadd hx hb dJ6_bitCount_0f7a4_22 ?_
  refine lv_topi (fun y_2 ey_2 => ?_)
  refine lv_istore_n (lv' := [(0, .int y_2)]) hx hb dJ6_bitCount_0f7a4_23 rfl hl (by decide) rfl (fun ls hl => ?_)
  refine lv_iload_n hx hb dJ6_bitCount_0f7a4_24 rfl (lv_at hl 0 rfl) ?_
  refine lv_iload_n hx hb dJ6_bitCount_0f7a4_25 rfl (lv_at hl 0 rfl) ?_
  refine lv_iconst (v := 4) hx hb dJ6_bitCount_0f7a4_26 (by decide) ?_
  refine lv_iushr (v := ((y_2).toUInt32 >>> ((4 : Int32).toUInt32 &&& Int32.toUInt32 31)).toInt32) hx hb dJ6_bitCount_0f7a4_27 rfl ?_
  refine lv_iadd hx hb dJ6_bitCount_0f7a4_28 ?_
  refine lv_ldcw (own := RJ6) (index := 267) (v := 252645135) hx hb hown (hts (.constant RJ6 267 (252645135)) (by decide +kernel)) dJ6_bitCount_0f7a4_29 ?_
  refine lv_iand hx hb dJ6_bitCount_0f7a4_32 ?_
  refine lv_topi (fun y_3 ey_3 => ?_)
  refine lv_istore_n (lv' := [(0, .int y_3)]) hx hb dJ6_bitCount_0f7a4_33 rfl hl (by decide) rfl (fun ls hl => ?_)
  refine lv_iload_n hx hb dJ6_bitCount_0f7a4_34 rfl (lv_at hl 0 rfl) ?_
  refine lv_iload_n hx hb dJ6_bitCount_0f7a4_35 rfl (lv_at hl 0 rfl) ?_
  refine lv_bipush (v := 8) hx hb dJ6_bitCount_0f7a4_36 (by decide +kernel) ?_
  refine lv_iushr (v := ((y_3).toUInt32 >>> ((8 : Int32).toUInt32 &&& Int32.toUInt32 31)).toInt32) hx hb dJ6_bitCount_0f7a4_38 rfl ?_
  refine lv_iadd hx hb dJ6_bitCount_0f7a4_39 ?_
  refine lv_topi (fun y_4 ey_4 => ?_)
  refine lv_istore_n (lv' := [(0, .int y_4)]) hx hb dJ6_bitCount_0f7a4_40 rfl hl (by decide) rfl (fun ls hl => ?_)
  refine lv_iload_n hx hb dJ6_bitCount_0f7a4_41 rfl (lv_at hl 0 rfl) ?_
  refine lv_iload_n hx hb dJ6_bitCount_0f7a4_42 rfl (lv_at hl 0 rfl) ?_
  refine lv_bipush (v := 16) hx hb dJ6_bitCount_0f7a4_43 (by decide +kernel) ?_
  refine lv_iushr (v := ((y_4).toUInt32 >>> ((16 : Int32).toUInt32 &&& Int32.toUInt32 31)).toInt32) hx hb dJ6_bitCount_0f7a4_45 rfl ?_
  refine lv_iadd hx hb dJ6_bitCount_0f7a4_46 ?_
  refine lv_topi (fun y_5 ey_5 => ?_)
  refine lv_istore_n (lv' := [(0, .int y_5)]) hx hb dJ6_bitCount_0f7a4_47 rfl hl (by decide) rfl (fun ls hl => ?_)
  refine lv_iload_n hx hb dJ6_bitCount_0f7a4_48 rfl (lv_at hl 0 rfl) ?_
  refine lv_bipush (v := 63) hx hb dJ6_bitCount_0f7a4_49 (by decide +kernel) ?_
  refine lv_iand hx hb dJ6_bitCount_0f7a4_51 ?_
  exact W.iret (v := (y_5 &&& 63)) hx hb hr (fun t ht hW => ⟨⟨(y_5 &&& 63), (), rfl, (by subst ey_1; subst ey_2; subst ey_3; subst ey_4; subst ey_5; simp only [f_J6_bitCount_0f7a4]), ht⟩, pu_F ht⟩) (fun q h => nomatch h) dJ6_bitCount_0f7a4_52

/-- what X0_goByAnswer answers -/
def f_X0_goByAnswer (f : Int32) (a1 : Int32) (a2 : Int32) : Int32 :=
  let y_1 : Int32 := (if a2 = 0 then 1 else 0)
  let u_4 : Int32 := (f_X0_put f 64 y_1)
  let u_6 : Int32 := (f_X0_put u_4 128 (f_X0_hasHighestBit a1 a2))
  let y_7 : Int32 := (if (jr (f_J6_bitCount_0f7a4 (a2 &&& 255)) 2) = 0 then 1 else 0)
  let u_10 : Int32 := (f_X0_put u_6 4 y_7)
  u_10
set_option maxHeartbeats 4000000 in
set_option maxRecDepth 100000 in
theorem p_X0_goByAnswer (l : Launch) (dC : Nat → ClassId) (dI : Nat → Nat → Nat) (h0 : Nat) (sz : Nat) (f : Int32) (a1 : Int32) (a2 : Int32) : Met l yX0_goByAnswer wsX0_goByAnswer ({ frames := 2, cells := 0, slots := 0, locals := 41 }) (va_Pc [.ref h0, .int a1, .int a2] (wr_pre (dC, dI) 1 h0 sz [.int f])) (va_Qv (fun u : Int32 => u = f_X0_goByAnswer f a1 a2) (wr_at (dC, dI) 1 h0 (fun u : Int32 => [.int u]) (wr_A 1 h0 sz [.int f])) (wr_A 1 h0 sz [.int f])) 0 0 (wr_A 1 h0 sz [.int f]) := by
  refine Met.ofW (cc := cX0_goByAnswer) (maxL := 3) (ret := none) (by decide) rfl ?_
  intro p e s m args below meth c s₁ B hml hv
  obtain ⟨rfl, hsz, hP, hK, hD0⟩ := hv
  have hx := B.exec
  have hb := B.bytes
  have hr := B.returns
  have hts := atoms_spec (ws := wsX0_goByAnswer) B.pre
  have hown : s.vm.findClass RX0 = some m.cls := findClass_of_methodNamed B.named
  have hlocks := B.notSynchronized
  subst hsz
  have hD : va_D (wr_A 1 h0 s.heap.size [.int f]) [(h0, .inr (1, [.int f]))] := hD0.self (sz := s.heap.size)
  generalize hAe : wr_A 1 h0 s.heap.size [.int f] = A at hD ⊢
  have hA : ∀ q : Nat, s.heap.size ≤ q → A q := fun q h => by rw [← hAe]; exact Or.inr h
  have hS : va_S A s.heap s.heap [] := va_S.rf
  have hP : va_P (dC, dI) vwCl [(h0, .inr (1, [.int f]))] s.heap := hP
  have hD : va_D A [(h0, .inr (1, [.int f]))] := hD
  have hl := lv_entry ([.ref h0, .int a1, .int a2]) (n := 3) (Nat.le_of_ble_eq_true rfl)
  rw [lg_entry_eq]
  generalize (lg_sl ([.ref h0, .int a1, .int a2]) ++ List.replicate (3 - (lg_sl ([.ref h0, .int a1, .int a2])).length) Slot.unset).toArray = ls at hl ⊢
  have hl : lv_has ls 3 [(0, .ref h0), (1, .int a1), (2, .int a2)] := hl
  refine lv_aload_n hx hb dX0_goByAnswer_0 rfl (lv_at hl 0 rfl) ?_
  refine lv_bipush (v := 64) hx hb dX0_goByAnswer_1 (by decide +kernel) ?_
  refine lv_iload_n hx hb dX0_goByAnswer_3 rfl (lv_at hl 2 rfl) ?_
  refine rg (J := 12) (st := [.int 64, .ref h0]) (if a2 = 0 then 1 else 0) (fun k => ?_) (fun y_1 ey_1 => ?_)
  · refine lv_if_ne (tgt := 11) hx hb dX0_goByAnswer_4 (by decide) (fun c_2 => ?_) (fun c_2 => ?_)
    · refine lv_iconst (v := 0) hx hb dX0_goByAnswer_11 (by decide) ?_
      exact rg_e k (by first | rw [if_neg c_2] | simp only [if_neg c_2])
    · refine lv_iconst (v := 1) hx hb dX0_goByAnswer_7 (by decide) ?_
      refine lv_goto (tgt := 12) hx hb dX0_goByAnswer_8 (by decide) ?_
      exact rg_e k (by first | rw [if_pos c_2] | simp only [if_pos c_2])
  refine wr_callv (va_runV (As := [.int 64, .int y_1]) (rest := []) ⟨hx, hb, hml, hown, hts⟩ (p_X0_put l dC dI h0 _ f 64 y_1) (cwV 2 hts gX0_goByAnswer_X0_put rfl rfl rfl (by decide +kernel) ⟨Nat.le_of_ble_eq_true rfl, Nat.le_of_ble_eq_true rfl⟩) (wr_preV (ci := 1) rfl hK hP hD) rfl rfl hl.1 rfl (lv_room (Nat.le_of_ble_eq_true rfl)) dX0_goByAnswer_12 ⟨Nat.le_of_ble_eq_true rfl, Nat.le_of_ble_eq_true rfl⟩) hP hD hS hA (fun u_4 H locs eu_4 hP hD hS => ?_)
  have hP : va_P (dC, dI) vwCl [(h0, .inr (1, [.int u_4]))] H := hP
  have hD : va_D A [(h0, .inr (1, [.int u_4]))] := hD
  refine lv_aload_n hx hb dX0_goByAnswer_15 rfl (lv_at hl 0 rfl) ?_
  refine lv_sipush (v := 128) hx hb dX0_goByAnswer_16 (by decide +kernel) ?_
  refine lv_iload_n hx hb dX0_goByAnswer_19 rfl (lv_at hl 1 rfl) ?_
  refine lv_iload_n hx hb dX0_goByAnswer_20 rfl (lv_at hl 2 rfl) ?_
  refine pu_calli (F := (f_X0_hasHighestBit a1 a2)) (va_runS (As := [.int a1, .int a2]) (rest := [.int 128, .ref h0]) ⟨hx, hb, hml, hown, hts⟩ (p_X0_hasHighestBit l _ a1 a2) (va_cwS 2 hts gX0_goByAnswer_X0_hasHighestBit rfl rfl rfl (by decide +kernel) ⟨Nat.le_of_ble_eq_true rfl, Nat.le_of_ble_eq_true rfl⟩) pu_preS rfl rfl hl.1 rfl (lv_room (Nat.le_of_ble_eq_true rfl)) dX0_goByAnswer_21 ⟨Nat.le_of_ble_eq_true rfl, Nat.le_of_ble_eq_true rfl⟩) ?_
  refine wr_callv (va_runV (As := [.int 128, .int (f_X0_hasHighestBit a1 a2)]) (rest := []) ⟨hx, hb, hml, hown, hts⟩ (p_X0_put l dC dI h0 _ u_4 128 (f_X0_hasHighestBit a1 a2)) (cwV 2 hts gX0_goByAnswer_X0_put rfl rfl rfl (by decide +kernel) ⟨Nat.le_of_ble_eq_true rfl, Nat.le_of_ble_eq_true rfl⟩) (wr_preV (ci := 1) rfl hK hP hD) rfl rfl hl.1 rfl (lv_room (Nat.le_of_ble_eq_true rfl)) dX0_goByAnswer_24 ⟨Nat.le_of_ble_eq_true rfl, Nat.le_of_ble_eq_true rfl⟩) hP hD hS hA (fun u_6 H locs eu_6 hP hD hS => ?_)
  have hP : va_P (dC, dI) vwCl [(h0, .inr (1, [.int u_6]))] H := hP
  have hD : va_D A [(h0, .inr (1, [.int u_6]))] := hD
  refine lv_aload_n hx hb dX0_goByAnswer_27 rfl (lv_at hl 0 rfl) ?_
  refine lv_iconst (v := 4) hx hb dX0_goByAnswer_28 (by decide) ?_
  refine lv_iload_n hx hb dX0_goByAnswer_29 rfl (lv_at hl 2 rfl) ?_
  refine lv_sipush (v := 255) hx hb dX0_goByAnswer_30 (by decide +kernel) ?_
  refine lv_iand hx hb dX0_goByAnswer_33 ?_
  refine pu_calli (F := (f_J6_bitCount_0f7a4 (a2 &&& 255))) (va_runS (As := [.int (a2 &&& 255)]) (rest := [.int 4, .ref h0]) ⟨hx, hb, hml, hown, hts⟩ (p_J6_bitCount_0f7a4 l _ (a2 &&& 255)) (va_cwS 1 hts gX0_goByAnswer_J6_bitCount_0f7a4 rfl rfl rfl (by decide +kernel) ⟨Nat.le_of_ble_eq_true rfl, Nat.le_of_ble_eq_true rfl⟩) pu_preS rfl rfl hl.1 rfl (lv_room (Nat.le_of_ble_eq_true rfl)) dX0_goByAnswer_34 ⟨Nat.le_of_ble_eq_true rfl, Nat.le_of_ble_eq_true rfl⟩) ?_
  refine lv_iconst (v := 2) hx hb dX0_goByAnswer_37 (by decide) ?_
  refine jr_row hx hb dX0_goByAnswer_38 (by decide) ?_
  refine rg (J := 47) (st := [.int 4, .ref h0]) (if (jr (f_J6_bitCount_0f7a4 (a2 &&& 255)) 2) = 0 then 1 else 0) (fun k => ?_) (fun y_7 ey_7 => ?_)
  · refine lv_if_ne (tgt := 46) hx hb dX0_goByAnswer_39 (by decide) (fun c_8 => ?_) (fun c_8 => ?_)
    · refine lv_iconst (v := 0) hx hb dX0_goByAnswer_46 (by decide) ?_
      exact rg_e k (by first | rw [if_neg c_8] | simp only [if_neg c_8])
    · refine lv_iconst (v := 1) hx hb dX0_goByAnswer_42 (by decide) ?_
      refine lv_goto (tgt := 47) hx hb dX0_goByAnswer_43 (by decide) ?_
      exact rg_e k (by first | rw [if_pos c_8] | simp only [if_pos c_8])
  refine wr_callv (va_runV (As := [.int 4, .int y_7]) (rest := []) ⟨hx, hb, hml, hown, hts⟩ (p_X0_put l dC dI h0 _ u_6 4 y_7) (cwV 2 hts gX0_goByAnswer_X0_put rfl rfl rfl (by decide +kernel) ⟨Nat.le_of_ble_eq_true rfl, Nat.le_of_ble_eq_true rfl⟩) (wr_preV (ci := 1) rfl hK hP hD) rfl rfl hl.1 rfl (lv_room (Nat.le_of_ble_eq_true rfl)) dX0_goByAnswer_47 ⟨Nat.le_of_ble_eq_true rfl, Nat.le_of_ble_eq_true rfl⟩) hP hD hS hA (fun u_10 H locs eu_10 hP hD hS => ?_)
  have hP : va_P (dC, dI) vwCl [(h0, .inr (1, [.int u_10]))] H := hP
  have hD : va_D A [(h0, .inr (1, [.int u_10]))] := hD
  exact W.vret hx hb hr (fun t ht hW => ⟨⟨u_10, rfl, (by subst ey_1; subst eu_4; subst eu_6; subst ey_7; subst eu_10; simp only [f_X0_goByAnswer]), by rw [ht]; exact hP, va_K.moved hW.alike hK, hD⟩, hS.F ht⟩) hS.2.2 dX0_goByAnswer_50

/-- what X0_kept answers -/
def f_X0_kept (f : Int32) (a1 : Int32) (a2 : Int32) : Int32 × Int32 :=
  let y_1 : Int32 := (f_X0_operand a1 a2)
  let u_3 : Int32 := (f_X0_goByAnswer f a1 y_1)
  (y_1, u_3)
set_option maxHeartbeats 4000000 in
set_option maxRecDepth 100000 in
theorem p_X0_kept (l : Launch) (dC : Nat → ClassId) (dI : Nat → Nat → Nat) (h0 : Nat) (sz : Nat) (f : Int32) (a1 : Int32) (a2 : Int32) : Met l yX0_kept wsX0_kept ({ frames := 3, cells := 0, slots := 0, locals := 63 }) (va_Pc [.ref h0, .int a1, .int a2] (wr_pre (dC, dI) 1 h0 sz [.int f])) (va_Qi (fun (r : Int32) (u : Int32) => r = (f_X0_kept f a1 a2).1 ∧ u = (f_X0_kept f a1 a2).2) (wr_at (dC, dI) 1 h0 (fun u : Int32 => [.int u]) (wr_A 1 h0 sz [.int f])) (wr_A 1 h0 sz [.int f])) 0 0 (wr_A 1 h0 sz [.int f]) := by
  refine Met.ofW (cc := cX0_kept) (maxL := 4) (ret := (some .int)) (by decide) rfl ?_
  intro p e s m args below meth c s₁ B hml hv
  obtain ⟨rfl, hsz, hP, hK, hD0⟩ := hv
  have hx := B.exec
  have hb := B.bytes
  have hr := B.returns
  have hts := atoms_spec (ws := wsX0_kept) B.pre
  have hown : s.vm.findClass RX0 = some m.cls := findClass_of_methodNamed B.named
  have hlocks := B.notSynchronized
  subst hsz
  have hD : va_D (wr_A 1 h0 s.heap.size [.int f]) [(h0, .inr (1, [.int f]))] := hD0.self (sz := s.heap.size)
  generalize hAe : wr_A 1 h0 s.heap.size [.int f] = A at hD ⊢
  have hA : ∀ q : Nat, s.heap.size ≤ q → A q := fun q h => by rw [← hAe]; exact Or.inr h
  have hS : va_S A s.heap s.heap [] := va_S.rf
  have hP : va_P (dC, dI) vwCl [(h0, .inr (1, [.int f]))] s.heap := hP
  have hD : va_D A [(h0, .inr (1, [.int f]))] := hD
  have hl := lv_entry ([.ref h0, .int a1, .int a2]) (n := 4) (Nat.le_of_ble_eq_true rfl)
  rw [lg_entry_eq]
  generalize (lg_sl ([.ref h0, .int a1, .int a2]) ++ List.replicate (4 - (lg_sl ([.ref h0, .int a1, .int a2])).length) Slot.unset).toArray = ls at hl ⊢
  have hl : lv_has ls 4 [(0, .ref h0), (1, .int a1), (2, .int a2)] := hl
  refine lv_iload_n hx hb dX0_kept_0 rfl (lv_at hl 1 rfl) ?_
  refine lv_iload_n hx hb dX0_kept_1 rfl (lv_at hl 2 rfl) ?_
  refine pu_calli (F := (f_X0_operand a1 a2)) (va_runS (As := [.int a1, .int a2]) (rest := []) ⟨hx, hb, hml, hown, hts⟩ (p_X0_operand l _ a1 a2) (va_cwS 2 hts gX0_kept_X0_operand rfl rfl rfl (by decide +kernel) ⟨Nat.le_of_ble_eq_true rfl, Nat.le_of_ble_eq_true rfl⟩) pu_preS rfl rfl hl.1 rfl (lv_room (Nat.le_of_ble_eq_true rfl)) dX0_kept_2 ⟨Nat.le_of_ble_eq_true rfl, Nat.le_of_ble_eq_true rfl⟩) ?_
  refine lv_topi (fun y_1 ey_1 => ?_)
  refine lv_istore_n (lv' := [(3, .int y_1), (0, .ref h0), (1, .int a1), (2, .int a2)]) hx hb dX0_kept_5 rfl hl (by decide) rfl (fun ls hl => ?_)
  refine lv_aload_n hx hb dX0_kept_6 rfl (lv_at hl 1 rfl) ?_
  refine lv_iload_n hx hb dX0_kept_7 rfl (lv_at hl 2 rfl) ?_
  refine lv_iload_n hx hb dX0_kept_8 rfl (lv_at hl 0 rfl) ?_
  refine wr_callv (va_runV (As := [.int a1, .int y_1]) (rest := []) ⟨hx, hb, hml, hown, hts⟩ (p_X0_goByAnswer l dC dI h0 _ f a1 y_1) (cwV 2 hts gX0_kept_X0_goByAnswer rfl rfl rfl (by decide +kernel) ⟨Nat.le_of_ble_eq_true rfl, Nat.le_of_ble_eq_true rfl⟩) (wr_preV (ci := 1) rfl hK hP hD) rfl rfl hl.1 rfl (lv_room (Nat.le_of_ble_eq_true rfl)) dX0_kept_9 ⟨Nat.le_of_ble_eq_true rfl, Nat.le_of_ble_eq_true rfl⟩) hP hD hS hA (fun u_3 H locs eu_3 hP hD hS => ?_)
  have hP : va_P (dC, dI) vwCl [(h0, .inr (1, [.int u_3]))] H := hP
  have hD : va_D A [(h0, .inr (1, [.int u_3]))] := hD
  refine lv_iload_n hx hb dX0_kept_12 rfl (lv_at hl 0 rfl) ?_
  exact W.iret (v := y_1) hx hb hr (fun t ht hW => ⟨⟨y_1, u_3, rfl, ⟨(by subst ey_1; subst eu_3; simp only [f_X0_kept]), (by subst ey_1; subst eu_3; simp only [f_X0_kept])⟩, by rw [ht]; exact hP, va_K.moved hW.alike hK, hD⟩, hS.F ht⟩) hS.2.2 dX0_kept_13

/-- what X0_sum answers -/
def f_X0_sum (f : Int32) (a1 : Int32) (a2 : Int32) (a3 : Int32) (a4 : Int32) : Int32 × Int32 :=
  let y_1 : Int32 := ((a2 + a3) + a4)
  let y_2 : Int32 := (if y_1 ≤ (f_X0_mask a1) then 0 else 1)
  let u_5 : Int32 := (f_X0_put f 1 y_2)
  let y_6 : Int32 := (if (((a2 &&& 15) + (a3 &&& 15)) + a4) ≤ 15 then 0 else 1)
  let u_9 : Int32 := (f_X0_put u_5 16 y_6)
  let u_11 : Int32 := (f_X0_putOverflow u_9 a1 (((f_X0_signedValue a1 a2) + (f_X0_signedValue a1 a3)) + a4))
  let r_12 : Int32 := (f_X0_kept u_11 a1 y_1).1
  let u_13 : Int32 := (f_X0_kept u_11 a1 y_1).2
  (r_12, u_13)
set_option maxHeartbeats 4000000 in
set_option maxRecDepth 100000 in
theorem p_X0_sum (l : Launch) (dC : Nat → ClassId) (dI : Nat → Nat → Nat) (h0 : Nat) (sz : Nat) (f : Int32) (a1 : Int32) (a2 : Int32) (a3 : Int32) (a4 : Int32) : Met l yX0_sum wsX0_sum ({ frames := 4, cells := 0, slots := 0, locals := 86 }) (va_Pc [.ref h0, .int a1, .int a2, .int a3, .int a4] (wr_pre (dC, dI) 1 h0 sz [.int f])) (va_Qi (fun (r : Int32) (u : Int32) => r = (f_X0_sum f a1 a2 a3 a4).1 ∧ u = (f_X0_sum f a1 a2 a3 a4).2) (wr_at (dC, dI) 1 h0 (fun u : Int32 => [.int u]) (wr_A 1 h0 sz [.int f])) (wr_A 1 h0 sz [.int f])) 0 0 (wr_A 1 h0 sz [.int f]) := by
  refine Met.ofW (cc := cX0_sum) (maxL := 6) (ret := (some .int)) (by decide) rfl ?_
  intro p e s m args below meth c s₁ B hml hv
  obtain ⟨rfl, hsz, hP, hK, hD0⟩ := hv
  have hx := B.exec
  have hb := B.bytes
  have hr := B.returns
  have hts := atoms_spec (ws := wsX0_sum) B.pre
  have hown : s.vm.findClass RX0 = some m.cls := findClass_of_methodNamed B.named
  have hlocks := B.notSynchronized
  subst hsz
  have hD : va_D (wr_A 1 h0 s.heap.size [.int f]) [(h0, .inr (1, [.int f]))] := hD0.self (sz := s.heap.size)
  generalize hAe : wr_A 1 h0 s.heap.size [.int f] = A at hD ⊢
  have hA : ∀ q : Nat, s.heap.size ≤ q → A q := fun q h => by rw [← hAe]; exact Or.inr h
  have hS : va_S A s.heap s.heap [] := va_S.rf
  have hP : va_P (dC, dI) vwCl [(h0, .inr (1, [.int f]))] s.heap := hP
  have hD : va_D A [(h0, .inr (1, [.int f]))] := hD
  have hl := lv_entry ([.ref h0, .int a1, .int a2, .int a3, .int a4]) (n := 6) (Nat.le_of_ble_eq_true rfl)
  rw [lg_entry_eq]
  generalize (lg_sl ([.ref h0, .int a1, .int a2, .int a3, .int a4]) ++ List.replicate (6 - (lg_sl ([.ref h0, .int a1, .int a2, .int a3, .int a4])).length) Slot.unset).toArray = ls at hl ⊢
  have hl : lv_has ls 6 [(0, .ref h0), (1, .int a1), (2, .int a2), (3, .int a3), (4, .int a4)] := hl
  refine lv_iload_n hx hb dX0_sum_0 rfl (lv_at hl 2 rfl) ?_
  refine lv_iload_n hx hb dX0_sum_1 rfl (lv_at hl 3 rfl) ?_
  refine lv_iadd hx hb dX0_sum_2 ?_
  refine lv_iload hx hb dX0_sum_3 (lv_at hl 4 rfl) ?_
  refine lv_iadd hx hb dX0_sum_5 ?_
  refine lv_topi (fun y_1 ey_1 => ?_)
  refine lv_istore (lv' := [(5, .int y_1), (0, .ref h0), (1, .int a1), (2, .int a2), (3, .int a3), (4, .int a4)]) hx hb dX0_sum_6 hl (by decide) rfl (fun ls hl => ?_)
  refine lv_aload_n hx hb dX0_sum_8 rfl (lv_at hl 1 rfl) ?_
  refine lv_iconst (v := 1) hx hb dX0_sum_9 (by decide) ?_
  refine lv_iload hx hb dX0_sum_10 (lv_at hl 0 rfl) ?_
  refine lv_iload_n hx hb dX0_sum_12 rfl (lv_at hl 2 rfl) ?_
  refine pu_calli (F := (f_X0_mask a1)) (va_runS (As := [.int a1]) (rest := [.int y_1, .int 1, .ref h0]) ⟨hx, hb, hml, hown, hts⟩ (p_X0_mask l _ a1) (va_cwS 1 hts gX0_sum_X0_mask rfl rfl rfl (by decide +kernel) ⟨Nat.le_of_ble_eq_true rfl, Nat.le_of_ble_eq_true rfl⟩) pu_preS rfl rfl hl.1 rfl (lv_room (Nat.le_of_ble_eq_true rfl)) dX0_sum_13 ⟨Nat.le_of_ble_eq_true rfl, Nat.le_of_ble_eq_true rfl⟩) ?_
  refine rg (J := 24) (st := [.int 1, .ref h0]) (if y_1 ≤ (f_X0_mask a1) then 0 else 1) (fun k => ?_) (fun y_2 ey_2 => ?_)
  · refine lv_icmp_le (tgt := 23) hx hb dX0_sum_16 (by decide) (fun c_3 => ?_) (fun c_3 => ?_)
    · refine lv_iconst (v := 0) hx hb dX0_sum_23 (by decide) ?_
      exact rg_e k (by first | rw [if_pos c_3] | simp only [if_pos c_3])
    · refine lv_iconst (v := 1) hx hb dX0_sum_19 (by decide) ?_
      refine lv_goto (tgt := 24) hx hb dX0_sum_20 (by decide) ?_
      exact rg_e k (by first | rw [if_neg c_3] | simp only [if_neg c_3])
  refine wr_callv (va_runV (As := [.int 1, .int y_2]) (rest := []) ⟨hx, hb, hml, hown, hts⟩ (p_X0_put l dC dI h0 _ f 1 y_2) (cwV 2 hts gX0_sum_X0_put rfl rfl rfl (by decide +kernel) ⟨Nat.le_of_ble_eq_true rfl, Nat.le_of_ble_eq_true rfl⟩) (wr_preV (ci := 1) rfl hK hP hD) rfl rfl hl.1 rfl (lv_room (Nat.le_of_ble_eq_true rfl)) dX0_sum_24 ⟨Nat.le_of_ble_eq_true rfl, Nat.le_of_ble_eq_true rfl⟩) hP hD hS hA (fun u_5 H locs eu_5 hP hD hS => ?_)
  have hP : va_P (dC, dI) vwCl [(h0, .inr (1, [.int u_5]))] H := hP
  have hD : va_D A [(h0, .inr (1, [.int u_5]))] := hD
  refine lv_aload_n hx hb dX0_sum_27 rfl (lv_at hl 1 rfl) ?_
  refine lv_bipush (v := 16) hx hb dX0_sum_28 (by decide +kernel) ?_
  refine lv_iload_n hx hb dX0_sum_30 rfl (lv_at hl 3 rfl) ?_
  refine lv_bipush (v := 15) hx hb dX0_sum_31 (by decide +kernel) ?_
  refine lv_iand hx hb dX0_sum_33 ?_
  refine lv_iload_n hx hb dX0_sum_34 rfl (lv_at hl 4 rfl) ?_
  refine lv_bipush (v := 15) hx hb dX0_sum_35 (by decide +kernel) ?_
  refine lv_iand hx hb dX0_sum_37 ?_
  refine lv_iadd hx hb dX0_sum_38 ?_
  refine lv_iload hx hb dX0_sum_39 (lv_at hl 5 rfl) ?_
  refine lv_iadd hx hb dX0_sum_41 ?_
  refine lv_bipush (v := 15) hx hb dX0_sum_42 (by decide +kernel) ?_
  refine rg (J := 52) (st := [.int 16, .ref h0]) (if (((a2 &&& 15) + (a3 &&& 15)) + a4) ≤ 15 then 0 else 1) (fun k => ?_) (fun y_6 ey_6 => ?_)
  · refine lv_icmp_le (tgt := 51) hx hb dX0_sum_44 (by decide) (fun c_7 => ?_) (fun c_7 => ?_)
    · refine lv_iconst (v := 0) hx hb dX0_sum_51 (by decide) ?_
      exact rg_e k (by first | rw [if_pos c_7] | simp only [if_pos c_7])
    · refine lv_iconst (v := 1) hx hb dX0_sum_47 (by decide) ?_
      refine lv_goto (tgt := 52) hx hb dX0_sum_48 (by decide) ?_
      exact rg_e k (by first | rw [if_neg c_7] | simp only [if_neg c_7])
  refine wr_callv (va_runV (As := [.int 16, .int y_6]) (rest := []) ⟨hx, hb, hml, hown, hts⟩ (p_X0_put l dC dI h0 _ u_5 16 y_6) (cwV 2 hts gX0_sum_X0_put rfl rfl rfl (by decide +kernel) ⟨Nat.le_of_ble_eq_true rfl, Nat.le_of_ble_eq_true rfl⟩) (wr_preV (ci := 1) rfl hK hP hD) rfl rfl hl.1 rfl (lv_room (Nat.le_of_ble_eq_true rfl)) dX0_sum_52 ⟨Nat.le_of_ble_eq_true rfl, Nat.le_of_ble_eq_true rfl⟩) hP hD hS hA (fun u_9 H locs eu_9 hP hD hS => ?_)
  have hP : va_P (dC, dI) vwCl [(h0, .inr (1, [.int u_9]))] H := hP
  have hD : va_D A [(h0, .inr (1, [.int u_9]))] := hD
  refine lv_aload_n hx hb dX0_sum_55 rfl (lv_at hl 1 rfl) ?_
  refine lv_iload_n hx hb dX0_sum_56 rfl (lv_at hl 2 rfl) ?_
  refine lv_iload_n hx hb dX0_sum_57 rfl (lv_at hl 2 rfl) ?_
  refine lv_iload_n hx hb dX0_sum_58 rfl (lv_at hl 3 rfl) ?_
  refine pu_calli (F := (f_X0_signedValue a1 a2)) (va_runS (As := [.int a1, .int a2]) (rest := [.int a1, .ref h0]) ⟨hx, hb, hml, hown, hts⟩ (p_X0_signedValue l _ a1 a2) (va_cwS 2 hts gX0_sum_X0_signedValue rfl rfl rfl (by decide +kernel) ⟨Nat.le_of_ble_eq_true rfl, Nat.le_of_ble_eq_true rfl⟩) pu_preS rfl rfl hl.1 rfl (lv_room (Nat.le_of_ble_eq_true rfl)) dX0_sum_59 ⟨Nat.le_of_ble_eq_true rfl, Nat.le_of_ble_eq_true rfl⟩) ?_
  refine lv_iload_n hx hb dX0_sum_62 rfl (lv_at hl 2 rfl) ?_
  refine lv_iload_n hx hb dX0_sum_63 rfl (lv_at hl 4 rfl) ?_
  refine pu_calli (F := (f_X0_signedValue a1 a3)) (va_runS (As := [.int a1, .int a3]) (rest := [.int (f_X0_signedValue a1 a2), .int a1, .ref h0]) ⟨hx, hb, hml, hown, hts⟩ (p_X0_signedValue l _ a1 a3) (va_cwS 2 hts gX0_sum_X0_signedValue rfl rfl rfl (by decide +kernel) ⟨Nat.le_of_ble_eq_true rfl, Nat.le_of_ble_eq_true rfl⟩) pu_preS rfl rfl hl.1 rfl (lv_room (Nat.le_of_ble_eq_true rfl)) dX0_sum_64 ⟨Nat.le_of_ble_eq_true rfl, Nat.le_of_ble_eq_true rfl⟩) ?_
  refine lv_iadd hx hb dX0_sum_67 ?_
  refine lv_iload hx hb dX0_sum_68 (lv_at hl 5 rfl) ?_
  refine lv_iadd hx hb dX0_sum_70 ?_
  refine wr_callv (va_runV (As := [.int a1, .int (((f_X0_signedValue a1 a2) + (f_X0_signedValue a1 a3)) + a4)]) (rest := []) ⟨hx, hb, hml, hown, hts⟩ (p_X0_putOverflow l dC dI h0 _ u_9 a1 (((f_X0_signedValue a1 a2) + (f_X0_signedValue a1 a3)) + a4)) (cwV 2 hts gX0_sum_X0_putOverflow rfl rfl rfl (by decide +kernel) ⟨Nat.le_of_ble_eq_true rfl, Nat.le_of_ble_eq_true rfl⟩) (wr_preV (ci := 1) rfl hK hP hD) rfl rfl hl.1 rfl (lv_room (Nat.le_of_ble_eq_true rfl)) dX0_sum_71 ⟨Nat.le_of_ble_eq_true rfl, Nat.le_of_ble_eq_true rfl⟩) hP hD hS hA (fun u_11 H locs eu_11 hP hD hS => ?_)
  have hP : va_P (dC, dI) vwCl [(h0, .inr (1, [.int u_11]))] H := hP
  have hD : va_D A [(h0, .inr (1, [.int u_11]))] := hD
  refine lv_aload_n hx hb dX0_sum_74 rfl (lv_at hl 1 rfl) ?_
  refine lv_iload_n hx hb dX0_sum_75 rfl (lv_at hl 2 rfl) ?_
  refine lv_iload hx hb dX0_sum_76 (lv_at hl 0 rfl) ?_
  refine wr_calli (va_runV (As := [.int a1, .int y_1]) (rest := []) ⟨hx, hb, hml, hown, hts⟩ (p_X0_kept l dC dI h0 _ u_11 a1 y_1) (cwV 2 hts gX0_sum_X0_kept rfl rfl rfl (by decide +kernel) ⟨Nat.le_of_ble_eq_true rfl, Nat.le_of_ble_eq_true rfl⟩) (wr_preV (ci := 1) rfl hK hP hD) rfl rfl hl.1 rfl (lv_room (Nat.le_of_ble_eq_true rfl)) dX0_sum_78 ⟨Nat.le_of_ble_eq_true rfl, Nat.le_of_ble_eq_true rfl⟩) hP hD hS hA (fun r_12 u_13 H locs hw hP hD hS => ?_)
  obtain ⟨er_12, eu_13⟩ := hw
  have hP : va_P (dC, dI) vwCl [(h0, .inr (1, [.int u_13]))] H := hP
  have hD : va_D A [(h0, .inr (1, [.int u_13]))] := hD
  exact W.iret (v := r_12) hx hb hr (fun t ht hW => ⟨⟨r_12, u_13, rfl, ⟨(by subst ey_1; subst ey_2; subst eu_5; subst ey_6; subst eu_9; subst eu_11; subst er_12; subst eu_13; simp only [f_X0_sum]), (by subst ey_1; subst ey_2; subst eu_5; subst ey_6; subst eu_9; subst eu_11; subst er_12; subst eu_13; simp only [f_X0_sum])⟩, by rw [ht]; exact hP, va_K.moved hW.alike hK, hD⟩, hS.F ht⟩) hS.2.2 dX0_sum_81

/-- what X0_difference answers -/
def f_X0_difference (f : Int32) (a1 : Int32) (a2 : Int32) (a3 : Int32) (a4 : Int32) : Int32 × Int32 :=
  let y_1 : Int32 := ((a2 - a3) - a4)
  let y_2 : Int32 := (if 0 ≤ y_1 then 0 else 1)
  let u_5 : Int32 := (f_X0_put f 1 y_2)
  let y_6 : Int32 := (if 0 ≤ (((a2 &&& 15) - (a3 &&& 15)) - a4) then 0 else 1)
  let u_9 : Int32 := (f_X0_put u_5 16 y_6)
  let u_11 : Int32 := (f_X0_putOverflow u_9 a1 (((f_X0_signedValue a1 a2) - (f_X0_signedValue a1 a3)) - a4))
  let r_12 : Int32 := (f_X0_kept u_11 a1 y_1).1
  let u_13 : Int32 := (f_X0_kept u_11 a1 y_1).2
  (r_12, u_13)
set_option maxHeartbeats 4000000 in
set_option maxRecDepth 100000 in
theorem p_X0_difference (l : Launch) (dC : Nat → ClassId) (dI : Nat → Nat → Nat) (h0 : Nat) (sz : Nat) (f : Int32) (a1 : Int32) (a2 : Int32) (a3 : Int32) (a4 : Int32) : Met l yX0_difference wsX0_difference ({ frames := 4, cells := 0, slots := 0, locals := 86 }) (va_Pc [.ref h0, .int a1, .int a2, .int a3, .int a4] (wr_pre (dC, dI) 1 h0 sz [.int f])) (va_Qi (fun (r : Int32) (u : Int32) => r = (f_X0_difference f a1 a2 a3 a4).1 ∧ u = (f_X0_difference f a1 a2 a3 a4).2) (wr_at (dC, dI) 1 h0 (fun u : Int32 => [.int u]) (wr_A 1 h0 sz [.int f])) (wr_A 1 h0 sz [.int f])) 0 0 (wr_A 1 h0 sz [.int f]) := by
  refine Met.ofW (cc := cX0_difference) (maxL := 6) (ret := (some .int)) (by decide) rfl ?_
  intro p e s m args below meth c s₁ B hml hv
  obtain ⟨rfl, hsz, hP, hK, hD0⟩ := hv
  have hx := B.exec
  have hb := B.bytes
  have hr := B.returns
  have hts := atoms_spec (ws := wsX0_difference) B.pre
  have hown : s.vm.findClass RX0 = some m.cls := findClass_of_methodNamed B.named
  have hlocks := B.notSynchronized
  subst hsz
  have hD : va_D (wr_A 1 h0 s.heap.size [.int f]) [(h0, .inr (1, [.int f]))] := hD0.self (sz := s.heap.size)
  generalize hAe : wr_A 1 h0 s.heap.size [.int f] = A at hD ⊢
  have hA : ∀ q : Nat, s.heap.size ≤ q → A q := fun q h => by rw [← hAe]; exact Or.inr h
  have hS : va_S A s.heap s.heap [] := va_S.rf
  have hP : va_P (dC, dI) vwCl [(h0, .inr (1, [.int f]))] s.heap := hP
  have hD : va_D A [(h0, .inr (1, [.int f]))] := hD
  have hl := lv_entry ([.ref h0, .int a1, .int a2, .int a3, .int a4]) (n := 6) (Nat.le_of_ble_eq_true rfl)
  rw [lg_entry_eq]
  generalize (lg_sl ([.ref h0, .int a1, .int a2, .int a3, .int a4]) ++ List.replicate (6 - (lg_sl ([.ref h0, .int a1, .int a2, .int a3, .int a4])).length) Slot.unset).toArray = ls at hl ⊢
  have hl : lv_has ls 6 [(0, .ref h0), (1, .int a1), (2, .int a2), (3, .int a3), (4, .int a4)] := hl
  refine lv_iload_n hx hb dX0_difference_0 rfl (lv_at hl 2 rfl) ?_
  refine lv_iload_n hx hb dX0_difference_1 rfl (lv_at hl 3 rfl) ?_
  refine lv_isub hx hb dX0_difference_2 ?_
  refine lv_iload hx hb dX0_difference_3 (lv_at hl 4 rfl) ?_
  refine lv_isub hx hb dX0_difference_5 ?_
  refine lv_topi (fun y_1 ey_1 => ?_)
  refine lv_istore (lv' := [(5, .int y_1), (0, .ref h0), (1, .int a1), (2, .int a2), (3, .int a3), (4, .int a4)]) hx hb dX0_difference_6 hl (by decide) rfl (fun ls hl => ?_)
  refine lv_aload_n hx hb dX0_difference_8 rfl (lv_at hl 1 rfl) ?_
  refine lv_iconst (v := 1) hx hb dX0_difference_9 (by decide) ?_
  refine lv_iload hx hb dX0_difference_10 (lv_at hl 0 rfl) ?_
  refine rg (J := 20) (st := [.int 1, .ref h0]) (if 0 ≤ y_1 then 0 else 1) (fun k => ?_) (fun y_2 ey_2 => ?_)
  · refine lv_if_ge (tgt := 19) hx hb dX0_difference_12 (by decide) (fun c_3 => ?_) (fun c_3 => ?_)
    · refine lv_iconst (v := 0) hx hb dX0_difference_19 (by decide) ?_
      exact rg_e k (by first | rw [if_pos c_3] | simp only [if_pos c_3])
    · refine lv_iconst (v := 1) hx hb dX0_difference_15 (by decide) ?_
      refine lv_goto (tgt := 20) hx hb dX0_difference_16 (by decide) ?_
      exact rg_e k (by first | rw [if_neg c_3] | simp only [if_neg c_3])
  refine wr_callv (va_runV (As := [.int 1, .int y_2]) (rest := []) ⟨hx, hb, hml, hown, hts⟩ (p_X0_put l dC dI h0 _ f 1 y_2) (cwV 2 hts gX0_difference_X0_put rfl rfl rfl (by decide +kernel) ⟨Nat.le_of_ble_eq_true rfl, Nat.le_of_ble_eq_true rfl⟩) (wr_preV (ci := 1) rfl hK hP hD) rfl rfl hl.1 rfl (lv_room (Nat.le_of_ble_eq_true rfl)) dX0_difference_20 ⟨Nat.le_of_ble_eq_true rfl, Nat.le_of_ble_eq_true rfl⟩) hP hD hS hA (fun u_5 H locs eu_5 hP hD hS => ?_)
  have hP : va_P (dC, dI) vwCl [(h0, .inr (1, [.int u_5]))] H := hP
  have hD : va_D A [(h0, .inr (1, [.int u_5]))] := hD
  refine lv_aload_n hx hb dX0_difference_23 rfl (lv_at hl 1 rfl) ?_
  refine lv_bipush (v := 16) hx hb dX0_difference_24 (by decide +kernel) ?_
  refine lv_iload_n hx hb dX0_difference_26 rfl (lv_at hl 3 rfl) ?_
  refine lv_bipush (v := 15) hx hb dX0_difference_27 (by decide +kernel) ?_
  refine lv_iand hx hb dX0_difference_29 ?_
  refine lv_iload_n hx hb dX0_difference_30 rfl (lv_at hl 4 rfl) ?_
  refine lv_bipush (v := 15) hx hb dX0_difference_31 (by decide +kernel) ?_
  refine lv_iand hx hb dX0_difference_33 ?_
  refine lv_isub hx hb dX0_difference_34 ?_
  refine lv_iload hx hb dX0_difference_35 (lv_at hl 5 rfl) ?_
  refine lv_isub hx hb dX0_difference_37 ?_
  refine rg (J := 46) (st := [.int 16, .ref h0]) (if 0 ≤ (((a2 &&& 15) - (a3 &&& 15)) - a4) then 0 else 1) (fun k => ?_) (fun y_6 ey_6 => ?_)
  · refine lv_if_ge (tgt := 45) hx hb dX0_difference_38 (by decide) (fun c_7 => ?_) (fun c_7 => ?_)
    · refine lv_iconst (v := 0) hx hb dX0_difference_45 (by decide) ?_
      exact rg_e k (by first | rw [if_pos c_7] | simp only [if_pos c_7])
    · refine lv_iconst (v := 1) hx hb dX0_difference_41 (by decide) ?_
      refine lv_goto (tgt := 46) hx hb dX0_difference_42 (by decide) ?_
      exact rg_e k (by first | rw [if_neg c_7] | simp only [if_neg c_7])
  refine wr_callv (va_runV (As := [.int 16, .int y_6]) (rest := []) ⟨hx, hb, hml, hown, hts⟩ (p_X0_put l dC dI h0 _ u_5 16 y_6) (cwV 2 hts gX0_difference_X0_put rfl rfl rfl (by decide +kernel) ⟨Nat.le_of_ble_eq_true rfl, Nat.le_of_ble_eq_true rfl⟩) (wr_preV (ci := 1) rfl hK hP hD) rfl rfl hl.1 rfl (lv_room (Nat.le_of_ble_eq_true rfl)) dX0_difference_46 ⟨Nat.le_of_ble_eq_true rfl, Nat.le_of_ble_eq_true rfl⟩) hP hD hS hA (fun u_9 H locs eu_9 hP hD hS => ?_)
  have hP : va_P (dC, dI) vwCl [(h0, .inr (1, [.int u_9]))] H := hP
  have hD : va_D A [(h0, .inr (1, [.int u_9]))] := hD
  refine lv_aload_n hx hb dX0_difference_49 rfl (lv_at hl 1 rfl) ?_
  refine lv_iload_n hx hb dX0_difference_50 rfl (lv_at hl 2 rfl) ?_
  refine lv_iload_n hx hb dX0_difference_51 rfl (lv_at hl 2 rfl) ?_
  refine lv_iload_n hx hb dX0_difference_52 rfl (lv_at hl 3 rfl) ?_
  refine pu_calli (F := (f_X0_signedValue a1 a2)) (va_runS (As := [.int a1, .int a2]) (rest := [.int a1, .ref h0]) ⟨hx, hb, hml, hown, hts⟩ (p_X0_signedValue l _ a1 a2) (va_cwS 2 hts gX0_difference_X0_signedValue rfl rfl rfl (by decide +kernel) ⟨Nat.le_of_ble_eq_true rfl, Nat.le_of_ble_eq_true rfl⟩) pu_preS rfl rfl hl.1 rfl (lv_room (Nat.le_of_ble_eq_true rfl)) dX0_difference_53 ⟨Nat.le_of_ble_eq_true rfl, Nat.le_of_ble_eq_true rfl⟩) ?_
  refine lv_iload_n hx hb dX0_difference_56 rfl (lv_at hl 2 rfl) ?_
  refine lv_iload_n hx hb dX0_difference_57 rfl (lv_at hl 4 rfl) ?_
  refine pu_calli (F := (f_X0_signedValue a1 a3)) (va_runS (As := [.int a1, .int a3]) (rest := [.int (f_X0_signedValue a1 a2), .int a1, .ref h0]) ⟨hx, hb, hml, hown, hts⟩ (p_X0_signedValue l _ a1 a3) (va_cwS 2 hts gX0_difference_X0_signedValue rfl rfl rfl (by decide +kernel) ⟨Nat.le_of_ble_eq_true rfl, Nat.le_of_ble_eq_true rfl⟩) pu_preS rfl rfl hl.1 rfl (lv_room (Nat.le_of_ble_eq_true rfl)) dX0_difference_58 ⟨Nat.le_of_ble_eq_true rfl, Nat.le_of_ble_eq_true rfl⟩) ?_
  refine lv_isub hx hb dX0_difference_61 ?_
  refine lv_iload hx hb dX0_difference_62 (lv_at hl 5 rfl) ?_
  refine lv_isub hx hb dX0_difference_64 ?_
  refine wr_callv (va_runV (As := [.int a1, .int (((f_X0_signedValue a1 a2) - (f_X0_signedValue a1 a3)) - a4)]) (rest := []) ⟨hx, hb, hml, hown, hts⟩ (p_X0_putOverflow l dC dI h0 _ u_9 a1 (((f_X0_signedValue a1 a2) - (f_X0_signedValue a1 a3)) - a4)) (cwV 2 hts gX0_difference_X0_putOverflow rfl rfl rfl (by decide +kernel) ⟨Nat.le_of_ble_eq_true rfl, Nat.le_of_ble_eq_true rfl⟩) (wr_preV (ci := 1) rfl hK hP hD) rfl rfl hl.1 rfl (lv_room (Nat.le_of_ble_eq_true rfl)) dX0_difference_65 ⟨Nat.le_of_ble_eq_true rfl, Nat.le_of_ble_eq_true rfl⟩) hP hD hS hA (fun u_11 H locs eu_11 hP hD hS => ?_)
  have hP : va_P (dC, dI) vwCl [(h0, .inr (1, [.int u_11]))] H := hP
  have hD : va_D A [(h0, .inr (1, [.int u_11]))] := hD
  refine lv_aload_n hx hb dX0_difference_68 rfl (lv_at hl 1 rfl) ?_
  refine lv_iload_n hx hb dX0_difference_69 rfl (lv_at hl 2 rfl) ?_
  refine lv_iload hx hb dX0_difference_70 (lv_at hl 0 rfl) ?_
  refine wr_calli (va_runV (As := [.int a1, .int y_1]) (rest := []) ⟨hx, hb, hml, hown, hts⟩ (p_X0_kept l dC dI h0 _ u_11 a1 y_1) (cwV 2 hts gX0_difference_X0_kept rfl rfl rfl (by decide +kernel) ⟨Nat.le_of_ble_eq_true rfl, Nat.le_of_ble_eq_true rfl⟩) (wr_preV (ci := 1) rfl hK hP hD) rfl rfl hl.1 rfl (lv_room (Nat.le_of_ble_eq_true rfl)) dX0_difference_72 ⟨Nat.le_of_ble_eq_true rfl, Nat.le_of_ble_eq_true rfl⟩) hP hD hS hA (fun r_12 u_13 H locs hw hP hD hS => ?_)
  obtain ⟨er_12, eu_13⟩ := hw
  have hP : va_P (dC, dI) vwCl [(h0, .inr (1, [.int u_13]))] H := hP
  have hD : va_D A [(h0, .inr (1, [.int u_13]))] := hD
  exact W.iret (v := r_12) hx hb hr (fun t ht hW => ⟨⟨r_12, u_13, rfl, ⟨(by subst ey_1; subst ey_2; subst eu_5; subst ey_6; subst eu_9; subst eu_11; subst er_12; subst eu_13; simp only [f_X0_difference]), (by subst ey_1; subst ey_2; subst eu_5; subst ey_6; subst eu_9; subst eu_11; subst er_12; subst eu_13; simp only [f_X0_difference])⟩, by rw [ht]; exact hP, va_K.moved hW.alike hK, hD⟩, hS.F ht⟩) hS.2.2 dX0_difference_75
