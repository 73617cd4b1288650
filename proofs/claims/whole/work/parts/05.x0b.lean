/-- what X0_logic answers -/
def f_X0_logic (f : Int32) (a1 : Int32) (a2 : Int32) : Int32 × Int32 :=
  let u_2 : Int32 := (f_X0_put f 1 0)
  let u_4 : Int32 := (f_X0_put u_2 16 0)
  let u_6 : Int32 := (f_X0_put u_4 2048 0)
  let r_7 : Int32 := (f_X0_kept u_6 a1 a2).1
  let u_8 : Int32 := (f_X0_kept u_6 a1 a2).2
  (r_7, u_8)
set_option maxHeartbeats 4000000 in
set_option maxRecDepth 100000 in
theorem p_X0_logic (l : Launch) (dC : Nat → ClassId) (dI : Nat → Nat → Nat) (h0 : Nat) (sz : Nat) (f : Int32) (a1 : Int32) (a2 : Int32) : Met l yX0_logic wsX0_logic ({ frames := 4, cells := 0, slots := 0, locals := 86 }) (va_Pc [.ref h0, .int a1, .int a2] (wr_pre (dC, dI) 1 h0 sz [.int f])) (va_Qi (fun (r : Int32) (u : Int32) => r = (f_X0_logic f a1 a2).1 ∧ u = (f_X0_logic f a1 a2).2) (wr_at (dC, dI) 1 h0 (fun u : Int32 => [.int u]) (wr_A 1 h0 sz [.int f])) (wr_A 1 h0 sz [.int f])) 0 0 (wr_A 1 h0 sz [.int f]) := by
  refine Met.ofW (cc := cX0_logic) (maxL := 3) (ret := (some .int)) (by decide) rfl ?_
  intro p e s m args below meth c s₁ B hml hv
  obtain ⟨rfl, hsz, hP, hK, hD0⟩ := hv
  have hx := B.exec
  have hb := B.bytes
  have hr := B.returns
  have hts := atoms_spec (ws := wsX0_logic) B.pre
  have hown : s.vm.findClass RX0 = some m.cls := findClass_of_methodNamed B.named
  have hlocks := B.notSynchronized
  subst hsz
  have hD : va_D (wr_A 1 h0 s.heap.size [.int f]) [(h0, .inr (1, [.int f]))] := hD0.self (sz := s.heap.size)
  generalize hAe : wr_A 1 h0 s.heap.size [.int f] = A at hD ⊢
  have hA : ∀ q : Nat, s.heap.size ≤ q → A q := fun q h => by rw [← hAe]; exact Or.inr h
  have hS : va_S A s.heap s.heap [] := va_S.rf
  have hP : va_P (dC, dI) vwCl [(h0, .inr (1, [.int f]))] s.heap := hP
  have hD : va_D A [(h0, .inr (1, [.int f]))] := hD
  have hl := lv_entry ([.ref h0, .int a1, .int a2]) (n := 3) (Nat.le_of_ble_eq_true rfl)
  rw [lg_entry_eq]
  generalize (lg_sl ([.ref h0, .int a1, .int a2]) ++ List.replicate (3 - (lg_sl ([.ref h0, .int a1, .int a2])).length) Slot.unset).toArray = ls at hl ⊢
  have hl : lv_has ls 3 [(0, .ref h0), (1, .int a1), (2, .int a2)] := hl
  refine lv_aload_n hx hb dX0_logic_0 rfl (lv_at hl 0 rfl) ?_
  refine lv_iconst (v := 1) hx hb dX0_logic_1 (by decide) ?_
  refine lv_iconst (v := 0) hx hb dX0_logic_2 (by decide) ?_
  refine wr_callv (va_runV (As := [.int 1, .int 0]) (rest := []) ⟨hx, hb, hml, hown, hts⟩ (p_X0_put l dC dI h0 _ f 1 0) (cwV 2 hts gX0_logic_X0_put rfl rfl rfl (by decide +kernel) ⟨Nat.le_of_ble_eq_true rfl, Nat.le_of_ble_eq_true rfl⟩) (wr_preV (ci := 1) rfl hK hP hD) rfl rfl hl.1 rfl (lv_room (Nat.le_of_ble_eq_true rfl)) dX0_logic_3 ⟨Nat.le_of_ble_eq_true rfl, Nat.le_of_ble_eq_true rfl⟩) hP hD hS hA (fun u_2 H locs eu_2 hP hD hS => ?_)
  have hP : va_P (dC, dI) vwCl [(h0, .inr (1, [.int u_2]))] H := hP
  have hD : va_D A [(h0, .inr (1, [.int u_2]))] := hD
  refine lv_aload_n hx hb dX0_logic_6 rfl (lv_at hl 0 rfl) ?_
  refine lv_bipush (v := 16) hx hb dX0_logic_7 (by decide +kernel) ?_
  refine lv_iconst (v := 0) hx hb dX0_logic_9 (by decide) ?_
  refine wr_callv (va_runV (As := [.int 16, .int 0]) (rest := []) ⟨hx, hb, hml, hown, hts⟩ (p_X0_put l dC dI h0 _ u_2 16 0) (cwV 2 hts gX0_logic_X0_put rfl rfl rfl (by decide +kernel) ⟨Nat.le_of_ble_eq_true rfl, Nat.le_of_ble_eq_true rfl⟩) (wr_preV (ci := 1) rfl hK hP hD) rfl rfl hl.1 rfl (lv_room (Nat.le_of_ble_eq_true rfl)) dX0_logic_10 ⟨Nat.le_of_ble_eq_true rfl, Nat.le_of_ble_eq_true rfl⟩) hP hD hS hA (fun u_4 H locs eu_4 hP hD hS => ?_)
  have hP : va_P (dC, dI) vwCl [(h0, .inr (1, [.int u_4]))] H := hP
  have hD : va_D A [(h0, .inr (1, [.int u_4]))] := hD
  refine lv_aload_n hx hb dX0_logic_13 rfl (lv_at hl 0 rfl) ?_
  refine lv_sipush (v := 2048) hx hb dX0_logic_14 (by decide +kernel) ?_
  refine lv_iconst (v := 0) hx hb dX0_logic_17 (by decide) ?_
  refine wr_callv (va_runV (As := [.int 2048, .int 0]) (rest := []) ⟨hx, hb, hml, hown, hts⟩ (p_X0_put l dC dI h0 _ u_4 2048 0) (cwV 2 hts gX0_logic_X0_put rfl rfl rfl (by decide +kernel) ⟨Nat.le_of_ble_eq_true rfl, Nat.le_of_ble_eq_true rfl⟩) (wr_preV (ci := 1) rfl hK hP hD) rfl rfl hl.1 rfl (lv_room (Nat.le_of_ble_eq_true rfl)) dX0_logic_18 ⟨Nat.le_of_ble_eq_true rfl, Nat.le_of_ble_eq_true rfl⟩) hP hD hS hA (fun u_6 H locs eu_6 hP hD hS => ?_)
  have hP : va_P (dC, dI) vwCl [(h0, .inr (1, [.int u_6]))] H := hP
  have hD : va_D A [(h0, .inr (1, [.int u_6]))] := hD
  refine lv_aload_n hx hb dX0_logic_21 rfl (lv_at hl 0 rfl) ?_
  refine lv_iload_n hx hb dX0_logic_22 rfl (lv_at hl 1 rfl) ?_
  refine lv_iload_n hx hb dX0_logic_23 rfl (lv_at hl 2 rfl) ?_
  refine wr_calli (va_runV (As := [.int a1, .int a2]) (rest := []) ⟨hx, hb, hml, hown, hts⟩ (p_X0_kept l dC dI h0 _ u_6 a1 a2) (cwV 2 hts gX0_logic_X0_kept rfl rfl rfl (by decide +kernel) ⟨Nat.le_of_ble_eq_true rfl, Nat.le_of_ble_eq_true rfl⟩) (wr_preV (ci := 1) rfl hK hP hD) rfl rfl hl.1 rfl (lv_room (Nat.le_of_ble_eq_true rfl)) dX0_logic_24 ⟨Nat.le_of_ble_eq_true rfl, Nat.le_of_ble_eq_true rfl⟩) hP hD hS hA (fun r_7 u_8 H locs hw hP hD hS => ?_)
  obtain ⟨er_7, eu_8⟩ := hw
  have hP : va_P (dC, dI) vwCl [(h0, .inr (1, [.int u_8]))] H := hP
  have hD : va_D A [(h0, .inr (1, [.int u_8]))] := hD
  exact W.iret (v := r_7) hx hb hr (fun t ht hW => ⟨⟨r_7, u_8, rfl, ⟨(by subst eu_2; subst eu_4; subst eu_6; subst er_7; subst eu_8; simp only [f_X0_logic]), (by subst eu_2; subst eu_4; subst eu_6; subst er_7; subst eu_8; simp only [f_X0_logic])⟩, by rw [ht]; exact hP, va_K.moved hW.alike hK, hD⟩, hS.F ht⟩) hS.2.2 dX0_logic_27

/-- what X0_oneMore answers -/
def f_X0_oneMore (f : Int32) (a1 : Int32) (a2 : Int32) : Int32 × Int32 :=
  let y_1 : Int32 := (f_X0_isSet f 1)
  let r_2 : Int32 := (f_X0_sum f a1 a2 1 0).1
  let u_3 : Int32 := (f_X0_sum f a1 a2 1 0).2
  let u_5 : Int32 := (f_X0_put u_3 1 y_1)
  (r_2, u_5)
set_option maxHeartbeats 4000000 in
set_option maxRecDepth 100000 in
theorem p_X0_oneMore (l : Launch) (dC : Nat → ClassId) (dI : Nat → Nat → Nat) (h0 : Nat) (sz : Nat) (f : Int32) (a1 : Int32) (a2 : Int32) : Met l yX0_oneMore wsX0_oneMore ({ frames := 5, cells := 0, slots := 0, locals := 111 }) (va_Pc [.ref h0, .int a1, .int a2] (wr_pre (dC, dI) 1 h0 sz [.int f])) (va_Qi (fun (r : Int32) (u : Int32) => r = (f_X0_oneMore f a1 a2).1 ∧ u = (f_X0_oneMore f a1 a2).2) (wr_at (dC, dI) 1 h0 (fun u : Int32 => [.int u]) (wr_A 1 h0 sz [.int f])) (wr_A 1 h0 sz [.int f])) 0 0 (wr_A 1 h0 sz [.int f]) := by
  refine Met.ofW (cc := cX0_oneMore) (maxL := 5) (ret := (some .int)) (by decide) rfl ?_
  intro p e s m args below meth c s₁ B hml hv
  obtain ⟨rfl, hsz, hP, hK, hD0⟩ := hv
  have hx := B.exec
  have hb := B.bytes
  have hr := B.returns
  have hts := atoms_spec (ws := wsX0_oneMore) B.pre
  have hown : s.vm.findClass RX0 = some m.cls := findClass_of_methodNamed B.named
  have hlocks := B.notSynchronized
  subst hsz
  have hD : va_D (wr_A 1 h0 s.heap.size [.int f]) [(h0, .inr (1, [.int f]))] := hD0.self (sz := s.heap.size)
  generalize hAe : wr_A 1 h0 s.heap.size [.int f] = A at hD ⊢
  have hA : ∀ q : Nat, s.heap.size ≤ q → A q := fun q h => by rw [← hAe]; exact Or.inr h
  have hS : va_S A s.heap s.heap [] := va_S.rf
  have hP : va_P (dC, dI) vwCl [(h0, .inr (1, [.int f]))] s.heap := hP
  have hD : va_D A [(h0, .inr (1, [.int f]))] := hD
  have hl := lv_entry ([.ref h0, .int a1, .int a2]) (n := 5) (Nat.le_of_ble_eq_true rfl)
  rw [lg_entry_eq]
  generalize (lg_sl ([.ref h0, .int a1, .int a2]) ++ List.replicate (5 - (lg_sl ([.ref h0, .int a1, .int a2])).length) Slot.unset).toArray = ls at hl ⊢
  have hl : lv_has ls 5 [(0, .ref h0), (1, .int a1), (2, .int a2)] := hl
  refine lv_aload_n hx hb dX0_oneMore_0 rfl (lv_at hl 0 rfl) ?_
  refine lv_iconst (v := 1) hx hb dX0_oneMore_1 (by decide) ?_
  refine pu_calli (F := (f_X0_isSet f 1)) (va_runV (As := [.int 1]) (rest := []) ⟨hx, hb, hml, hown, hts⟩ (p_X0_isSet l dC dI h0 _ f 1) (cwV 1 hts gX0_oneMore_X0_isSet rfl rfl rfl (by decide +kernel) ⟨Nat.le_of_ble_eq_true rfl, Nat.le_of_ble_eq_true rfl⟩) (pu_preV (ci := 1) rfl hK hP) rfl rfl hl.1 rfl (lv_room (Nat.le_of_ble_eq_true rfl)) dX0_oneMore_2 ⟨Nat.le_of_ble_eq_true rfl, Nat.le_of_ble_eq_true rfl⟩) ?_
  refine lv_topi (fun y_1 ey_1 => ?_)
  refine lv_istore_n (lv' := [(3, .int y_1), (0, .ref h0), (1, .int a1), (2, .int a2)]) hx hb dX0_oneMore_5 rfl hl (by decide) rfl (fun ls hl => ?_)
  refine lv_aload_n hx hb dX0_oneMore_6 rfl (lv_at hl 1 rfl) ?_
  refine lv_iload_n hx hb dX0_oneMore_7 rfl (lv_at hl 2 rfl) ?_
  refine lv_iload_n hx hb dX0_oneMore_8 rfl (lv_at hl 3 rfl) ?_
  refine lv_iconst (v := 1) hx hb dX0_oneMore_9 (by decide) ?_
  refine lv_iconst (v := 0) hx hb dX0_oneMore_10 (by decide) ?_
  refine wr_calli (va_runV (As := [.int a1, .int a2, .int 1, .int 0]) (rest := []) ⟨hx, hb, hml, hown, hts⟩ (p_X0_sum l dC dI h0 _ f a1 a2 1 0) (cwV 4 hts gX0_oneMore_X0_sum rfl rfl rfl (by decide +kernel) ⟨Nat.le_of_ble_eq_true rfl, Nat.le_of_ble_eq_true rfl⟩) (wr_preV (ci := 1) rfl hK hP hD) rfl rfl hl.1 rfl (lv_room (Nat.le_of_ble_eq_true rfl)) dX0_oneMore_11 ⟨Nat.le_of_ble_eq_true rfl, Nat.le_of_ble_eq_true rfl⟩) hP hD hS hA (fun r_2 u_3 H locs hw hP hD hS => ?_)
  obtain ⟨er_2, eu_3⟩ := hw
  have hP : va_P (dC, dI) vwCl [(h0, .inr (1, [.int u_3]))] H := hP
  have hD : va_D A [(h0, .inr (1, [.int u_3]))] := hD
  refine lv_istore (lv' := [(4, .int r_2), (3, .int y_1), (0, .ref h0), (1, .int a1), (2, .int a2)]) hx hb dX0_oneMore_14 hl (by decide) rfl (fun ls hl => ?_)
  refine lv_aload_n hx hb dX0_oneMore_16 rfl (lv_at hl 2 rfl) ?_
  refine lv_iconst (v := 1) hx hb dX0_oneMore_17 (by decide) ?_
  refine lv_iload_n hx hb dX0_oneMore_18 rfl (lv_at hl 1 rfl) ?_
  refine wr_callv (va_runV (As := [.int 1, .int y_1]) (rest := []) ⟨hx, hb, hml, hown, hts⟩ (p_X0_put l dC dI h0 _ u_3 1 y_1) (cwV 2 hts gX0_oneMore_X0_put rfl rfl rfl (by decide +kernel) ⟨Nat.le_of_ble_eq_true rfl, Nat.le_of_ble_eq_true rfl⟩) (wr_preV (ci := 1) rfl hK hP hD) rfl rfl hl.1 rfl (lv_room (Nat.le_of_ble_eq_true rfl)) dX0_oneMore_19 ⟨Nat.le_of_ble_eq_true rfl, Nat.le_of_ble_eq_true rfl⟩) hP hD hS hA (fun u_5 H locs eu_5 hP hD hS => ?_)
  have hP : va_P (dC, dI) vwCl [(h0, .inr (1, [.int u_5]))] H := hP
  have hD : va_D A [(h0, .inr (1, [.int u_5]))] := hD
  refine lv_iload hx hb dX0_oneMore_22 (lv_at hl 0 rfl) ?_
  exact W.iret (v := r_2) hx hb hr (fun t ht hW => ⟨⟨r_2, u_5, rfl, ⟨(by subst ey_1; subst er_2; subst eu_3; subst eu_5; simp only [f_X0_oneMore]), (by subst ey_1; subst er_2; subst eu_3; subst eu_5; simp only [f_X0_oneMore])⟩, by rw [ht]; exact hP, va_K.moved hW.alike hK, hD⟩, hS.F ht⟩) hS.2.2 dX0_oneMore_24

/-- what X0_oneLess answers -/
def f_X0_oneLess (f : Int32) (a1 : Int32) (a2 : Int32) : Int32 × Int32 :=
  let y_1 : Int32 := (f_X0_isSet f 1)
  let r_2 : Int32 := (f_X0_difference f a1 a2 1 0).1
  let u_3 : Int32 := (f_X0_difference f a1 a2 1 0).2
  let u_5 : Int32 := (f_X0_put u_3 1 y_1)
  (r_2, u_5)
set_option maxHeartbeats 4000000 in
set_option maxRecDepth 100000 in
theorem p_X0_oneLess (l : Launch) (dC : Nat → ClassId) (dI : Nat → Nat → Nat) (h0 : Nat) (sz : Nat) (f : Int32) (a1 : Int32) (a2 : Int32) : Met l yX0_oneLess wsX0_oneLess ({ frames := 5, cells := 0, slots := 0, locals := 111 }) (va_Pc [.ref h0, .int a1, .int a2] (wr_pre (dC, dI) 1 h0 sz [.int f])) (va_Qi (fun (r : Int32) (u : Int32) => r = (f_X0_oneLess f a1 a2).1 ∧ u = (f_X0_oneLess f a1 a2).2) (wr_at (dC, dI) 1 h0 (fun u : Int32 => [.int u]) (wr_A 1 h0 sz [.int f])) (wr_A 1 h0 sz [.int f])) 0 0 (wr_A 1 h0 sz [.int f]) := by
  refine Met.ofW (cc := cX0_oneLess) (maxL := 5) (ret := (some .int)) (by decide) rfl ?_
  intro p e s m args below meth c s₁ B hml hv
  obtain ⟨rfl, hsz, hP, hK, hD0⟩ := hv
  have hx := B.exec
  have hb := B.bytes
  have hr := B.returns
  have hts := atoms_spec (ws := wsX0_oneLess) B.pre
  have hown : s.vm.findClass RX0 = some m.cls := findClass_of_methodNamed B.named
  have hlocks := B.notSynchronized
  subst hsz
  have hD : va_D (wr_A 1 h0 s.heap.size [.int f]) [(h0, .inr (1, [.int f]))] := hD0.self (sz := s.heap.size)
  generalize hAe : wr_A 1 h0 s.heap.size [.int f] = A at hD ⊢
  have hA : ∀ q : Nat, s.heap.size ≤ q → A q := fun q h => by rw [← hAe]; exact Or.inr h
  have hS : va_S A s.heap s.heap [] := va_S.rf
  have hP : va_P (dC, dI) vwCl [(h0, .inr (1, [.int f]))] s.heap := hP
  have hD : va_D A [(h0, .inr (1, [.int f]))] := hD
  have hl := lv_entry ([.ref h0, .int a1, .int a2]) (n := 5) (Nat.le_of_ble_eq_true rfl)
  rw [lg_entry_eq]
  generalize (lg_sl ([.ref h0, .int a1, .int a2]) ++ List.replicate (5 - (lg_sl ([.ref h0, .int a1, .int a2])).length) Slot.unset).toArray = ls at hl ⊢
  have hl : lv_has ls 5 [(0, .ref h0), (1, .int a1), (2, .int a2)] := hl
  refine lv_aload_n hx hb dX0_oneLess_0 rfl (lv_at hl 0 rfl) ?_
  refine lv_iconst (v := 1) hx hb dX0_oneLess_1 (by decide) ?_
  refine pu_calli (F := (f_X0_isSet f 1)) (va_runV (As := [.int 1]) (rest := []) ⟨hx, hb, hml, hown, hts⟩ (p_X0_isSet l dC dI h0 _ f 1) (cwV 1 hts gX0_oneLess_X0_isSet rfl rfl rfl (by decide +kernel) ⟨Nat.le_of_ble_eq_true rfl, Nat.le_of_ble_eq_true rfl⟩) (pu_preV (ci := 1) rfl hK hP) rfl rfl hl.1 rfl (lv_room (Nat.le_of_ble_eq_true rfl)) dX0_oneLess_2 ⟨Nat.le_of_ble_eq_true rfl, Nat.le_of_ble_eq_true rfl⟩) ?_
  refine lv_topi (fun y_1 ey_1 => ?_)
  refine lv_istore_n (lv' := [(3, .int y_1), (0, .ref h0), (1, .int a1), (2, .int a2)]) hx hb dX0_oneLess_5 rfl hl (by decide) rfl (fun ls hl => ?_)
  refine lv_aload_n hx hb dX0_oneLess_6 rfl (lv_at hl 1 rfl) ?_
  refine lv_iload_n hx hb dX0_oneLess_7 rfl (lv_at hl 2 rfl) ?_
  refine lv_iload_n hx hb dX0_oneLess_8 rfl (lv_at hl 3 rfl) ?_
  refine lv_iconst (v := 1) hx hb dX0_oneLess_9 (by decide) ?_
  refine lv_iconst (v := 0) hx hb dX0_oneLess_10 (by decide) ?_
  refine wr_calli (va_runV (As := [.int a1, .int a2, .int 1, .int 0]) (rest := []) ⟨hx, hb, hml, hown, hts⟩ (p_X0_difference l dC dI h0 _ f a1 a2 1 0) (cwV 4 hts gX0_oneLess_X0_difference rfl rfl rfl (by decide +kernel) ⟨Nat.le_of_ble_eq_true rfl, Nat.le_of_ble_eq_true rfl⟩) (wr_preV (ci := 1) rfl hK hP hD) rfl rfl hl.1 rfl (lv_room (Nat.le_of_ble_eq_true rfl)) dX0_oneLess_11 ⟨Nat.le_of_ble_eq_true rfl, Nat.le_of_ble_eq_true rfl⟩) hP hD hS hA (fun r_2 u_3 H locs hw hP hD hS => ?_)
  obtain ⟨er_2, eu_3⟩ := hw
  have hP : va_P (dC, dI) vwCl [(h0, .inr (1, [.int u_3]))] H := hP
  have hD : va_D A [(h0, .inr (1, [.int u_3]))] := hD
  refine lv_istore (lv' := [(4, .int r_2), (3, .int y_1), (0, .ref h0), (1, .int a1), (2, .int a2)]) hx hb dX0_oneLess_14 hl (by decide) rfl (fun ls hl => ?_)
  refine lv_aload_n hx hb dX0_oneLess_16 rfl (lv_at hl 2 rfl) ?_
  refine lv_iconst (v := 1) hx hb dX0_oneLess_17 (by decide) ?_
  refine lv_iload_n hx hb dX0_oneLess_18 rfl (lv_at hl 1 rfl) ?_
  refine wr_callv (va_runV (As := [.int 1, .int y_1]) (rest := []) ⟨hx, hb, hml, hown, hts⟩ (p_X0_put l dC dI h0 _ u_3 1 y_1) (cwV 2 hts gX0_oneLess_X0_put rfl rfl rfl (by decide +kernel) ⟨Nat.le_of_ble_eq_true rfl, Nat.le_of_ble_eq_true rfl⟩) (wr_preV (ci := 1) rfl hK hP hD) rfl rfl hl.1 rfl (lv_room (Nat.le_of_ble_eq_true rfl)) dX0_oneLess_19 ⟨Nat.le_of_ble_eq_true rfl, Nat.le_of_ble_eq_true rfl⟩) hP hD hS hA (fun u_5 H locs eu_5 hP hD hS => ?_)
  have hP : va_P (dC, dI) vwCl [(h0, .inr (1, [.int u_5]))] H := hP
  have hD : va_D A [(h0, .inr (1, [.int u_5]))] := hD
  refine lv_iload hx hb dX0_oneLess_22 (lv_at hl 0 rfl) ?_
  exact W.iret (v := r_2) hx hb hr (fun t ht hW => ⟨⟨r_2, u_5, rfl, ⟨(by subst ey_1; subst er_2; subst eu_3; subst eu_5; simp only [f_X0_oneLess]), (by subst ey_1; subst er_2; subst eu_3; subst eu_5; simp only [f_X0_oneLess])⟩, by rw [ht]; exact hP, va_K.moved hW.alike hK, hD⟩, hS.F ht⟩) hS.2.2 dX0_oneLess_24

/-- what X0_comesInFromLeft answers -/
def f_X0_comesInFromLeft (f : Int32) (a1 : Int32) (a2 : Int32) (a3 : Int32) : Int32 :=
  if a1 = 1 then
  (a2)
  else
  if a1 = 3 then
  ((f_X0_isSet f 1))
  else
  if a1 = 7 then
  (a3)
  else
  (0)
theorem fb_X0_comesInFromLeft (f : Int32) (a1 : Int32) (a2 : Int32) (a3 : Int32) (hb2 : a2 = 0 ∨ a2 = 1) (hb3 : a3 = 0 ∨ a3 = 1) : f_X0_comesInFromLeft f a1 a2 a3 = 0 ∨ f_X0_comesInFromLeft f a1 a2 a3 = 1 := by
  unfold f_X0_comesInFromLeft
  (try dsimp only)
  repeat (first | exact Or.inl rfl | exact Or.inr rfl | assumption | apply fb_X0_isSet | split)
set_option maxHeartbeats 4000000 in
set_option maxRecDepth 100000 in
theorem p_X0_comesInFromLeft (l : Launch) (dC : Nat → ClassId) (dI : Nat → Nat → Nat) (h0 : Nat) (HH : Heap) (f : Int32) (a1 : Int32) (a2 : Int32) (a3 : Int32) (hb2 : a2 = 0 ∨ a2 = 1) (hb3 : a3 = 0 ∨ a3 = 1) : Met l yX0_comesInFromLeft wsX0_comesInFromLeft ({ frames := 1, cells := 0, slots := 0, locals := 21 }) (va_Pc [.ref h0, .int a1, .int a2, .int a3] (pu_pre (dC, dI) 1 h0 HH [.int f])) (va_Qi (fun (r : Int32) (_ : Unit) => r = f_X0_comesInFromLeft f a1 a2 a3) (fun _ t => t.heap = HH) (fun _ => False)) 0 0 (fun _ => False) := by
  refine Met.ofW (cc := cX0_comesInFromLeft) (maxL := 4) (ret := (some .boolean)) (by decide) rfl ?_
  intro p e s m args below meth c s₁ B hml hv
  obtain ⟨rfl, hsz, hP, hK⟩ := hv
  have hx := B.exec
  have hb := B.bytes
  have hr := B.returns
  have hts := atoms_spec (ws := wsX0_comesInFromLeft) B.pre
  have hown : s.vm.findClass RX0 = some m.cls := findClass_of_methodNamed B.named
  have hlocks := B.notSynchronized
  subst hsz
  have hl := lv_entry ([.ref h0, .int a1, .int a2, .int a3]) (n := 4) (Nat.le_of_ble_eq_true rfl)
  rw [lg_entry_eq]
  generalize (lg_sl ([.ref h0, .int a1, .int a2, .int a3]) ++ List.replicate (4 - (lg_sl ([.ref h0, .int a1, .int a2, .int a3])).length) Slot.unset).toArray = ls at hl ⊢
  have hl : lv_has ls 4 [(0, .ref h0), (1, .int a1), (2, .int a2), (3, .int a3)] := hl
  refine lv_iload_n hx hb dX0_comesInFromLeft_0 rfl (lv_at hl 1 rfl) ?_
  by_cases c_1 : a1 = 1
  · refine lv_lookup (off := 35) (tgt := 36) hx hb dX0_comesInFromLeft_1 (by decide) (by rw [c_1]; decide) (by decide) ?_
    refine lv_iload_n hx hb dX0_comesInFromLeft_36 rfl (lv_at hl 2 rfl) ?_
    exact W.zret (v := a2) hx hb hr (nb_of hb2) (fun t ht hW => ⟨⟨a2, (), rfl, (by simp only [f_X0_comesInFromLeft, if_pos c_1]), ht⟩, pu_F ht⟩) (fun q h => nomatch h) dX0_comesInFromLeft_37
  by_cases c_2 : a1 = 3
  · refine lv_lookup (off := 37) (tgt := 38) hx hb dX0_comesInFromLeft_1 (by decide) (by rw [c_2]; decide) (by decide) ?_
    refine lv_aload_n hx hb dX0_comesInFromLeft_38 rfl (lv_at hl 0 rfl) ?_
    refine lv_iconst (v := 1) hx hb dX0_comesInFromLeft_39 (by decide) ?_
    refine pu_calli (F := (f_X0_isSet f 1)) (va_runV (As := [.int 1]) (rest := []) ⟨hx, hb, hml, hown, hts⟩ (p_X0_isSet l dC dI h0 _ f 1) (cwV 1 hts gX0_comesInFromLeft_X0_isSet rfl rfl rfl (by decide +kernel) ⟨Nat.le_of_ble_eq_true rfl, Nat.le_of_ble_eq_true rfl⟩) (pu_preV (ci := 1) rfl hK hP) rfl rfl hl.1 rfl (lv_room (Nat.le_of_ble_eq_true rfl)) dX0_comesInFromLeft_40 ⟨Nat.le_of_ble_eq_true rfl, Nat.le_of_ble_eq_true rfl⟩) ?_
    exact W.zret (v := (f_X0_isSet f 1)) hx hb hr (nb_of (by apply fb_X0_isSet <;> assumption)) (fun t ht hW => ⟨⟨(f_X0_isSet f 1), (), rfl, (by simp only [f_X0_comesInFromLeft, if_neg c_1, if_pos c_2]), ht⟩, pu_F ht⟩) (fun q h => nomatch h) dX0_comesInFromLeft_43
  by_cases c_3 : a1 = 7
  · refine lv_lookup (off := 43) (tgt := 44) hx hb dX0_comesInFromLeft_1 (by decide) (by rw [c_3]; decide) (by decide) ?_
    refine lv_iload_n hx hb dX0_comesInFromLeft_44 rfl (lv_at hl 3 rfl) ?_
    exact W.zret (v := a3) hx hb hr (nb_of hb3) (fun t ht hW => ⟨⟨a3, (), rfl, (by simp only [f_X0_comesInFromLeft, if_neg c_1, if_neg c_2, if_pos c_3]), ht⟩, pu_F ht⟩) (fun q h => nomatch h) dX0_comesInFromLeft_45
  refine lv_lookup (off := 45) (tgt := 46) hx hb dX0_comesInFromLeft_1 (by decide) (lk_out c_1 c_2 c_3) (by decide) ?_
  refine lv_iconst (v := 0) hx hb dX0_comesInFromLeft_46 (by decide) ?_
  exact W.zret (v := 0) hx hb hr narrow_b0 (fun t ht hW => ⟨⟨0, (), rfl, (by simp only [f_X0_comesInFromLeft, if_neg c_1, if_neg c_2, if_neg c_3]), ht⟩, pu_F ht⟩) (fun q h => nomatch h) dX0_comesInFromLeft_47

/-- what X0_leftByOne answers -/
def f_X0_leftByOne (f : Int32) (a1 : Int32) (a2 : Int32) (a3 : Int32) : Int32 × Int32 :=
  let y_1 : Int32 := (f_X0_hasHighestBit a2 a3)
  let y_2 : Int32 := (if a1 = 0 then (if y_1 = 0 then (if a1 = 2 then (if (f_X0_isSet f 1) = 0 then 0 else 1) else 0) else 1) else (if a1 = 2 then (if (f_X0_isSet f 1) = 0 then 0 else 1) else 0))
  let y_9 : Int32 := (if y_2 = 0 then 0 else 1)
  let y_11 : Int32 := ((f_X0_operand a2 (a3 <<< (1 &&& 31))) ||| y_9)
  let u_13 : Int32 := (f_X0_put f 1 y_1)
  let y_14 : Int32 := (if y_1 = (f_X0_hasHighestBit a2 y_11) then 0 else 1)
  let u_17 : Int32 := (f_X0_put u_13 2048 y_14)
  (y_11, u_17)
set_option maxHeartbeats 4000000 in
set_option maxRecDepth 100000 in
theorem p_X0_leftByOne (l : Launch) (dC : Nat → ClassId) (dI : Nat → Nat → Nat) (h0 : Nat) (sz : Nat) (f : Int32) (a1 : Int32) (a2 : Int32) (a3 : Int32) : Met l yX0_leftByOne wsX0_leftByOne ({ frames := 2, cells := 0, slots := 0, locals := 41 }) (va_Pc [.ref h0, .int a1, .int a2, .int a3] (wr_pre (dC, dI) 1 h0 sz [.int f])) (va_Qi (fun (r : Int32) (u : Int32) => r = (f_X0_leftByOne f a1 a2 a3).1 ∧ u = (f_X0_leftByOne f a1 a2 a3).2) (wr_at (dC, dI) 1 h0 (fun u : Int32 => [.int u]) (wr_A 1 h0 sz [.int f])) (wr_A 1 h0 sz [.int f])) 0 0 (wr_A 1 h0 sz [.int f]) := by
  refine Met.ofW (cc := cX0_leftByOne) (maxL := 7) (ret := (some .int)) (by decide) rfl ?_
  intro p e s m args below meth c s₁ B hml hv
  obtain ⟨rfl, hsz, hP, hK, hD0⟩ := hv
  have hx := B.exec
  have hb := B.bytes
  have hr := B.returns
  have hts := atoms_spec (ws := wsX0_leftByOne) B.pre
  have hown : s.vm.findClass RX0 = some m.cls := findClass_of_methodNamed B.named
  have hlocks := B.notSynchronized
  subst hsz
  have hD : va_D (wr_A 1 h0 s.heap.size [.int f]) [(h0, .inr (1, [.int f]))] := hD0.self (sz := s.heap.size)
  generalize hAe : wr_A 1 h0 s.heap.size [.int f] = A at hD ⊢
  have hA : ∀ q : Nat, s.heap.size ≤ q → A q := fun q h => by rw [← hAe]; exact Or.inr h
  have hS : va_S A s.heap s.heap [] := va_S.rf
  have hP : va_P (dC, dI) vwCl [(h0, .inr (1, [.int f]))] s.heap := hP
  have hD : va_D A [(h0, .inr (1, [.int f]))] := hD
  have hl := lv_entry ([.ref h0, .int a1, .int a2, .int a3]) (n := 7) (Nat.le_of_ble_eq_true rfl)
  rw [lg_entry_eq]
  generalize (lg_sl ([.ref h0, .int a1, .int a2, .int a3]) ++ List.replicate (7 - (lg_sl ([.ref h0, .int a1, .int a2, .int a3])).length) Slot.unset).toArray = ls at hl ⊢
  have hl : lv_has ls 7 [(0, .ref h0), (1, .int a1), (2, .int a2), (3, .int a3)] := hl
  refine lv_iload_n hx hb dX0_leftByOne_0 rfl (lv_at hl 2 rfl) ?_
  refine lv_iload_n hx hb dX0_leftByOne_1 rfl (lv_at hl 3 rfl) ?_
  refine pu_calli (F := (f_X0_hasHighestBit a2 a3)) (va_runS (As := [.int a2, .int a3]) (rest := []) ⟨hx, hb, hml, hown, hts⟩ (p_X0_hasHighestBit l _ a2 a3) (va_cwS 2 hts gX0_leftByOne_X0_hasHighestBit rfl rfl rfl (by decide +kernel) ⟨Nat.le_of_ble_eq_true rfl, Nat.le_of_ble_eq_true rfl⟩) pu_preS rfl rfl hl.1 rfl (lv_room (Nat.le_of_ble_eq_true rfl)) dX0_leftByOne_2 ⟨Nat.le_of_ble_eq_true rfl, Nat.le_of_ble_eq_true rfl⟩) ?_
  refine lv_topi (fun y_1 ey_1 => ?_)
  refine lv_istore (lv' := [(4, .int y_1), (0, .ref h0), (1, .int a1), (2, .int a2), (3, .int a3)]) hx hb dX0_leftByOne_5 hl (by decide) rfl (fun ls hl => ?_)
  refine lv_iload_n hx hb dX0_leftByOne_7 rfl (lv_at hl 2 rfl) ?_
  refine rg (J := 34) (st := []) (if a1 = 0 then (if y_1 = 0 then (if a1 = 2 then (if (f_X0_isSet f 1) = 0 then 0 else 1) else 0) else 1) else (if a1 = 2 then (if (f_X0_isSet f 1) = 0 then 0 else 1) else 0)) (fun k => ?_) (fun y_2 ey_2 => ?_)
  · refine lv_if_ne (tgt := 16) hx hb dX0_leftByOne_8 (by decide) (fun c_3 => ?_) (fun c_3 => ?_)
    · refine lv_iload_n hx hb dX0_leftByOne_16 rfl (lv_at hl 2 rfl) ?_
      refine lv_iconst (v := 2) hx hb dX0_leftByOne_17 (by decide) ?_
      refine lv_icmp_ne (tgt := 33) hx hb dX0_leftByOne_18 (by decide) (fun c_4 => ?_) (fun c_4 => ?_)
      · refine lv_iconst (v := 0) hx hb dX0_leftByOne_33 (by decide) ?_
        exact rg_e k (by first | rw [if_neg c_3, if_neg c_4] | simp only [if_neg c_3, if_neg c_4])
      · refine lv_aload_n hx hb dX0_leftByOne_21 rfl (lv_at hl 1 rfl) ?_
        refine lv_iconst (v := 1) hx hb dX0_leftByOne_22 (by decide) ?_
        refine pu_calli (F := (f_X0_isSet f 1)) (va_runV (As := [.int 1]) (rest := []) ⟨hx, hb, hml, hown, hts⟩ (p_X0_isSet l dC dI h0 _ f 1) (cwV 1 hts gX0_leftByOne_X0_isSet rfl rfl rfl (by decide +kernel) ⟨Nat.le_of_ble_eq_true rfl, Nat.le_of_ble_eq_true rfl⟩) (pu_preV (ci := 1) rfl hK hP) rfl rfl hl.1 rfl (lv_room (Nat.le_of_ble_eq_true rfl)) dX0_leftByOne_23 ⟨Nat.le_of_ble_eq_true rfl, Nat.le_of_ble_eq_true rfl⟩) ?_
        refine lv_if_eq (tgt := 33) hx hb dX0_leftByOne_26 (by decide) (fun c_5 => ?_) (fun c_5 => ?_)
        · refine lv_iconst (v := 0) hx hb dX0_leftByOne_33 (by decide) ?_
          exact rg_e k (by first | rw [if_neg c_3, if_pos c_4, if_pos c_5] | simp only [if_neg c_3, if_pos c_4, if_pos c_5])
        · refine lv_iconst (v := 1) hx hb dX0_leftByOne_29 (by decide) ?_
          refine lv_goto (tgt := 34) hx hb dX0_leftByOne_30 (by decide) ?_
          exact rg_e k (by first | rw [if_neg c_3, if_pos c_4, if_neg c_5] | simp only [if_neg c_3, if_pos c_4, if_neg c_5])
    · refine lv_iload hx hb dX0_leftByOne_11 (lv_at hl 0 rfl) ?_
      refine lv_if_ne (tgt := 29) hx hb dX0_leftByOne_13 (by decide) (fun c_6 => ?_) (fun c_6 => ?_)
      · refine lv_iconst (v := 1) hx hb dX0_leftByOne_29 (by decide) ?_
        refine lv_goto (tgt := 34) hx hb dX0_leftByOne_30 (by decide) ?_
        exact rg_e k (by first | rw [if_pos c_3, if_neg c_6] | simp only [if_pos c_3, if_neg c_6])
      · refine lv_iload_n hx hb dX0_leftByOne_16 rfl (lv_at hl 2 rfl) ?_
        refine lv_iconst (v := 2) hx hb dX0_leftByOne_17 (by decide) ?_
        refine lv_icmp_ne (tgt := 33) hx hb dX0_leftByOne_18 (by decide) (fun c_7 => ?_) (fun c_7 => ?_)
        · refine lv_iconst (v := 0) hx hb dX0_leftByOne_33 (by decide) ?_
          exact rg_e k (by first | rw [if_pos c_3, if_pos c_6, if_neg c_7] | simp only [if_pos c_3, if_pos c_6, if_neg c_7])
        · refine lv_aload_n hx hb dX0_leftByOne_21 rfl (lv_at hl 1 rfl) ?_
          refine lv_iconst (v := 1) hx hb dX0_leftByOne_22 (by decide) ?_
          refine pu_calli (F := (f_X0_isSet f 1)) (va_runV (As := [.int 1]) (rest := []) ⟨hx, hb, hml, hown, hts⟩ (p_X0_isSet l dC dI h0 _ f 1) (cwV 1 hts gX0_leftByOne_X0_isSet rfl rfl rfl (by decide +kernel) ⟨Nat.le_of_ble_eq_true rfl, Nat.le_of_ble_eq_true rfl⟩) (pu_preV (ci := 1) rfl hK hP) rfl rfl hl.1 rfl (lv_room (Nat.le_of_ble_eq_true rfl)) dX0_leftByOne_23 ⟨Nat.le_of_ble_eq_true rfl, Nat.le_of_ble_eq_true rfl⟩) ?_
          refine lv_if_eq (tgt := 33) hx hb dX0_leftByOne_26 (by decide) (fun c_8 => ?_) (fun c_8 => ?_)
          · refine lv_iconst (v := 0) hx hb dX0_leftByOne_33 (by decide) ?_
            exact rg_e k (by first | rw [if_pos c_3, if_pos c_6, if_pos c_7, if_pos c_8] | simp only [if_pos c_3, if_pos c_6, if_pos c_7, if_pos c_8])
          · refine lv_iconst (v := 1) hx hb dX0_leftByOne_29 (by decide) ?_
            refine lv_goto (tgt := 34) hx hb dX0_leftByOne_30 (by decide) ?_
            exact rg_e k (by first | rw [if_pos c_3, if_pos c_6, if_pos c_7, if_neg c_8] | simp only [if_pos c_3, if_pos c_6, if_pos c_7, if_neg c_8])
  refine lv_istore (lv' := [(5, .int y_2), (4, .int y_1), (0, .ref h0), (1, .int a1), (2, .int a2), (3, .int a3)]) hx hb dX0_leftByOne_34 hl (by decide) rfl (fun ls hl => ?_)
  refine lv_iload_n hx hb dX0_leftByOne_36 rfl (lv_at hl 4 rfl) ?_
  refine lv_iload_n hx hb dX0_leftByOne_37 rfl (lv_at hl 5 rfl) ?_
  refine lv_iconst (v := 1) hx hb dX0_leftByOne_38 (by decide) ?_
  refine lv_ishl hx hb dX0_leftByOne_39 ?_
  refine pu_calli (F := (f_X0_operand a2 (a3 <<< (1 &&& 31)))) (va_runS (As := [.int a2, .int (a3 <<< (1 &&& 31))]) (rest := []) ⟨hx, hb, hml, hown, hts⟩ (p_X0_operand l _ a2 (a3 <<< (1 &&& 31))) (va_cwS 2 hts gX0_leftByOne_X0_operand rfl rfl rfl (by decide +kernel) ⟨Nat.le_of_ble_eq_true rfl, Nat.le_of_ble_eq_true rfl⟩) pu_preS rfl rfl hl.1 rfl (lv_room (Nat.le_of_ble_eq_true rfl)) dX0_leftByOne_40 ⟨Nat.le_of_ble_eq_true rfl, Nat.le_of_ble_eq_true rfl⟩) ?_
  refine lv_iload hx hb dX0_leftByOne_43 (lv_at hl 0 rfl) ?_
  refine rg (J := 53) (st := [.int (f_X0_operand a2 (a3 <<< (1 &&& 31)))]) (if y_2 = 0 then 0 else 1) (fun k => ?_) (fun y_9 ey_9 => ?_)
  · refine lv_if_eq (tgt := 52) hx hb dX0_leftByOne_45 (by decide) (fun c_10 => ?_) (fun c_10 => ?_)
    · refine lv_iconst (v := 0) hx hb dX0_leftByOne_52 (by decide) ?_
      exact rg_e k (by first | rw [if_pos c_10] | simp only [if_pos c_10])
    · refine lv_iconst (v := 1) hx hb dX0_leftByOne_48 (by decide) ?_
      refine lv_goto (tgt := 53) hx hb dX0_leftByOne_49 (by decide) ?_
      exact rg_e k (by first | rw [if_neg c_10] | simp only [if_neg c_10])
  refine lv_ior hx hb dX0_leftByOne_53 ?_
  refine lv_topi (fun y_11 ey_11 => ?_)
  refine lv_istore (lv' := [(6, .int y_11), (5, .int y_2), (4, .int y_1), (0, .ref h0), (1, .int a1), (2, .int a2), (3, .int a3)]) hx hb dX0_leftByOne_54 hl (by decide) rfl (fun ls hl => ?_)
  refine lv_aload_n hx hb dX0_leftByOne_56 rfl (lv_at hl 3 rfl) ?_
  refine lv_iconst (v := 1) hx hb dX0_leftByOne_57 (by decide) ?_
  refine lv_iload hx hb dX0_leftByOne_58 (lv_at hl 2 rfl) ?_
  refine wr_callv (va_runV (As := [.int 1, .int y_1]) (rest := []) ⟨hx, hb, hml, hown, hts⟩ (p_X0_put l dC dI h0 _ f 1 y_1) (cwV 2 hts gX0_leftByOne_X0_put rfl rfl rfl (by decide +kernel) ⟨Nat.le_of_ble_eq_true rfl, Nat.le_of_ble_eq_true rfl⟩) (wr_preV (ci := 1) rfl hK hP hD) rfl rfl hl.1 rfl (lv_room (Nat.le_of_ble_eq_true rfl)) dX0_leftByOne_60 ⟨Nat.le_of_ble_eq_true rfl, Nat.le_of_ble_eq_true rfl⟩) hP hD hS hA (fun u_13 H locs eu_13 hP hD hS => ?_)
  have hP : va_P (dC, dI) vwCl [(h0, .inr (1, [.int u_13]))] H := hP
  have hD : va_D A [(h0, .inr (1, [.int u_13]))] := hD
  refine lv_aload_n hx hb dX0_leftByOne_63 rfl (lv_at hl 3 rfl) ?_
  refine lv_sipush (v := 2048) hx hb dX0_leftByOne_64 (by decide +kernel) ?_
  refine lv_iload hx hb dX0_leftByOne_67 (lv_at hl 2 rfl) ?_
  refine lv_iload_n hx hb dX0_leftByOne_69 rfl (lv_at hl 5 rfl) ?_
  refine lv_iload hx hb dX0_leftByOne_70 (lv_at hl 0 rfl) ?_
  refine pu_calli (F := (f_X0_hasHighestBit a2 y_11)) (va_runS (As := [.int a2, .int y_11]) (rest := [.int y_1, .int 2048, .ref h0]) ⟨hx, hb, hml, hown, hts⟩ (p_X0_hasHighestBit l _ a2 y_11) (va_cwS 2 hts gX0_leftByOne_X0_hasHighestBit rfl rfl rfl (by decide +kernel) ⟨Nat.le_of_ble_eq_true rfl, Nat.le_of_ble_eq_true rfl⟩) pu_preS rfl rfl hl.1 rfl (lv_room (Nat.le_of_ble_eq_true rfl)) dX0_leftByOne_72 ⟨Nat.le_of_ble_eq_true rfl, Nat.le_of_ble_eq_true rfl⟩) ?_
  refine rg (J := 83) (st := [.int 2048, .ref h0]) (if y_1 = (f_X0_hasHighestBit a2 y_11) then 0 else 1) (fun k => ?_) (fun y_14 ey_14 => ?_)
  · refine lv_icmp_eq (tgt := 82) hx hb dX0_leftByOne_75 (by decide) (fun c_15 => ?_) (fun c_15 => ?_)
    · refine lv_iconst (v := 0) hx hb dX0_leftByOne_82 (by decide) ?_
      exact rg_e k (by first | rw [if_pos c_15] | simp only [if_pos c_15])
    · refine lv_iconst (v := 1) hx hb dX0_leftByOne_78 (by decide) ?_
      refine lv_goto (tgt := 83) hx hb dX0_leftByOne_79 (by decide) ?_
      exact rg_e k (by first | rw [if_neg c_15] | simp only [if_neg c_15])
  refine wr_callv (va_runV (As := [.int 2048, .int y_14]) (rest := []) ⟨hx, hb, hml, hown, hts⟩ (p_X0_put l dC dI h0 _ u_13 2048 y_14) (cwV 2 hts gX0_leftByOne_X0_put rfl rfl rfl (by decide +kernel) ⟨Nat.le_of_ble_eq_true rfl, Nat.le_of_ble_eq_true rfl⟩) (wr_preV (ci := 1) rfl hK hP hD) rfl rfl hl.1 rfl (lv_room (Nat.le_of_ble_eq_true rfl)) dX0_leftByOne_83 ⟨Nat.le_of_ble_eq_true rfl, Nat.le_of_ble_eq_true rfl⟩) hP hD hS hA (fun u_17 H locs eu_17 hP hD hS => ?_)
  have hP : va_P (dC, dI) vwCl [(h0, .inr (1, [.int u_17]))] H := hP
  have hD : va_D A [(h0, .inr (1, [.int u_17]))] := hD
  refine lv_iload hx hb dX0_leftByOne_86 (lv_at hl 0 rfl) ?_
  exact W.iret (v := y_11) hx hb hr (fun t ht hW => ⟨⟨y_11, u_17, rfl, ⟨(by subst ey_1; subst ey_2; subst ey_9; subst ey_11; subst eu_13; subst ey_14; subst eu_17; simp only [f_X0_leftByOne]), (by subst ey_1; subst ey_2; subst ey_9; subst ey_11; subst eu_13; subst ey_14; subst eu_17; simp only [f_X0_leftByOne])⟩, by rw [ht]; exact hP, va_K.moved hW.alike hK, hD⟩, hS.F ht⟩) hS.2.2 dX0_leftByOne_88

/-- what X0_rightByOne answers -/
def f_X0_rightByOne (f : Int32) (a1 : Int32) (a2 : Int32) (a3 : Int32) : Int32 × Int32 :=
  let y_1 : Int32 := (if (a3 &&& 1) = 0 then 0 else 1)
  let y_3 : Int32 := (f_X0_hasHighestBit a2 a3)
  let y_4 : Int32 := (f_X0_comesInFromLeft f a1 y_1 y_3)
  let u_6 : Int32 := (f_X0_put f 1 y_1)
  let y_7 : Int32 := (if y_4 = y_3 then 0 else 1)
  let u_10 : Int32 := (f_X0_put u_6 2048 y_7)
  let y_11 : Int32 := (if y_4 = 0 then 0 else (f_X0_highestBit a2))
  (((a3 >>> (1 &&& 31)) ||| y_11), u_10)
set_option maxHeartbeats 4000000 in
set_option maxRecDepth 100000 in
theorem p_X0_rightByOne (l : Launch) (dC : Nat → ClassId) (dI : Nat → Nat → Nat) (h0 : Nat) (sz : Nat) (f : Int32) (a1 : Int32) (a2 : Int32) (a3 : Int32) : Met l yX0_rightByOne wsX0_rightByOne ({ frames := 2, cells := 0, slots := 0, locals := 44 }) (va_Pc [.ref h0, .int a1, .int a2, .int a3] (wr_pre (dC, dI) 1 h0 sz [.int f])) (va_Qi (fun (r : Int32) (u : Int32) => r = (f_X0_rightByOne f a1 a2 a3).1 ∧ u = (f_X0_rightByOne f a1 a2 a3).2) (wr_at (dC, dI) 1 h0 (fun u : Int32 => [.int u]) (wr_A 1 h0 sz [.int f])) (wr_A 1 h0 sz [.int f])) 0 0 (wr_A 1 h0 sz [.int f]) := by
  refine Met.ofW (cc := cX0_rightByOne) (maxL := 7) (ret := (some .int)) (by decide) rfl ?_
  intro p e s m args below meth c s₁ B hml hv
  obtain ⟨rfl, hsz, hP, hK, hD0⟩ := hv
  have hx := B.exec
  have hb := B.bytes
  have hr := B.returns
  have hts := atoms_spec (ws := wsX0_rightByOne) B.pre
  have hown : s.vm.findClass RX0 = some m.cls := findClass_of_methodNamed B.named
  have hlocks := B.notSynchronized
  subst hsz
  have hD : va_D (wr_A 1 h0 s.heap.size [.int f]) [(h0, .inr (1, [.int f]))] := hD0.self (sz := s.heap.size)
  generalize hAe : wr_A 1 h0 s.heap.size [.int f] = A at hD ⊢
  have hA : ∀ q : Nat, s.heap.size ≤ q → A q := fun q h => by rw [← hAe]; exact Or.inr h
  have hS : va_S A s.heap s.heap [] := va_S.rf
  have hP : va_P (dC, dI) vwCl [(h0, .inr (1, [.int f]))] s.heap := hP
  have hD : va_D A [(h0, .inr (1, [.int f]))] := hD
  have hl := lv_entry ([.ref h0, .int a1, .int a2, .int a3]) (n := 7) (Nat.le_of_ble_eq_true rfl)
  rw [lg_entry_eq]
  generalize (lg_sl ([.ref h0, .int a1, .int a2, .int a3]) ++ List.replicate (7 - (lg_sl ([.ref h0, .int a1, .int a2, .int a3])).length) Slot.unset).toArray = ls at hl ⊢
  have hl : lv_has ls 7 [(0, .ref h0), (1, .int a1), (2, .int a2), (3, .int a3)] := hl
  refine lv_iload_n hx hb dX0_rightByOne_0 rfl (lv_at hl 3 rfl) ?_
  refine lv_iconst (v := 1) hx hb dX0_rightByOne_1 (by decide) ?_
  refine lv_iand hx hb dX0_rightByOne_2 ?_
  refine rg (J := 11) (st := []) (if (a3 &&& 1) = 0 then 0 else 1) (fun k => ?_) (fun y_1 ey_1 => ?_)
  · refine lv_if_eq (tgt := 10) hx hb dX0_rightByOne_3 (by decide) (fun c_2 => ?_) (fun c_2 => ?_)
    · refine lv_iconst (v := 0) hx hb dX0_rightByOne_10 (by decide) ?_
      exact rg_e k (by first | rw [if_pos c_2] | simp only [if_pos c_2])
    · refine lv_iconst (v := 1) hx hb dX0_rightByOne_6 (by decide) ?_
      refine lv_goto (tgt := 11) hx hb dX0_rightByOne_7 (by decide) ?_
      exact rg_e k (by first | rw [if_neg c_2] | simp only [if_neg c_2])
  refine lv_istore (lv' := [(4, .int y_1), (0, .ref h0), (1, .int a1), (2, .int a2), (3, .int a3)]) hx hb dX0_rightByOne_11 hl (by decide) rfl (fun ls hl => ?_)
  refine lv_iload_n hx hb dX0_rightByOne_13 rfl (lv_at hl 3 rfl) ?_
  refine lv_iload_n hx hb dX0_rightByOne_14 rfl (lv_at hl 4 rfl) ?_
  refine pu_calli (F := (f_X0_hasHighestBit a2 a3)) (va_runS (As := [.int a2, .int a3]) (rest := []) ⟨hx, hb, hml, hown, hts⟩ (p_X0_hasHighestBit l _ a2 a3) (va_cwS 2 hts gX0_rightByOne_X0_hasHighestBit rfl rfl rfl (by decide +kernel) ⟨Nat.le_of_ble_eq_true rfl, Nat.le_of_ble_eq_true rfl⟩) pu_preS rfl rfl hl.1 rfl (lv_room (Nat.le_of_ble_eq_true rfl)) dX0_rightByOne_15 ⟨Nat.le_of_ble_eq_true rfl, Nat.le_of_ble_eq_true rfl⟩) ?_
  refine lv_topi (fun y_3 ey_3 => ?_)
  refine lv_istore (lv' := [(5, .int y_3), (4, .int y_1), (0, .ref h0), (1, .int a1), (2, .int a2), (3, .int a3)]) hx hb dX0_rightByOne_18 hl (by decide) rfl (fun ls hl => ?_)
  refine lv_aload_n hx hb dX0_rightByOne_20 rfl (lv_at hl 2 rfl) ?_
  refine lv_iload_n hx hb dX0_rightByOne_21 rfl (lv_at hl 3 rfl) ?_
  refine lv_iload hx hb dX0_rightByOne_22 (lv_at hl 1 rfl) ?_
  refine lv_iload hx hb dX0_rightByOne_24 (lv_at hl 0 rfl) ?_
  refine pu_calli (F := (f_X0_comesInFromLeft f a1 y_1 y_3)) (va_runV (As := [.int a1, .int y_1, .int y_3]) (rest := []) ⟨hx, hb, hml, hown, hts⟩ (p_X0_comesInFromLeft l dC dI h0 _ f a1 y_1 y_3 (by rw [ey_1]; repeat (first | exact Or.inl rfl | exact Or.inr rfl | apply fb_X0_isSet | apply fb_X0_hasHighestBit | split)) (by rw [ey_3]; repeat (first | exact Or.inl rfl | exact Or.inr rfl | apply fb_X0_isSet | apply fb_X0_hasHighestBit | split))) (cwV 3 hts gX0_rightByOne_X0_comesInFromLeft rfl rfl rfl (by decide +kernel) ⟨Nat.le_of_ble_eq_true rfl, Nat.le_of_ble_eq_true rfl⟩) (pu_preV (ci := 1) rfl hK hP) rfl rfl hl.1 rfl (lv_room (Nat.le_of_ble_eq_true rfl)) dX0_rightByOne_26 ⟨Nat.le_of_ble_eq_true rfl, Nat.le_of_ble_eq_true rfl⟩) ?_
  refine lv_topi (fun y_4 ey_4 => ?_)
  refine lv_istore (lv' := [(6, .int y_4), (5, .int y_3), (4, .int y_1), (0, .ref h0), (1, .int a1), (2, .int a2), (3, .int a3)]) hx hb dX0_rightByOne_29 hl (by decide) rfl (fun ls hl => ?_)
  refine lv_aload_n hx hb dX0_rightByOne_31 rfl (lv_at hl 3 rfl) ?_
  refine lv_iconst (v := 1) hx hb dX0_rightByOne_32 (by decide) ?_
  refine lv_iload hx hb dX0_rightByOne_33 (lv_at hl 2 rfl) ?_
  refine wr_callv (va_runV (As := [.int 1, .int y_1]) (rest := []) ⟨hx, hb, hml, hown, hts⟩ (p_X0_put l dC dI h0 _ f 1 y_1) (cwV 2 hts gX0_rightByOne_X0_put rfl rfl rfl (by decide +kernel) ⟨Nat.le_of_ble_eq_true rfl, Nat.le_of_ble_eq_true rfl⟩) (wr_preV (ci := 1) rfl hK hP hD) rfl rfl hl.1 rfl (lv_room (Nat.le_of_ble_eq_true rfl)) dX0_rightByOne_35 ⟨Nat.le_of_ble_eq_true rfl, Nat.le_of_ble_eq_true rfl⟩) hP hD hS hA (fun u_6 H locs eu_6 hP hD hS => ?_)
  have hP : va_P (dC, dI) vwCl [(h0, .inr (1, [.int u_6]))] H := hP
  have hD : va_D A [(h0, .inr (1, [.int u_6]))] := hD
  refine lv_aload_n hx hb dX0_rightByOne_38 rfl (lv_at hl 3 rfl) ?_
  refine lv_sipush (v := 2048) hx hb dX0_rightByOne_39 (by decide +kernel) ?_
  refine lv_iload hx hb dX0_rightByOne_42 (lv_at hl 0 rfl) ?_
  refine lv_iload hx hb dX0_rightByOne_44 (lv_at hl 1 rfl) ?_
  refine rg (J := 54) (st := [.int 2048, .ref h0]) (if y_4 = y_3 then 0 else 1) (fun k => ?_) (fun y_7 ey_7 => ?_)
  · refine lv_icmp_eq (tgt := 53) hx hb dX0_rightByOne_46 (by decide) (fun c_8 => ?_) (fun c_8 => ?_)
    · refine lv_iconst (v := 0) hx hb dX0_rightByOne_53 (by decide) ?_
      exact rg_e k (by first | rw [if_pos c_8] | simp only [if_pos c_8])
    · refine lv_iconst (v := 1) hx hb dX0_rightByOne_49 (by decide) ?_
      refine lv_goto (tgt := 54) hx hb dX0_rightByOne_50 (by decide) ?_
      exact rg_e k (by first | rw [if_neg c_8] | simp only [if_neg c_8])
  refine wr_callv (va_runV (As := [.int 2048, .int y_7]) (rest := []) ⟨hx, hb, hml, hown, hts⟩ (p_X0_put l dC dI h0 _ u_6 2048 y_7) (cwV 2 hts gX0_rightByOne_X0_put rfl rfl rfl (by decide +kernel) ⟨Nat.le_of_ble_eq_true rfl, Nat.le_of_ble_eq_true rfl⟩) (wr_preV (ci := 1) rfl hK hP hD) rfl rfl hl.1 rfl (lv_room (Nat.le_of_ble_eq_true rfl)) dX0_rightByOne_54 ⟨Nat.le_of_ble_eq_true rfl, Nat.le_of_ble_eq_true rfl⟩) hP hD hS hA (fun u_10 H locs eu_10 hP hD hS => ?_)
  have hP : va_P (dC, dI) vwCl [(h0, .inr (1, [.int u_10]))] H := hP
  have hD : va_D A [(h0, .inr (1, [.int u_10]))] := hD
  refine lv_iload_n hx hb dX0_rightByOne_57 rfl (lv_at hl 6 rfl) ?_
  refine lv_iconst (v := 1) hx hb dX0_rightByOne_58 (by decide) ?_
  refine lv_ishr hx hb dX0_rightByOne_59 ?_
  refine lv_iload hx hb dX0_rightByOne_60 (lv_at hl 0 rfl) ?_
  refine rg (J := 73) (st := [.int (a3 >>> (1 &&& 31))]) (if y_4 = 0 then 0 else (f_X0_highestBit a2)) (fun k => ?_) (fun y_11 ey_11 => ?_)
  · refine lv_if_eq (tgt := 72) hx hb dX0_rightByOne_62 (by decide) (fun c_12 => ?_) (fun c_12 => ?_)
    · refine lv_iconst (v := 0) hx hb dX0_rightByOne_72 (by decide) ?_
      exact rg_e k (by first | rw [if_pos c_12] | simp only [if_pos c_12])
    · refine lv_iload_n hx hb dX0_rightByOne_65 rfl (lv_at hl 5 rfl) ?_
      refine pu_calli (F := (f_X0_highestBit a2)) (va_runS (As := [.int a2]) (rest := [.int (a3 >>> (1 &&& 31))]) ⟨hx, hb, hml, hown, hts⟩ (p_X0_highestBit l _ a2) (va_cwS 1 hts gX0_rightByOne_X0_highestBit rfl rfl rfl (by decide +kernel) ⟨Nat.le_of_ble_eq_true rfl, Nat.le_of_ble_eq_true rfl⟩) pu_preS rfl rfl hl.1 rfl (lv_room (Nat.le_of_ble_eq_true rfl)) dX0_rightByOne_66 ⟨Nat.le_of_ble_eq_true rfl, Nat.le_of_ble_eq_true rfl⟩) ?_
      refine lv_goto (tgt := 73) hx hb dX0_rightByOne_69 (by decide) ?_
      exact rg_e k (by first | rw [if_neg c_12] | simp only [if_neg c_12])
  refine lv_ior hx hb dX0_rightByOne_73 ?_
  exact W.iret (v := ((a3 >>> (1 &&& 31)) ||| y_11)) hx hb hr (fun t ht hW => ⟨⟨((a3 >>> (1 &&& 31)) ||| y_11), u_10, rfl, ⟨(by subst ey_1; subst ey_3; subst ey_4; subst eu_6; subst ey_7; subst eu_10; subst ey_11; simp only [f_X0_rightByOne]), (by subst ey_1; subst ey_3; subst ey_4; subst eu_6; subst ey_7; subst eu_10; subst ey_11; simp only [f_X0_rightByOne])⟩, by rw [ht]; exact hP, va_K.moved hW.alike hK, hD⟩, hS.F ht⟩) hS.2.2 dX0_rightByOne_74

/-- what X0_isQuotient answers -/
def f_X0_isQuotient (a1 : Int32) (a2 : Int32) (a3 : Int64) : Int32 :=
  let y_1 : Int32 := (if a2 = 0 then (f_X0_mask a1) else ((f_X0_mask a1) >>> (1 &&& 31)))
  let y_3 : Int32 := (if a2 = 0 then 0 else (-y_1))
  let y_5 : Int32 := (if (lg_cmp a3 ((y_3 : Int32).toInt64)) < 0 then 0 else (if 0 < (lg_cmp a3 ((y_1 : Int32).toInt64)) then 0 else 1))
  y_5
theorem fb_X0_isQuotient (a1 : Int32) (a2 : Int32) (a3 : Int64) : f_X0_isQuotient a1 a2 a3 = 0 ∨ f_X0_isQuotient a1 a2 a3 = 1 := by
  unfold f_X0_isQuotient
  (try dsimp only)
  repeat (first | exact Or.inl rfl | exact Or.inr rfl | assumption | apply fb_X0_isSet | split)
set_option maxHeartbeats 4000000 in
set_option maxRecDepth 100000 in
theorem p_X0_isQuotient (l : Launch) (HH : Heap) (a1 : Int32) (a2 : Int32) (a3 : Int64) : Met l yX0_isQuotient wsX0_isQuotient ({ frames := 1, cells := 0, slots := 0, locals := 20 }) (va_Pc [.int a1, .int a2, .long a3] (fun U => U.heap = HH)) (va_Qi (fun (r : Int32) (_ : Unit) => r = f_X0_isQuotient a1 a2 a3) (fun _ t => t.heap = HH) (fun _ => False)) 0 0 (fun _ => False) := by
  refine Met.ofW (cc := cX0_isQuotient) (maxL := 6) (ret := (some .boolean)) (by decide) rfl ?_
  intro p e s m args below meth c s₁ B hml hv
  obtain ⟨rfl, hsz⟩ := hv
  have hx := B.exec
  have hb := B.bytes
  have hr := B.returns
  have hts := atoms_spec (ws := wsX0_isQuotient) B.pre
  have hown : s.vm.findClass RX0 = some m.cls := findClass_of_methodNamed B.named
  have hlocks := B.notSynchronized
  subst hsz
  have hl := lv_entry ([.int a1, .int a2, .long a3]) (n := 6) (Nat.le_of_ble_eq_true rfl)
  rw [lg_entry_eq]
  generalize (lg_sl ([.int a1, .int a2, .long a3]) ++ List.replicate (6 - (lg_sl ([.int a1, .int a2, .long a3])).length) Slot.unset).toArray = ls at hl ⊢
  have hl : lv_has ls 6 [(0, .int a1), (1, .int a2), (2, .long a3)] := hl
  refine lv_iload_n hx hb dX0_isQuotient_0 rfl (lv_at hl 1 rfl) ?_
  refine rg (J := 17) (st := []) (if a2 = 0 then (f_X0_mask a1) else ((f_X0_mask a1) >>> (1 &&& 31))) (fun k => ?_) (fun y_1 ey_1 => ?_)
  · refine lv_if_eq (tgt := 13) hx hb dX0_isQuotient_1 (by decide) (fun c_2 => ?_) (fun c_2 => ?_)
    · refine lv_iload_n hx hb dX0_isQuotient_13 rfl (lv_at hl 0 rfl) ?_
      refine pu_calli (F := (f_X0_mask a1)) (va_runS (As := [.int a1]) (rest := []) ⟨hx, hb, hml, hown, hts⟩ (p_X0_mask l _ a1) (va_cwS 1 hts gX0_isQuotient_X0_mask rfl rfl rfl (by decide +kernel) ⟨Nat.le_of_ble_eq_true rfl, Nat.le_of_ble_eq_true rfl⟩) pu_preS rfl rfl hl.1 rfl (lv_room (Nat.le_of_ble_eq_true rfl)) dX0_isQuotient_14 ⟨Nat.le_of_ble_eq_true rfl, Nat.le_of_ble_eq_true rfl⟩) ?_
      exact rg_e k (by first | rw [if_pos c_2] | simp only [if_pos c_2])
    · refine lv_iload_n hx hb dX0_isQuotient_4 rfl (lv_at hl 0 rfl) ?_
      refine pu_calli (F := (f_X0_mask a1)) (va_runS (As := [.int a1]) (rest := []) ⟨hx, hb, hml, hown, hts⟩ (p_X0_mask l _ a1) (va_cwS 1 hts gX0_isQuotient_X0_mask rfl rfl rfl (by decide +kernel) ⟨Nat.le_of_ble_eq_true rfl, Nat.le_of_ble_eq_true rfl⟩) pu_preS rfl rfl hl.1 rfl (lv_room (Nat.le_of_ble_eq_true rfl)) dX0_isQuotient_5 ⟨Nat.le_of_ble_eq_true rfl, Nat.le_of_ble_eq_true rfl⟩) ?_
      refine lv_iconst (v := 1) hx hb dX0_isQuotient_8 (by decide) ?_
      refine lv_ishr hx hb dX0_isQuotient_9 ?_
      refine lv_goto (tgt := 17) hx hb dX0_isQuotient_10 (by decide) ?_
      exact rg_e k (by first | rw [if_neg c_2] | simp only [if_neg c_2])
  refine lv_istore (lv' := [(4, .int y_1), (0, .int a1), (1, .int a2), (2, .long a3)]) hx hb dX0_isQuotient_17 hl (by decide) rfl (fun ls hl => ?_)
  refine lv_iload_n hx hb dX0_isQuotient_19 rfl (lv_at hl 2 rfl) ?_
  refine rg (J := 30) (st := []) (if a2 = 0 then 0 else (-y_1)) (fun k => ?_) (fun y_3 ey_3 => ?_)
  · refine lv_if_eq (tgt := 29) hx hb dX0_isQuotient_20 (by decide) (fun c_4 => ?_) (fun c_4 => ?_)
    · refine lv_iconst (v := 0) hx hb dX0_isQuotient_29 (by decide) ?_
      exact rg_e k (by first | rw [if_pos c_4] | simp only [if_pos c_4])
    · refine lv_iload hx hb dX0_isQuotient_23 (lv_at hl 0 rfl) ?_
      refine lv_ineg hx hb dX0_isQuotient_25 ?_
      refine lv_goto (tgt := 30) hx hb dX0_isQuotient_26 (by decide) ?_
      exact rg_e k (by first | rw [if_neg c_4] | simp only [if_neg c_4])
  refine lv_istore (lv' := [(5, .int y_3), (4, .int y_1), (0, .int a1), (1, .int a2), (2, .long a3)]) hx hb dX0_isQuotient_30 hl (by decide) rfl (fun ls hl => ?_)
  refine lv_lload_n hx hb dX0_isQuotient_32 rfl (lv_at hl 4 rfl) ?_
  refine lv_iload hx hb dX0_isQuotient_33 (lv_at hl 0 rfl) ?_
  refine lv_i2l (v := (y_3 : Int32).toInt64) hx hb dX0_isQuotient_35 rfl ?_
  refine W.lcmp hx hb dX0_isQuotient_36 ?_
  refine rg (J := 53) (st := []) (if (lg_cmp a3 ((y_3 : Int32).toInt64)) < 0 then 0 else (if 0 < (lg_cmp a3 ((y_1 : Int32).toInt64)) then 0 else 1)) (fun k => ?_) (fun y_5 ey_5 => ?_)
  · refine lv_if_lt (tgt := 52) hx hb dX0_isQuotient_37 (by decide) (fun c_6 => ?_) (fun c_6 => ?_)
    · refine lv_iconst (v := 0) hx hb dX0_isQuotient_52 (by decide) ?_
      exact rg_e k (by first | rw [if_pos c_6] | simp only [if_pos c_6])
    · refine lv_lload_n hx hb dX0_isQuotient_40 rfl (lv_at hl 4 rfl) ?_
      refine lv_iload hx hb dX0_isQuotient_41 (lv_at hl 1 rfl) ?_
      refine lv_i2l (v := (y_1 : Int32).toInt64) hx hb dX0_isQuotient_43 rfl ?_
      refine W.lcmp hx hb dX0_isQuotient_44 ?_
      refine lv_if_gt (tgt := 52) hx hb dX0_isQuotient_45 (by decide) (fun c_7 => ?_) (fun c_7 => ?_)
      · refine lv_iconst (v := 0) hx hb dX0_isQuotient_52 (by decide) ?_
        exact rg_e k (by first | rw [if_neg c_6, if_pos c_7] | simp only [if_neg c_6, if_pos c_7])
      · refine lv_iconst (v := 1) hx hb dX0_isQuotient_48 (by decide) ?_
        refine lv_goto (tgt := 53) hx hb dX0_isQuotient_49 (by decide) ?_
        exact rg_e k (by first | rw [if_neg c_6, if_neg c_7] | simp only [if_neg c_6, if_neg c_7])
  exact W.zret (v := y_5) hx hb hr (nb_of (by rw [ey_5]; repeat (first | exact Or.inl rfl | exact Or.inr rfl | apply fb_X0_isSet | apply fb_X0_hasHighestBit | split))) (fun t ht hW => ⟨⟨y_5, (), rfl, (by subst ey_1; subst ey_3; subst ey_5; simp only [f_X0_isQuotient]), ht⟩, pu_F ht⟩) (fun q h => nomatch h) dX0_isQuotient_53

/-- what X0_gap answers -/
def f_X0_gap (a1 : Int32) (a2 : Int32) : Int32 :=
  let y_1 : Int32 := (if a1 = 0 then 0 else 6)
  let y_3 : Int32 := (if a2 = 0 then 0 else 96)
  (y_1 + y_3)
set_option maxHeartbeats 4000000 in
set_option maxRecDepth 100000 in
theorem p_X0_gap (l : Launch) (HH : Heap) (a1 : Int32) (a2 : Int32) : Met l yX0_gap wsX0_gap ({ frames := 0, cells := 0, slots := 0, locals := 0 }) (va_Pc [.int a1, .int a2] (fun U => U.heap = HH)) (va_Qi (fun (r : Int32) (_ : Unit) => r = f_X0_gap a1 a2) (fun _ t => t.heap = HH) (fun _ => False)) 0 0 (fun _ => False) := by
  refine Met.ofW (cc := cX0_gap) (maxL := 2) (ret := (some .int)) (by decide) rfl ?_
  intro p e s m args below meth c s₁ B hml hv
  obtain ⟨rfl, hsz⟩ := hv
  have hx := B.exec
  have hb := B.bytes
  have hr := B.returns
  have hts := atoms_spec (ws := wsX0_gap) B.pre
  have hown : s.vm.findClass RX0 = some m.cls := findClass_of_methodNamed B.named
  have hlocks := B.notSynchronized
  subst hsz
  have hl := lv_entry ([.int a1, .int a2]) (n := 2) (Nat.le_of_ble_eq_true rfl)
  rw [lg_entry_eq]
  generalize (lg_sl ([.int a1, .int a2]) ++ List.replicate (2 - (lg_sl ([.int a1, .int a2])).length) Slot.unset).toArray = ls at hl ⊢
  have hl : lv_has ls 2 [(0, .int a1), (1, .int a2)] := hl
  refine lv_iload_n hx hb dX0_gap_0 rfl (lv_at hl 0 rfl) ?_
  refine rg (J := 10) (st := []) (if a1 = 0 then 0 else 6) (fun k => ?_) (fun y_1 ey_1 => ?_)
  · refine lv_if_eq (tgt := 9) hx hb dX0_gap_1 (by decide) (fun c_2 => ?_) (fun c_2 => ?_)
    · refine lv_iconst (v := 0) hx hb dX0_gap_9 (by decide) ?_
      exact rg_e k (by first | rw [if_pos c_2] | simp only [if_pos c_2])
    · refine lv_bipush (v := 6) hx hb dX0_gap_4 (by decide +kernel) ?_
      refine lv_goto (tgt := 10) hx hb dX0_gap_6 (by decide) ?_
      exact rg_e k (by first | rw [if_neg c_2] | simp only [if_neg c_2])
  refine lv_iload_n hx hb dX0_gap_10 rfl (lv_at hl 1 rfl) ?_
  refine rg (J := 20) (st := [.int y_1]) (if a2 = 0 then 0 else 96) (fun k => ?_) (fun y_3 ey_3 => ?_)
  · refine lv_if_eq (tgt := 19) hx hb dX0_gap_11 (by decide) (fun c_4 => ?_) (fun c_4 => ?_)
    · refine lv_iconst (v := 0) hx hb dX0_gap_19 (by decide) ?_
      exact rg_e k (by first | rw [if_pos c_4] | simp only [if_pos c_4])
    · refine lv_bipush (v := 96) hx hb dX0_gap_14 (by decide +kernel) ?_
      refine lv_goto (tgt := 20) hx hb dX0_gap_16 (by decide) ?_
      exact rg_e k (by first | rw [if_neg c_4] | simp only [if_neg c_4])
  refine lv_iadd hx hb dX0_gap_20 ?_
  exact W.iret (v := (y_1 + y_3)) hx hb hr (fun t ht hW => ⟨⟨(y_1 + y_3), (), rfl, (by subst ey_1; subst ey_3; simp only [f_X0_gap]), ht⟩, pu_F ht⟩) (fun q h => nomatch h) dX0_gap_21

/-- what X0_joined answers -/
def f_X0_joined (a1 : Int32) (a2 : Int32) : Int32 :=
  (((a1 &&& 255) <<< (8 &&& 31)) ||| a2)
set_option maxHeartbeats 4000000 in
set_option maxRecDepth 100000 in
theorem p_X0_joined (l : Launch) (HH : Heap) (a1 : Int32) (a2 : Int32) : Met l yX0_joined wsX0_joined ({ frames := 0, cells := 0, slots := 0, locals := 0 }) (va_Pc [.int a1, .int a2] (fun U => U.heap = HH)) (va_Qi (fun (r : Int32) (_ : Unit) => r = f_X0_joined a1 a2) (fun _ t => t.heap = HH) (fun _ => False)) 0 0 (fun _ => False) := by
  refine Met.ofW (cc := cX0_joined) (maxL := 2) (ret := (some .int)) (by decide) rfl ?_
  intro p e s m args below meth c s₁ B hml hv
  obtain ⟨rfl, hsz⟩ := hv
  have hx := B.exec
  have hb := B.bytes
  have hr := B.returns
  have hts := atoms_spec (ws := wsX0_joined) B.pre
  have hown : s.vm.findClass RX0 = some m.cls := findClass_of_methodNamed B.named
  have hlocks := B.notSynchronized
  subst hsz
  have hl := lv_entry ([.int a1, .int a2]) (n := 2) (Nat.le_of_ble_eq_true rfl)
  rw [lg_entry_eq]
  generalize (lg_sl ([.int a1, .int a2]) ++ List.replicate (2 - (lg_sl ([.int a1, .int a2])).length) Slot.unset).toArray = ls at hl ⊢
  have hl : lv_has ls 2 [(0, .int a1), (1, .int a2)] := hl
  refine lv_iload_n hx hb dX0_joined_0 rfl (lv_at hl 0 rfl) ?_
  refine lv_sipush (v := 255) hx hb dX0_joined_1 (by decide +kernel) ?_
  refine lv_iand hx hb dX0_joined_4 ?_
  refine lv_bipush (v := 8) hx hb dX0_joined_5 (by decide +kernel) ?_
  refine lv_ishl hx hb dX0_joined_7 ?_
  refine lv_iload_n hx hb dX0_joined_8 rfl (lv_at hl 1 rfl) ?_
  refine lv_ior hx hb dX0_joined_9 ?_
  exact W.iret (v := (((a1 &&& 255) <<< (8 &&& 31)) ||| a2)) hx hb hr (fun t ht hW => ⟨⟨(((a1 &&& 255) <<< (8 &&& 31)) ||| a2), (), rfl, rfl, ht⟩, pu_F ht⟩) (fun q h => nomatch h) dX0_joined_10

/-- what X0_needsLowerGap answers -/
def f_X0_needsLowerGap (f : Int32) (a1 : Int32) : Int32 :=
  let y_1 : Int32 := (if 9 < (a1 &&& 15) then 1 else (if (f_X0_isSet f 16) = 0 then 0 else 1))
  y_1
theorem fb_X0_needsLowerGap (f : Int32) (a1 : Int32) : f_X0_needsLowerGap f a1 = 0 ∨ f_X0_needsLowerGap f a1 = 1 := by
  unfold f_X0_needsLowerGap
  (try dsimp only)
  repeat (first | exact Or.inl rfl | exact Or.inr rfl | assumption | apply fb_X0_isSet | split)
set_option maxHeartbeats 4000000 in
set_option maxRecDepth 100000 in
theorem p_X0_needsLowerGap (l : Launch) (dC : Nat → ClassId) (dI : Nat → Nat → Nat) (h0 : Nat) (HH : Heap) (f : Int32) (a1 : Int32) : Met l yX0_needsLowerGap wsX0_needsLowerGap ({ frames := 1, cells := 0, slots := 0, locals := 21 }) (va_Pc [.ref h0, .int a1] (pu_pre (dC, dI) 1 h0 HH [.int f])) (va_Qi (fun (r : Int32) (_ : Unit) => r = f_X0_needsLowerGap f a1) (fun _ t => t.heap = HH) (fun _ => False)) 0 0 (fun _ => False) := by
  refine Met.ofW (cc := cX0_needsLowerGap) (maxL := 2) (ret := (some .boolean)) (by decide) rfl ?_
  intro p e s m args below meth c s₁ B hml hv
  obtain ⟨rfl, hsz, hP, hK⟩ := hv
  have hx := B.exec
  have hb := B.bytes
  have hr := B.returns
  have hts := atoms_spec (ws := wsX0_needsLowerGap) B.pre
  have hown : s.vm.findClass RX0 = some m.cls := findClass_of_methodNamed B.named
  have hlocks := B.notSynchronized
  subst hsz
  have hl := lv_entry ([.ref h0, .int a1]) (n := 2) (Nat.le_of_ble_eq_true rfl)
  rw [lg_entry_eq]
  generalize (lg_sl ([.ref h0, .int a1]) ++ List.replicate (2 - (lg_sl ([.ref h0, .int a1])).length) Slot.unset).toArray = ls at hl ⊢
  have hl : lv_has ls 2 [(0, .ref h0), (1, .int a1)] := hl
  refine lv_iload_n hx hb dX0_needsLowerGap_0 rfl (lv_at hl 1 rfl) ?_
  refine lv_bipush (v := 15) hx hb dX0_needsLowerGap_1 (by decide +kernel) ?_
  refine lv_iand hx hb dX0_needsLowerGap_3 ?_
  refine lv_bipush (v := 9) hx hb dX0_needsLowerGap_4 (by decide +kernel) ?_
  refine rg (J := 23) (st := []) (if 9 < (a1 &&& 15) then 1 else (if (f_X0_isSet f 16) = 0 then 0 else 1)) (fun k => ?_) (fun y_1 ey_1 => ?_)
  · refine lv_icmp_gt (tgt := 18) hx hb dX0_needsLowerGap_6 (by decide) (fun c_2 => ?_) (fun c_2 => ?_)
    · refine lv_iconst (v := 1) hx hb dX0_needsLowerGap_18 (by decide) ?_
      refine lv_goto (tgt := 23) hx hb dX0_needsLowerGap_19 (by decide) ?_
      exact rg_e k (by first | rw [if_pos c_2] | simp only [if_pos c_2])
    · refine lv_aload_n hx hb dX0_needsLowerGap_9 rfl (lv_at hl 0 rfl) ?_
      refine lv_bipush (v := 16) hx hb dX0_needsLowerGap_10 (by decide +kernel) ?_
      refine pu_calli (F := (f_X0_isSet f 16)) (va_runV (As := [.int 16]) (rest := []) ⟨hx, hb, hml, hown, hts⟩ (p_X0_isSet l dC dI h0 _ f 16) (cwV 1 hts gX0_needsLowerGap_X0_isSet rfl rfl rfl (by decide +kernel) ⟨Nat.le_of_ble_eq_true rfl, Nat.le_of_ble_eq_true rfl⟩) (pu_preV (ci := 1) rfl hK hP) rfl rfl hl.1 rfl (lv_room (Nat.le_of_ble_eq_true rfl)) dX0_needsLowerGap_12 ⟨Nat.le_of_ble_eq_true rfl, Nat.le_of_ble_eq_true rfl⟩) ?_
      refine lv_if_eq (tgt := 22) hx hb dX0_needsLowerGap_15 (by decide) (fun c_3 => ?_) (fun c_3 => ?_)
      · refine lv_iconst (v := 0) hx hb dX0_needsLowerGap_22 (by decide) ?_
        exact rg_e k (by first | rw [if_neg c_2, if_pos c_3] | simp only [if_neg c_2, if_pos c_3])
      · refine lv_iconst (v := 1) hx hb dX0_needsLowerGap_18 (by decide) ?_
        refine lv_goto (tgt := 23) hx hb dX0_needsLowerGap_19 (by decide) ?_
        exact rg_e k (by first | rw [if_neg c_2, if_neg c_3] | simp only [if_neg c_2, if_neg c_3])
  exact W.zret (v := y_1) hx hb hr (nb_of (by rw [ey_1]; repeat (first | exact Or.inl rfl | exact Or.inr rfl | apply fb_X0_isSet | apply fb_X0_hasHighestBit | split))) (fun t ht hW => ⟨⟨y_1, (), rfl, (by subst ey_1; simp only [f_X0_needsLowerGap]), ht⟩, pu_F ht⟩) (fun q h => nomatch h) dX0_needsLowerGap_23

/-- what X0_needsUpperGap answers -/
def f_X0_needsUpperGap (f : Int32) (a1 : Int32) : Int32 :=
  let y_1 : Int32 := (if 153 < a1 then 1 else (if (f_X0_isSet f 1) = 0 then 0 else 1))
  y_1
theorem fb_X0_needsUpperGap (f : Int32) (a1 : Int32) : f_X0_needsUpperGap f a1 = 0 ∨ f_X0_needsUpperGap f a1 = 1 := by
  unfold f_X0_needsUpperGap
  (try dsimp only)
  repeat (first | exact Or.inl rfl | exact Or.inr rfl | assumption | apply fb_X0_isSet | split)
set_option maxHeartbeats 4000000 in
set_option maxRecDepth 100000 in
theorem p_X0_needsUpperGap (l : Launch) (dC : Nat → ClassId) (dI : Nat → Nat → Nat) (h0 : Nat) (HH : Heap) (f : Int32) (a1 : Int32) : Met l yX0_needsUpperGap wsX0_needsUpperGap ({ frames := 1, cells := 0, slots := 0, locals := 21 }) (va_Pc [.ref h0, .int a1] (pu_pre (dC, dI) 1 h0 HH [.int f])) (va_Qi (fun (r : Int32) (_ : Unit) => r = f_X0_needsUpperGap f a1) (fun _ t => t.heap = HH) (fun _ => False)) 0 0 (fun _ => False) := by
  refine Met.ofW (cc := cX0_needsUpperGap) (maxL := 2) (ret := (some .boolean)) (by decide) rfl ?_
  intro p e s m args below meth c s₁ B hml hv
  obtain ⟨rfl, hsz, hP, hK⟩ := hv
  have hx := B.exec
  have hb := B.bytes
  have hr := B.returns
  have hts := atoms_spec (ws := wsX0_needsUpperGap) B.pre
  have hown : s.vm.findClass RX0 = some m.cls := findClass_of_methodNamed B.named
  have hlocks := B.notSynchronized
  subst hsz
  have hl := lv_entry ([.ref h0, .int a1]) (n := 2) (Nat.le_of_ble_eq_true rfl)
  rw [lg_entry_eq]
  generalize (lg_sl ([.ref h0, .int a1]) ++ List.replicate (2 - (lg_sl ([.ref h0, .int a1])).length) Slot.unset).toArray = ls at hl ⊢
  have hl : lv_has ls 2 [(0, .ref h0), (1, .int a1)] := hl
  refine lv_iload_n hx hb dX0_needsUpperGap_0 rfl (lv_at hl 1 rfl) ?_
  refine lv_sipush (v := 153) hx hb dX0_needsUpperGap_1 (by decide +kernel) ?_
  refine rg (J := 20) (st := []) (if 153 < a1 then 1 else (if (f_X0_isSet f 1) = 0 then 0 else 1)) (fun k => ?_) (fun y_1 ey_1 => ?_)
  · refine lv_icmp_gt (tgt := 15) hx hb dX0_needsUpperGap_4 (by decide) (fun c_2 => ?_) (fun c_2 => ?_)
    · refine lv_iconst (v := 1) hx hb dX0_needsUpperGap_15 (by decide) ?_
      refine lv_goto (tgt := 20) hx hb dX0_needsUpperGap_16 (by decide) ?_
      exact rg_e k (by first | rw [if_pos c_2] | simp only [if_pos c_2])
    · refine lv_aload_n hx hb dX0_needsUpperGap_7 rfl (lv_at hl 0 rfl) ?_
      refine lv_iconst (v := 1) hx hb dX0_needsUpperGap_8 (by decide) ?_
      refine pu_calli (F := (f_X0_isSet f 1)) (va_runV (As := [.int 1]) (rest := []) ⟨hx, hb, hml, hown, hts⟩ (p_X0_isSet l dC dI h0 _ f 1) (cwV 1 hts gX0_needsUpperGap_X0_isSet rfl rfl rfl (by decide +kernel) ⟨Nat.le_of_ble_eq_true rfl, Nat.le_of_ble_eq_true rfl⟩) (pu_preV (ci := 1) rfl hK hP) rfl rfl hl.1 rfl (lv_room (Nat.le_of_ble_eq_true rfl)) dX0_needsUpperGap_9 ⟨Nat.le_of_ble_eq_true rfl, Nat.le_of_ble_eq_true rfl⟩) ?_
      refine lv_if_eq (tgt := 19) hx hb dX0_needsUpperGap_12 (by decide) (fun c_3 => ?_) (fun c_3 => ?_)
      · refine lv_iconst (v := 0) hx hb dX0_needsUpperGap_19 (by decide) ?_
        exact rg_e k (by first | rw [if_neg c_2, if_pos c_3] | simp only [if_neg c_2, if_pos c_3])
      · refine lv_iconst (v := 1) hx hb dX0_needsUpperGap_15 (by decide) ?_
        refine lv_goto (tgt := 20) hx hb dX0_needsUpperGap_16 (by decide) ?_
        exact rg_e k (by first | rw [if_neg c_2, if_neg c_3] | simp only [if_neg c_2, if_neg c_3])
  exact W.zret (v := y_1) hx hb hr (nb_of (by rw [ey_1]; repeat (first | exact Or.inl rfl | exact Or.inr rfl | apply fb_X0_isSet | apply fb_X0_hasHighestBit | split))) (fun t ht hW => ⟨⟨y_1, (), rfl, (by subst ey_1; simp only [f_X0_needsUpperGap]), ht⟩, pu_F ht⟩) (fun q h => nomatch h) dX0_needsUpperGap_20

/-- what X0_adjustedByte answers -/
def f_X0_adjustedByte (f : Int32) (a1 : Int32) : Int32 × Int32 :=
  let r_1 : Int32 := (f_X0_kept f 0 a1).1
  let u_2 : Int32 := (f_X0_kept f 0 a1).2
  (r_1, u_2)
set_option maxHeartbeats 4000000 in
set_option maxRecDepth 100000 in
theorem p_X0_adjustedByte (l : Launch) (dC : Nat → ClassId) (dI : Nat → Nat → Nat) (h0 : Nat) (sz : Nat) (f : Int32) (a1 : Int32) : Met l yX0_adjustedByte wsX0_adjustedByte ({ frames := 4, cells := 0, slots := 0, locals := 86 }) (va_Pc [.ref h0, .int a1] (wr_pre (dC, dI) 1 h0 sz [.int f])) (va_Qi (fun (r : Int32) (u : Int32) => r = (f_X0_adjustedByte f a1).1 ∧ u = (f_X0_adjustedByte f a1).2) (wr_at (dC, dI) 1 h0 (fun u : Int32 => [.int u]) (wr_A 1 h0 sz [.int f])) (wr_A 1 h0 sz [.int f])) 0 0 (wr_A 1 h0 sz [.int f]) := by
  refine Met.ofW (cc := cX0_adjustedByte) (maxL := 2) (ret := (some .int)) (by decide) rfl ?_
  intro p e s m args below meth c s₁ B hml hv
  obtain ⟨rfl, hsz, hP, hK, hD0⟩ := hv
  have hx := B.exec
  have hb := B.bytes
  have hr := B.returns
  have hts := atoms_spec (ws := wsX0_adjustedByte) B.pre
  have hown : s.vm.findClass RX0 = some m.cls := findClass_of_methodNamed B.named
  have hlocks := B.notSynchronized
  subst hsz
  have hD : va_D (wr_A 1 h0 s.heap.size [.int f]) [(h0, .inr (1, [.int f]))] := hD0.self (sz := s.heap.size)
  generalize hAe : wr_A 1 h0 s.heap.size [.int f] = A at hD ⊢
  have hA : ∀ q : Nat, s.heap.size ≤ q → A q := fun q h => by rw [← hAe]; exact Or.inr h
  have hS : va_S A s.heap s.heap [] := va_S.rf
  have hP : va_P (dC, dI) vwCl [(h0, .inr (1, [.int f]))] s.heap := hP
  have hD : va_D A [(h0, .inr (1, [.int f]))] := hD
  have hl := lv_entry ([.ref h0, .int a1]) (n := 2) (Nat.le_of_ble_eq_true rfl)
  rw [lg_entry_eq]
  generalize (lg_sl ([.ref h0, .int a1]) ++ List.replicate (2 - (lg_sl ([.ref h0, .int a1])).length) Slot.unset).toArray = ls at hl ⊢
  have hl : lv_has ls 2 [(0, .ref h0), (1, .int a1)] := hl
  refine lv_aload_n hx hb dX0_adjustedByte_0 rfl (lv_at hl 0 rfl) ?_
  refine lv_iconst (v := 0) hx hb dX0_adjustedByte_1 (by decide) ?_
  refine lv_iload_n hx hb dX0_adjustedByte_2 rfl (lv_at hl 1 rfl) ?_
  refine wr_calli (va_runV (As := [.int 0, .int a1]) (rest := []) ⟨hx, hb, hml, hown, hts⟩ (p_X0_kept l dC dI h0 _ f 0 a1) (cwV 2 hts gX0_adjustedByte_X0_kept rfl rfl rfl (by decide +kernel) ⟨Nat.le_of_ble_eq_true rfl, Nat.le_of_ble_eq_true rfl⟩) (wr_preV (ci := 1) rfl hK hP hD) rfl rfl hl.1 rfl (lv_room (Nat.le_of_ble_eq_true rfl)) dX0_adjustedByte_3 ⟨Nat.le_of_ble_eq_true rfl, Nat.le_of_ble_eq_true rfl⟩) hP hD hS hA (fun r_1 u_2 H locs hw hP hD hS => ?_)
  obtain ⟨er_1, eu_2⟩ := hw
  have hP : va_P (dC, dI) vwCl [(h0, .inr (1, [.int u_2]))] H := hP
  have hD : va_D A [(h0, .inr (1, [.int u_2]))] := hD
  exact W.iret (v := r_1) hx hb hr (fun t ht hW => ⟨⟨r_1, u_2, rfl, ⟨(by subst er_1; subst eu_2; simp only [f_X0_adjustedByte]), (by subst er_1; subst eu_2; simp only [f_X0_adjustedByte])⟩, by rw [ht]; exact hP, va_K.moved hW.alike hK, hD⟩, hS.F ht⟩) hS.2.2 dX0_adjustedByte_6

/-- what X0_adjustedSum answers -/
def f_X0_adjustedSum (f : Int32) (a1 : Int32) : Int32 × Int32 :=
  let y_1 : Int32 := (f_X0_needsLowerGap f a1)
  let y_2 : Int32 := (f_X0_needsUpperGap f a1)
  let u_4 : Int32 := (f_X0_put f 16 y_1)
  let u_6 : Int32 := (f_X0_put u_4 1 y_2)
  let r_7 : Int32 := (f_X0_adjustedByte u_6 (a1 + (f_X0_gap y_1 y_2))).1
  let u_8 : Int32 := (f_X0_adjustedByte u_6 (a1 + (f_X0_gap y_1 y_2))).2
  (r_7, u_8)
set_option maxHeartbeats 4000000 in
set_option maxRecDepth 100000 in
theorem p_X0_adjustedSum (l : Launch) (dC : Nat → ClassId) (dI : Nat → Nat → Nat) (h0 : Nat) (sz : Nat) (f : Int32) (a1 : Int32) : Met l yX0_adjustedSum wsX0_adjustedSum ({ frames := 5, cells := 0, slots := 0, locals := 107 }) (va_Pc [.ref h0, .int a1] (wr_pre (dC, dI) 1 h0 sz [.int f])) (va_Qi (fun (r : Int32) (u : Int32) => r = (f_X0_adjustedSum f a1).1 ∧ u = (f_X0_adjustedSum f a1).2) (wr_at (dC, dI) 1 h0 (fun u : Int32 => [.int u]) (wr_A 1 h0 sz [.int f])) (wr_A 1 h0 sz [.int f])) 0 0 (wr_A 1 h0 sz [.int f]) := by
  refine Met.ofW (cc := cX0_adjustedSum) (maxL := 4) (ret := (some .int)) (by decide) rfl ?_
  intro p e s m args below meth c s₁ B hml hv
  obtain ⟨rfl, hsz, hP, hK, hD0⟩ := hv
  have hx := B.exec
  have hb := B.bytes
  have hr := B.returns
  have hts := atoms_spec (ws := wsX0_adjustedSum) B.pre
  have hown : s.vm.findClass RX0 = some m.cls := findClass_of_methodNamed B.named
  have hlocks := B.notSynchronized
  subst hsz
  have hD : va_D (wr_A 1 h0 s.heap.size [.int f]) [(h0, .inr (1, [.int f]))] := hD0.self (sz := s.heap.size)
  generalize hAe : wr_A 1 h0 s.heap.size [.int f] = A at hD ⊢
  have hA : ∀ q : Nat, s.heap.size ≤ q → A q := fun q h => by rw [← hAe]; exact Or.inr h
  have hS : va_S A s.heap s.heap [] := va_S.rf
  have hP : va_P (dC, dI) vwCl [(h0, .inr (1, [.int f]))] s.heap := hP
  have hD : va_D A [(h0, .inr (1, [.int f]))] := hD
  have hl := lv_entry ([.ref h0, .int a1]) (n := 4) (Nat.le_of_ble_eq_true rfl)
  rw [lg_entry_eq]
  generalize (lg_sl ([.ref h0, .int a1]) ++ List.replicate (4 - (lg_sl ([.ref h0, .int a1])).length) Slot.unset).toArray = ls at hl ⊢
  have hl : lv_has ls 4 [(0, .ref h0), (1, .int a1)] := hl
  refine lv_aload_n hx hb dX0_adjustedSum_0 rfl (lv_at hl 0 rfl) ?_
  refine lv_iload_n hx hb dX0_adjustedSum_1 rfl (lv_at hl 1 rfl) ?_
  refine pu_calli (F := (f_X0_needsLowerGap f a1)) (va_runV (As := [.int a1]) (rest := []) ⟨hx, hb, hml, hown, hts⟩ (p_X0_needsLowerGap l dC dI h0 _ f a1) (cwV 1 hts gX0_adjustedSum_X0_needsLowerGap rfl rfl rfl (by decide +kernel) ⟨Nat.le_of_ble_eq_true rfl, Nat.le_of_ble_eq_true rfl⟩) (pu_preV (ci := 1) rfl hK hP) rfl rfl hl.1 rfl (lv_room (Nat.le_of_ble_eq_true rfl)) dX0_adjustedSum_2 ⟨Nat.le_of_ble_eq_true rfl, Nat.le_of_ble_eq_true rfl⟩) ?_
  refine lv_topi (fun y_1 ey_1 => ?_)
  refine lv_istore_n (lv' := [(2, .int y_1), (0, .ref h0), (1, .int a1)]) hx hb dX0_adjustedSum_5 rfl hl (by decide) rfl (fun ls hl => ?_)
  refine lv_aload_n hx hb dX0_adjustedSum_6 rfl (lv_at hl 1 rfl) ?_
  refine lv_iload_n hx hb dX0_adjustedSum_7 rfl (lv_at hl 2 rfl) ?_
  refine pu_calli (F := (f_X0_needsUpperGap f a1)) (va_runV (As := [.int a1]) (rest := []) ⟨hx, hb, hml, hown, hts⟩ (p_X0_needsUpperGap l dC dI h0 _ f a1) (cwV 1 hts gX0_adjustedSum_X0_needsUpperGap rfl rfl rfl (by decide +kernel) ⟨Nat.le_of_ble_eq_true rfl, Nat.le_of_ble_eq_true rfl⟩) (pu_preV (ci := 1) rfl hK hP) rfl rfl hl.1 rfl (lv_room (Nat.le_of_ble_eq_true rfl)) dX0_adjustedSum_8 ⟨Nat.le_of_ble_eq_true rfl, Nat.le_of_ble_eq_true rfl⟩) ?_
  refine lv_topi (fun y_2 ey_2 => ?_)
  refine lv_istore_n (lv' := [(3, .int y_2), (2, .int y_1), (0, .ref h0), (1, .int a1)]) hx hb dX0_adjustedSum_11 rfl hl (by decide) rfl (fun ls hl => ?_)
  refine lv_aload_n hx hb dX0_adjustedSum_12 rfl (lv_at hl 2 rfl) ?_
  refine lv_bipush (v := 16) hx hb dX0_adjustedSum_13 (by decide +kernel) ?_
  refine lv_iload_n hx hb dX0_adjustedSum_15 rfl (lv_at hl 1 rfl) ?_
  refine wr_callv (va_runV (As := [.int 16, .int y_1]) (rest := []) ⟨hx, hb, hml, hown, hts⟩ (p_X0_put l dC dI h0 _ f 16 y_1) (cwV 2 hts gX0_adjustedSum_X0_put rfl rfl rfl (by decide +kernel) ⟨Nat.le_of_ble_eq_true rfl, Nat.le_of_ble_eq_true rfl⟩) (wr_preV (ci := 1) rfl hK hP hD) rfl rfl hl.1 rfl (lv_room (Nat.le_of_ble_eq_true rfl)) dX0_adjustedSum_16 ⟨Nat.le_of_ble_eq_true rfl, Nat.le_of_ble_eq_true rfl⟩) hP hD hS hA (fun u_4 H locs eu_4 hP hD hS => ?_)
  have hP : va_P (dC, dI) vwCl [(h0, .inr (1, [.int u_4]))] H := hP
  have hD : va_D A [(h0, .inr (1, [.int u_4]))] := hD
  refine lv_aload_n hx hb dX0_adjustedSum_19 rfl (lv_at hl 2 rfl) ?_
  refine lv_iconst (v := 1) hx hb dX0_adjustedSum_20 (by decide) ?_
  refine lv_iload_n hx hb dX0_adjustedSum_21 rfl (lv_at hl 0 rfl) ?_
  refine wr_callv (va_runV (As := [.int 1, .int y_2]) (rest := []) ⟨hx, hb, hml, hown, hts⟩ (p_X0_put l dC dI h0 _ u_4 1 y_2) (cwV 2 hts gX0_adjustedSum_X0_put rfl rfl rfl (by decide +kernel) ⟨Nat.le_of_ble_eq_true rfl, Nat.le_of_ble_eq_true rfl⟩) (wr_preV (ci := 1) rfl hK hP hD) rfl rfl hl.1 rfl (lv_room (Nat.le_of_ble_eq_true rfl)) dX0_adjustedSum_22 ⟨Nat.le_of_ble_eq_true rfl, Nat.le_of_ble_eq_true rfl⟩) hP hD hS hA (fun u_6 H locs eu_6 hP hD hS => ?_)
  have hP : va_P (dC, dI) vwCl [(h0, .inr (1, [.int u_6]))] H := hP
  have hD : va_D A [(h0, .inr (1, [.int u_6]))] := hD
  refine lv_aload_n hx hb dX0_adjustedSum_25 rfl (lv_at hl 2 rfl) ?_
  refine lv_iload_n hx hb dX0_adjustedSum_26 rfl (lv_at hl 3 rfl) ?_
  refine lv_iload_n hx hb dX0_adjustedSum_27 rfl (lv_at hl 1 rfl) ?_
  refine lv_iload_n hx hb dX0_adjustedSum_28 rfl (lv_at hl 0 rfl) ?_
  refine pu_calli (F := (f_X0_gap y_1 y_2)) (va_runS (As := [.int y_1, .int y_2]) (rest := [.int a1, .ref h0]) ⟨hx, hb, hml, hown, hts⟩ (p_X0_gap l _ y_1 y_2) (va_cwS 2 hts gX0_adjustedSum_X0_gap rfl rfl rfl (by decide +kernel) ⟨Nat.le_of_ble_eq_true rfl, Nat.le_of_ble_eq_true rfl⟩) pu_preS rfl rfl hl.1 rfl (lv_room (Nat.le_of_ble_eq_true rfl)) dX0_adjustedSum_29 ⟨Nat.le_of_ble_eq_true rfl, Nat.le_of_ble_eq_true rfl⟩) ?_
  refine lv_iadd hx hb dX0_adjustedSum_32 ?_
  refine wr_calli (va_runV (As := [.int (a1 + (f_X0_gap y_1 y_2))]) (rest := []) ⟨hx, hb, hml, hown, hts⟩ (p_X0_adjustedByte l dC dI h0 _ u_6 (a1 + (f_X0_gap y_1 y_2))) (cwV 1 hts gX0_adjustedSum_X0_adjustedByte rfl rfl rfl (by decide +kernel) ⟨Nat.le_of_ble_eq_true rfl, Nat.le_of_ble_eq_true rfl⟩) (wr_preV (ci := 1) rfl hK hP hD) rfl rfl hl.1 rfl (lv_room (Nat.le_of_ble_eq_true rfl)) dX0_adjustedSum_33 ⟨Nat.le_of_ble_eq_true rfl, Nat.le_of_ble_eq_true rfl⟩) hP hD hS hA (fun r_7 u_8 H locs hw hP hD hS => ?_)
  obtain ⟨er_7, eu_8⟩ := hw
  have hP : va_P (dC, dI) vwCl [(h0, .inr (1, [.int u_8]))] H := hP
  have hD : va_D A [(h0, .inr (1, [.int u_8]))] := hD
  exact W.iret (v := r_7) hx hb hr (fun t ht hW => ⟨⟨r_7, u_8, rfl, ⟨(by subst ey_1; subst ey_2; subst eu_4; subst eu_6; subst er_7; subst eu_8; simp only [f_X0_adjustedSum]), (by subst ey_1; subst ey_2; subst eu_4; subst eu_6; subst er_7; subst eu_8; simp only [f_X0_adjustedSum])⟩, by rw [ht]; exact hP, va_K.moved hW.alike hK, hD⟩, hS.F ht⟩) hS.2.2 dX0_adjustedSum_36

/-- what X0_adjustedDifference answers -/
def f_X0_adjustedDifference (f : Int32) (a1 : Int32) : Int32 × Int32 :=
  let y_1 : Int32 := (f_X0_needsLowerGap f a1)
  let y_2 : Int32 := (f_X0_needsUpperGap f a1)
  let u_4 : Int32 := (f_X0_put f 16 y_1)
  let y_5 : Int32 := (if y_2 = 0 then (if y_1 = 0 then 0 else (if 6 ≤ a1 then 0 else 1)) else 1)
  let u_10 : Int32 := (f_X0_put u_4 1 y_5)
  let r_11 : Int32 := (f_X0_adjustedByte u_10 (a1 - (f_X0_gap y_1 y_2))).1
  let u_12 : Int32 := (f_X0_adjustedByte u_10 (a1 - (f_X0_gap y_1 y_2))).2
  (r_11, u_12)
set_option maxHeartbeats 4000000 in
set_option maxRecDepth 100000 in
theorem p_X0_adjustedDifference (l : Launch) (dC : Nat → ClassId) (dI : Nat → Nat → Nat) (h0 : Nat) (sz : Nat) (f : Int32) (a1 : Int32) : Met l yX0_adjustedDifference wsX0_adjustedDifference ({ frames := 5, cells := 0, slots := 0, locals := 107 }) (va_Pc [.ref h0, .int a1] (wr_pre (dC, dI) 1 h0 sz [.int f])) (va_Qi (fun (r : Int32) (u : Int32) => r = (f_X0_adjustedDifference f a1).1 ∧ u = (f_X0_adjustedDifference f a1).2) (wr_at (dC, dI) 1 h0 (fun u : Int32 => [.int u]) (wr_A 1 h0 sz [.int f])) (wr_A 1 h0 sz [.int f])) 0 0 (wr_A 1 h0 sz [.int f]) := by
  refine Met.ofW (cc := cX0_adjustedDifference) (maxL := 4) (ret := (some .int)) (by decide) rfl ?_
  intro p e s m args below meth c s₁ B hml hv
  obtain ⟨rfl, hsz, hP, hK, hD0⟩ := hv
  have hx := B.exec
  have hb := B.bytes
  have hr := B.returns
  have hts := atoms_spec (ws := wsX0_adjustedDifference) B.pre
  have hown : s.vm.findClass RX0 = some m.cls := findClass_of_methodNamed B.named
  have hlocks := B.notSynchronized
  subst hsz
  have hD : va_D (wr_A 1 h0 s.heap.size [.int f]) [(h0, .inr (1, [.int f]))] := hD0.self (sz := s.heap.size)
  generalize hAe : wr_A 1 h0 s.heap.size [.int f] = A at hD ⊢
  have hA : ∀ q : Nat, s.heap.size ≤ q → A q := fun q h => by rw [← hAe]; exact Or.inr h
  have hS : va_S A s.heap s.heap [] := va_S.rf
  have hP : va_P (dC, dI) vwCl [(h0, .inr (1, [.int f]))] s.heap := hP
  have hD : va_D A [(h0, .inr (1, [.int f]))] := hD
  have hl := lv_entry ([.ref h0, .int a1]) (n := 4) (Nat.le_of_ble_eq_true rfl)
  rw [lg_entry_eq]
  generalize (lg_sl ([.ref h0, .int a1]) ++ List.replicate (4 - (lg_sl ([.ref h0, .int a1])).length) Slot.unset).toArray = ls at hl ⊢
  have hl : lv_has ls 4 [(0, .ref h0), (1, .int a1)] := hl
  refine lv_aload_n hx hb dX0_adjustedDifference_0 rfl (lv_at hl 0 rfl) ?_
  refine lv_iload_n hx hb dX0_adjustedDifference_1 rfl (lv_at hl 1 rfl) ?_
  refine pu_calli (F := (f_X0_needsLowerGap f a1)) (va_runV (As := [.int a1]) (rest := []) ⟨hx, hb, hml, hown, hts⟩ (p_X0_needsLowerGap l dC dI h0 _ f a1) (cwV 1 hts gX0_adjustedDifference_X0_needsLowerGap rfl rfl rfl (by decide +kernel) ⟨Nat.le_of_ble_eq_true rfl, Nat.le_of_ble_eq_true rfl⟩) (pu_preV (ci := 1) rfl hK hP) rfl rfl hl.1 rfl (lv_room (Nat.le_of_ble_eq_true rfl)) dX0_adjustedDifference_2 ⟨Nat.le_of_ble_eq_true rfl, Nat.le_of_ble_eq_true rfl⟩) ?_
  refine lv_topi (fun y_1 ey_1 => ?_)
  refine lv_istore_n (lv' := [(2, .int y_1), (0, .ref h0), (1, .int a1)]) hx hb dX0_adjustedDifference_5 rfl hl (by decide) rfl (fun ls hl => ?_)
  refine lv_aload_n hx hb dX0_adjustedDifference_6 rfl (lv_at hl 1 rfl) ?_
  refine lv_iload_n hx hb dX0_adjustedDifference_7 rfl (lv_at hl 2 rfl) ?_
  refine pu_calli (F := (f_X0_needsUpperGap f a1)) (va_runV (As := [.int a1]) (rest := []) ⟨hx, hb, hml, hown, hts⟩ (p_X0_needsUpperGap l dC dI h0 _ f a1) (cwV 1 hts gX0_adjustedDifference_X0_needsUpperGap rfl rfl rfl (by decide +kernel) ⟨Nat.le_of_ble_eq_true rfl, Nat.le_of_ble_eq_true rfl⟩) (pu_preV (ci := 1) rfl hK hP) rfl rfl hl.1 rfl (lv_room (Nat.le_of_ble_eq_true rfl)) dX0_adjustedDifference_8 ⟨Nat.le_of_ble_eq_true rfl, Nat.le_of_ble_eq_true rfl⟩) ?_
  refine lv_topi (fun y_2 ey_2 => ?_)
  refine lv_istore_n (lv' := [(3, .int y_2), (2, .int y_1), (0, .ref h0), (1, .int a1)]) hx hb dX0_adjustedDifference_11 rfl hl (by decide) rfl (fun ls hl => ?_)
  refine lv_aload_n hx hb dX0_adjustedDifference_12 rfl (lv_at hl 2 rfl) ?_
  refine lv_bipush (v := 16) hx hb dX0_adjustedDifference_13 (by decide +kernel) ?_
  refine lv_iload_n hx hb dX0_adjustedDifference_15 rfl (lv_at hl 1 rfl) ?_
  refine wr_callv (va_runV (As := [.int 16, .int y_1]) (rest := []) ⟨hx, hb, hml, hown, hts⟩ (p_X0_put l dC dI h0 _ f 16 y_1) (cwV 2 hts gX0_adjustedDifference_X0_put rfl rfl rfl (by decide +kernel) ⟨Nat.le_of_ble_eq_true rfl, Nat.le_of_ble_eq_true rfl⟩) (wr_preV (ci := 1) rfl hK hP hD) rfl rfl hl.1 rfl (lv_room (Nat.le_of_ble_eq_true rfl)) dX0_adjustedDifference_16 ⟨Nat.le_of_ble_eq_true rfl, Nat.le_of_ble_eq_true rfl⟩) hP hD hS hA (fun u_4 H locs eu_4 hP hD hS => ?_)
  have hP : va_P (dC, dI) vwCl [(h0, .inr (1, [.int u_4]))] H := hP
  have hD : va_D A [(h0, .inr (1, [.int u_4]))] := hD
  refine lv_aload_n hx hb dX0_adjustedDifference_19 rfl (lv_at hl 2 rfl) ?_
  refine lv_iconst (v := 1) hx hb dX0_adjustedDifference_20 (by decide) ?_
  refine lv_iload_n hx hb dX0_adjustedDifference_21 rfl (lv_at hl 0 rfl) ?_
  refine rg (J := 40) (st := [.int 1, .ref h0]) (if y_2 = 0 then (if y_1 = 0 then 0 else (if 6 ≤ a1 then 0 else 1)) else 1) (fun k => ?_) (fun y_5 ey_5 => ?_)
  · refine lv_if_ne (tgt := 35) hx hb dX0_adjustedDifference_22 (by decide) (fun c_6 => ?_) (fun c_6 => ?_)
    · refine lv_iconst (v := 1) hx hb dX0_adjustedDifference_35 (by decide) ?_
      refine lv_goto (tgt := 40) hx hb dX0_adjustedDifference_36 (by decide) ?_
      exact rg_e k (by first | rw [if_neg c_6] | simp only [if_neg c_6])
    · refine lv_iload_n hx hb dX0_adjustedDifference_25 rfl (lv_at hl 1 rfl) ?_
      refine lv_if_eq (tgt := 39) hx hb dX0_adjustedDifference_26 (by decide) (fun c_7 => ?_) (fun c_7 => ?_)
      · refine lv_iconst (v := 0) hx hb dX0_adjustedDifference_39 (by decide) ?_
        exact rg_e k (by first | rw [if_pos c_6, if_pos c_7] | simp only [if_pos c_6, if_pos c_7])
      · refine lv_iload_n hx hb dX0_adjustedDifference_29 rfl (lv_at hl 3 rfl) ?_
        refine lv_bipush (v := 6) hx hb dX0_adjustedDifference_30 (by decide +kernel) ?_
        refine lv_icmp_ge (tgt := 39) hx hb dX0_adjustedDifference_32 (by decide) (fun c_8 => ?_) (fun c_8 => ?_)
        · refine lv_iconst (v := 0) hx hb dX0_adjustedDifference_39 (by decide) ?_
          exact rg_e k (by first | rw [if_pos c_6, if_neg c_7, if_pos c_8] | simp only [if_pos c_6, if_neg c_7, if_pos c_8])
        · refine lv_iconst (v := 1) hx hb dX0_adjustedDifference_35 (by decide) ?_
          refine lv_goto (tgt := 40) hx hb dX0_adjustedDifference_36 (by decide) ?_
          exact rg_e k (by first | rw [if_pos c_6, if_neg c_7, if_neg c_8] | simp only [if_pos c_6, if_neg c_7, if_neg c_8])
  refine wr_callv (va_runV (As := [.int 1, .int y_5]) (rest := []) ⟨hx, hb, hml, hown, hts⟩ (p_X0_put l dC dI h0 _ u_4 1 y_5) (cwV 2 hts gX0_adjustedDifference_X0_put rfl rfl rfl (by decide +kernel) ⟨Nat.le_of_ble_eq_true rfl, Nat.le_of_ble_eq_true rfl⟩) (wr_preV (ci := 1) rfl hK hP hD) rfl rfl hl.1 rfl (lv_room (Nat.le_of_ble_eq_true rfl)) dX0_adjustedDifference_40 ⟨Nat.le_of_ble_eq_true rfl, Nat.le_of_ble_eq_true rfl⟩) hP hD hS hA (fun u_10 H locs eu_10 hP hD hS => ?_)
  have hP : va_P (dC, dI) vwCl [(h0, .inr (1, [.int u_10]))] H := hP
  have hD : va_D A [(h0, .inr (1, [.int u_10]))] := hD
  refine lv_aload_n hx hb dX0_adjustedDifference_43 rfl (lv_at hl 2 rfl) ?_
  refine lv_iload_n hx hb dX0_adjustedDifference_44 rfl (lv_at hl 3 rfl) ?_
  refine lv_iload_n hx hb dX0_adjustedDifference_45 rfl (lv_at hl 1 rfl) ?_
  refine lv_iload_n hx hb dX0_adjustedDifference_46 rfl (lv_at hl 0 rfl) ?_
  refine pu_calli (F := (f_X0_gap y_1 y_2)) (va_runS (As := [.int y_1, .int y_2]) (rest := [.int a1, .ref h0]) ⟨hx, hb, hml, hown, hts⟩ (p_X0_gap l _ y_1 y_2) (va_cwS 2 hts gX0_adjustedDifference_X0_gap rfl rfl rfl (by decide +kernel) ⟨Nat.le_of_ble_eq_true rfl, Nat.le_of_ble_eq_true rfl⟩) pu_preS rfl rfl hl.1 rfl (lv_room (Nat.le_of_ble_eq_true rfl)) dX0_adjustedDifference_47 ⟨Nat.le_of_ble_eq_true rfl, Nat.le_of_ble_eq_true rfl⟩) ?_
  refine lv_isub hx hb dX0_adjustedDifference_50 ?_
  refine wr_calli (va_runV (As := [.int (a1 - (f_X0_gap y_1 y_2))]) (rest := []) ⟨hx, hb, hml, hown, hts⟩ (p_X0_adjustedByte l dC dI h0 _ u_10 (a1 - (f_X0_gap y_1 y_2))) (cwV 1 hts gX0_adjustedDifference_X0_adjustedByte rfl rfl rfl (by decide +kernel) ⟨Nat.le_of_ble_eq_true rfl, Nat.le_of_ble_eq_true rfl⟩) (wr_preV (ci := 1) rfl hK hP hD) rfl rfl hl.1 rfl (lv_room (Nat.le_of_ble_eq_true rfl)) dX0_adjustedDifference_51 ⟨Nat.le_of_ble_eq_true rfl, Nat.le_of_ble_eq_true rfl⟩) hP hD hS hA (fun r_11 u_12 H locs hw hP hD hS => ?_)
  obtain ⟨er_11, eu_12⟩ := hw
  have hP : va_P (dC, dI) vwCl [(h0, .inr (1, [.int u_12]))] H := hP
  have hD : va_D A [(h0, .inr (1, [.int u_12]))] := hD
  exact W.iret (v := r_11) hx hb hr (fun t ht hW => ⟨⟨r_11, u_12, rfl, ⟨(by subst ey_1; subst ey_2; subst eu_4; subst ey_5; subst eu_10; subst er_11; subst eu_12; simp only [f_X0_adjustedDifference]), (by subst ey_1; subst ey_2; subst eu_4; subst ey_5; subst eu_10; subst er_11; subst eu_12; simp only [f_X0_adjustedDifference])⟩, by rw [ht]; exact hP, va_K.moved hW.alike hK, hD⟩, hS.F ht⟩) hS.2.2 dX0_adjustedDifference_54

/-- what X0_adjustedDigit answers -/
def f_X0_adjustedDigit (f : Int32) (a1 : Int32) (a2 : Int32) (a3 : Int32) : Int32 × Int32 :=
  let y_1 : Int32 := (f_X0_needsLowerGap f a2)
  let u_3 : Int32 := (f_X0_put f 16 y_1)
  let u_5 : Int32 := (f_X0_put u_3 1 y_1)
  let y_6 : Int32 := (if y_1 = 0 then a1 else (a1 + a3))
  let y_8 : Int32 := (if y_1 = 0 then a2 else (a2 + (a3 * 6)))
  ((f_X0_joined y_6 (y_8 &&& 15)), u_5)
set_option maxHeartbeats 4000000 in
set_option maxRecDepth 100000 in
theorem p_X0_adjustedDigit (l : Launch) (dC : Nat → ClassId) (dI : Nat → Nat → Nat) (h0 : Nat) (sz : Nat) (f : Int32) (a1 : Int32) (a2 : Int32) (a3 : Int32) : Met l yX0_adjustedDigit wsX0_adjustedDigit ({ frames := 2, cells := 0, slots := 0, locals := 42 }) (va_Pc [.ref h0, .int a1, .int a2, .int a3] (wr_pre (dC, dI) 1 h0 sz [.int f])) (va_Qi (fun (r : Int32) (u : Int32) => r = (f_X0_adjustedDigit f a1 a2 a3).1 ∧ u = (f_X0_adjustedDigit f a1 a2 a3).2) (wr_at (dC, dI) 1 h0 (fun u : Int32 => [.int u]) (wr_A 1 h0 sz [.int f])) (wr_A 1 h0 sz [.int f])) 0 0 (wr_A 1 h0 sz [.int f]) := by
  refine Met.ofW (cc := cX0_adjustedDigit) (maxL := 7) (ret := (some .int)) (by decide) rfl ?_
  intro p e s m args below meth c s₁ B hml hv
  obtain ⟨rfl, hsz, hP, hK, hD0⟩ := hv
  have hx := B.exec
  have hb := B.bytes
  have hr := B.returns
  have hts := atoms_spec (ws := wsX0_adjustedDigit) B.pre
  have hown : s.vm.findClass RX0 = some m.cls := findClass_of_methodNamed B.named
  have hlocks := B.notSynchronized
  subst hsz
  have hD : va_D (wr_A 1 h0 s.heap.size [.int f]) [(h0, .inr (1, [.int f]))] := hD0.self (sz := s.heap.size)
  generalize hAe : wr_A 1 h0 s.heap.size [.int f] = A at hD ⊢
  have hA : ∀ q : Nat, s.heap.size ≤ q → A q := fun q h => by rw [← hAe]; exact Or.inr h
  have hS : va_S A s.heap s.heap [] := va_S.rf
  have hP : va_P (dC, dI) vwCl [(h0, .inr (1, [.int f]))] s.heap := hP
  have hD : va_D A [(h0, .inr (1, [.int f]))] := hD
  have hl := lv_entry ([.ref h0, .int a1, .int a2, .int a3]) (n := 7) (Nat.le_of_ble_eq_true rfl)
  rw [lg_entry_eq]
  generalize (lg_sl ([.ref h0, .int a1, .int a2, .int a3]) ++ List.replicate (7 - (lg_sl ([.ref h0, .int a1, .int a2, .int a3])).length) Slot.unset).toArray = ls at hl ⊢
  have hl : lv_has ls 7 [(0, .ref h0), (1, .int a1), (2, .int a2), (3, .int a3)] := hl
  refine lv_aload_n hx hb dX0_adjustedDigit_0 rfl (lv_at hl 0 rfl) ?_
  refine lv_iload_n hx hb dX0_adjustedDigit_1 rfl (lv_at hl 2 rfl) ?_
  refine pu_calli (F := (f_X0_needsLowerGap f a2)) (va_runV (As := [.int a2]) (rest := []) ⟨hx, hb, hml, hown, hts⟩ (p_X0_needsLowerGap l dC dI h0 _ f a2) (cwV 1 hts gX0_adjustedDigit_X0_needsLowerGap rfl rfl rfl (by decide +kernel) ⟨Nat.le_of_ble_eq_true rfl, Nat.le_of_ble_eq_true rfl⟩) (pu_preV (ci := 1) rfl hK hP) rfl rfl hl.1 rfl (lv_room (Nat.le_of_ble_eq_true rfl)) dX0_adjustedDigit_2 ⟨Nat.le_of_ble_eq_true rfl, Nat.le_of_ble_eq_true rfl⟩) ?_
  refine lv_topi (fun y_1 ey_1 => ?_)
  refine lv_istore (lv' := [(4, .int y_1), (0, .ref h0), (1, .int a1), (2, .int a2), (3, .int a3)]) hx hb dX0_adjustedDigit_5 hl (by decide) rfl (fun ls hl => ?_)
  refine lv_aload_n hx hb dX0_adjustedDigit_7 rfl (lv_at hl 1 rfl) ?_
  refine lv_bipush (v := 16) hx hb dX0_adjustedDigit_8 (by decide +kernel) ?_
  refine lv_iload hx hb dX0_adjustedDigit_10 (lv_at hl 0 rfl) ?_
  refine wr_callv (va_runV (As := [.int 16, .int y_1]) (rest := []) ⟨hx, hb, hml, hown, hts⟩ (p_X0_put l dC dI h0 _ f 16 y_1) (cwV 2 hts gX0_adjustedDigit_X0_put rfl rfl rfl (by decide +kernel) ⟨Nat.le_of_ble_eq_true rfl, Nat.le_of_ble_eq_true rfl⟩) (wr_preV (ci := 1) rfl hK hP hD) rfl rfl hl.1 rfl (lv_room (Nat.le_of_ble_eq_true rfl)) dX0_adjustedDigit_12 ⟨Nat.le_of_ble_eq_true rfl, Nat.le_of_ble_eq_true rfl⟩) hP hD hS hA (fun u_3 H locs eu_3 hP hD hS => ?_)
  have hP : va_P (dC, dI) vwCl [(h0, .inr (1, [.int u_3]))] H := hP
  have hD : va_D A [(h0, .inr (1, [.int u_3]))] := hD
  refine lv_aload_n hx hb dX0_adjustedDigit_15 rfl (lv_at hl 1 rfl) ?_
  refine lv_iconst (v := 1) hx hb dX0_adjustedDigit_16 (by decide) ?_
  refine lv_iload hx hb dX0_adjustedDigit_17 (lv_at hl 0 rfl) ?_
  refine wr_callv (va_runV (As := [.int 1, .int y_1]) (rest := []) ⟨hx, hb, hml, hown, hts⟩ (p_X0_put l dC dI h0 _ u_3 1 y_1) (cwV 2 hts gX0_adjustedDigit_X0_put rfl rfl rfl (by decide +kernel) ⟨Nat.le_of_ble_eq_true rfl, Nat.le_of_ble_eq_true rfl⟩) (wr_preV (ci := 1) rfl hK hP hD) rfl rfl hl.1 rfl (lv_room (Nat.le_of_ble_eq_true rfl)) dX0_adjustedDigit_19 ⟨Nat.le_of_ble_eq_true rfl, Nat.le_of_ble_eq_true rfl⟩) hP hD hS hA (fun u_5 H locs eu_5 hP hD hS => ?_)
  have hP : va_P (dC, dI) vwCl [(h0, .inr (1, [.int u_5]))] H := hP
  have hD : va_D A [(h0, .inr (1, [.int u_5]))] := hD
  refine lv_iload hx hb dX0_adjustedDigit_22 (lv_at hl 0 rfl) ?_
  refine rg (J := 34) (st := []) (if y_1 = 0 then a1 else (a1 + a3)) (fun k => ?_) (fun y_6 ey_6 => ?_)
  · refine lv_if_eq (tgt := 33) hx hb dX0_adjustedDigit_24 (by decide) (fun c_7 => ?_) (fun c_7 => ?_)
    · refine lv_iload_n hx hb dX0_adjustedDigit_33 rfl (lv_at hl 2 rfl) ?_
      exact rg_e k (by first | rw [if_pos c_7] | simp only [if_pos c_7])
    · refine lv_iload_n hx hb dX0_adjustedDigit_27 rfl (lv_at hl 2 rfl) ?_
      refine lv_iload_n hx hb dX0_adjustedDigit_28 rfl (lv_at hl 4 rfl) ?_
      refine lv_iadd hx hb dX0_adjustedDigit_29 ?_
      refine lv_goto (tgt := 34) hx hb dX0_adjustedDigit_30 (by decide) ?_
      exact rg_e k (by first | rw [if_neg c_7] | simp only [if_neg c_7])
  refine lv_istore (lv' := [(5, .int y_6), (4, .int y_1), (0, .ref h0), (1, .int a1), (2, .int a2), (3, .int a3)]) hx hb dX0_adjustedDigit_34 hl (by decide) rfl (fun ls hl => ?_)
  refine lv_iload hx hb dX0_adjustedDigit_36 (lv_at hl 1 rfl) ?_
  refine rg (J := 51) (st := []) (if y_1 = 0 then a2 else (a2 + (a3 * 6))) (fun k => ?_) (fun y_8 ey_8 => ?_)
  · refine lv_if_eq (tgt := 50) hx hb dX0_adjustedDigit_38 (by decide) (fun c_9 => ?_) (fun c_9 => ?_)
    · refine lv_iload_n hx hb dX0_adjustedDigit_50 rfl (lv_at hl 4 rfl) ?_
      exact rg_e k (by first | rw [if_pos c_9] | simp only [if_pos c_9])
    · refine lv_iload_n hx hb dX0_adjustedDigit_41 rfl (lv_at hl 4 rfl) ?_
      refine lv_iload_n hx hb dX0_adjustedDigit_42 rfl (lv_at hl 5 rfl) ?_
      refine lv_bipush (v := 6) hx hb dX0_adjustedDigit_43 (by decide +kernel) ?_
      refine lv_imul hx hb dX0_adjustedDigit_45 ?_
      refine lv_iadd hx hb dX0_adjustedDigit_46 ?_
      refine lv_goto (tgt := 51) hx hb dX0_adjustedDigit_47 (by decide) ?_
      exact rg_e k (by first | rw [if_neg c_9] | simp only [if_neg c_9])
  refine lv_istore (lv' := [(6, .int y_8), (5, .int y_6), (4, .int y_1), (0, .ref h0), (1, .int a1), (2, .int a2), (3, .int a3)]) hx hb dX0_adjustedDigit_51 hl (by decide) rfl (fun ls hl => ?_)
  refine lv_iload hx hb dX0_adjustedDigit_53 (lv_at hl 1 rfl) ?_
  refine lv_iload hx hb dX0_adjustedDigit_55 (lv_at hl 0 rfl) ?_
  refine lv_bipush (v := 15) hx hb dX0_adjustedDigit_57 (by decide +kernel) ?_
  refine lv_iand hx hb dX0_adjustedDigit_59 ?_
  refine pu_calli (F := (f_X0_joined y_6 (y_8 &&& 15))) (va_runS (As := [.int y_6, .int (y_8 &&& 15)]) (rest := []) ⟨hx, hb, hml, hown, hts⟩ (p_X0_joined l _ y_6 (y_8 &&& 15)) (va_cwS 2 hts gX0_adjustedDigit_X0_joined rfl rfl rfl (by decide +kernel) ⟨Nat.le_of_ble_eq_true rfl, Nat.le_of_ble_eq_true rfl⟩) pu_preS rfl rfl hl.1 rfl (lv_room (Nat.le_of_ble_eq_true rfl)) dX0_adjustedDigit_60 ⟨Nat.le_of_ble_eq_true rfl, Nat.le_of_ble_eq_true rfl⟩) ?_
  exact W.iret (v := (f_X0_joined y_6 (y_8 &&& 15))) hx hb hr (fun t ht hW => ⟨⟨(f_X0_joined y_6 (y_8 &&& 15)), u_5, rfl, ⟨(by subst ey_1; subst eu_3; subst eu_5; subst ey_6; subst ey_8; simp only [f_X0_adjustedDigit]), (by subst ey_1; subst eu_3; subst eu_5; subst ey_6; subst ey_8; simp only [f_X0_adjustedDigit])⟩, by rw [ht]; exact hP, va_K.moved hW.alike hK, hD⟩, hS.F ht⟩) hS.2.2 dX0_adjustedDigit_63

/-- what X0_extend answers -/
def f_X0_extend (a1 : Int32) (a2 : Int32) : Int32 :=
  let y_1 : Int32 := (f_X0_signedValue a1 a2)
  let y_2 : Int32 := (if a1 = 0 then (y_1 &&& 65535) else y_1)
  y_2
set_option maxHeartbeats 4000000 in
set_option maxRecDepth 100000 in
theorem p_X0_extend (l : Launch) (dC : Nat → ClassId) (dI : Nat → Nat → Nat) (h0 : Nat) (HH : Heap) (f : Int32) (a1 : Int32) (a2 : Int32) : Met l yX0_extend wsX0_extend ({ frames := 1, cells := 0, slots := 0, locals := 21 }) (va_Pc [.ref h0, .int a1, .int a2] (pu_pre (dC, dI) 1 h0 HH [.int f])) (va_Qi (fun (r : Int32) (_ : Unit) => r = f_X0_extend a1 a2) (fun _ t => t.heap = HH) (fun _ => False)) 0 0 (fun _ => False) := by
  refine Met.ofW (cc := cX0_extend) (maxL := 4) (ret := (some .int)) (by decide) rfl ?_
  intro p e s m args below meth c s₁ B hml hv
  obtain ⟨rfl, hsz, hP, hK⟩ := hv
  have hx := B.exec
  have hb := B.bytes
  have hr := B.returns
  have hts := atoms_spec (ws := wsX0_extend) B.pre
  have hown : s.vm.findClass RX0 = some m.cls := findClass_of_methodNamed B.named
  have hlocks := B.notSynchronized
  subst hsz
  have hl := lv_entry ([.ref h0, .int a1, .int a2]) (n := 4) (Nat.le_of_ble_eq_true rfl)
  rw [lg_entry_eq]
  generalize (lg_sl ([.ref h0, .int a1, .int a2]) ++ List.replicate (4 - (lg_sl ([.ref h0, .int a1, .int a2])).length) Slot.unset).toArray = ls at hl ⊢
  have hl : lv_has ls 4 [(0, .ref h0), (1, .int a1), (2, .int a2)] := hl
  refine lv_iload_n hx hb dX0_extend_0 rfl (lv_at hl 1 rfl) ?_
  refine lv_iload_n hx hb dX0_extend_1 rfl (lv_at hl 2 rfl) ?_
  refine pu_calli (F := (f_X0_signedValue a1 a2)) (va_runS (As := [.int a1, .int a2]) (rest := []) ⟨hx, hb, hml, hown, hts⟩ (p_X0_signedValue l _ a1 a2) (va_cwS 2 hts gX0_extend_X0_signedValue rfl rfl rfl (by decide +kernel) ⟨Nat.le_of_ble_eq_true rfl, Nat.le_of_ble_eq_true rfl⟩) pu_preS rfl rfl hl.1 rfl (lv_room (Nat.le_of_ble_eq_true rfl)) dX0_extend_2 ⟨Nat.le_of_ble_eq_true rfl, Nat.le_of_ble_eq_true rfl⟩) ?_
  refine lv_topi (fun y_1 ey_1 => ?_)
  refine lv_istore_n (lv' := [(3, .int y_1), (0, .ref h0), (1, .int a1), (2, .int a2)]) hx hb dX0_extend_5 rfl hl (by decide) rfl (fun ls hl => ?_)
  refine lv_iload_n hx hb dX0_extend_6 rfl (lv_at hl 2 rfl) ?_
  refine rg (J := 18) (st := []) (if a1 = 0 then (y_1 &&& 65535) else y_1) (fun k => ?_) (fun y_2 ey_2 => ?_)
  · refine lv_if_eq (tgt := 14) hx hb dX0_extend_7 (by decide) (fun c_3 => ?_) (fun c_3 => ?_)
    · refine lv_iload_n hx hb dX0_extend_14 rfl (lv_at hl 0 rfl) ?_
      refine lv_ldc (own := RX0) (index := 63) (v := 65535) hx hb hown (hts (.constant RX0 63 (65535)) (by decide +kernel)) dX0_extend_15 ?_
      refine lv_iand hx hb dX0_extend_17 ?_
      exact rg_e k (by first | rw [if_pos c_3] | simp only [if_pos c_3])
    · refine lv_iload_n hx hb dX0_extend_10 rfl (lv_at hl 0 rfl) ?_
      refine lv_goto (tgt := 18) hx hb dX0_extend_11 (by decide) ?_
      exact rg_e k (by first | rw [if_neg c_3] | simp only [if_neg c_3])
  exact W.iret (v := y_2) hx hb hr (fun t ht hW => ⟨⟨y_2, (), rfl, (by subst ey_1; subst ey_2; simp only [f_X0_extend]), ht⟩, pu_F ht⟩) (fun q h => nomatch h) dX0_extend_18

/-- what X0_set answers -/
def f_X0_set (a1 : Int32) : Int32 :=
  let y_1 : Int32 := (a1 &&& 4053)
  y_1
set_option maxHeartbeats 4000000 in
set_option maxRecDepth 100000 in
theorem p_X0_set (l : Launch) (dC : Nat → ClassId) (dI : Nat → Nat → Nat) (h0 : Nat) (sz : Nat) (f : Int32) (a1 : Int32) : Met l yX0_set wsX0_set ({ frames := 0, cells := 0, slots := 0, locals := 0 }) (va_Pc [.ref h0, .int a1] (wr_pre (dC, dI) 1 h0 sz [.int f])) (va_Qv (fun u : Int32 => u = f_X0_set a1) (wr_at (dC, dI) 1 h0 (fun u : Int32 => [.int u]) (wr_A 1 h0 sz [.int f])) (wr_A 1 h0 sz [.int f])) 0 0 (wr_A 1 h0 sz [.int f]) := by
  refine Met.ofW (cc := cX0_set) (maxL := 2) (ret := none) (by decide) rfl ?_
  intro p e s m args below meth c s₁ B hml hv
  obtain ⟨rfl, hsz, hP, hK, hD0⟩ := hv
  have hx := B.exec
  have hb := B.bytes
  have hr := B.returns
  have hts := atoms_spec (ws := wsX0_set) B.pre
  have hown : s.vm.findClass RX0 = some m.cls := findClass_of_methodNamed B.named
  have hlocks := B.notSynchronized
  subst hsz
  have hD : va_D (wr_A 1 h0 s.heap.size [.int f]) [(h0, .inr (1, [.int f]))] := hD0.self (sz := s.heap.size)
  generalize hAe : wr_A 1 h0 s.heap.size [.int f] = A at hD ⊢
  have hA : ∀ q : Nat, s.heap.size ≤ q → A q := fun q h => by rw [← hAe]; exact Or.inr h
  have hS : va_S A s.heap s.heap [] := va_S.rf
  have hP : va_P (dC, dI) vwCl [(h0, .inr (1, [.int f]))] s.heap := hP
  have hD : va_D A [(h0, .inr (1, [.int f]))] := hD
  have hl := lv_entry ([.ref h0, .int a1]) (n := 2) (Nat.le_of_ble_eq_true rfl)
  rw [lg_entry_eq]
  generalize (lg_sl ([.ref h0, .int a1]) ++ List.replicate (2 - (lg_sl ([.ref h0, .int a1])).length) Slot.unset).toArray = ls at hl ⊢
  have hl : lv_has ls 2 [(0, .ref h0), (1, .int a1)] := hl
  refine lv_aload_n hx hb dX0_set_0 rfl (lv_at hl 0 rfl) ?_
  refine lv_iload_n hx hb dX0_set_1 rfl (lv_at hl 1 rfl) ?_
  refine lv_sipush (v := 4053) hx hb dX0_set_2 (by decide +kernel) ?_
  refine lv_iand hx hb dX0_set_5 ?_
  refine lv_topi (fun y_1 ey_1 => ?_)
  refine va_put (D := (dC, dI)) (ci := 1) (v := .int y_1) (ty := .int) (C := RX0) (T := TX0) (N := 1) hx hb hts (by decide +kernel) tyX0 tyX0_ok nmX0 hown hK hP hD hS 0 rfl rfl 0 (by decide) (hts (.fieldLink RX0 7 "WordArithmetic" "held" "I") (by decide +kernel)) (fun _ h9 => h9) rfl (by decide +kernel) rfl rfl (Nat.le_of_ble_eq_true rfl) dX0_set_6 (fun H locs hP hD hS => ?_)
  have hP : va_P (dC, dI) vwCl [(h0, .inr (1, [.int y_1]))] H := hP
  have hD : va_D A [(h0, .inr (1, [.int y_1]))] := hD
  exact W.vret hx hb hr (fun t ht hW => ⟨⟨y_1, rfl, (by subst ey_1; simp only [f_X0_set]), by rw [ht]; exact hP, va_K.moved hW.alike hK, hD⟩, hS.F ht⟩) hS.2.2 dX0_set_9

/-- what X0_multiply answers -/
def f_X0_multiply (f : Int32) (a1 : Int32) (a2 : Int32) (a3 : Int32) (a4 : Int32) : Int32 × Int32 :=
  let y_1 : Int64 := ((((f_X0_valueOf a1 a2 a3) : Int32).toInt64) * (((f_X0_valueOf a1 a2 a4) : Int32).toInt64))
  let y_2 : Int32 := (if (lg_cmp y_1 (((f_X0_valueOf a1 a2 ((y_1 : Int64).toInt32)) : Int32).toInt64)) = 0 then 0 else 1)
  let u_5 : Int32 := (f_X0_put f 1 y_2)
  let u_7 : Int32 := (f_X0_put u_5 2048 y_2)
  let y_8 : Int32 := (if a1 = 0 then (((y_1 : Int64).toInt32) &&& 65535) else ((y_1 : Int64).toInt32))
  (y_8, u_7)
set_option maxHeartbeats 4000000 in
set_option maxRecDepth 100000 in
theorem p_X0_multiply (l : Launch) (dC : Nat → ClassId) (dI : Nat → Nat → Nat) (h0 : Nat) (sz : Nat) (f : Int32) (a1 : Int32) (a2 : Int32) (a3 : Int32) (a4 : Int32) : Met l yX0_multiply wsX0_multiply ({ frames := 3, cells := 0, slots := 0, locals := 63 }) (va_Pc [.ref h0, .int a1, .int a2, .int a3, .int a4] (wr_pre (dC, dI) 1 h0 sz [.int f])) (va_Qi (fun (r : Int32) (u : Int32) => r = (f_X0_multiply f a1 a2 a3 a4).1 ∧ u = (f_X0_multiply f a1 a2 a3 a4).2) (wr_at (dC, dI) 1 h0 (fun u : Int32 => [.int u]) (wr_A 1 h0 sz [.int f])) (wr_A 1 h0 sz [.int f])) 0 0 (wr_A 1 h0 sz [.int f]) := by
  refine Met.ofW (cc := cX0_multiply) (maxL := 8) (ret := (some .int)) (by decide) rfl ?_
  intro p e s m args below meth c s₁ B hml hv
  obtain ⟨rfl, hsz, hP, hK, hD0⟩ := hv
  have hx := B.exec
  have hb := B.bytes
  have hr := B.returns
  have hts := atoms_spec (ws := wsX0_multiply) B.pre
  have hown : s.vm.findClass RX0 = some m.cls := findClass_of_methodNamed B.named
  have hlocks := B.notSynchronized
  subst hsz
  have hD : va_D (wr_A 1 h0 s.heap.size [.int f]) [(h0, .inr (1, [.int f]))] := hD0.self (sz := s.heap.size)
  generalize hAe : wr_A 1 h0 s.heap.size [.int f] = A at hD ⊢
  have hA : ∀ q : Nat, s.heap.size ≤ q → A q := fun q h => by rw [← hAe]; exact Or.inr h
  have hS : va_S A s.heap s.heap [] := va_S.rf
  have hP : va_P (dC, dI) vwCl [(h0, .inr (1, [.int f]))] s.heap := hP
  have hD : va_D A [(h0, .inr (1, [.int f]))] := hD
  have hl := lv_entry ([.ref h0, .int a1, .int a2, .int a3, .int a4]) (n := 8) (Nat.le_of_ble_eq_true rfl)
  rw [lg_entry_eq]
  generalize (lg_sl ([.ref h0, .int a1, .int a2, .int a3, .int a4]) ++ List.replicate (8 - (lg_sl ([.ref h0, .int a1, .int a2, .int a3, .int a4])).length) Slot.unset).toArray = ls at hl ⊢
  have hl : lv_has ls 8 [(0, .ref h0), (1, .int a1), (2, .int a2), (3, .int a3), (4, .int a4)] := hl
  refine lv_iload_n hx hb dX0_multiply_0 rfl (lv_at hl 1 rfl) ?_
  refine lv_iload_n hx hb dX0_multiply_1 rfl (lv_at hl 2 rfl) ?_
  refine lv_iload_n hx hb dX0_multiply_2 rfl (lv_at hl 3 rfl) ?_
  refine pu_calli (F := (f_X0_valueOf a1 a2 a3)) (va_runS (As := [.int a1, .int a2, .int a3]) (rest := []) ⟨hx, hb, hml, hown, hts⟩ (p_X0_valueOf l _ a1 a2 a3) (va_cwS 3 hts gX0_multiply_X0_valueOf rfl rfl rfl (by decide +kernel) ⟨Nat.le_of_ble_eq_true rfl, Nat.le_of_ble_eq_true rfl⟩) pu_preS rfl rfl hl.1 rfl (lv_room (Nat.le_of_ble_eq_true rfl)) dX0_multiply_3 ⟨Nat.le_of_ble_eq_true rfl, Nat.le_of_ble_eq_true rfl⟩) ?_
  refine lv_i2l (v := ((f_X0_valueOf a1 a2 a3) : Int32).toInt64) hx hb dX0_multiply_6 rfl ?_
  refine lv_iload_n hx hb dX0_multiply_7 rfl (lv_at hl 1 rfl) ?_
  refine lv_iload_n hx hb dX0_multiply_8 rfl (lv_at hl 2 rfl) ?_
  refine lv_iload hx hb dX0_multiply_9 (lv_at hl 4 rfl) ?_
  refine pu_calli (F := (f_X0_valueOf a1 a2 a4)) (va_runS (As := [.int a1, .int a2, .int a4]) (rest := [.long (((f_X0_valueOf a1 a2 a3) : Int32).toInt64)]) ⟨hx, hb, hml, hown, hts⟩ (p_X0_valueOf l _ a1 a2 a4) (va_cwS 3 hts gX0_multiply_X0_valueOf rfl rfl rfl (by decide +kernel) ⟨Nat.le_of_ble_eq_true rfl, Nat.le_of_ble_eq_true rfl⟩) pu_preS rfl rfl hl.1 rfl (lv_room (Nat.le_of_ble_eq_true rfl)) dX0_multiply_11 ⟨Nat.le_of_ble_eq_true rfl, Nat.le_of_ble_eq_true rfl⟩) ?_
  refine lv_i2l (v := ((f_X0_valueOf a1 a2 a4) : Int32).toInt64) hx hb dX0_multiply_14 rfl ?_
  refine lv_lmul hx hb dX0_multiply_15 ?_
  refine lv_topl (fun y_1 ey_1 => ?_)
  refine lv_lstore (lv' := [(5, .long y_1), (0, .ref h0), (1, .int a1), (2, .int a2), (3, .int a3), (4, .int a4)]) hx hb dX0_multiply_16 hl (by decide) rfl (fun ls hl => ?_)
  refine lv_lload hx hb dX0_multiply_18 (lv_at hl 0 rfl) ?_
  refine lv_iload_n hx hb dX0_multiply_20 rfl (lv_at hl 2 rfl) ?_
  refine lv_iload_n hx hb dX0_multiply_21 rfl (lv_at hl 3 rfl) ?_
  refine lv_lload hx hb dX0_multiply_22 (lv_at hl 0 rfl) ?_
  refine lv_l2i (v := (y_1 : Int64).toInt32) hx hb dX0_multiply_24 rfl ?_
  refine pu_calli (F := (f_X0_valueOf a1 a2 ((y_1 : Int64).toInt32))) (va_runS (As := [.int a1, .int a2, .int ((y_1 : Int64).toInt32)]) (rest := [.long y_1]) ⟨hx, hb, hml, hown, hts⟩ (p_X0_valueOf l _ a1 a2 ((y_1 : Int64).toInt32)) (va_cwS 3 hts gX0_multiply_X0_valueOf rfl rfl rfl (by decide +kernel) ⟨Nat.le_of_ble_eq_true rfl, Nat.le_of_ble_eq_true rfl⟩) pu_preS rfl rfl hl.1 rfl (lv_room (Nat.le_of_ble_eq_true rfl)) dX0_multiply_25 ⟨Nat.le_of_ble_eq_true rfl, Nat.le_of_ble_eq_true rfl⟩) ?_
  refine lv_i2l (v := ((f_X0_valueOf a1 a2 ((y_1 : Int64).toInt32)) : Int32).toInt64) hx hb dX0_multiply_28 rfl ?_
  refine W.lcmp hx hb dX0_multiply_29 ?_
  refine rg (J := 38) (st := []) (if (lg_cmp y_1 (((f_X0_valueOf a1 a2 ((y_1 : Int64).toInt32)) : Int32).toInt64)) = 0 then 0 else 1) (fun k => ?_) (fun y_2 ey_2 => ?_)
  · refine lv_if_eq (tgt := 37) hx hb dX0_multiply_30 (by decide) (fun c_3 => ?_) (fun c_3 => ?_)
    · refine lv_iconst (v := 0) hx hb dX0_multiply_37 (by decide) ?_
      exact rg_e k (by first | rw [if_pos c_3] | simp only [if_pos c_3])
    · refine lv_iconst (v := 1) hx hb dX0_multiply_33 (by decide) ?_
      refine lv_goto (tgt := 38) hx hb dX0_multiply_34 (by decide) ?_
      exact rg_e k (by first | rw [if_neg c_3] | simp only [if_neg c_3])
  refine lv_istore (lv' := [(7, .int y_2), (5, .long y_1), (0, .ref h0), (1, .int a1), (2, .int a2), (3, .int a3), (4, .int a4)]) hx hb dX0_multiply_38 hl (by decide) rfl (fun ls hl => ?_)
  refine lv_aload_n hx hb dX0_multiply_40 rfl (lv_at hl 2 rfl) ?_
  refine lv_iconst (v := 1) hx hb dX0_multiply_41 (by decide) ?_
  refine lv_iload hx hb dX0_multiply_42 (lv_at hl 0 rfl) ?_
  refine wr_callv (va_runV (As := [.int 1, .int y_2]) (rest := []) ⟨hx, hb, hml, hown, hts⟩ (p_X0_put l dC dI h0 _ f 1 y_2) (cwV 2 hts gX0_multiply_X0_put rfl rfl rfl (by decide +kernel) ⟨Nat.le_of_ble_eq_true rfl, Nat.le_of_ble_eq_true rfl⟩) (wr_preV (ci := 1) rfl hK hP hD) rfl rfl hl.1 rfl (lv_room (Nat.le_of_ble_eq_true rfl)) dX0_multiply_44 ⟨Nat.le_of_ble_eq_true rfl, Nat.le_of_ble_eq_true rfl⟩) hP hD hS hA (fun u_5 H locs eu_5 hP hD hS => ?_)
  have hP : va_P (dC, dI) vwCl [(h0, .inr (1, [.int u_5]))] H := hP
  have hD : va_D A [(h0, .inr (1, [.int u_5]))] := hD
  refine lv_aload_n hx hb dX0_multiply_47 rfl (lv_at hl 2 rfl) ?_
  refine lv_sipush (v := 2048) hx hb dX0_multiply_48 (by decide +kernel) ?_
  refine lv_iload hx hb dX0_multiply_51 (lv_at hl 0 rfl) ?_
  refine wr_callv (va_runV (As := [.int 2048, .int y_2]) (rest := []) ⟨hx, hb, hml, hown, hts⟩ (p_X0_put l dC dI h0 _ u_5 2048 y_2) (cwV 2 hts gX0_multiply_X0_put rfl rfl rfl (by decide +kernel) ⟨Nat.le_of_ble_eq_true rfl, Nat.le_of_ble_eq_true rfl⟩) (wr_preV (ci := 1) rfl hK hP hD) rfl rfl hl.1 rfl (lv_room (Nat.le_of_ble_eq_true rfl)) dX0_multiply_53 ⟨Nat.le_of_ble_eq_true rfl, Nat.le_of_ble_eq_true rfl⟩) hP hD hS hA (fun u_7 H locs eu_7 hP hD hS => ?_)
  have hP : va_P (dC, dI) vwCl [(h0, .inr (1, [.int u_7]))] H := hP
  have hD : va_D A [(h0, .inr (1, [.int u_7]))] := hD
  refine lv_iload_n hx hb dX0_multiply_56 rfl (lv_at hl 3 rfl) ?_
  refine rg (J := 72) (st := []) (if a1 = 0 then (((y_1 : Int64).toInt32) &&& 65535) else ((y_1 : Int64).toInt32)) (fun k => ?_) (fun y_8 ey_8 => ?_)
  · refine lv_if_eq (tgt := 66) hx hb dX0_multiply_57 (by decide) (fun c_9 => ?_) (fun c_9 => ?_)
    · refine lv_lload hx hb dX0_multiply_66 (lv_at hl 1 rfl) ?_
      refine lv_l2i (v := (y_1 : Int64).toInt32) hx hb dX0_multiply_68 rfl ?_
      refine lv_ldc (own := RX0) (index := 63) (v := 65535) hx hb hown (hts (.constant RX0 63 (65535)) (by decide +kernel)) dX0_multiply_69 ?_
      refine lv_iand hx hb dX0_multiply_71 ?_
      exact rg_e k (by first | rw [if_pos c_9] | simp only [if_pos c_9])
    · refine lv_lload hx hb dX0_multiply_60 (lv_at hl 1 rfl) ?_
      refine lv_l2i (v := (y_1 : Int64).toInt32) hx hb dX0_multiply_62 rfl ?_
      refine lv_goto (tgt := 72) hx hb dX0_multiply_63 (by decide) ?_
      exact rg_e k (by first | rw [if_neg c_9] | simp only [if_neg c_9])
  exact W.iret (v := y_8) hx hb hr (fun t ht hW => ⟨⟨y_8, u_7, rfl, ⟨(by subst ey_1; subst ey_2; subst eu_5; subst eu_7; subst ey_8; simp only [f_X0_multiply]), (by subst ey_1; subst ey_2; subst eu_5; subst eu_7; subst ey_8; simp only [f_X0_multiply])⟩, by rw [ht]; exact hP, va_K.moved hW.alike hK, hD⟩, hS.F ht⟩) hS.2.2 dX0_multiply_72
