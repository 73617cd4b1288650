theorem b01_ite {c : Prop} [Decidable c] {x y : Int32} (hx : x = 0 ∨ x = 1) (hy : y = 0 ∨ y = 1) : (if c then x else y) = 0 ∨ (if c then x else y) = 1 := by
  split <;> assumption
/-- what X1_holds answers -/
def f_X1_holds (fl : Int32) (a1 : Int32) : Int32 × Int32 :=
  let y_1 : Int32 := (if a1 < 0 then 1 else (if a1 ≤ 15 then 0 else 1))
  if y_1 ≤ 0 then
  (let y_5 : Int32 := (if (f_X1_is fl 128) = (f_X1_is fl 2048) then 0 else 1)
  let y_7 : Int32 := (a1 / 2)
  let y_8 : Int32 := (if y_7 = 0 then (f_X1_is fl 2048) else (if y_7 = 1 then (f_X1_is fl 1) else (if y_7 = 2 then (f_X1_is fl 64) else (if y_7 = 3 then (if (f_X1_is fl 1) = 0 then (if (f_X1_is fl 64) = 0 then 0 else 1) else 1) else (if y_7 = 4 then (f_X1_is fl 128) else (if y_7 = 5 then (f_X1_is fl 4) else (if y_7 = 6 then y_5 else (if y_5 = 0 then (if (f_X1_is fl 64) = 0 then 0 else 1) else 1))))))))
  let y_20 : Int32 := (if (jr a1 2) = 0 then y_8 else (if y_8 = 0 then 1 else 0))
  (y_20, y_1))
  else
  ((0, y_1))
set_option maxHeartbeats 4000000 in
set_option maxRecDepth 100000 in
theorem p_X1_holds (l : Launch) (dC : Nat → ClassId) (dI : Nat → Nat → Nat) (h0 : Nat) (sz : Nat) (cd : Int32) (fl : Int32) (al : Int32) (a1 : Int32) : Met l yX1_holds wsX1_holds ({ frames := 1, cells := 0, slots := 0, locals := 21 }) (va_Pc [.ref h0, .int a1] (wr_pre (dC, dI) 2 h0 sz [.int cd, .int fl, .int al])) (va_Qi (fun (r : Int32) (u : Int32) => r = (f_X1_holds fl a1).1 ∧ u = (f_X1_holds fl a1).2) (wr_at (dC, dI) 2 h0 (fun u : Int32 => [.int u, .int fl, .int al]) (wr_A 2 h0 sz [.int cd, .int fl, .int al])) (wr_A 2 h0 sz [.int cd, .int fl, .int al])) 0 0 (wr_A 2 h0 sz [.int cd, .int fl, .int al]) := by
  refine Met.ofW (cc := cX1_holds) (maxL := 5) (ret := (some .boolean)) (by decide) rfl ?_
  intro p e s m args below meth c s₁ B hml hv
  obtain ⟨rfl, hsz, hP, hK, hD0⟩ := hv
  have hx := B.exec
  have hb := B.bytes
  have hr := B.returns
  have hts := atoms_spec (ws := wsX1_holds) B.pre
  have hown : s.vm.findClass RX1 = some m.cls := findClass_of_methodNamed B.named
  have hlocks := B.notSynchronized
  subst hsz
  have hD : va_D (wr_A 2 h0 s.heap.size [.int cd, .int fl, .int al]) [(h0, .inr (2, [.int cd, .int fl, .int al]))] := hD0.self (sz := s.heap.size)
  generalize hAe : wr_A 2 h0 s.heap.size [.int cd, .int fl, .int al] = A at hD ⊢
  have hA : ∀ q : Nat, s.heap.size ≤ q → A q := fun q h => by rw [← hAe]; exact Or.inr h
  have hS : va_S A s.heap s.heap [] := va_S.rf
  have hP : va_P (dC, dI) vwCl [(h0, .inr (2, [.int cd, .int fl, .int al]))] s.heap := hP
  have hD : va_D A [(h0, .inr (2, [.int cd, .int fl, .int al]))] := hD
  have hl := lv_entry ([.ref h0, .int a1]) (n := 5) (Nat.le_of_ble_eq_true rfl)
  rw [lg_entry_eq]
  generalize (lg_sl ([.ref h0, .int a1]) ++ List.replicate (5 - (lg_sl ([.ref h0, .int a1])).length) Slot.unset).toArray = ls at hl ⊢
  have hl : lv_has ls 5 [(0, .ref h0), (1, .int a1)] := hl
  refine lv_aload_n hx hb dX1_holds_0 rfl (lv_at hl 0 rfl) ?_
  refine lv_iload_n hx hb dX1_holds_1 rfl (lv_at hl 1 rfl) ?_
  refine rg (J := 16) (st := [.ref h0]) (if a1 < 0 then 1 else (if a1 ≤ 15 then 0 else 1)) (fun k => ?_) (fun y_1 ey_1 => ?_)
  · refine lv_if_lt (tgt := 11) hx hb dX1_holds_2 (by decide) (fun c_2 => ?_) (fun c_2 => ?_)
    · refine lv_iconst (v := 1) hx hb dX1_holds_11 (by decide) ?_
      refine lv_goto (tgt := 16) hx hb dX1_holds_12 (by decide) ?_
      exact rg_e k (by first | rw [if_pos c_2] | simp only [if_pos c_2])
    · refine lv_iload_n hx hb dX1_holds_5 rfl (lv_at hl 1 rfl) ?_
      refine lv_bipush (v := 15) hx hb dX1_holds_6 (by decide +kernel) ?_
      refine lv_icmp_le (tgt := 15) hx hb dX1_holds_8 (by decide) (fun c_3 => ?_) (fun c_3 => ?_)
      · refine lv_iconst (v := 0) hx hb dX1_holds_15 (by decide) ?_
        exact rg_e k (by first | rw [if_neg c_2, if_pos c_3] | simp only [if_neg c_2, if_pos c_3])
      · refine lv_iconst (v := 1) hx hb dX1_holds_11 (by decide) ?_
        refine lv_goto (tgt := 16) hx hb dX1_holds_12 (by decide) ?_
        exact rg_e k (by first | rw [if_neg c_2, if_neg c_3] | simp only [if_neg c_2, if_neg c_3])
  refine va_put (D := (dC, dI)) (ci := 2) (v := .int y_1) (ty := .int) (C := RX1) (T := TX1) (N := 3) hx hb hts (by decide +kernel) tyX1 tyX1_ok nmX1 hown hK hP hD hS 0 rfl rfl 0 (by decide) (hts (.fieldLink RX1 7 "WordArithmeticModel" "code" "I") (by decide +kernel)) (fun _ h9 => h9) rfl (by decide +kernel) rfl rfl (Nat.le_of_ble_eq_true rfl) dX1_holds_16 (fun H locs hP hD hS => ?_)
  have hP : va_P (dC, dI) vwCl [(h0, .inr (2, [.int y_1, .int fl, .int al]))] H := hP
  have hD : va_D A [(h0, .inr (2, [.int y_1, .int fl, .int al]))] := hD
  refine lv_aload_n hx hb dX1_holds_19 rfl (lv_at hl 0 rfl) ?_
  refine va_get (D := (dC, dI)) (ci := 2) (v := .int y_1) (C := RX1) (T := TX1) (N := 3) hx hb hts (by decide +kernel) hown hK hP 0 rfl rfl 0 (by decide) (hts (.fieldLink RX1 7 "WordArithmeticModel" "code" "I") (by decide +kernel)) (fun _ h9 => h9) rfl dX1_holds_20 ?_
  refine lv_if_le (tgt := 28) hx hb dX1_holds_23 (by decide) (fun c_4 => ?_) (fun c_4 => ?_)
  · refine lv_aload_n hx hb dX1_holds_28 rfl (lv_at hl 0 rfl) ?_
    refine lv_sipush (v := 128) hx hb dX1_holds_29 (by decide +kernel) ?_
    refine pu_calli (F := (f_X1_is fl 128)) (va_runV (As := [.int 128]) (rest := []) ⟨hx, hb, hml, hown, hts⟩ (p_X1_is l dC dI h0 _ y_1 fl al 128 (by decide)) (cwV 1 hts gX1_holds_X1_is rfl rfl rfl (by decide +kernel) ⟨Nat.le_of_ble_eq_true rfl, Nat.le_of_ble_eq_true rfl⟩) (pu_preV (ci := 2) rfl hK hP) rfl rfl hl.1 rfl (lv_room (Nat.le_of_ble_eq_true rfl)) dX1_holds_32 ⟨Nat.le_of_ble_eq_true rfl, Nat.le_of_ble_eq_true rfl⟩) ?_
    refine lv_aload_n hx hb dX1_holds_35 rfl (lv_at hl 0 rfl) ?_
    refine lv_sipush (v := 2048) hx hb dX1_holds_36 (by decide +kernel) ?_
    refine pu_calli (F := (f_X1_is fl 2048)) (va_runV (As := [.int 2048]) (rest := [.int (f_X1_is fl 128)]) ⟨hx, hb, hml, hown, hts⟩ (p_X1_is l dC dI h0 _ y_1 fl al 2048 (by decide)) (cwV 1 hts gX1_holds_X1_is rfl rfl rfl (by decide +kernel) ⟨Nat.le_of_ble_eq_true rfl, Nat.le_of_ble_eq_true rfl⟩) (pu_preV (ci := 2) rfl hK hP) rfl rfl hl.1 rfl (lv_room (Nat.le_of_ble_eq_true rfl)) dX1_holds_39 ⟨Nat.le_of_ble_eq_true rfl, Nat.le_of_ble_eq_true rfl⟩) ?_
    refine rg (J := 50) (st := []) (if (f_X1_is fl 128) = (f_X1_is fl 2048) then 0 else 1) (fun k => ?_) (fun y_5 ey_5 => ?_)
    · refine lv_icmp_eq (tgt := 49) hx hb dX1_holds_42 (by decide) (fun c_6 => ?_) (fun c_6 => ?_)
      · refine lv_iconst (v := 0) hx hb dX1_holds_49 (by decide) ?_
        exact rg_e k (by first | rw [if_pos c_6] | simp only [if_pos c_6])
      · refine lv_iconst (v := 1) hx hb dX1_holds_45 (by decide) ?_
        refine lv_goto (tgt := 50) hx hb dX1_holds_46 (by decide) ?_
        exact rg_e k (by first | rw [if_neg c_6] | simp only [if_neg c_6])
    refine lv_istore_n (lv' := [(2, .int y_5), (0, .ref h0), (1, .int a1)]) hx hb dX1_holds_50 rfl hl (by decide) rfl (fun ls hl => ?_)
    refine lv_iload_n hx hb dX1_holds_51 rfl (lv_at hl 2 rfl) ?_
    refine lv_iconst (v := 2) hx hb dX1_holds_52 (by decide) ?_
    refine lv_idiv hx hb dX1_holds_53 (by decide) ?_
    refine lv_topi (fun y_7 ey_7 => ?_)
    refine lv_istore_n (lv' := [(3, .int y_7), (2, .int y_5), (0, .ref h0), (1, .int a1)]) hx hb dX1_holds_54 rfl hl (by decide) rfl (fun ls hl => ?_)
    refine lv_iload_n hx hb dX1_holds_55 rfl (lv_at hl 0 rfl) ?_
    refine rg (J := 182) (st := []) (if y_7 = 0 then (f_X1_is fl 2048) else (if y_7 = 1 then (f_X1_is fl 1) else (if y_7 = 2 then (f_X1_is fl 64) else (if y_7 = 3 then (if (f_X1_is fl 1) = 0 then (if (f_X1_is fl 64) = 0 then 0 else 1) else 1) else (if y_7 = 4 then (f_X1_is fl 128) else (if y_7 = 5 then (f_X1_is fl 4) else (if y_7 = 6 then y_5 else (if y_5 = 0 then (if (f_X1_is fl 64) = 0 then 0 else 1) else 1)))))))) (fun k => ?_) (fun y_8 ey_8 => ?_)
    · refine lv_if_ne (tgt := 69) hx hb dX1_holds_56 (by decide) (fun c_9 => ?_) (fun c_9 => ?_)
      · refine lv_iload_n hx hb dX1_holds_69 rfl (lv_at hl 0 rfl) ?_
        refine lv_iconst (v := 1) hx hb dX1_holds_70 (by decide) ?_
        refine lv_icmp_ne (tgt := 82) hx hb dX1_holds_71 (by decide) (fun c_10 => ?_) (fun c_10 => ?_)
        · refine lv_iload_n hx hb dX1_holds_82 rfl (lv_at hl 0 rfl) ?_
          refine lv_iconst (v := 2) hx hb dX1_holds_83 (by decide) ?_
          refine lv_icmp_ne (tgt := 96) hx hb dX1_holds_84 (by decide) (fun c_11 => ?_) (fun c_11 => ?_)
          · refine lv_iload_n hx hb dX1_holds_96 rfl (lv_at hl 0 rfl) ?_
            refine lv_iconst (v := 3) hx hb dX1_holds_97 (by decide) ?_
            refine lv_icmp_ne (tgt := 126) hx hb dX1_holds_98 (by decide) (fun c_12 => ?_) (fun c_12 => ?_)
            · refine lv_iload_n hx hb dX1_holds_126 rfl (lv_at hl 0 rfl) ?_
              refine lv_iconst (v := 4) hx hb dX1_holds_127 (by decide) ?_
              refine lv_icmp_ne (tgt := 141) hx hb dX1_holds_128 (by decide) (fun c_13 => ?_) (fun c_13 => ?_)
              · refine lv_iload_n hx hb dX1_holds_141 rfl (lv_at hl 0 rfl) ?_
                refine lv_iconst (v := 5) hx hb dX1_holds_142 (by decide) ?_
                refine lv_icmp_ne (tgt := 154) hx hb dX1_holds_143 (by decide) (fun c_14 => ?_) (fun c_14 => ?_)
                · refine lv_iload_n hx hb dX1_holds_154 rfl (lv_at hl 0 rfl) ?_
                  refine lv_bipush (v := 6) hx hb dX1_holds_155 (by decide +kernel) ?_
                  refine lv_icmp_ne (tgt := 164) hx hb dX1_holds_157 (by decide) (fun c_15 => ?_) (fun c_15 => ?_)
                  · refine lv_iload_n hx hb dX1_holds_164 rfl (lv_at hl 1 rfl) ?_
                    refine lv_if_ne (tgt := 177) hx hb dX1_holds_165 (by decide) (fun c_16 => ?_) (fun c_16 => ?_)
                    · refine lv_iconst (v := 1) hx hb dX1_holds_177 (by decide) ?_
                      refine lv_goto (tgt := 182) hx hb dX1_holds_178 (by decide) ?_
                      exact rg_e k (by first | rw [if_neg c_9, if_neg c_10, if_neg c_11, if_neg c_12, if_neg c_13, if_neg c_14, if_neg c_15, if_neg c_16] | simp only [if_neg c_9, if_neg c_10, if_neg c_11, if_neg c_12, if_neg c_13, if_neg c_14, if_neg c_15, if_neg c_16])
                    · refine lv_aload_n hx hb dX1_holds_168 rfl (lv_at hl 2 rfl) ?_
                      refine lv_bipush (v := 64) hx hb dX1_holds_169 (by decide +kernel) ?_
                      refine pu_calli (F := (f_X1_is fl 64)) (va_runV (As := [.int 64]) (rest := []) ⟨hx, hb, hml, hown, hts⟩ (p_X1_is l dC dI h0 _ y_1 fl al 64 (by decide)) (cwV 1 hts gX1_holds_X1_is rfl rfl rfl (by decide +kernel) ⟨Nat.le_of_ble_eq_true rfl, Nat.le_of_ble_eq_true rfl⟩) (pu_preV (ci := 2) rfl hK hP) rfl rfl hl.1 rfl (lv_room (Nat.le_of_ble_eq_true rfl)) dX1_holds_171 ⟨Nat.le_of_ble_eq_true rfl, Nat.le_of_ble_eq_true rfl⟩) ?_
                      refine lv_if_eq (tgt := 181) hx hb dX1_holds_174 (by decide) (fun c_17 => ?_) (fun c_17 => ?_)
                      · refine lv_iconst (v := 0) hx hb dX1_holds_181 (by decide) ?_
                        exact rg_e k (by first | rw [if_neg c_9, if_neg c_10, if_neg c_11, if_neg c_12, if_neg c_13, if_neg c_14, if_neg c_15, if_pos c_16, if_pos c_17] | simp only [if_neg c_9, if_neg c_10, if_neg c_11, if_neg c_12, if_neg c_13, if_neg c_14, if_neg c_15, if_pos c_16, if_pos c_17])
                      · refine lv_iconst (v := 1) hx hb dX1_holds_177 (by decide) ?_
                        refine lv_goto (tgt := 182) hx hb dX1_holds_178 (by decide) ?_
                        exact rg_e k (by first | rw [if_neg c_9, if_neg c_10, if_neg c_11, if_neg c_12, if_neg c_13, if_neg c_14, if_neg c_15, if_pos c_16, if_neg c_17] | simp only [if_neg c_9, if_neg c_10, if_neg c_11, if_neg c_12, if_neg c_13, if_neg c_14, if_neg c_15, if_pos c_16, if_neg c_17])
                  · refine lv_iload_n hx hb dX1_holds_160 rfl (lv_at hl 1 rfl) ?_
                    refine lv_goto (tgt := 182) hx hb dX1_holds_161 (by decide) ?_
                    exact rg_e k (by first | rw [if_neg c_9, if_neg c_10, if_neg c_11, if_neg c_12, if_neg c_13, if_neg c_14, if_pos c_15] | simp only [if_neg c_9, if_neg c_10, if_neg c_11, if_neg c_12, if_neg c_13, if_neg c_14, if_pos c_15])
                · refine lv_aload_n hx hb dX1_holds_146 rfl (lv_at hl 2 rfl) ?_
                  refine lv_iconst (v := 4) hx hb dX1_holds_147 (by decide) ?_
                  refine pu_calli (F := (f_X1_is fl 4)) (va_runV (As := [.int 4]) (rest := []) ⟨hx, hb, hml, hown, hts⟩ (p_X1_is l dC dI h0 _ y_1 fl al 4 (by decide)) (cwV 1 hts gX1_holds_X1_is rfl rfl rfl (by decide +kernel) ⟨Nat.le_of_ble_eq_true rfl, Nat.le_of_ble_eq_true rfl⟩) (pu_preV (ci := 2) rfl hK hP) rfl rfl hl.1 rfl (lv_room (Nat.le_of_ble_eq_true rfl)) dX1_holds_148 ⟨Nat.le_of_ble_eq_true rfl, Nat.le_of_ble_eq_true rfl⟩) ?_
                  refine lv_goto (tgt := 182) hx hb dX1_holds_151 (by decide) ?_
                  exact rg_e k (by first | rw [if_neg c_9, if_neg c_10, if_neg c_11, if_neg c_12, if_neg c_13, if_pos c_14] | simp only [if_neg c_9, if_neg c_10, if_neg c_11, if_neg c_12, if_neg c_13, if_pos c_14])
              · refine lv_aload_n hx hb dX1_holds_131 rfl (lv_at hl 2 rfl) ?_
                refine lv_sipush (v := 128) hx hb dX1_holds_132 (by decide +kernel) ?_
                refine pu_calli (F := (f_X1_is fl 128)) (va_runV (As := [.int 128]) (rest := []) ⟨hx, hb, hml, hown, hts⟩ (p_X1_is l dC dI h0 _ y_1 fl al 128 (by decide)) (cwV 1 hts gX1_holds_X1_is rfl rfl rfl (by decide +kernel) ⟨Nat.le_of_ble_eq_true rfl, Nat.le_of_ble_eq_true rfl⟩) (pu_preV (ci := 2) rfl hK hP) rfl rfl hl.1 rfl (lv_room (Nat.le_of_ble_eq_true rfl)) dX1_holds_135 ⟨Nat.le_of_ble_eq_true rfl, Nat.le_of_ble_eq_true rfl⟩) ?_
                refine lv_goto (tgt := 182) hx hb dX1_holds_138 (by decide) ?_
                exact rg_e k (by first | rw [if_neg c_9, if_neg c_10, if_neg c_11, if_neg c_12, if_pos c_13] | simp only [if_neg c_9, if_neg c_10, if_neg c_11, if_neg c_12, if_pos c_13])
            · refine lv_aload_n hx hb dX1_holds_101 rfl (lv_at hl 2 rfl) ?_
              refine lv_iconst (v := 1) hx hb dX1_holds_102 (by decide) ?_
              refine pu_calli (F := (f_X1_is fl 1)) (va_runV (As := [.int 1]) (rest := []) ⟨hx, hb, hml, hown, hts⟩ (p_X1_is l dC dI h0 _ y_1 fl al 1 (by decide)) (cwV 1 hts gX1_holds_X1_is rfl rfl rfl (by decide +kernel) ⟨Nat.le_of_ble_eq_true rfl, Nat.le_of_ble_eq_true rfl⟩) (pu_preV (ci := 2) rfl hK hP) rfl rfl hl.1 rfl (lv_room (Nat.le_of_ble_eq_true rfl)) dX1_holds_103 ⟨Nat.le_of_ble_eq_true rfl, Nat.le_of_ble_eq_true rfl⟩) ?_
              refine lv_if_ne (tgt := 118) hx hb dX1_holds_106 (by decide) (fun c_18 => ?_) (fun c_18 => ?_)
              · refine lv_iconst (v := 1) hx hb dX1_holds_118 (by decide) ?_
                refine lv_goto (tgt := 182) hx hb dX1_holds_119 (by decide) ?_
                exact rg_e k (by first | rw [if_neg c_9, if_neg c_10, if_neg c_11, if_pos c_12, if_neg c_18] | simp only [if_neg c_9, if_neg c_10, if_neg c_11, if_pos c_12, if_neg c_18])
              · refine lv_aload_n hx hb dX1_holds_109 rfl (lv_at hl 2 rfl) ?_
                refine lv_bipush (v := 64) hx hb dX1_holds_110 (by decide +kernel) ?_
                refine pu_calli (F := (f_X1_is fl 64)) (va_runV (As := [.int 64]) (rest := []) ⟨hx, hb, hml, hown, hts⟩ (p_X1_is l dC dI h0 _ y_1 fl al 64 (by decide)) (cwV 1 hts gX1_holds_X1_is rfl rfl rfl (by decide +kernel) ⟨Nat.le_of_ble_eq_true rfl, Nat.le_of_ble_eq_true rfl⟩) (pu_preV (ci := 2) rfl hK hP) rfl rfl hl.1 rfl (lv_room (Nat.le_of_ble_eq_true rfl)) dX1_holds_112 ⟨Nat.le_of_ble_eq_true rfl, Nat.le_of_ble_eq_true rfl⟩) ?_
                refine lv_if_eq (tgt := 122) hx hb dX1_holds_115 (by decide) (fun c_19 => ?_) (fun c_19 => ?_)
                · refine lv_iconst (v := 0) hx hb dX1_holds_122 (by decide) ?_
                  refine lv_goto (tgt := 182) hx hb dX1_holds_123 (by decide) ?_
                  exact rg_e k (by first | rw [if_neg c_9, if_neg c_10, if_neg c_11, if_pos c_12, if_pos c_18, if_pos c_19] | simp only [if_neg c_9, if_neg c_10, if_neg c_11, if_pos c_12, if_pos c_18, if_pos c_19])
                · refine lv_iconst (v := 1) hx hb dX1_holds_118 (by decide) ?_
                  refine lv_goto (tgt := 182) hx hb dX1_holds_119 (by decide) ?_
                  exact rg_e k (by first | rw [if_neg c_9, if_neg c_10, if_neg c_11, if_pos c_12, if_pos c_18, if_neg c_19] | simp only [if_neg c_9, if_neg c_10, if_neg c_11, if_pos c_12, if_pos c_18, if_neg c_19])
          · refine lv_aload_n hx hb dX1_holds_87 rfl (lv_at hl 2 rfl) ?_
            refine lv_bipush (v := 64) hx hb dX1_holds_88 (by decide +kernel) ?_
            refine pu_calli (F := (f_X1_is fl 64)) (va_runV (As := [.int 64]) (rest := []) ⟨hx, hb, hml, hown, hts⟩ (p_X1_is l dC dI h0 _ y_1 fl al 64 (by decide)) (cwV 1 hts gX1_holds_X1_is rfl rfl rfl (by decide +kernel) ⟨Nat.le_of_ble_eq_true rfl, Nat.le_of_ble_eq_true rfl⟩) (pu_preV (ci := 2) rfl hK hP) rfl rfl hl.1 rfl (lv_room (Nat.le_of_ble_eq_true rfl)) dX1_holds_90 ⟨Nat.le_of_ble_eq_true rfl, Nat.le_of_ble_eq_true rfl⟩) ?_
            refine lv_goto (tgt := 182) hx hb dX1_holds_93 (by decide) ?_
            exact rg_e k (by first | rw [if_neg c_9, if_neg c_10, if_pos c_11] | simp only [if_neg c_9, if_neg c_10, if_pos c_11])
        · refine lv_aload_n hx hb dX1_holds_74 rfl (lv_at hl 2 rfl) ?_
          refine lv_iconst (v := 1) hx hb dX1_holds_75 (by decide) ?_
          refine pu_calli (F := (f_X1_is fl 1)) (va_runV (As := [.int 1]) (rest := []) ⟨hx, hb, hml, hown, hts⟩ (p_X1_is l dC dI h0 _ y_1 fl al 1 (by decide)) (cwV 1 hts gX1_holds_X1_is rfl rfl rfl (by decide +kernel) ⟨Nat.le_of_ble_eq_true rfl, Nat.le_of_ble_eq_true rfl⟩) (pu_preV (ci := 2) rfl hK hP) rfl rfl hl.1 rfl (lv_room (Nat.le_of_ble_eq_true rfl)) dX1_holds_76 ⟨Nat.le_of_ble_eq_true rfl, Nat.le_of_ble_eq_true rfl⟩) ?_
          refine lv_goto (tgt := 182) hx hb dX1_holds_79 (by decide) ?_
          exact rg_e k (by first | rw [if_neg c_9, if_pos c_10] | simp only [if_neg c_9, if_pos c_10])
      · refine lv_aload_n hx hb dX1_holds_59 rfl (lv_at hl 2 rfl) ?_
        refine lv_sipush (v := 2048) hx hb dX1_holds_60 (by decide +kernel) ?_
        refine pu_calli (F := (f_X1_is fl 2048)) (va_runV (As := [.int 2048]) (rest := []) ⟨hx, hb, hml, hown, hts⟩ (p_X1_is l dC dI h0 _ y_1 fl al 2048 (by decide)) (cwV 1 hts gX1_holds_X1_is rfl rfl rfl (by decide +kernel) ⟨Nat.le_of_ble_eq_true rfl, Nat.le_of_ble_eq_true rfl⟩) (pu_preV (ci := 2) rfl hK hP) rfl rfl hl.1 rfl (lv_room (Nat.le_of_ble_eq_true rfl)) dX1_holds_63 ⟨Nat.le_of_ble_eq_true rfl, Nat.le_of_ble_eq_true rfl⟩) ?_
        refine lv_goto (tgt := 182) hx hb dX1_holds_66 (by decide) ?_
        exact rg_e k (by first | rw [if_pos c_9] | simp only [if_pos c_9])
    refine lv_istore (lv' := [(4, .int y_8), (3, .int y_7), (2, .int y_5), (0, .ref h0), (1, .int a1)]) hx hb dX1_holds_182 hl (by decide) rfl (fun ls hl => ?_)
    refine lv_iload_n hx hb dX1_holds_184 rfl (lv_at hl 4 rfl) ?_
    refine lv_iconst (v := 2) hx hb dX1_holds_185 (by decide) ?_
    refine jr_row hx hb dX1_holds_186 (by decide) ?_
    refine rg (J := 205) (st := []) (if (jr a1 2) = 0 then y_8 else (if y_8 = 0 then 1 else 0)) (fun k => ?_) (fun y_20 ey_20 => ?_)
    · refine lv_if_ne (tgt := 195) hx hb dX1_holds_187 (by decide) (fun c_21 => ?_) (fun c_21 => ?_)
      · refine lv_iload hx hb dX1_holds_195 (lv_at hl 0 rfl) ?_
        refine lv_if_ne (tgt := 204) hx hb dX1_holds_197 (by decide) (fun c_22 => ?_) (fun c_22 => ?_)
        · refine lv_iconst (v := 0) hx hb dX1_holds_204 (by decide) ?_
          exact rg_e k (by first | rw [if_neg c_21, if_neg c_22] | simp only [if_neg c_21, if_neg c_22])
        · refine lv_iconst (v := 1) hx hb dX1_holds_200 (by decide) ?_
          refine lv_goto (tgt := 205) hx hb dX1_holds_201 (by decide) ?_
          exact rg_e k (by first | rw [if_neg c_21, if_pos c_22] | simp only [if_neg c_21, if_pos c_22])
      · refine lv_iload hx hb dX1_holds_190 (lv_at hl 0 rfl) ?_
        refine lv_goto (tgt := 205) hx hb dX1_holds_192 (by decide) ?_
        exact rg_e k (by first | rw [if_pos c_21] | simp only [if_pos c_21])
    exact W.zret (v := y_20) hx hb hr (nb_of (by rw [ey_20]; repeat (first | apply b01_ite | exact Or.inl (by with_reducible rfl) | exact Or.inr (by with_reducible rfl) | rw [ey_8] | rw [ey_5]))) (fun t ht hW => ⟨⟨y_20, y_1, rfl, ⟨(by subst ey_1; subst ey_5; subst ey_7; subst ey_8; subst ey_20; simp only [f_X1_holds, if_pos c_4]), (by subst ey_1; subst ey_5; subst ey_7; subst ey_8; subst ey_20; simp only [f_X1_holds, if_pos c_4])⟩, by rw [ht]; exact hP, va_K.moved hW.alike hK, hD⟩, hS.F ht⟩) hS.2.2 dX1_holds_205
  · refine lv_iconst (v := 0) hx hb dX1_holds_26 (by decide) ?_
    exact W.zret (v := 0) hx hb hr narrow_b0 (fun t ht hW => ⟨⟨0, y_1, rfl, ⟨(by subst ey_1; simp only [f_X1_holds, if_neg c_4]), (by subst ey_1; simp only [f_X1_holds, if_neg c_4])⟩, by rw [ht]; exact hP, va_K.moved hW.alike hK, hD⟩, hS.F ht⟩) hS.2.2 dX1_holds_27
