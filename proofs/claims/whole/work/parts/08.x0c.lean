/-! THROWS: what a call that may throw needs of the state; it is kept by calls -/
def th_E (u : Int32) : String := if u = 1 then "java/lang/IllegalArgumentException" else "java/lang/ArithmeticException"
def th_L : List (Nat × String) := [(35, "no such operation"), (40, "no such shift"), (42, "times is not 0 .. 255"), (70, "divided by 0"), (77, "the quotient is no operand"), (98, "the base is 0"), (103, "no such adjustment"), (116, "no such condition")]
/-- the constructors that an exception's constructor calls -/
def th_D : List MethodName := [⟨"java/lang/RuntimeException", "<init>", "(Ljava/lang/String;)V"⟩, ⟨"java/lang/Exception", "<init>", "(Ljava/lang/String;)V"⟩, ⟨"java/lang/Throwable", "<init>", "(Ljava/lang/String;)V"⟩]
def th_w (A : Nat → Prop) (U : State) (H : Heap) : Prop := va_Nw (.castable "java/lang/IllegalArgumentException" "java/lang/IllegalArgumentException") U ∧ va_Nw (.castable "java/lang/ArithmeticException" "java/lang/ArithmeticException") U ∧ vx_Zq Bundle.tN "UNASSIGNED_STACK" Bundle.steD A U H ∧ vx_Zq Bundle.tN "SUPPRESSED_SENTINEL" Bundle.listD A U H ∧ (∀ q ∈ th_L, ∃ sa, vk_R RX0 q.1 q.2 sa U) ∧ ∀ y ∈ th_D, va_Nw (.declares y) U
theorem th_w.warm {A : Nat → Prop} {s U : State} {H : Heap} (hW : s.WarmedH U.vm) (h : th_w A s H) : th_w A U H :=
  ⟨va_Nw.warmC hW h.1, va_Nw.warmC hW h.2.1, vx_Zq.moved hW.alike h.2.2.1, vx_Zq.moved hW.alike h.2.2.2.1, fun q hq => (h.2.2.2.2.1 q hq).elim (fun sa hs => ⟨sa, vk_R.warm hW hs⟩), fun y hy => va_Nw.warmD hW (h.2.2.2.2.2 y hy)⟩
theorem th_w.kept {A : Nat → Prop} {s : State} {H H1 : Heap} (h : th_w A s H) (hq : ∀ a : Nat, a < H.size → ¬ A a → H1[a]? = H[a]?) : th_w A s H1 :=
  ⟨h.1, h.2.1, h.2.2.1.kept hq, h.2.2.2.1.kept hq, h.2.2.2.2⟩
theorem th_w.narrow {A B : Nat → Prop} {s : State} {H : Heap} (h : th_w A s H) (hAB : ∀ q, B q → A q) : th_w B s H :=
  ⟨h.1, h.2.1, h.2.2.1.narrow hAB, h.2.2.2.1.narrow hAB, h.2.2.2.2⟩
def th_pre (D : va_G) (h0 sz : Nat) (f : Int32) (U : State) : Prop := wr_pre D 1 h0 sz [.int f] U ∧ th_w (wr_A 1 h0 sz [.int f]) U U.heap
theorem th_hat {args : Array Value} {s : State} {A : Nat → Prop} {H : Heap} {ic : Nat} {X : String} (hth : th_w A s H) (h1 : ∀ w ∈ (vx_atS RX0 ic X ["java/lang/RuntimeException", "java/lang/Exception"]).filter goodWord, w.before args s = true) (hX : va_Nw (.castable X X) s)
    (h2 : ∀ w ∈ (vx_atS RX0 ic X ["java/lang/RuntimeException", "java/lang/Exception"]).filter (fun w => !goodWord w), w ∈ [Cond.castable X X, Cond.declares ⟨"java/lang/RuntimeException", "<init>", "(Ljava/lang/String;)V"⟩, Cond.declares ⟨"java/lang/Exception", "<init>", "(Ljava/lang/String;)V"⟩, Cond.declares ⟨"java/lang/Throwable", "<init>", "(Ljava/lang/String;)V"⟩]) :
    ∀ w ∈ vx_atS RX0 ic X ["java/lang/RuntimeException", "java/lang/Exception"], w.before args s = true :=
  vx_hat h1 h2 (vx_c (va_Nw.use rfl hX) (vx_c (va_Nw.use rfl (hth.2.2.2.2.2 _ (by decide))) (vx_c (va_Nw.use rfl (hth.2.2.2.2.2 _ (by decide))) (vx_c (va_Nw.use rfl (hth.2.2.2.2.2 _ (by decide))) vx_n))))
/-- the loop of X0_shift, n rounds at most -/
def l_X0_shift : Nat → Int32 → Int32 → Int32 → Int32 → Int32 → Int32 → Int32 → Int32 × Int32
  | 0, _, _, _, _, _, _, _ => (0, 0)
  | n + 1, a1, a2, a4, y_5, u, z, d =>
  if a4 ≤ d then
  (if a4 ≤ 0 then
  ((z, u))
  else
  (if a1 < 4 then
  ((z, u))
  else
  (let u_12 : Int32 := (f_X0_goByAnswer u a2 z)
  (z, u_12))))
  else
  (if y_5 = 0 then
  (let r_14 : Int32 := (f_X0_rightByOne u a1 a2 z).1
  let u_15 : Int32 := (f_X0_rightByOne u a1 a2 z).2
  l_X0_shift n a1 a2 a4 y_5 u_15 r_14 (d + 1))
  else
  (let r_16 : Int32 := (f_X0_leftByOne u a1 a2 z).1
  let u_17 : Int32 := (f_X0_leftByOne u a1 a2 z).2
  l_X0_shift n a1 a2 a4 y_5 u_17 r_16 (d + 1)))
/-- what X0_shift answers, and the flags behind it -/
def f_X0_shift (f : Int32) (a1 : Int32) (a2 : Int32) (a3 : Int32) (a4 : Int32) : Int32 × Int32 :=
  if a1 < 0 then
  ((0, f))
  else
  (if a1 ≤ 7 then
  (if a4 < 0 then
  ((0, f))
  else
  (if a4 ≤ 255 then
  (let y_5 : Int32 := (if (jr a1 2) = 0 then 1 else 0)
  let y_7 : Int32 := (f_X0_operand a2 a3)
  l_X0_shift 256 a1 a2 a4 y_5 f y_7 0)
  else
  ((0, f))))
  else
  ((0, f)))
/-- what X0_shift throws: 0 nothing, 1 IllegalArgumentException, 2 ArithmeticException -/
def x_X0_shift (a1 : Int32) (a2 : Int32) (a3 : Int32) (a4 : Int32) : Int32 :=
  if a1 < 0 then
  (1)
  else
  (if a1 ≤ 7 then
  (if a4 < 0 then
  (1)
  else
  (if a4 ≤ 255 then
  (let y_5 : Int32 := (if (jr a1 2) = 0 then 1 else 0)
  let y_7 : Int32 := (f_X0_operand a2 a3)
  0)
  else
  (1)))
  else
  (1))
set_option maxHeartbeats 4000000 in
set_option maxRecDepth 100000 in
theorem p_X0_shift (l : Launch) (hst : l.stackTraces = false) (dC : Nat → ClassId) (dI : Nat → Nat → Nat) (h0 : Nat) (sz : Nat) (f : Int32) (a1 : Int32) (a2 : Int32) (a3 : Int32) (a4 : Int32) : vx_Met l yX0_shift wsX0_shift ({ frames := 6, cells := 1, slots := 6, locals := 82 }) (va_Pc [.ref h0, .int a1, .int a2, .int a3, .int a4] (th_pre (dC, dI) h0 sz f)) (va_Qi (fun (r : Int32) (u : Int32) => x_X0_shift a1 a2 a3 a4 = 0 ∧ r = (f_X0_shift f a1 a2 a3 a4).1 ∧ u = (f_X0_shift f a1 a2 a3 a4).2) (wr_at (dC, dI) 1 h0 (fun u : Int32 => [.int u]) (wr_A 1 h0 sz [.int f])) (wr_A 1 h0 sz [.int f])) (vx_X (fun u : Int32 => u = x_X0_shift a1 a2 a3 a4 ∧ ¬ u = 0) (fun E u _ => E = th_E u) (fun _ => False)) 1 6 (wr_A 1 h0 sz [.int f]) := by
  refine vx_ofW (cc := cX0_shift) (maxL := 8) (ret := (some .int)) (by decide) rfl ?_
  intro p e s m args below meth c s₁ B hml hte hv
  obtain ⟨rfl, ⟨hsz, hP, hK, hD0⟩, hth⟩ := hv
  have hx := B.exec
  have hb := B.bytes
  have hr := B.returns
  have hts := atoms_spec (ws := wsX0_shift) B.pre
  have hown : s.vm.findClass RX0 = some m.cls := findClass_of_methodNamed B.named
  have hlocks := B.notSynchronized
  subst hsz
  have hD : va_D (wr_A 1 h0 s.heap.size [.int f]) [(h0, .inr (1, [.int f]))] := hD0.self (sz := s.heap.size)
  generalize hAe : wr_A 1 h0 s.heap.size [.int f] = A at hD hth ⊢
  have hA : ∀ q : Nat, s.heap.size ≤ q → A q := fun q h => by rw [← hAe]; exact Or.inr h
  have hS : va_S A s.heap s.heap [] := va_S.rf
  have hP : va_P (dC, dI) vwCl [(h0, .inr (1, [.int f]))] s.heap := hP
  have hD : va_D A [(h0, .inr (1, [.int f]))] := hD
  obtain ⟨sa_40, hs_40⟩ := hth.2.2.2.2.1 (40, "no such shift") (by decide)
  obtain ⟨sa_42, hs_42⟩ := hth.2.2.2.2.1 (42, "times is not 0 .. 255") (by decide)
  have hl := lv_entry ([.ref h0, .int a1, .int a2, .int a3, .int a4]) (n := 8) (Nat.le_of_ble_eq_true rfl)
  rw [lg_entry_eq]
  generalize (lg_sl ([.ref h0, .int a1, .int a2, .int a3, .int a4]) ++ List.replicate (8 - (lg_sl ([.ref h0, .int a1, .int a2, .int a3, .int a4])).length) Slot.unset).toArray = ls at hl ⊢
  have hl : lv_has ls 8 [(0, .ref h0), (1, .int a1), (2, .int a2), (3, .int a3), (4, .int a4)] := hl
  refine lv_iload_n hx hb dX0_shift_0 rfl (lv_at hl 1 rfl) ?_
  refine lv_if_lt (tgt := 10) hx hb dX0_shift_1 (by decide) (fun c_1 => ?_) (fun c_1 => ?_)
  · exact vx_throwS (own := RX0) (cls := "java/lang/IllegalArgumentException") (text := "no such shift") (names := ["java/lang/RuntimeException", "java/lang/Exception"]) (ik := 33) (is := 40) (ic := 37) (A := A) hx hb hst hown (by decide +kernel) (by decide +kernel) (hts (.classLink RX0 33 "java/lang/IllegalArgumentException") (by decide +kernel)) (hts (.initialized "java/lang/IllegalArgumentException") (by decide +kernel)) hs_40 (th_hat hth (fun w hw => hts w (List.mem_cons_of_mem _ (List.mem_append_right _ hw))) hth.1 (by decide +kernel)) (by decide +kernel) hth.2.2.1 hth.2.2.2.1 hS (by rw [hml]; exact hl.1) dX0_shift_10 dX0_shift_13 dX0_shift_14 dX0_shift_16 dX0_shift_19 (fun x h => (hte x h).elim) (Nat.le_of_ble_eq_true rfl) (Nat.le_of_ble_eq_true rfl) (Nat.le_of_ble_eq_true rfl) (Nat.le_of_ble_eq_true rfl) hlocks (fun t _ hz hk => ⟨1, ⟨(by simp only [x_X0_shift, if_pos c_1]), by decide⟩, rfl, ⟨hz, fun q hq _ => hk q hq⟩⟩) hS.2.2 (Nat.le_refl _) (Nat.le_refl _)
  · refine lv_iload_n hx hb dX0_shift_4 rfl (lv_at hl 1 rfl) ?_
    refine lv_bipush (v := 7) hx hb dX0_shift_5 (by decide +kernel) ?_
    refine lv_icmp_le (tgt := 20) hx hb dX0_shift_7 (by decide) (fun c_2 => ?_) (fun c_2 => ?_)
    · refine lv_iload hx hb dX0_shift_20 (lv_at hl 4 rfl) ?_
      refine lv_if_lt (tgt := 33) hx hb dX0_shift_22 (by decide) (fun c_3 => ?_) (fun c_3 => ?_)
      · exact vx_throwS (own := RX0) (cls := "java/lang/IllegalArgumentException") (text := "times is not 0 .. 255") (names := ["java/lang/RuntimeException", "java/lang/Exception"]) (ik := 33) (is := 42) (ic := 37) (A := A) hx hb hst hown (by decide +kernel) (by decide +kernel) (hts (.classLink RX0 33 "java/lang/IllegalArgumentException") (by decide +kernel)) (hts (.initialized "java/lang/IllegalArgumentException") (by decide +kernel)) hs_42 (th_hat hth (fun w hw => hts w (List.mem_cons_of_mem _ (List.mem_append_right _ hw))) hth.1 (by decide +kernel)) (by decide +kernel) hth.2.2.1 hth.2.2.2.1 hS (by rw [hml]; exact hl.1) dX0_shift_33 dX0_shift_36 dX0_shift_37 dX0_shift_39 dX0_shift_42 (fun x h => (hte x h).elim) (Nat.le_of_ble_eq_true rfl) (Nat.le_of_ble_eq_true rfl) (Nat.le_of_ble_eq_true rfl) (Nat.le_of_ble_eq_true rfl) hlocks (fun t _ hz hk => ⟨1, ⟨(by simp only [x_X0_shift, if_neg c_1, if_pos c_2, if_pos c_3]), by decide⟩, rfl, ⟨hz, fun q hq _ => hk q hq⟩⟩) hS.2.2 (Nat.le_refl _) (Nat.le_refl _)
      · refine lv_iload hx hb dX0_shift_25 (lv_at hl 4 rfl) ?_
        refine lv_sipush (v := 255) hx hb dX0_shift_27 (by decide +kernel) ?_
        refine lv_icmp_le (tgt := 43) hx hb dX0_shift_30 (by decide) (fun c_4 => ?_) (fun c_4 => ?_)
        · refine lv_iload_n hx hb dX0_shift_43 rfl (lv_at hl 1 rfl) ?_
          refine lv_iconst (v := 2) hx hb dX0_shift_44 (by decide) ?_
          refine jr_row hx hb dX0_shift_45 (by decide) ?_
          refine rg (J := 54) (st := []) (if (jr a1 2) = 0 then 1 else 0) (fun k => ?_) (fun y_5 ey_5 => ?_)
          · refine lv_if_ne (tgt := 53) hx hb dX0_shift_46 (by decide) (fun c_6 => ?_) (fun c_6 => ?_)
            · refine lv_iconst (v := 0) hx hb dX0_shift_53 (by decide) ?_
              exact rg_e k (by first | rw [if_neg c_6] | simp only [if_neg c_6])
            · refine lv_iconst (v := 1) hx hb dX0_shift_49 (by decide) ?_
              refine lv_goto (tgt := 54) hx hb dX0_shift_50 (by decide) ?_
              exact rg_e k (by first | rw [if_pos c_6] | simp only [if_pos c_6])
          refine lv_istore (lv' := [(5, .int y_5), (0, .ref h0), (1, .int a1), (2, .int a2), (3, .int a3), (4, .int a4)]) hx hb dX0_shift_54 hl (by decide) rfl (fun ls hl => ?_)
          refine lv_iload_n hx hb dX0_shift_56 rfl (lv_at hl 3 rfl) ?_
          refine lv_iload_n hx hb dX0_shift_57 rfl (lv_at hl 4 rfl) ?_
          refine pu_calli (F := (f_X0_operand a2 a3)) (va_runS (As := [.int a2, .int a3]) (rest := []) ⟨hx, hb, hml, hown, hts⟩ (p_X0_operand l _ a2 a3) (va_cwS 2 hts gX0_shift_X0_operand rfl rfl rfl (by decide +kernel) ⟨Nat.le_of_ble_eq_true rfl, Nat.le_of_ble_eq_true rfl⟩) pu_preS rfl rfl hl.1 rfl (lv_room (Nat.le_of_ble_eq_true rfl)) dX0_shift_58 ⟨Nat.le_of_ble_eq_true rfl, Nat.le_of_ble_eq_true rfl⟩) ?_
          refine lv_topi (fun y_7 ey_7 => ?_)
          refine lv_istore (lv' := [(6, .int y_7), (5, .int y_5), (0, .ref h0), (1, .int a1), (2, .int a2), (3, .int a3), (4, .int a4)]) hx hb dX0_shift_61 hl (by decide) rfl (fun ls hl => ?_)
          refine lv_iconst (v := 0) hx hb dX0_shift_63 (by decide) ?_
          refine lv_istore (lv' := [(7, .int 0), (6, .int y_7), (5, .int y_5), (0, .ref h0), (1, .int a1), (2, .int a2), (3, .int a3), (4, .int a4)]) hx hb dX0_shift_64 hl (by decide) rfl (fun ls hl => ?_)
          have hf : f_X0_shift f a1 a2 a3 a4 = l_X0_shift 256 a1 a2 a4 y_5 f y_7 0 := (by subst ey_5; subst ey_7; simp only [f_X0_shift, if_neg c_1, if_pos c_2, if_neg c_3, if_pos c_4])
          have hx0 : x_X0_shift a1 a2 a3 a4 = 0 := (by subst ey_5; subst ey_7; simp only [x_X0_shift, if_neg c_1, if_pos c_2, if_neg c_3, if_pos c_4])
          obtain ⟨t, ht, et⟩ : ∃ t : Nat, t ≤ 255 ∧ a4 = nI t := nI_of2 (M := 255) (n := 255) rfl c_3 c_4
          obtain ⟨H, hHe⟩ : ∃ H : Heap, H = s.heap := ⟨_, rfl⟩
          obtain ⟨u, hu⟩ : ∃ u : Int32, u = f := ⟨_, rfl⟩
          obtain ⟨z, hz⟩ : ∃ z : Int32, z = y_7 := ⟨_, rfl⟩
          obtain ⟨d, hd⟩ : ∃ d : Int32, d = 0 := ⟨_, rfl⟩
          obtain ⟨i, hi⟩ : ∃ i : Nat, i = 0 := ⟨_, rfl⟩
          obtain ⟨n, hn⟩ : ∃ n : Nat, n = 256 := ⟨_, rfl⟩
          have hinv : f_X0_shift f a1 a2 a3 a4 = l_X0_shift n a1 a2 a4 y_5 u z d := by rw [hf, hu, hz, hd, hn]
          have ed : d = nI i := by rw [hd, hi]; rfl
          have hit : i ≤ t := by rw [hi]; exact Nat.zero_le _
          have hm : t < i + n := by omega
          replace hl : lv_has ls 8 [(7, .int d), (6, .int z), (5, .int y_5), (0, .ref h0), (1, .int a1), (2, .int a2), (3, .int a3), (4, .int a4)] := by rw [hd, hz]; exact hl
          replace hS : va_S A s.heap H [] := by rw [hHe]; exact hS
          replace hP : va_P (dC, dI) vwCl [(h0, .inr (1, [.int u]))] H := by rw [hHe, hu]; exact hP
          replace hD : va_D A [(h0, .inr (1, [.int u]))] := by rw [hu]; exact hD
          rw [← hHe]
          generalize ([] : List Loc) = locs at hS ⊢
          clear hHe hu hz hd hi hn hf
          induction n generalizing i d z u H locs ls with
          | zero => exact absurd hm (by omega)
          | succ n ih =>
            refine lv_iload hx hb dX0_shift_66 (lv_at hl 0 rfl) ?_
            refine lv_iload hx hb dX0_shift_68 (lv_at hl 7 rfl) ?_
            refine lv_icmp_ge (tgt := 105) hx hb dX0_shift_70 (by decide) (fun c_8 => ?_) (fun c_8 => ?_)
            · refine lv_iload hx hb dX0_shift_105 (lv_at hl 7 rfl) ?_
              refine lv_if_le (tgt := 122) hx hb dX0_shift_107 (by decide) (fun c_9 => ?_) (fun c_9 => ?_)
              · refine lv_iload hx hb dX0_shift_122 (lv_at hl 1 rfl) ?_
                refine W.widen (k := 1) (n := 6) (by omega) (by omega) ?_
                exact vx_ret (W.iret (v := z) hx hb hr (fun t ht hW => ⟨⟨z, u, rfl, ⟨hx0, (by rw [hinv]; simp only [l_X0_shift, if_pos c_8, if_pos c_9]), (by rw [hinv]; simp only [l_X0_shift, if_pos c_8, if_pos c_9])⟩, by rw [ht]; exact hP, va_K.moved hW.alike hK, hD⟩, hS.F ht⟩) hS.2.2 dX0_shift_124)
              · refine lv_iload_n hx hb dX0_shift_110 rfl (lv_at hl 4 rfl) ?_
                refine lv_iconst (v := 4) hx hb dX0_shift_111 (by decide) ?_
                refine lv_icmp_lt (tgt := 122) hx hb dX0_shift_112 (by decide) (fun c_10 => ?_) (fun c_10 => ?_)
                · refine lv_iload hx hb dX0_shift_122 (lv_at hl 1 rfl) ?_
                  refine W.widen (k := 1) (n := 6) (by omega) (by omega) ?_
                  exact vx_ret (W.iret (v := z) hx hb hr (fun t ht hW => ⟨⟨z, u, rfl, ⟨hx0, (by rw [hinv]; simp only [l_X0_shift, if_pos c_8, if_neg c_9, if_pos c_10]), (by rw [hinv]; simp only [l_X0_shift, if_pos c_8, if_neg c_9, if_pos c_10])⟩, by rw [ht]; exact hP, va_K.moved hW.alike hK, hD⟩, hS.F ht⟩) hS.2.2 dX0_shift_124)
                · refine lv_aload_n hx hb dX0_shift_115 rfl (lv_at hl 3 rfl) ?_
                  refine lv_iload_n hx hb dX0_shift_116 rfl (lv_at hl 5 rfl) ?_
                  refine lv_iload hx hb dX0_shift_117 (lv_at hl 1 rfl) ?_
                  refine wr_callv (va_runV (As := [.int a2, .int z]) (rest := []) ⟨hx, hb, hml, hown, hts⟩ (p_X0_goByAnswer l dC dI h0 _ u a2 z) (cwV 2 hts gX0_shift_X0_goByAnswer rfl rfl rfl (by decide +kernel) ⟨Nat.le_of_ble_eq_true rfl, Nat.le_of_ble_eq_true rfl⟩) (wr_preV (ci := 1) rfl hK hP hD) rfl rfl hl.1 rfl (lv_room (Nat.le_of_ble_eq_true rfl)) dX0_shift_119 ⟨Nat.le_of_ble_eq_true rfl, Nat.le_of_ble_eq_true rfl⟩) hP hD hS hA (fun u_12 H locs eu_12 hP hD hS => ?_)
                  have hP : va_P (dC, dI) vwCl [(h0, .inr (1, [.int u_12]))] H := hP
                  have hD : va_D A [(h0, .inr (1, [.int u_12]))] := hD
                  refine lv_iload hx hb dX0_shift_122 (lv_at hl 1 rfl) ?_
                  refine W.widen (k := 1) (n := 6) (by omega) (by omega) ?_
                  exact vx_ret (W.iret (v := z) hx hb hr (fun t ht hW => ⟨⟨z, u_12, rfl, ⟨hx0, (by subst eu_12; rw [hinv]; simp only [l_X0_shift, if_pos c_8, if_neg c_9, if_neg c_10]), (by subst eu_12; rw [hinv]; simp only [l_X0_shift, if_pos c_8, if_neg c_9, if_neg c_10])⟩, by rw [ht]; exact hP, va_K.moved hW.alike hK, hD⟩, hS.F ht⟩) hS.2.2 dX0_shift_124)
            · have hlt : i + 1 ≤ t := (Nat.lt_or_ge i t).elim (fun q => q) (fun q => absurd (by rw [ed, et]; exact nI_le q (by omega)) c_8)
              refine lv_iload hx hb dX0_shift_73 (lv_at hl 2 rfl) ?_
              refine lv_if_eq (tgt := 89) hx hb dX0_shift_75 (by decide) (fun c_13 => ?_) (fun c_13 => ?_)
              · refine lv_aload_n hx hb dX0_shift_89 rfl (lv_at hl 3 rfl) ?_
                refine lv_iload_n hx hb dX0_shift_90 rfl (lv_at hl 4 rfl) ?_
                refine lv_iload_n hx hb dX0_shift_91 rfl (lv_at hl 5 rfl) ?_
                refine lv_iload hx hb dX0_shift_92 (lv_at hl 1 rfl) ?_
                refine wr_calli (va_runV (As := [.int a1, .int a2, .int z]) (rest := []) ⟨hx, hb, hml, hown, hts⟩ (p_X0_rightByOne l dC dI h0 _ u a1 a2 z) (cwV 3 hts gX0_shift_X0_rightByOne rfl rfl rfl (by decide +kernel) ⟨Nat.le_of_ble_eq_true rfl, Nat.le_of_ble_eq_true rfl⟩) (wr_preV (ci := 1) rfl hK hP hD) rfl rfl hl.1 rfl (lv_room (Nat.le_of_ble_eq_true rfl)) dX0_shift_94 ⟨Nat.le_of_ble_eq_true rfl, Nat.le_of_ble_eq_true rfl⟩) hP hD hS hA (fun r_14 u_15 H locs hw hP hD hS => ?_)
                obtain ⟨er_14, eu_15⟩ := hw
                have hP : va_P (dC, dI) vwCl [(h0, .inr (1, [.int u_15]))] H := hP
                have hD : va_D A [(h0, .inr (1, [.int u_15]))] := hD
                refine lv_istore (lv' := [(6, .int r_14), (7, .int d), (5, .int y_5), (0, .ref h0), (1, .int a1), (2, .int a2), (3, .int a3), (4, .int a4)]) hx hb dX0_shift_97 hl (by decide) rfl (fun ls hl => ?_)
                refine lv_iinc (v := (d + 1)) (lv' := [(7, .int (d + 1)), (6, .int r_14), (5, .int y_5), (0, .ref h0), (1, .int a1), (2, .int a2), (3, .int a3), (4, .int a4)]) hx hb dX0_shift_99 hl (k := 1) rfl rfl (by decide) rfl (fun ls hl => ?_)
                refine lv_goto (tgt := 66) hx hb dX0_shift_102 (by decide) ?_
                exact ih (i := i + 1) (d := (d + 1)) (z := r_14) (u := u_15) (H := H) (locs := locs) (ls := ls) (hinv := by subst er_14; subst eu_15; rw [hinv]; simp only [l_X0_shift, if_neg c_8, if_pos c_13]) (ed := by rw [ed]; exact nI_1 i) (hit := hlt) (hm := by omega) (hP := hP) (hD := hD) (hS := hS) (hl := lv_sub hl [0, 1, 2, 3, 4, 5, 6, 7] rfl)
              · refine lv_aload_n hx hb dX0_shift_78 rfl (lv_at hl 3 rfl) ?_
                refine lv_iload_n hx hb dX0_shift_79 rfl (lv_at hl 4 rfl) ?_
                refine lv_iload_n hx hb dX0_shift_80 rfl (lv_at hl 5 rfl) ?_
                refine lv_iload hx hb dX0_shift_81 (lv_at hl 1 rfl) ?_
                refine wr_calli (va_runV (As := [.int a1, .int a2, .int z]) (rest := []) ⟨hx, hb, hml, hown, hts⟩ (p_X0_leftByOne l dC dI h0 _ u a1 a2 z) (cwV 3 hts gX0_shift_X0_leftByOne rfl rfl rfl (by decide +kernel) ⟨Nat.le_of_ble_eq_true rfl, Nat.le_of_ble_eq_true rfl⟩) (wr_preV (ci := 1) rfl hK hP hD) rfl rfl hl.1 rfl (lv_room (Nat.le_of_ble_eq_true rfl)) dX0_shift_83 ⟨Nat.le_of_ble_eq_true rfl, Nat.le_of_ble_eq_true rfl⟩) hP hD hS hA (fun r_16 u_17 H locs hw hP hD hS => ?_)
                obtain ⟨er_16, eu_17⟩ := hw
                have hP : va_P (dC, dI) vwCl [(h0, .inr (1, [.int u_17]))] H := hP
                have hD : va_D A [(h0, .inr (1, [.int u_17]))] := hD
                refine lv_goto (tgt := 97) hx hb dX0_shift_86 (by decide) ?_
                refine lv_istore (lv' := [(6, .int r_16), (7, .int d), (5, .int y_5), (0, .ref h0), (1, .int a1), (2, .int a2), (3, .int a3), (4, .int a4)]) hx hb dX0_shift_97 hl (by decide) rfl (fun ls hl => ?_)
                refine lv_iinc (v := (d + 1)) (lv' := [(7, .int (d + 1)), (6, .int r_16), (5, .int y_5), (0, .ref h0), (1, .int a1), (2, .int a2), (3, .int a3), (4, .int a4)]) hx hb dX0_shift_99 hl (k := 1) rfl rfl (by decide) rfl (fun ls hl => ?_)
                refine lv_goto (tgt := 66) hx hb dX0_shift_102 (by decide) ?_
                exact ih (i := i + 1) (d := (d + 1)) (z := r_16) (u := u_17) (H := H) (locs := locs) (ls := ls) (hinv := by subst er_16; subst eu_17; rw [hinv]; simp only [l_X0_shift, if_neg c_8, if_neg c_13]) (ed := by rw [ed]; exact nI_1 i) (hit := hlt) (hm := by omega) (hP := hP) (hD := hD) (hS := hS) (hl := lv_sub hl [0, 1, 2, 3, 4, 5, 6, 7] rfl)
        · exact vx_throwS (own := RX0) (cls := "java/lang/IllegalArgumentException") (text := "times is not 0 .. 255") (names := ["java/lang/RuntimeException", "java/lang/Exception"]) (ik := 33) (is := 42) (ic := 37) (A := A) hx hb hst hown (by decide +kernel) (by decide +kernel) (hts (.classLink RX0 33 "java/lang/IllegalArgumentException") (by decide +kernel)) (hts (.initialized "java/lang/IllegalArgumentException") (by decide +kernel)) hs_42 (th_hat hth (fun w hw => hts w (List.mem_cons_of_mem _ (List.mem_append_right _ hw))) hth.1 (by decide +kernel)) (by decide +kernel) hth.2.2.1 hth.2.2.2.1 hS (by rw [hml]; exact hl.1) dX0_shift_33 dX0_shift_36 dX0_shift_37 dX0_shift_39 dX0_shift_42 (fun x h => (hte x h).elim) (Nat.le_of_ble_eq_true rfl) (Nat.le_of_ble_eq_true rfl) (Nat.le_of_ble_eq_true rfl) (Nat.le_of_ble_eq_true rfl) hlocks (fun t _ hz hk => ⟨1, ⟨(by simp only [x_X0_shift, if_neg c_1, if_pos c_2, if_neg c_3, if_neg c_4]), by decide⟩, rfl, ⟨hz, fun q hq _ => hk q hq⟩⟩) hS.2.2 (Nat.le_refl _) (Nat.le_refl _)
    · exact vx_throwS (own := RX0) (cls := "java/lang/IllegalArgumentException") (text := "no such shift") (names := ["java/lang/RuntimeException", "java/lang/Exception"]) (ik := 33) (is := 40) (ic := 37) (A := A) hx hb hst hown (by decide +kernel) (by decide +kernel) (hts (.classLink RX0 33 "java/lang/IllegalArgumentException") (by decide +kernel)) (hts (.initialized "java/lang/IllegalArgumentException") (by decide +kernel)) hs_40 (th_hat hth (fun w hw => hts w (List.mem_cons_of_mem _ (List.mem_append_right _ hw))) hth.1 (by decide +kernel)) (by decide +kernel) hth.2.2.1 hth.2.2.2.1 hS (by rw [hml]; exact hl.1) dX0_shift_10 dX0_shift_13 dX0_shift_14 dX0_shift_16 dX0_shift_19 (fun x h => (hte x h).elim) (Nat.le_of_ble_eq_true rfl) (Nat.le_of_ble_eq_true rfl) (Nat.le_of_ble_eq_true rfl) (Nat.le_of_ble_eq_true rfl) hlocks (fun t _ hz hk => ⟨1, ⟨(by simp only [x_X0_shift, if_neg c_1, if_neg c_2]), by decide⟩, rfl, ⟨hz, fun q hq _ => hk q hq⟩⟩) hS.2.2 (Nat.le_refl _) (Nat.le_refl _)

/-- what X0_divide answers, and the flags behind it -/
def f_X0_divide (f : Int32) (a1 : Int32) (a2 : Int32) (a3 : Int32) (a4 : Int32) : Int32 × Int32 :=
  let y_1 : Int64 := (f_X0_valueTwiceAsLong a1 a2 a3)
  let y_2 : Int64 := (((f_X0_valueOf a1 a2 a4) : Int32).toInt64)
  if (lg_cmp y_2 0) = 0 then
  ((0, f))
  else
  (let y_4 : Int64 := (y_1 / y_2)
  let y_5 : Int64 := (jrL y_1 y_2)
  if (f_X0_isQuotient a1 a2 y_4) = 0 then
  ((0, f))
  else
  (((((f_X0_operand a1 ((y_5 : Int64).toInt32)) <<< ((f_X0_width a1) &&& 31)) ||| (f_X0_operand a1 ((y_4 : Int64).toInt32))), f)))
/-- what X0_divide throws: 0 nothing, 1 IllegalArgumentException, 2 ArithmeticException -/
def x_X0_divide (a1 : Int32) (a2 : Int32) (a3 : Int32) (a4 : Int32) : Int32 :=
  let y_1 : Int64 := (f_X0_valueTwiceAsLong a1 a2 a3)
  let y_2 : Int64 := (((f_X0_valueOf a1 a2 a4) : Int32).toInt64)
  if (lg_cmp y_2 0) = 0 then
  (2)
  else
  (let y_4 : Int64 := (y_1 / y_2)
  let y_5 : Int64 := (jrL y_1 y_2)
  if (f_X0_isQuotient a1 a2 y_4) = 0 then
  (2)
  else
  (0))
set_option maxHeartbeats 4000000 in
set_option maxRecDepth 100000 in
theorem p_X0_divide (l : Launch) (hst : l.stackTraces = false) (dC : Nat → ClassId) (dI : Nat → Nat → Nat) (h0 : Nat) (sz : Nat) (f : Int32) (a1 : Int32) (a2 : Int32) (a3 : Int32) (a4 : Int32) : vx_Met l yX0_divide wsX0_divide ({ frames := 6, cells := 1, slots := 6, locals := 85 }) (va_Pc [.ref h0, .int a1, .int a2, .int a3, .int a4] (th_pre (dC, dI) h0 sz f)) (va_Qi (fun (r : Int32) (u : Int32) => x_X0_divide a1 a2 a3 a4 = 0 ∧ r = (f_X0_divide f a1 a2 a3 a4).1 ∧ u = (f_X0_divide f a1 a2 a3 a4).2) (wr_at (dC, dI) 1 h0 (fun u : Int32 => [.int u]) (wr_A 1 h0 sz [.int f])) (wr_A 1 h0 sz [.int f])) (vx_X (fun u : Int32 => u = x_X0_divide a1 a2 a3 a4 ∧ ¬ u = 0) (fun E u _ => E = th_E u) (fun _ => False)) 1 6 (wr_A 1 h0 sz [.int f]) := by
  refine vx_ofW (cc := cX0_divide) (maxL := 13) (ret := (some .int)) (by decide) rfl ?_
  intro p e s m args below meth c s₁ B hml hte hv
  obtain ⟨rfl, ⟨hsz, hP, hK, hD0⟩, hth⟩ := hv
  have hx := B.exec
  have hb := B.bytes
  have hr := B.returns
  have hts := atoms_spec (ws := wsX0_divide) B.pre
  have hown : s.vm.findClass RX0 = some m.cls := findClass_of_methodNamed B.named
  have hlocks := B.notSynchronized
  subst hsz
  have hD : va_D (wr_A 1 h0 s.heap.size [.int f]) [(h0, .inr (1, [.int f]))] := hD0.self (sz := s.heap.size)
  generalize hAe : wr_A 1 h0 s.heap.size [.int f] = A at hD hth ⊢
  have hA : ∀ q : Nat, s.heap.size ≤ q → A q := fun q h => by rw [← hAe]; exact Or.inr h
  have hS : va_S A s.heap s.heap [] := va_S.rf
  have hP : va_P (dC, dI) vwCl [(h0, .inr (1, [.int f]))] s.heap := hP
  have hD : va_D A [(h0, .inr (1, [.int f]))] := hD
  obtain ⟨sa_70, hs_70⟩ := hth.2.2.2.2.1 (70, "divided by 0") (by decide)
  obtain ⟨sa_77, hs_77⟩ := hth.2.2.2.2.1 (77, "the quotient is no operand") (by decide)
  have hl := lv_entry ([.ref h0, .int a1, .int a2, .int a3, .int a4]) (n := 13) (Nat.le_of_ble_eq_true rfl)
  rw [lg_entry_eq]
  generalize (lg_sl ([.ref h0, .int a1, .int a2, .int a3, .int a4]) ++ List.replicate (13 - (lg_sl ([.ref h0, .int a1, .int a2, .int a3, .int a4])).length) Slot.unset).toArray = ls at hl ⊢
  have hl : lv_has ls 13 [(0, .ref h0), (1, .int a1), (2, .int a2), (3, .int a3), (4, .int a4)] := hl
  refine lv_iload_n hx hb dX0_divide_0 rfl (lv_at hl 1 rfl) ?_
  refine lv_iload_n hx hb dX0_divide_1 rfl (lv_at hl 2 rfl) ?_
  refine lv_iload_n hx hb dX0_divide_2 rfl (lv_at hl 3 rfl) ?_
  refine pu_calll (F := (f_X0_valueTwiceAsLong a1 a2 a3)) (va_runS (As := [.int a1, .int a2, .int a3]) (rest := []) ⟨hx, hb, hml, hown, hts⟩ (p_X0_valueTwiceAsLong l _ a1 a2 a3) (va_cwS 3 hts gX0_divide_X0_valueTwiceAsLong rfl rfl rfl (by decide +kernel) ⟨Nat.le_of_ble_eq_true rfl, Nat.le_of_ble_eq_true rfl⟩) pu_preS rfl rfl hl.1 rfl (lv_room (Nat.le_of_ble_eq_true rfl)) dX0_divide_3 ⟨Nat.le_of_ble_eq_true rfl, Nat.le_of_ble_eq_true rfl⟩) ?_
  refine lv_topl (fun y_1 ey_1 => ?_)
  refine lv_lstore (lv' := [(5, .long y_1), (0, .ref h0), (1, .int a1), (2, .int a2), (3, .int a3), (4, .int a4)]) hx hb dX0_divide_6 hl (by decide) rfl (fun ls hl => ?_)
  refine lv_iload_n hx hb dX0_divide_8 rfl (lv_at hl 2 rfl) ?_
  refine lv_iload_n hx hb dX0_divide_9 rfl (lv_at hl 3 rfl) ?_
  refine lv_iload hx hb dX0_divide_10 (lv_at hl 5 rfl) ?_
  refine pu_calli (F := (f_X0_valueOf a1 a2 a4)) (va_runS (As := [.int a1, .int a2, .int a4]) (rest := []) ⟨hx, hb, hml, hown, hts⟩ (p_X0_valueOf l _ a1 a2 a4) (va_cwS 3 hts gX0_divide_X0_valueOf rfl rfl rfl (by decide +kernel) ⟨Nat.le_of_ble_eq_true rfl, Nat.le_of_ble_eq_true rfl⟩) pu_preS rfl rfl hl.1 rfl (lv_room (Nat.le_of_ble_eq_true rfl)) dX0_divide_12 ⟨Nat.le_of_ble_eq_true rfl, Nat.le_of_ble_eq_true rfl⟩) ?_
  refine lv_i2l (v := ((f_X0_valueOf a1 a2 a4) : Int32).toInt64) hx hb dX0_divide_15 rfl ?_
  refine lv_topl (fun y_2 ey_2 => ?_)
  refine lv_lstore (lv' := [(7, .long y_2), (5, .long y_1), (0, .ref h0), (1, .int a1), (2, .int a2), (3, .int a3), (4, .int a4)]) hx hb dX0_divide_16 hl (by decide) rfl (fun ls hl => ?_)
  refine lv_lload hx hb dX0_divide_18 (lv_at hl 0 rfl) ?_
  refine lv_lconst (v := 0) hx hb dX0_divide_20 (by decide +kernel) ?_
  refine W.lcmp hx hb dX0_divide_21 ?_
  refine lv_if_ne (tgt := 35) hx hb dX0_divide_22 (by decide) (fun c_3 => ?_) (fun c_3 => ?_)
  · refine lv_lload hx hb dX0_divide_35 (lv_at hl 1 rfl) ?_
    refine lv_lload hx hb dX0_divide_37 (lv_at hl 0 rfl) ?_
    refine lv_ldiv hx hb dX0_divide_39 (fun h => c_3 ((lg_cmp_eq _ _).mpr h)) ?_
    refine lv_topl (fun y_4 ey_4 => ?_)
    refine lv_lstore (lv' := [(9, .long y_4), (7, .long y_2), (5, .long y_1), (0, .ref h0), (1, .int a1), (2, .int a2), (3, .int a3), (4, .int a4)]) hx hb dX0_divide_40 hl (by decide) rfl (fun ls hl => ?_)
    refine lv_lload hx hb dX0_divide_42 (lv_at hl 2 rfl) ?_
    refine lv_lload hx hb dX0_divide_44 (lv_at hl 1 rfl) ?_
    refine jrL_row hx hb dX0_divide_46 (fun h => c_3 ((lg_cmp_eq _ _).mpr h)) ?_
    refine lv_topl (fun y_5 ey_5 => ?_)
    refine lv_lstore (lv' := [(11, .long y_5), (9, .long y_4), (7, .long y_2), (5, .long y_1), (0, .ref h0), (1, .int a1), (2, .int a2), (3, .int a3), (4, .int a4)]) hx hb dX0_divide_47 hl (by decide) rfl (fun ls hl => ?_)
    refine lv_iload_n hx hb dX0_divide_49 rfl (lv_at hl 5 rfl) ?_
    refine lv_iload_n hx hb dX0_divide_50 rfl (lv_at hl 6 rfl) ?_
    refine lv_lload hx hb dX0_divide_51 (lv_at hl 1 rfl) ?_
    refine pu_calli (F := (f_X0_isQuotient a1 a2 y_4)) (va_runS (As := [.int a1, .int a2, .long y_4]) (rest := []) ⟨hx, hb, hml, hown, hts⟩ (p_X0_isQuotient l _ a1 a2 y_4) (va_cwS 3 hts gX0_divide_X0_isQuotient rfl rfl rfl (by decide +kernel) ⟨Nat.le_of_ble_eq_true rfl, Nat.le_of_ble_eq_true rfl⟩) pu_preS rfl rfl hl.1 rfl (lv_room (Nat.le_of_ble_eq_true rfl)) dX0_divide_53 ⟨Nat.le_of_ble_eq_true rfl, Nat.le_of_ble_eq_true rfl⟩) ?_
    refine lv_if_ne (tgt := 69) hx hb dX0_divide_56 (by decide) (fun c_6 => ?_) (fun c_6 => ?_)
    · refine lv_iload_n hx hb dX0_divide_69 rfl (lv_at hl 5 rfl) ?_
      refine lv_lload hx hb dX0_divide_70 (lv_at hl 0 rfl) ?_
      refine lv_l2i (v := (y_5 : Int64).toInt32) hx hb dX0_divide_72 rfl ?_
      refine pu_calli (F := (f_X0_operand a1 ((y_5 : Int64).toInt32))) (va_runS (As := [.int a1, .int ((y_5 : Int64).toInt32)]) (rest := []) ⟨hx, hb, hml, hown, hts⟩ (p_X0_operand l _ a1 ((y_5 : Int64).toInt32)) (va_cwS 2 hts gX0_divide_X0_operand rfl rfl rfl (by decide +kernel) ⟨Nat.le_of_ble_eq_true rfl, Nat.le_of_ble_eq_true rfl⟩) pu_preS rfl rfl hl.1 rfl (lv_room (Nat.le_of_ble_eq_true rfl)) dX0_divide_73 ⟨Nat.le_of_ble_eq_true rfl, Nat.le_of_ble_eq_true rfl⟩) ?_
      refine lv_iload_n hx hb dX0_divide_76 rfl (lv_at hl 5 rfl) ?_
      refine pu_calli (F := (f_X0_width a1)) (va_runS (As := [.int a1]) (rest := [.int (f_X0_operand a1 ((y_5 : Int64).toInt32))]) ⟨hx, hb, hml, hown, hts⟩ (p_X0_width l _ a1) (va_cwS 1 hts gX0_divide_X0_width rfl rfl rfl (by decide +kernel) ⟨Nat.le_of_ble_eq_true rfl, Nat.le_of_ble_eq_true rfl⟩) pu_preS rfl rfl hl.1 rfl (lv_room (Nat.le_of_ble_eq_true rfl)) dX0_divide_77 ⟨Nat.le_of_ble_eq_true rfl, Nat.le_of_ble_eq_true rfl⟩) ?_
      refine lv_ishl hx hb dX0_divide_80 ?_
      refine lv_iload_n hx hb dX0_divide_81 rfl (lv_at hl 5 rfl) ?_
      refine lv_lload hx hb dX0_divide_82 (lv_at hl 1 rfl) ?_
      refine lv_l2i (v := (y_4 : Int64).toInt32) hx hb dX0_divide_84 rfl ?_
      refine pu_calli (F := (f_X0_operand a1 ((y_4 : Int64).toInt32))) (va_runS (As := [.int a1, .int ((y_4 : Int64).toInt32)]) (rest := [.int ((f_X0_operand a1 ((y_5 : Int64).toInt32)) <<< ((f_X0_width a1) &&& 31))]) ⟨hx, hb, hml, hown, hts⟩ (p_X0_operand l _ a1 ((y_4 : Int64).toInt32)) (va_cwS 2 hts gX0_divide_X0_operand rfl rfl rfl (by decide +kernel) ⟨Nat.le_of_ble_eq_true rfl, Nat.le_of_ble_eq_true rfl⟩) pu_preS rfl rfl hl.1 rfl (lv_room (Nat.le_of_ble_eq_true rfl)) dX0_divide_85 ⟨Nat.le_of_ble_eq_true rfl, Nat.le_of_ble_eq_true rfl⟩) ?_
      refine lv_ior hx hb dX0_divide_88 ?_
      refine W.widen (k := 1) (n := 6) (by omega) (by omega) ?_
      exact vx_ret (W.iret (v := (((f_X0_operand a1 ((y_5 : Int64).toInt32)) <<< ((f_X0_width a1) &&& 31)) ||| (f_X0_operand a1 ((y_4 : Int64).toInt32)))) hx hb hr (fun t ht hW => ⟨⟨(((f_X0_operand a1 ((y_5 : Int64).toInt32)) <<< ((f_X0_width a1) &&& 31)) ||| (f_X0_operand a1 ((y_4 : Int64).toInt32))), f, rfl, ⟨(by subst ey_1; subst ey_2; subst ey_4; subst ey_5; simp only [x_X0_divide, if_neg c_3, if_neg c_6]), (by subst ey_1; subst ey_2; subst ey_4; subst ey_5; simp only [f_X0_divide, if_neg c_3, if_neg c_6]), (by subst ey_1; subst ey_2; subst ey_4; subst ey_5; simp only [f_X0_divide, if_neg c_3, if_neg c_6])⟩, by rw [ht]; exact hP, va_K.moved hW.alike hK, hD⟩, hS.F ht⟩) hS.2.2 dX0_divide_89)
    · exact vx_throwS (own := RX0) (cls := "java/lang/ArithmeticException") (text := "the quotient is no operand") (names := ["java/lang/RuntimeException", "java/lang/Exception"]) (ik := 68) (is := 77) (ic := 72) (A := A) hx hb hst hown (by decide +kernel) (by decide +kernel) (hts (.classLink RX0 68 "java/lang/ArithmeticException") (by decide +kernel)) (hts (.initialized "java/lang/ArithmeticException") (by decide +kernel)) hs_77 (th_hat hth (fun w hw => hts w (List.mem_cons_of_mem _ (List.mem_append_left _ (List.mem_append_right _ hw)))) hth.2.1 (by decide +kernel)) (by decide +kernel) hth.2.2.1 hth.2.2.2.1 hS (by rw [hml]; exact hl.1) dX0_divide_59 dX0_divide_62 dX0_divide_63 dX0_divide_65 dX0_divide_68 (fun x h => (hte x h).elim) (Nat.le_of_ble_eq_true rfl) (Nat.le_of_ble_eq_true rfl) (Nat.le_of_ble_eq_true rfl) (Nat.le_of_ble_eq_true rfl) hlocks (fun t _ hz hk => ⟨2, ⟨(by subst ey_1; subst ey_2; subst ey_4; subst ey_5; simp only [x_X0_divide, if_neg c_3, if_pos c_6]), by decide⟩, rfl, ⟨hz, fun q hq _ => hk q hq⟩⟩) hS.2.2 (Nat.le_refl _) (Nat.le_refl _)
  · exact vx_throwS (own := RX0) (cls := "java/lang/ArithmeticException") (text := "divided by 0") (names := ["java/lang/RuntimeException", "java/lang/Exception"]) (ik := 68) (is := 70) (ic := 72) (A := A) hx hb hst hown (by decide +kernel) (by decide +kernel) (hts (.classLink RX0 68 "java/lang/ArithmeticException") (by decide +kernel)) (hts (.initialized "java/lang/ArithmeticException") (by decide +kernel)) hs_70 (th_hat hth (fun w hw => hts w (List.mem_cons_of_mem _ (List.mem_append_left _ (List.mem_append_right _ hw)))) hth.2.1 (by decide +kernel)) (by decide +kernel) hth.2.2.1 hth.2.2.2.1 hS (by rw [hml]; exact hl.1) dX0_divide_25 dX0_divide_28 dX0_divide_29 dX0_divide_31 dX0_divide_34 (fun x h => (hte x h).elim) (Nat.le_of_ble_eq_true rfl) (Nat.le_of_ble_eq_true rfl) (Nat.le_of_ble_eq_true rfl) (Nat.le_of_ble_eq_true rfl) hlocks (fun t _ hz hk => ⟨2, ⟨(by subst ey_1; subst ey_2; simp only [x_X0_divide, if_pos c_3]), by decide⟩, rfl, ⟨hz, fun q hq _ => hk q hq⟩⟩) hS.2.2 (Nat.le_refl _) (Nat.le_refl _)

/-- what X0_adjust answers, and the flags behind it -/
def f_X0_adjust (f : Int32) (a1 : Int32) (a2 : Int32) (a3 : Int32) : Int32 × Int32 :=
  let y_1 : Int32 := (a2 &&& 255)
  let y_2 : Int32 := ((a2 >>> (8 &&& 31)) &&& 255)
  let y_3 : Int32 := (a3 &&& 255)
  if a1 = 0 then
  (let r_5 : Int32 := (f_X0_adjustedSum f y_1).1
  let u_6 : Int32 := (f_X0_adjustedSum f y_1).2
  ((f_X0_joined y_2 r_5), u_6))
  else
  if a1 = 1 then
  (let r_8 : Int32 := (f_X0_adjustedDifference f y_1).1
  let u_9 : Int32 := (f_X0_adjustedDifference f y_1).2
  ((f_X0_joined y_2 r_8), u_9))
  else
  if a1 = 2 then
  (let r_11 : Int32 := (f_X0_adjustedDigit f y_2 y_1 1).1
  let u_12 : Int32 := (f_X0_adjustedDigit f y_2 y_1 1).2
  (r_11, u_12))
  else
  if a1 = 3 then
  (let r_14 : Int32 := (f_X0_adjustedDigit f y_2 y_1 (-1)).1
  let u_15 : Int32 := (f_X0_adjustedDigit f y_2 y_1 (-1)).2
  (r_14, u_15))
  else
  if a1 = 4 then
  (if y_3 = 0 then
  ((0, f))
  else
  (let r_18 : Int32 := (f_X0_adjustedByte f (jr y_1 y_3)).1
  let u_19 : Int32 := (f_X0_adjustedByte f (jr y_1 y_3)).2
  ((f_X0_joined (y_1 / y_3) r_18), u_19)))
  else
  if a1 = 5 then
  (let r_21 : Int32 := (f_X0_adjustedByte f ((y_2 * y_3) + y_1)).1
  let u_22 : Int32 := (f_X0_adjustedByte f ((y_2 * y_3) + y_1)).2
  ((f_X0_joined 0 r_21), u_22))
  else
  ((0, f))
/-- what X0_adjust throws: 0 nothing, 1 IllegalArgumentException, 2 ArithmeticException -/
def x_X0_adjust (f : Int32) (a1 : Int32) (a2 : Int32) (a3 : Int32) : Int32 :=
  let y_1 : Int32 := (a2 &&& 255)
  let y_2 : Int32 := ((a2 >>> (8 &&& 31)) &&& 255)
  let y_3 : Int32 := (a3 &&& 255)
  if a1 = 0 then
  (let r_5 : Int32 := (f_X0_adjustedSum f y_1).1
  let u_6 : Int32 := (f_X0_adjustedSum f y_1).2
  0)
  else
  if a1 = 1 then
  (let r_8 : Int32 := (f_X0_adjustedDifference f y_1).1
  let u_9 : Int32 := (f_X0_adjustedDifference f y_1).2
  0)
  else
  if a1 = 2 then
  (let r_11 : Int32 := (f_X0_adjustedDigit f y_2 y_1 1).1
  let u_12 : Int32 := (f_X0_adjustedDigit f y_2 y_1 1).2
  0)
  else
  if a1 = 3 then
  (let r_14 : Int32 := (f_X0_adjustedDigit f y_2 y_1 (-1)).1
  let u_15 : Int32 := (f_X0_adjustedDigit f y_2 y_1 (-1)).2
  0)
  else
  if a1 = 4 then
  (if y_3 = 0 then
  (2)
  else
  (let r_18 : Int32 := (f_X0_adjustedByte f (jr y_1 y_3)).1
  let u_19 : Int32 := (f_X0_adjustedByte f (jr y_1 y_3)).2
  0))
  else
  if a1 = 5 then
  (let r_21 : Int32 := (f_X0_adjustedByte f ((y_2 * y_3) + y_1)).1
  let u_22 : Int32 := (f_X0_adjustedByte f ((y_2 * y_3) + y_1)).2
  0)
  else
  (1)
set_option maxHeartbeats 4000000 in
set_option maxRecDepth 100000 in
theorem p_X0_adjust (l : Launch) (hst : l.stackTraces = false) (dC : Nat → ClassId) (dI : Nat → Nat → Nat) (h0 : Nat) (sz : Nat) (f : Int32) (a1 : Int32) (a2 : Int32) (a3 : Int32) : vx_Met l yX0_adjust wsX0_adjust ({ frames := 6, cells := 1, slots := 6, locals := 130 }) (va_Pc [.ref h0, .int a1, .int a2, .int a3] (th_pre (dC, dI) h0 sz f)) (va_Qi (fun (r : Int32) (u : Int32) => x_X0_adjust f a1 a2 a3 = 0 ∧ r = (f_X0_adjust f a1 a2 a3).1 ∧ u = (f_X0_adjust f a1 a2 a3).2) (wr_at (dC, dI) 1 h0 (fun u : Int32 => [.int u]) (wr_A 1 h0 sz [.int f])) (wr_A 1 h0 sz [.int f])) (vx_X (fun u : Int32 => u = x_X0_adjust f a1 a2 a3 ∧ ¬ u = 0) (fun E u _ => E = th_E u) (fun _ => False)) 1 6 (wr_A 1 h0 sz [.int f]) := by
  refine vx_ofW (cc := cX0_adjust) (maxL := 7) (ret := (some .int)) (by decide) rfl ?_
  intro p e s m args below meth c s₁ B hml hte hv
  obtain ⟨rfl, ⟨hsz, hP, hK, hD0⟩, hth⟩ := hv
  have hx := B.exec
  have hb := B.bytes
  have hr := B.returns
  have hts := atoms_spec (ws := wsX0_adjust) B.pre
  have hown : s.vm.findClass RX0 = some m.cls := findClass_of_methodNamed B.named
  have hlocks := B.notSynchronized
  subst hsz
  have hD : va_D (wr_A 1 h0 s.heap.size [.int f]) [(h0, .inr (1, [.int f]))] := hD0.self (sz := s.heap.size)
  generalize hAe : wr_A 1 h0 s.heap.size [.int f] = A at hD hth ⊢
  have hA : ∀ q : Nat, s.heap.size ≤ q → A q := fun q h => by rw [← hAe]; exact Or.inr h
  have hS : va_S A s.heap s.heap [] := va_S.rf
  have hP : va_P (dC, dI) vwCl [(h0, .inr (1, [.int f]))] s.heap := hP
  have hD : va_D A [(h0, .inr (1, [.int f]))] := hD
  obtain ⟨sa_98, hs_98⟩ := hth.2.2.2.2.1 (98, "the base is 0") (by decide)
  obtain ⟨sa_103, hs_103⟩ := hth.2.2.2.2.1 (103, "no such adjustment") (by decide)
  have hl := lv_entry ([.ref h0, .int a1, .int a2, .int a3]) (n := 7) (Nat.le_of_ble_eq_true rfl)
  rw [lg_entry_eq]
  generalize (lg_sl ([.ref h0, .int a1, .int a2, .int a3]) ++ List.replicate (7 - (lg_sl ([.ref h0, .int a1, .int a2, .int a3])).length) Slot.unset).toArray = ls at hl ⊢
  have hl : lv_has ls 7 [(0, .ref h0), (1, .int a1), (2, .int a2), (3, .int a3)] := hl
  refine lv_iload_n hx hb dX0_adjust_0 rfl (lv_at hl 2 rfl) ?_
  refine lv_sipush (v := 255) hx hb dX0_adjust_1 (by decide +kernel) ?_
  refine lv_iand hx hb dX0_adjust_4 ?_
  refine lv_topi (fun y_1 ey_1 => ?_)
  refine lv_istore (lv' := [(4, .int y_1), (0, .ref h0), (1, .int a1), (2, .int a2), (3, .int a3)]) hx hb dX0_adjust_5 hl (by decide) rfl (fun ls hl => ?_)
  refine lv_iload_n hx hb dX0_adjust_7 rfl (lv_at hl 3 rfl) ?_
  refine lv_bipush (v := 8) hx hb dX0_adjust_8 (by decide +kernel) ?_
  refine lv_ishr hx hb dX0_adjust_10 ?_
  refine lv_sipush (v := 255) hx hb dX0_adjust_11 (by decide +kernel) ?_
  refine lv_iand hx hb dX0_adjust_14 ?_
  refine lv_topi (fun y_2 ey_2 => ?_)
  refine lv_istore (lv' := [(5, .int y_2), (4, .int y_1), (0, .ref h0), (1, .int a1), (2, .int a2), (3, .int a3)]) hx hb dX0_adjust_15 hl (by decide) rfl (fun ls hl => ?_)
  refine lv_iload_n hx hb dX0_adjust_17 rfl (lv_at hl 5 rfl) ?_
  refine lv_sipush (v := 255) hx hb dX0_adjust_18 (by decide +kernel) ?_
  refine lv_iand hx hb dX0_adjust_21 ?_
  refine lv_topi (fun y_3 ey_3 => ?_)
  refine lv_istore (lv' := [(6, .int y_3), (5, .int y_2), (4, .int y_1), (0, .ref h0), (1, .int a1), (2, .int a2), (3, .int a3)]) hx hb dX0_adjust_22 hl (by decide) rfl (fun ls hl => ?_)
  refine lv_iload_n hx hb dX0_adjust_24 rfl (lv_at hl 4 rfl) ?_
  by_cases c_4 : a1 = 0
  · refine lv_tableIn (off := 39) (tgt := 64) hx hb dX0_adjust_25 (by rw [c_4]; decide) (by rw [c_4]; decide) (by rw [c_4]; rfl) (by decide) ?_
    refine lv_iload hx hb dX0_adjust_64 (lv_at hl 1 rfl) ?_
    refine lv_aload_n hx hb dX0_adjust_66 rfl (lv_at hl 3 rfl) ?_
    refine lv_iload hx hb dX0_adjust_67 (lv_at hl 2 rfl) ?_
    refine wr_calli (va_runV (As := [.int y_1]) (rest := [.int y_2]) ⟨hx, hb, hml, hown, hts⟩ (p_X0_adjustedSum l dC dI h0 _ f y_1) (cwV 1 hts gX0_adjust_X0_adjustedSum rfl rfl rfl (by decide +kernel) ⟨Nat.le_of_ble_eq_true rfl, Nat.le_of_ble_eq_true rfl⟩) (wr_preV (ci := 1) rfl hK hP hD) rfl rfl hl.1 rfl (lv_room (Nat.le_of_ble_eq_true rfl)) dX0_adjust_69 ⟨Nat.le_of_ble_eq_true rfl, Nat.le_of_ble_eq_true rfl⟩) hP hD hS hA (fun r_5 u_6 H locs hw hP hD hS => ?_)
    obtain ⟨er_5, eu_6⟩ := hw
    have hP : va_P (dC, dI) vwCl [(h0, .inr (1, [.int u_6]))] H := hP
    have hD : va_D A [(h0, .inr (1, [.int u_6]))] := hD
    refine pu_calli (F := (f_X0_joined y_2 r_5)) (va_runS (As := [.int y_2, .int r_5]) (rest := []) ⟨hx, hb, hml, hown, hts⟩ (p_X0_joined l _ y_2 r_5) (va_cwS 2 hts gX0_adjust_X0_joined rfl rfl rfl (by decide +kernel) ⟨Nat.le_of_ble_eq_true rfl, Nat.le_of_ble_eq_true rfl⟩) pu_preS rfl rfl hl.1 rfl (lv_room (Nat.le_of_ble_eq_true rfl)) dX0_adjust_72 ⟨Nat.le_of_ble_eq_true rfl, Nat.le_of_ble_eq_true rfl⟩) ?_
    refine W.widen (k := 1) (n := 6) (by omega) (by omega) ?_
    exact vx_ret (W.iret (v := (f_X0_joined y_2 r_5)) hx hb hr (fun t ht hW => ⟨⟨(f_X0_joined y_2 r_5), u_6, rfl, ⟨(by subst ey_1; subst ey_2; subst ey_3; subst er_5; subst eu_6; simp only [x_X0_adjust, if_pos c_4]), (by subst ey_1; subst ey_2; subst ey_3; subst er_5; subst eu_6; simp only [f_X0_adjust, if_pos c_4]), (by subst ey_1; subst ey_2; subst ey_3; subst er_5; subst eu_6; simp only [f_X0_adjust, if_pos c_4])⟩, by rw [ht]; exact hP, va_K.moved hW.alike hK, hD⟩, hS.F ht⟩) hS.2.2 dX0_adjust_75)
  by_cases c_7 : a1 = 1
  · refine lv_tableIn (off := 51) (tgt := 76) hx hb dX0_adjust_25 (by rw [c_7]; decide) (by rw [c_7]; decide) (by rw [c_7]; rfl) (by decide) ?_
    refine lv_iload hx hb dX0_adjust_76 (lv_at hl 1 rfl) ?_
    refine lv_aload_n hx hb dX0_adjust_78 rfl (lv_at hl 3 rfl) ?_
    refine lv_iload hx hb dX0_adjust_79 (lv_at hl 2 rfl) ?_
    refine wr_calli (va_runV (As := [.int y_1]) (rest := [.int y_2]) ⟨hx, hb, hml, hown, hts⟩ (p_X0_adjustedDifference l dC dI h0 _ f y_1) (cwV 1 hts gX0_adjust_X0_adjustedDifference rfl rfl rfl (by decide +kernel) ⟨Nat.le_of_ble_eq_true rfl, Nat.le_of_ble_eq_true rfl⟩) (wr_preV (ci := 1) rfl hK hP hD) rfl rfl hl.1 rfl (lv_room (Nat.le_of_ble_eq_true rfl)) dX0_adjust_81 ⟨Nat.le_of_ble_eq_true rfl, Nat.le_of_ble_eq_true rfl⟩) hP hD hS hA (fun r_8 u_9 H locs hw hP hD hS => ?_)
    obtain ⟨er_8, eu_9⟩ := hw
    have hP : va_P (dC, dI) vwCl [(h0, .inr (1, [.int u_9]))] H := hP
    have hD : va_D A [(h0, .inr (1, [.int u_9]))] := hD
    refine pu_calli (F := (f_X0_joined y_2 r_8)) (va_runS (As := [.int y_2, .int r_8]) (rest := []) ⟨hx, hb, hml, hown, hts⟩ (p_X0_joined l _ y_2 r_8) (va_cwS 2 hts gX0_adjust_X0_joined rfl rfl rfl (by decide +kernel) ⟨Nat.le_of_ble_eq_true rfl, Nat.le_of_ble_eq_true rfl⟩) pu_preS rfl rfl hl.1 rfl (lv_room (Nat.le_of_ble_eq_true rfl)) dX0_adjust_84 ⟨Nat.le_of_ble_eq_true rfl, Nat.le_of_ble_eq_true rfl⟩) ?_
    refine W.widen (k := 1) (n := 6) (by omega) (by omega) ?_
    exact vx_ret (W.iret (v := (f_X0_joined y_2 r_8)) hx hb hr (fun t ht hW => ⟨⟨(f_X0_joined y_2 r_8), u_9, rfl, ⟨(by subst ey_1; subst ey_2; subst ey_3; subst er_8; subst eu_9; simp only [x_X0_adjust, if_neg c_4, if_pos c_7]), (by subst ey_1; subst ey_2; subst ey_3; subst er_8; subst eu_9; simp only [f_X0_adjust, if_neg c_4, if_pos c_7]), (by subst ey_1; subst ey_2; subst ey_3; subst er_8; subst eu_9; simp only [f_X0_adjust, if_neg c_4, if_pos c_7])⟩, by rw [ht]; exact hP, va_K.moved hW.alike hK, hD⟩, hS.F ht⟩) hS.2.2 dX0_adjust_87)
  by_cases c_10 : a1 = 2
  · refine lv_tableIn (off := 63) (tgt := 88) hx hb dX0_adjust_25 (by rw [c_10]; decide) (by rw [c_10]; decide) (by rw [c_10]; rfl) (by decide) ?_
    refine lv_aload_n hx hb dX0_adjust_88 rfl (lv_at hl 3 rfl) ?_
    refine lv_iload hx hb dX0_adjust_89 (lv_at hl 1 rfl) ?_
    refine lv_iload hx hb dX0_adjust_91 (lv_at hl 2 rfl) ?_
    refine lv_iconst (v := 1) hx hb dX0_adjust_93 (by decide) ?_
    refine wr_calli (va_runV (As := [.int y_2, .int y_1, .int 1]) (rest := []) ⟨hx, hb, hml, hown, hts⟩ (p_X0_adjustedDigit l dC dI h0 _ f y_2 y_1 1) (cwV 3 hts gX0_adjust_X0_adjustedDigit rfl rfl rfl (by decide +kernel) ⟨Nat.le_of_ble_eq_true rfl, Nat.le_of_ble_eq_true rfl⟩) (wr_preV (ci := 1) rfl hK hP hD) rfl rfl hl.1 rfl (lv_room (Nat.le_of_ble_eq_true rfl)) dX0_adjust_94 ⟨Nat.le_of_ble_eq_true rfl, Nat.le_of_ble_eq_true rfl⟩) hP hD hS hA (fun r_11 u_12 H locs hw hP hD hS => ?_)
    obtain ⟨er_11, eu_12⟩ := hw
    have hP : va_P (dC, dI) vwCl [(h0, .inr (1, [.int u_12]))] H := hP
    have hD : va_D A [(h0, .inr (1, [.int u_12]))] := hD
    refine W.widen (k := 1) (n := 6) (by omega) (by omega) ?_
    exact vx_ret (W.iret (v := r_11) hx hb hr (fun t ht hW => ⟨⟨r_11, u_12, rfl, ⟨(by subst ey_1; subst ey_2; subst ey_3; subst er_11; subst eu_12; simp only [x_X0_adjust, if_neg c_4, if_neg c_7, if_pos c_10]), (by subst ey_1; subst ey_2; subst ey_3; subst er_11; subst eu_12; simp only [f_X0_adjust, if_neg c_4, if_neg c_7, if_pos c_10]), (by subst ey_1; subst ey_2; subst ey_3; subst er_11; subst eu_12; simp only [f_X0_adjust, if_neg c_4, if_neg c_7, if_pos c_10])⟩, by rw [ht]; exact hP, va_K.moved hW.alike hK, hD⟩, hS.F ht⟩) hS.2.2 dX0_adjust_97)
  by_cases c_13 : a1 = 3
  · refine lv_tableIn (off := 73) (tgt := 98) hx hb dX0_adjust_25 (by rw [c_13]; decide) (by rw [c_13]; decide) (by rw [c_13]; rfl) (by decide) ?_
    refine lv_aload_n hx hb dX0_adjust_98 rfl (lv_at hl 3 rfl) ?_
    refine lv_iload hx hb dX0_adjust_99 (lv_at hl 1 rfl) ?_
    refine lv_iload hx hb dX0_adjust_101 (lv_at hl 2 rfl) ?_
    refine lv_iconst (v := (-1)) hx hb dX0_adjust_103 (by decide) ?_
    refine wr_calli (va_runV (As := [.int y_2, .int y_1, .int (-1)]) (rest := []) ⟨hx, hb, hml, hown, hts⟩ (p_X0_adjustedDigit l dC dI h0 _ f y_2 y_1 (-1)) (cwV 3 hts gX0_adjust_X0_adjustedDigit rfl rfl rfl (by decide +kernel) ⟨Nat.le_of_ble_eq_true rfl, Nat.le_of_ble_eq_true rfl⟩) (wr_preV (ci := 1) rfl hK hP hD) rfl rfl hl.1 rfl (lv_room (Nat.le_of_ble_eq_true rfl)) dX0_adjust_104 ⟨Nat.le_of_ble_eq_true rfl, Nat.le_of_ble_eq_true rfl⟩) hP hD hS hA (fun r_14 u_15 H locs hw hP hD hS => ?_)
    obtain ⟨er_14, eu_15⟩ := hw
    have hP : va_P (dC, dI) vwCl [(h0, .inr (1, [.int u_15]))] H := hP
    have hD : va_D A [(h0, .inr (1, [.int u_15]))] := hD
    refine W.widen (k := 1) (n := 6) (by omega) (by omega) ?_
    exact vx_ret (W.iret (v := r_14) hx hb hr (fun t ht hW => ⟨⟨r_14, u_15, rfl, ⟨(by subst ey_1; subst ey_2; subst ey_3; subst er_14; subst eu_15; simp only [x_X0_adjust, if_neg c_4, if_neg c_7, if_neg c_10, if_pos c_13]), (by subst ey_1; subst ey_2; subst ey_3; subst er_14; subst eu_15; simp only [f_X0_adjust, if_neg c_4, if_neg c_7, if_neg c_10, if_pos c_13]), (by subst ey_1; subst ey_2; subst ey_3; subst er_14; subst eu_15; simp only [f_X0_adjust, if_neg c_4, if_neg c_7, if_neg c_10, if_pos c_13])⟩, by rw [ht]; exact hP, va_K.moved hW.alike hK, hD⟩, hS.F ht⟩) hS.2.2 dX0_adjust_107)
  by_cases c_16 : a1 = 4
  · refine lv_tableIn (off := 83) (tgt := 108) hx hb dX0_adjust_25 (by rw [c_16]; decide) (by rw [c_16]; decide) (by rw [c_16]; rfl) (by decide) ?_
    refine lv_iload hx hb dX0_adjust_108 (lv_at hl 0 rfl) ?_
    refine lv_if_ne (tgt := 123) hx hb dX0_adjust_110 (by decide) (fun c_17 => ?_) (fun c_17 => ?_)
    · refine lv_iload hx hb dX0_adjust_123 (lv_at hl 2 rfl) ?_
      refine lv_iload hx hb dX0_adjust_125 (lv_at hl 0 rfl) ?_
      refine lv_idiv hx hb dX0_adjust_127 c_17 ?_
      refine lv_aload_n hx hb dX0_adjust_128 rfl (lv_at hl 3 rfl) ?_
      refine lv_iload hx hb dX0_adjust_129 (lv_at hl 2 rfl) ?_
      refine lv_iload hx hb dX0_adjust_131 (lv_at hl 0 rfl) ?_
      refine jr_row hx hb dX0_adjust_133 c_17 ?_
      refine wr_calli (va_runV (As := [.int (jr y_1 y_3)]) (rest := [.int (y_1 / y_3)]) ⟨hx, hb, hml, hown, hts⟩ (p_X0_adjustedByte l dC dI h0 _ f (jr y_1 y_3)) (cwV 1 hts gX0_adjust_X0_adjustedByte rfl rfl rfl (by decide +kernel) ⟨Nat.le_of_ble_eq_true rfl, Nat.le_of_ble_eq_true rfl⟩) (wr_preV (ci := 1) rfl hK hP hD) rfl rfl hl.1 rfl (lv_room (Nat.le_of_ble_eq_true rfl)) dX0_adjust_134 ⟨Nat.le_of_ble_eq_true rfl, Nat.le_of_ble_eq_true rfl⟩) hP hD hS hA (fun r_18 u_19 H locs hw hP hD hS => ?_)
      obtain ⟨er_18, eu_19⟩ := hw
      have hP : va_P (dC, dI) vwCl [(h0, .inr (1, [.int u_19]))] H := hP
      have hD : va_D A [(h0, .inr (1, [.int u_19]))] := hD
      refine pu_calli (F := (f_X0_joined (y_1 / y_3) r_18)) (va_runS (As := [.int (y_1 / y_3), .int r_18]) (rest := []) ⟨hx, hb, hml, hown, hts⟩ (p_X0_joined l _ (y_1 / y_3) r_18) (va_cwS 2 hts gX0_adjust_X0_joined rfl rfl rfl (by decide +kernel) ⟨Nat.le_of_ble_eq_true rfl, Nat.le_of_ble_eq_true rfl⟩) pu_preS rfl rfl hl.1 rfl (lv_room (Nat.le_of_ble_eq_true rfl)) dX0_adjust_137 ⟨Nat.le_of_ble_eq_true rfl, Nat.le_of_ble_eq_true rfl⟩) ?_
      refine W.widen (k := 1) (n := 6) (by omega) (by omega) ?_
      exact vx_ret (W.iret (v := (f_X0_joined (y_1 / y_3) r_18)) hx hb hr (fun t ht hW => ⟨⟨(f_X0_joined (y_1 / y_3) r_18), u_19, rfl, ⟨(by subst ey_1; subst ey_2; subst ey_3; subst er_18; subst eu_19; simp only [x_X0_adjust, if_neg c_4, if_neg c_7, if_neg c_10, if_neg c_13, if_pos c_16, if_neg c_17]), (by subst ey_1; subst ey_2; subst ey_3; subst er_18; subst eu_19; simp only [f_X0_adjust, if_neg c_4, if_neg c_7, if_neg c_10, if_neg c_13, if_pos c_16, if_neg c_17]), (by subst ey_1; subst ey_2; subst ey_3; subst er_18; subst eu_19; simp only [f_X0_adjust, if_neg c_4, if_neg c_7, if_neg c_10, if_neg c_13, if_pos c_16, if_neg c_17])⟩, by rw [ht]; exact hP, va_K.moved hW.alike hK, hD⟩, hS.F ht⟩) hS.2.2 dX0_adjust_140)
    · exact vx_throwS (own := RX0) (cls := "java/lang/ArithmeticException") (text := "the base is 0") (names := ["java/lang/RuntimeException", "java/lang/Exception"]) (ik := 68) (is := 98) (ic := 72) (A := A) hx hb hst hown (by decide +kernel) (by decide +kernel) (hts (.classLink RX0 68 "java/lang/ArithmeticException") (by decide +kernel)) (hts (.initialized "java/lang/ArithmeticException") (by decide +kernel)) hs_98 (th_hat hth (fun w hw => hts w (List.mem_cons_of_mem _ (List.mem_append_left _ (List.mem_append_left _ (List.mem_append_right _ hw))))) hth.2.1 (by decide +kernel)) (by decide +kernel) hth.2.2.1 hth.2.2.2.1 hS (by rw [hml]; exact hl.1) dX0_adjust_113 dX0_adjust_116 dX0_adjust_117 dX0_adjust_119 dX0_adjust_122 (fun x h => (hte x h).elim) (Nat.le_of_ble_eq_true rfl) (Nat.le_of_ble_eq_true rfl) (Nat.le_of_ble_eq_true rfl) (Nat.le_of_ble_eq_true rfl) hlocks (fun t _ hz hk => ⟨2, ⟨(by subst ey_1; subst ey_2; subst ey_3; simp only [x_X0_adjust, if_neg c_4, if_neg c_7, if_neg c_10, if_neg c_13, if_pos c_16, if_pos c_17]), by decide⟩, rfl, ⟨hz, fun q hq _ => hk q hq⟩⟩) hS.2.2 (Nat.le_refl _) (Nat.le_refl _)
  by_cases c_20 : a1 = 5
  · refine lv_tableIn (off := 116) (tgt := 141) hx hb dX0_adjust_25 (by rw [c_20]; decide) (by rw [c_20]; decide) (by rw [c_20]; rfl) (by decide) ?_
    refine lv_iconst (v := 0) hx hb dX0_adjust_141 (by decide) ?_
    refine lv_aload_n hx hb dX0_adjust_142 rfl (lv_at hl 3 rfl) ?_
    refine lv_iload hx hb dX0_adjust_143 (lv_at hl 1 rfl) ?_
    refine lv_iload hx hb dX0_adjust_145 (lv_at hl 0 rfl) ?_
    refine lv_imul hx hb dX0_adjust_147 ?_
    refine lv_iload hx hb dX0_adjust_148 (lv_at hl 2 rfl) ?_
    refine lv_iadd hx hb dX0_adjust_150 ?_
    refine wr_calli (va_runV (As := [.int ((y_2 * y_3) + y_1)]) (rest := [.int 0]) ⟨hx, hb, hml, hown, hts⟩ (p_X0_adjustedByte l dC dI h0 _ f ((y_2 * y_3) + y_1)) (cwV 1 hts gX0_adjust_X0_adjustedByte rfl rfl rfl (by decide +kernel) ⟨Nat.le_of_ble_eq_true rfl, Nat.le_of_ble_eq_true rfl⟩) (wr_preV (ci := 1) rfl hK hP hD) rfl rfl hl.1 rfl (lv_room (Nat.le_of_ble_eq_true rfl)) dX0_adjust_151 ⟨Nat.le_of_ble_eq_true rfl, Nat.le_of_ble_eq_true rfl⟩) hP hD hS hA (fun r_21 u_22 H locs hw hP hD hS => ?_)
    obtain ⟨er_21, eu_22⟩ := hw
    have hP : va_P (dC, dI) vwCl [(h0, .inr (1, [.int u_22]))] H := hP
    have hD : va_D A [(h0, .inr (1, [.int u_22]))] := hD
    refine pu_calli (F := (f_X0_joined 0 r_21)) (va_runS (As := [.int 0, .int r_21]) (rest := []) ⟨hx, hb, hml, hown, hts⟩ (p_X0_joined l _ 0 r_21) (va_cwS 2 hts gX0_adjust_X0_joined rfl rfl rfl (by decide +kernel) ⟨Nat.le_of_ble_eq_true rfl, Nat.le_of_ble_eq_true rfl⟩) pu_preS rfl rfl hl.1 rfl (lv_room (Nat.le_of_ble_eq_true rfl)) dX0_adjust_154 ⟨Nat.le_of_ble_eq_true rfl, Nat.le_of_ble_eq_true rfl⟩) ?_
    refine W.widen (k := 1) (n := 6) (by omega) (by omega) ?_
    exact vx_ret (W.iret (v := (f_X0_joined 0 r_21)) hx hb hr (fun t ht hW => ⟨⟨(f_X0_joined 0 r_21), u_22, rfl, ⟨(by subst ey_1; subst ey_2; subst ey_3; subst er_21; subst eu_22; simp only [x_X0_adjust, if_neg c_4, if_neg c_7, if_neg c_10, if_neg c_13, if_neg c_16, if_pos c_20]), (by subst ey_1; subst ey_2; subst ey_3; subst er_21; subst eu_22; simp only [f_X0_adjust, if_neg c_4, if_neg c_7, if_neg c_10, if_neg c_13, if_neg c_16, if_pos c_20]), (by subst ey_1; subst ey_2; subst ey_3; subst er_21; subst eu_22; simp only [f_X0_adjust, if_neg c_4, if_neg c_7, if_neg c_10, if_neg c_13, if_neg c_16, if_pos c_20])⟩, by rw [ht]; exact hP, va_K.moved hW.alike hK, hD⟩, hS.F ht⟩) hS.2.2 dX0_adjust_157)
  refine lv_tableOut (tgt := 158) hx hb dX0_adjust_25 (sw_out 5 (by decide) (fun k hk => by rcases (show k = 0 ∨ k = 1 ∨ k = 2 ∨ k = 3 ∨ k = 4 ∨ k = 5 by omega) with rfl | rfl | rfl | rfl | rfl | rfl <;> assumption)) (by decide) ?_
  exact vx_throwS (own := RX0) (cls := "java/lang/IllegalArgumentException") (text := "no such adjustment") (names := ["java/lang/RuntimeException", "java/lang/Exception"]) (ik := 33) (is := 103) (ic := 37) (A := A) hx hb hst hown (by decide +kernel) (by decide +kernel) (hts (.classLink RX0 33 "java/lang/IllegalArgumentException") (by decide +kernel)) (hts (.initialized "java/lang/IllegalArgumentException") (by decide +kernel)) hs_103 (th_hat hth (fun w hw => hts w (List.mem_cons_of_mem _ (List.mem_append_right _ hw))) hth.1 (by decide +kernel)) (by decide +kernel) hth.2.2.1 hth.2.2.2.1 hS (by rw [hml]; exact hl.1) dX0_adjust_158 dX0_adjust_161 dX0_adjust_162 dX0_adjust_164 dX0_adjust_167 (fun x h => (hte x h).elim) (Nat.le_of_ble_eq_true rfl) (Nat.le_of_ble_eq_true rfl) (Nat.le_of_ble_eq_true rfl) (Nat.le_of_ble_eq_true rfl) hlocks (fun t _ hz hk => ⟨1, ⟨(by subst ey_1; subst ey_2; subst ey_3; simp only [x_X0_adjust, if_neg c_4, if_neg c_7, if_neg c_10, if_neg c_13, if_neg c_16, if_neg c_20]), by decide⟩, rfl, ⟨hz, fun q hq _ => hk q hq⟩⟩) hS.2.2 (Nat.le_refl _) (Nat.le_refl _)

/-- what X0_holds answers, and the flags behind it -/
def f_X0_holds (f : Int32) (a1 : Int32) : Int32 × Int32 :=
  if a1 = 0 then
  (((f_X0_isSet f 2048), f))
  else
  if a1 = 1 then
  (let y_3 : Int32 := (if (f_X0_isSet f 2048) = 0 then 1 else 0)
  (y_3, f))
  else
  if a1 = 2 then
  (((f_X0_isSet f 1), f))
  else
  if a1 = 3 then
  (let y_7 : Int32 := (if (f_X0_isSet f 1) = 0 then 1 else 0)
  (y_7, f))
  else
  if a1 = 4 then
  (((f_X0_isSet f 64), f))
  else
  if a1 = 5 then
  (let y_11 : Int32 := (if (f_X0_isSet f 64) = 0 then 1 else 0)
  (y_11, f))
  else
  if a1 = 6 then
  (let y_14 : Int32 := (if (f_X0_isSet f 1) = 0 then (if (f_X0_isSet f 64) = 0 then 0 else 1) else 1)
  (y_14, f))
  else
  if a1 = 7 then
  (let y_18 : Int32 := (if (f_X0_isSet f 1) = 0 then (if (f_X0_isSet f 64) = 0 then 1 else 0) else 0)
  (y_18, f))
  else
  if a1 = 8 then
  (((f_X0_isSet f 128), f))
  else
  if a1 = 9 then
  (let y_23 : Int32 := (if (f_X0_isSet f 128) = 0 then 1 else 0)
  (y_23, f))
  else
  if a1 = 10 then
  (((f_X0_isSet f 4), f))
  else
  if a1 = 11 then
  (let y_27 : Int32 := (if (f_X0_isSet f 4) = 0 then 1 else 0)
  (y_27, f))
  else
  if a1 = 12 then
  (((f_X0_isLess f), f))
  else
  if a1 = 13 then
  (let y_31 : Int32 := (if (f_X0_isLess f) = 0 then 1 else 0)
  (y_31, f))
  else
  if a1 = 14 then
  (let y_34 : Int32 := (if (f_X0_isLess f) = 0 then (if (f_X0_isSet f 64) = 0 then 0 else 1) else 1)
  (y_34, f))
  else
  if a1 = 15 then
  (let y_38 : Int32 := (if (f_X0_isLess f) = 0 then (if (f_X0_isSet f 64) = 0 then 1 else 0) else 0)
  (y_38, f))
  else
  ((0, f))
/-- what X0_holds throws: 0 nothing, 1 IllegalArgumentException, 2 ArithmeticException -/
def x_X0_holds (f : Int32) (a1 : Int32) : Int32 :=
  if a1 = 0 then
  (0)
  else
  if a1 = 1 then
  (let y_3 : Int32 := (if (f_X0_isSet f 2048) = 0 then 1 else 0)
  0)
  else
  if a1 = 2 then
  (0)
  else
  if a1 = 3 then
  (let y_7 : Int32 := (if (f_X0_isSet f 1) = 0 then 1 else 0)
  0)
  else
  if a1 = 4 then
  (0)
  else
  if a1 = 5 then
  (let y_11 : Int32 := (if (f_X0_isSet f 64) = 0 then 1 else 0)
  0)
  else
  if a1 = 6 then
  (let y_14 : Int32 := (if (f_X0_isSet f 1) = 0 then (if (f_X0_isSet f 64) = 0 then 0 else 1) else 1)
  0)
  else
  if a1 = 7 then
  (let y_18 : Int32 := (if (f_X0_isSet f 1) = 0 then (if (f_X0_isSet f 64) = 0 then 1 else 0) else 0)
  0)
  else
  if a1 = 8 then
  (0)
  else
  if a1 = 9 then
  (let y_23 : Int32 := (if (f_X0_isSet f 128) = 0 then 1 else 0)
  0)
  else
  if a1 = 10 then
  (0)
  else
  if a1 = 11 then
  (let y_27 : Int32 := (if (f_X0_isSet f 4) = 0 then 1 else 0)
  0)
  else
  if a1 = 12 then
  (0)
  else
  if a1 = 13 then
  (let y_31 : Int32 := (if (f_X0_isLess f) = 0 then 1 else 0)
  0)
  else
  if a1 = 14 then
  (let y_34 : Int32 := (if (f_X0_isLess f) = 0 then (if (f_X0_isSet f 64) = 0 then 0 else 1) else 1)
  0)
  else
  if a1 = 15 then
  (let y_38 : Int32 := (if (f_X0_isLess f) = 0 then (if (f_X0_isSet f 64) = 0 then 1 else 0) else 0)
  0)
  else
  (1)
set_option maxHeartbeats 4000000 in
set_option maxRecDepth 100000 in
theorem p_X0_holds (l : Launch) (hst : l.stackTraces = false) (dC : Nat → ClassId) (dI : Nat → Nat → Nat) (h0 : Nat) (sz : Nat) (f : Int32) (a1 : Int32) : vx_Met l yX0_holds wsX0_holds ({ frames := 6, cells := 1, slots := 6, locals := 82 }) (va_Pc [.ref h0, .int a1] (th_pre (dC, dI) h0 sz f)) (va_Qi (fun (r : Int32) (u : Int32) => x_X0_holds f a1 = 0 ∧ r = (f_X0_holds f a1).1 ∧ u = (f_X0_holds f a1).2) (wr_at (dC, dI) 1 h0 (fun u : Int32 => [.int u]) (wr_A 1 h0 sz [.int f])) (wr_A 1 h0 sz [.int f])) (vx_X (fun u : Int32 => u = x_X0_holds f a1 ∧ ¬ u = 0) (fun E u _ => E = th_E u) (fun _ => False)) 1 6 (wr_A 1 h0 sz [.int f]) := by
  refine vx_ofW (cc := cX0_holds) (maxL := 2) (ret := (some .boolean)) (by decide) rfl ?_
  intro p e s m args below meth c s₁ B hml hte hv
  obtain ⟨rfl, ⟨hsz, hP, hK, hD0⟩, hth⟩ := hv
  have hx := B.exec
  have hb := B.bytes
  have hr := B.returns
  have hts := atoms_spec (ws := wsX0_holds) B.pre
  have hown : s.vm.findClass RX0 = some m.cls := findClass_of_methodNamed B.named
  have hlocks := B.notSynchronized
  subst hsz
  have hD : va_D (wr_A 1 h0 s.heap.size [.int f]) [(h0, .inr (1, [.int f]))] := hD0.self (sz := s.heap.size)
  generalize hAe : wr_A 1 h0 s.heap.size [.int f] = A at hD hth ⊢
  have hA : ∀ q : Nat, s.heap.size ≤ q → A q := fun q h => by rw [← hAe]; exact Or.inr h
  have hS : va_S A s.heap s.heap [] := va_S.rf
  have hP : va_P (dC, dI) vwCl [(h0, .inr (1, [.int f]))] s.heap := hP
  have hD : va_D A [(h0, .inr (1, [.int f]))] := hD
  obtain ⟨sa_116, hs_116⟩ := hth.2.2.2.2.1 (116, "no such condition") (by decide)
  have hl := lv_entry ([.ref h0, .int a1]) (n := 2) (Nat.le_of_ble_eq_true rfl)
  rw [lg_entry_eq]
  generalize (lg_sl ([.ref h0, .int a1]) ++ List.replicate (2 - (lg_sl ([.ref h0, .int a1])).length) Slot.unset).toArray = ls at hl ⊢
  have hl : lv_has ls 2 [(0, .ref h0), (1, .int a1)] := hl
  refine lv_iload_n hx hb dX0_holds_0 rfl (lv_at hl 1 rfl) ?_
  by_cases c_1 : a1 = 0
  · refine lv_tableIn (off := 79) (tgt := 80) hx hb dX0_holds_1 (by rw [c_1]; decide) (by rw [c_1]; decide) (by rw [c_1]; rfl) (by decide) ?_
    refine lv_aload_n hx hb dX0_holds_80 rfl (lv_at hl 0 rfl) ?_
    refine lv_sipush (v := 2048) hx hb dX0_holds_81 (by decide +kernel) ?_
    refine pu_calli (F := (f_X0_isSet f 2048)) (va_runV (As := [.int 2048]) (rest := []) ⟨hx, hb, hml, hown, hts⟩ (p_X0_isSet l dC dI h0 _ f 2048) (cwV 1 hts gX0_holds_X0_isSet rfl rfl rfl (by decide +kernel) ⟨Nat.le_of_ble_eq_true rfl, Nat.le_of_ble_eq_true rfl⟩) (pu_preV (ci := 1) rfl hK hP) rfl rfl hl.1 rfl (lv_room (Nat.le_of_ble_eq_true rfl)) dX0_holds_84 ⟨Nat.le_of_ble_eq_true rfl, Nat.le_of_ble_eq_true rfl⟩) ?_
    refine W.widen (k := 1) (n := 6) (by omega) (by omega) ?_
    exact vx_ret (W.zret (v := (f_X0_isSet f 2048)) hx hb hr (nb_of (by apply fb_X0_isSet <;> assumption)) (fun t ht hW => ⟨⟨(f_X0_isSet f 2048), f, rfl, ⟨(by simp only [x_X0_holds, if_pos c_1]), (by simp only [f_X0_holds, if_pos c_1]), (by simp only [f_X0_holds, if_pos c_1])⟩, by rw [ht]; exact hP, va_K.moved hW.alike hK, hD⟩, hS.F ht⟩) hS.2.2 dX0_holds_87)
  by_cases c_2 : a1 = 1
  · refine lv_tableIn (off := 87) (tgt := 88) hx hb dX0_holds_1 (by rw [c_2]; decide) (by rw [c_2]; decide) (by rw [c_2]; rfl) (by decide) ?_
    refine lv_aload_n hx hb dX0_holds_88 rfl (lv_at hl 0 rfl) ?_
    refine lv_sipush (v := 2048) hx hb dX0_holds_89 (by decide +kernel) ?_
    refine pu_calli (F := (f_X0_isSet f 2048)) (va_runV (As := [.int 2048]) (rest := []) ⟨hx, hb, hml, hown, hts⟩ (p_X0_isSet l dC dI h0 _ f 2048) (cwV 1 hts gX0_holds_X0_isSet rfl rfl rfl (by decide +kernel) ⟨Nat.le_of_ble_eq_true rfl, Nat.le_of_ble_eq_true rfl⟩) (pu_preV (ci := 1) rfl hK hP) rfl rfl hl.1 rfl (lv_room (Nat.le_of_ble_eq_true rfl)) dX0_holds_92 ⟨Nat.le_of_ble_eq_true rfl, Nat.le_of_ble_eq_true rfl⟩) ?_
    refine rg (J := 103) (st := []) (if (f_X0_isSet f 2048) = 0 then 1 else 0) (fun k => ?_) (fun y_3 ey_3 => ?_)
    · refine lv_if_ne (tgt := 102) hx hb dX0_holds_95 (by decide) (fun c_4 => ?_) (fun c_4 => ?_)
      · refine lv_iconst (v := 0) hx hb dX0_holds_102 (by decide) ?_
        exact rg_e k (by first | rw [if_neg c_4] | simp only [if_neg c_4])
      · refine lv_iconst (v := 1) hx hb dX0_holds_98 (by decide) ?_
        refine lv_goto (tgt := 103) hx hb dX0_holds_99 (by decide) ?_
        exact rg_e k (by first | rw [if_pos c_4] | simp only [if_pos c_4])
    refine W.widen (k := 1) (n := 6) (by omega) (by omega) ?_
    exact vx_ret (W.zret (v := y_3) hx hb hr (nb_of (by rw [ey_3]; repeat (first | exact Or.inl rfl | exact Or.inr rfl | apply fb_X0_isSet | apply fb_X0_hasHighestBit | split))) (fun t ht hW => ⟨⟨y_3, f, rfl, ⟨(by subst ey_3; simp only [x_X0_holds, if_neg c_1, if_pos c_2]), (by subst ey_3; simp only [f_X0_holds, if_neg c_1, if_pos c_2]), (by subst ey_3; simp only [f_X0_holds, if_neg c_1, if_pos c_2])⟩, by rw [ht]; exact hP, va_K.moved hW.alike hK, hD⟩, hS.F ht⟩) hS.2.2 dX0_holds_103)
  by_cases c_5 : a1 = 2
  · refine lv_tableIn (off := 103) (tgt := 104) hx hb dX0_holds_1 (by rw [c_5]; decide) (by rw [c_5]; decide) (by rw [c_5]; rfl) (by decide) ?_
    refine lv_aload_n hx hb dX0_holds_104 rfl (lv_at hl 0 rfl) ?_
    refine lv_iconst (v := 1) hx hb dX0_holds_105 (by decide) ?_
    refine pu_calli (F := (f_X0_isSet f 1)) (va_runV (As := [.int 1]) (rest := []) ⟨hx, hb, hml, hown, hts⟩ (p_X0_isSet l dC dI h0 _ f 1) (cwV 1 hts gX0_holds_X0_isSet rfl rfl rfl (by decide +kernel) ⟨Nat.le_of_ble_eq_true rfl, Nat.le_of_ble_eq_true rfl⟩) (pu_preV (ci := 1) rfl hK hP) rfl rfl hl.1 rfl (lv_room (Nat.le_of_ble_eq_true rfl)) dX0_holds_106 ⟨Nat.le_of_ble_eq_true rfl, Nat.le_of_ble_eq_true rfl⟩) ?_
    refine W.widen (k := 1) (n := 6) (by omega) (by omega) ?_
    exact vx_ret (W.zret (v := (f_X0_isSet f 1)) hx hb hr (nb_of (by apply fb_X0_isSet <;> assumption)) (fun t ht hW => ⟨⟨(f_X0_isSet f 1), f, rfl, ⟨(by simp only [x_X0_holds, if_neg c_1, if_neg c_2, if_pos c_5]), (by simp only [f_X0_holds, if_neg c_1, if_neg c_2, if_pos c_5]), (by simp only [f_X0_holds, if_neg c_1, if_neg c_2, if_pos c_5])⟩, by rw [ht]; exact hP, va_K.moved hW.alike hK, hD⟩, hS.F ht⟩) hS.2.2 dX0_holds_109)
  by_cases c_6 : a1 = 3
  · refine lv_tableIn (off := 109) (tgt := 110) hx hb dX0_holds_1 (by rw [c_6]; decide) (by rw [c_6]; decide) (by rw [c_6]; rfl) (by decide) ?_
    refine lv_aload_n hx hb dX0_holds_110 rfl (lv_at hl 0 rfl) ?_
    refine lv_iconst (v := 1) hx hb dX0_holds_111 (by decide) ?_
    refine pu_calli (F := (f_X0_isSet f 1)) (va_runV (As := [.int 1]) (rest := []) ⟨hx, hb, hml, hown, hts⟩ (p_X0_isSet l dC dI h0 _ f 1) (cwV 1 hts gX0_holds_X0_isSet rfl rfl rfl (by decide +kernel) ⟨Nat.le_of_ble_eq_true rfl, Nat.le_of_ble_eq_true rfl⟩) (pu_preV (ci := 1) rfl hK hP) rfl rfl hl.1 rfl (lv_room (Nat.le_of_ble_eq_true rfl)) dX0_holds_112 ⟨Nat.le_of_ble_eq_true rfl, Nat.le_of_ble_eq_true rfl⟩) ?_
    refine rg (J := 123) (st := []) (if (f_X0_isSet f 1) = 0 then 1 else 0) (fun k => ?_) (fun y_7 ey_7 => ?_)
    · refine lv_if_ne (tgt := 122) hx hb dX0_holds_115 (by decide) (fun c_8 => ?_) (fun c_8 => ?_)
      · refine lv_iconst (v := 0) hx hb dX0_holds_122 (by decide) ?_
        exact rg_e k (by first | rw [if_neg c_8] | simp only [if_neg c_8])
      · refine lv_iconst (v := 1) hx hb dX0_holds_118 (by decide) ?_
        refine lv_goto (tgt := 123) hx hb dX0_holds_119 (by decide) ?_
        exact rg_e k (by first | rw [if_pos c_8] | simp only [if_pos c_8])
    refine W.widen (k := 1) (n := 6) (by omega) (by omega) ?_
    exact vx_ret (W.zret (v := y_7) hx hb hr (nb_of (by rw [ey_7]; repeat (first | exact Or.inl rfl | exact Or.inr rfl | apply fb_X0_isSet | apply fb_X0_hasHighestBit | split))) (fun t ht hW => ⟨⟨y_7, f, rfl, ⟨(by subst ey_7; simp only [x_X0_holds, if_neg c_1, if_neg c_2, if_neg c_5, if_pos c_6]), (by subst ey_7; simp only [f_X0_holds, if_neg c_1, if_neg c_2, if_neg c_5, if_pos c_6]), (by subst ey_7; simp only [f_X0_holds, if_neg c_1, if_neg c_2, if_neg c_5, if_pos c_6])⟩, by rw [ht]; exact hP, va_K.moved hW.alike hK, hD⟩, hS.F ht⟩) hS.2.2 dX0_holds_123)
  by_cases c_9 : a1 = 4
  · refine lv_tableIn (off := 123) (tgt := 124) hx hb dX0_holds_1 (by rw [c_9]; decide) (by rw [c_9]; decide) (by rw [c_9]; rfl) (by decide) ?_
    refine lv_aload_n hx hb dX0_holds_124 rfl (lv_at hl 0 rfl) ?_
    refine lv_bipush (v := 64) hx hb dX0_holds_125 (by decide +kernel) ?_
    refine pu_calli (F := (f_X0_isSet f 64)) (va_runV (As := [.int 64]) (rest := []) ⟨hx, hb, hml, hown, hts⟩ (p_X0_isSet l dC dI h0 _ f 64) (cwV 1 hts gX0_holds_X0_isSet rfl rfl rfl (by decide +kernel) ⟨Nat.le_of_ble_eq_true rfl, Nat.le_of_ble_eq_true rfl⟩) (pu_preV (ci := 1) rfl hK hP) rfl rfl hl.1 rfl (lv_room (Nat.le_of_ble_eq_true rfl)) dX0_holds_127 ⟨Nat.le_of_ble_eq_true rfl, Nat.le_of_ble_eq_true rfl⟩) ?_
    refine W.widen (k := 1) (n := 6) (by omega) (by omega) ?_
    exact vx_ret (W.zret (v := (f_X0_isSet f 64)) hx hb hr (nb_of (by apply fb_X0_isSet <;> assumption)) (fun t ht hW => ⟨⟨(f_X0_isSet f 64), f, rfl, ⟨(by simp only [x_X0_holds, if_neg c_1, if_neg c_2, if_neg c_5, if_neg c_6, if_pos c_9]), (by simp only [f_X0_holds, if_neg c_1, if_neg c_2, if_neg c_5, if_neg c_6, if_pos c_9]), (by simp only [f_X0_holds, if_neg c_1, if_neg c_2, if_neg c_5, if_neg c_6, if_pos c_9])⟩, by rw [ht]; exact hP, va_K.moved hW.alike hK, hD⟩, hS.F ht⟩) hS.2.2 dX0_holds_130)
  by_cases c_10 : a1 = 5
  · refine lv_tableIn (off := 130) (tgt := 131) hx hb dX0_holds_1 (by rw [c_10]; decide) (by rw [c_10]; decide) (by rw [c_10]; rfl) (by decide) ?_
    refine lv_aload_n hx hb dX0_holds_131 rfl (lv_at hl 0 rfl) ?_
    refine lv_bipush (v := 64) hx hb dX0_holds_132 (by decide +kernel) ?_
    refine pu_calli (F := (f_X0_isSet f 64)) (va_runV (As := [.int 64]) (rest := []) ⟨hx, hb, hml, hown, hts⟩ (p_X0_isSet l dC dI h0 _ f 64) (cwV 1 hts gX0_holds_X0_isSet rfl rfl rfl (by decide +kernel) ⟨Nat.le_of_ble_eq_true rfl, Nat.le_of_ble_eq_true rfl⟩) (pu_preV (ci := 1) rfl hK hP) rfl rfl hl.1 rfl (lv_room (Nat.le_of_ble_eq_true rfl)) dX0_holds_134 ⟨Nat.le_of_ble_eq_true rfl, Nat.le_of_ble_eq_true rfl⟩) ?_
    refine rg (J := 145) (st := []) (if (f_X0_isSet f 64) = 0 then 1 else 0) (fun k => ?_) (fun y_11 ey_11 => ?_)
    · refine lv_if_ne (tgt := 144) hx hb dX0_holds_137 (by decide) (fun c_12 => ?_) (fun c_12 => ?_)
      · refine lv_iconst (v := 0) hx hb dX0_holds_144 (by decide) ?_
        exact rg_e k (by first | rw [if_neg c_12] | simp only [if_neg c_12])
      · refine lv_iconst (v := 1) hx hb dX0_holds_140 (by decide) ?_
        refine lv_goto (tgt := 145) hx hb dX0_holds_141 (by decide) ?_
        exact rg_e k (by first | rw [if_pos c_12] | simp only [if_pos c_12])
    refine W.widen (k := 1) (n := 6) (by omega) (by omega) ?_
    exact vx_ret (W.zret (v := y_11) hx hb hr (nb_of (by rw [ey_11]; repeat (first | exact Or.inl rfl | exact Or.inr rfl | apply fb_X0_isSet | apply fb_X0_hasHighestBit | split))) (fun t ht hW => ⟨⟨y_11, f, rfl, ⟨(by subst ey_11; simp only [x_X0_holds, if_neg c_1, if_neg c_2, if_neg c_5, if_neg c_6, if_neg c_9, if_pos c_10]), (by subst ey_11; simp only [f_X0_holds, if_neg c_1, if_neg c_2, if_neg c_5, if_neg c_6, if_neg c_9, if_pos c_10]), (by subst ey_11; simp only [f_X0_holds, if_neg c_1, if_neg c_2, if_neg c_5, if_neg c_6, if_neg c_9, if_pos c_10])⟩, by rw [ht]; exact hP, va_K.moved hW.alike hK, hD⟩, hS.F ht⟩) hS.2.2 dX0_holds_145)
  by_cases c_13 : a1 = 6
  · refine lv_tableIn (off := 145) (tgt := 146) hx hb dX0_holds_1 (by rw [c_13]; decide) (by rw [c_13]; decide) (by rw [c_13]; rfl) (by decide) ?_
    refine lv_aload_n hx hb dX0_holds_146 rfl (lv_at hl 0 rfl) ?_
    refine lv_iconst (v := 1) hx hb dX0_holds_147 (by decide) ?_
    refine pu_calli (F := (f_X0_isSet f 1)) (va_runV (As := [.int 1]) (rest := []) ⟨hx, hb, hml, hown, hts⟩ (p_X0_isSet l dC dI h0 _ f 1) (cwV 1 hts gX0_holds_X0_isSet rfl rfl rfl (by decide +kernel) ⟨Nat.le_of_ble_eq_true rfl, Nat.le_of_ble_eq_true rfl⟩) (pu_preV (ci := 1) rfl hK hP) rfl rfl hl.1 rfl (lv_room (Nat.le_of_ble_eq_true rfl)) dX0_holds_148 ⟨Nat.le_of_ble_eq_true rfl, Nat.le_of_ble_eq_true rfl⟩) ?_
    refine rg (J := 168) (st := []) (if (f_X0_isSet f 1) = 0 then (if (f_X0_isSet f 64) = 0 then 0 else 1) else 1) (fun k => ?_) (fun y_14 ey_14 => ?_)
    · refine lv_if_ne (tgt := 163) hx hb dX0_holds_151 (by decide) (fun c_15 => ?_) (fun c_15 => ?_)
      · refine lv_iconst (v := 1) hx hb dX0_holds_163 (by decide) ?_
        refine lv_goto (tgt := 168) hx hb dX0_holds_164 (by decide) ?_
        exact rg_e k (by first | rw [if_neg c_15] | simp only [if_neg c_15])
      · refine lv_aload_n hx hb dX0_holds_154 rfl (lv_at hl 0 rfl) ?_
        refine lv_bipush (v := 64) hx hb dX0_holds_155 (by decide +kernel) ?_
        refine pu_calli (F := (f_X0_isSet f 64)) (va_runV (As := [.int 64]) (rest := []) ⟨hx, hb, hml, hown, hts⟩ (p_X0_isSet l dC dI h0 _ f 64) (cwV 1 hts gX0_holds_X0_isSet rfl rfl rfl (by decide +kernel) ⟨Nat.le_of_ble_eq_true rfl, Nat.le_of_ble_eq_true rfl⟩) (pu_preV (ci := 1) rfl hK hP) rfl rfl hl.1 rfl (lv_room (Nat.le_of_ble_eq_true rfl)) dX0_holds_157 ⟨Nat.le_of_ble_eq_true rfl, Nat.le_of_ble_eq_true rfl⟩) ?_
        refine lv_if_eq (tgt := 167) hx hb dX0_holds_160 (by decide) (fun c_16 => ?_) (fun c_16 => ?_)
        · refine lv_iconst (v := 0) hx hb dX0_holds_167 (by decide) ?_
          exact rg_e k (by first | rw [if_pos c_15, if_pos c_16] | simp only [if_pos c_15, if_pos c_16])
        · refine lv_iconst (v := 1) hx hb dX0_holds_163 (by decide) ?_
          refine lv_goto (tgt := 168) hx hb dX0_holds_164 (by decide) ?_
          exact rg_e k (by first | rw [if_pos c_15, if_neg c_16] | simp only [if_pos c_15, if_neg c_16])
    refine W.widen (k := 1) (n := 6) (by omega) (by omega) ?_
    exact vx_ret (W.zret (v := y_14) hx hb hr (nb_of (by rw [ey_14]; repeat (first | exact Or.inl rfl | exact Or.inr rfl | apply fb_X0_isSet | apply fb_X0_hasHighestBit | split))) (fun t ht hW => ⟨⟨y_14, f, rfl, ⟨(by subst ey_14; simp only [x_X0_holds, if_neg c_1, if_neg c_2, if_neg c_5, if_neg c_6, if_neg c_9, if_neg c_10, if_pos c_13]), (by subst ey_14; simp only [f_X0_holds, if_neg c_1, if_neg c_2, if_neg c_5, if_neg c_6, if_neg c_9, if_neg c_10, if_pos c_13]), (by subst ey_14; simp only [f_X0_holds, if_neg c_1, if_neg c_2, if_neg c_5, if_neg c_6, if_neg c_9, if_neg c_10, if_pos c_13])⟩, by rw [ht]; exact hP, va_K.moved hW.alike hK, hD⟩, hS.F ht⟩) hS.2.2 dX0_holds_168)
  by_cases c_17 : a1 = 7
  · refine lv_tableIn (off := 168) (tgt := 169) hx hb dX0_holds_1 (by rw [c_17]; decide) (by rw [c_17]; decide) (by rw [c_17]; rfl) (by decide) ?_
    refine lv_aload_n hx hb dX0_holds_169 rfl (lv_at hl 0 rfl) ?_
    refine lv_iconst (v := 1) hx hb dX0_holds_170 (by decide) ?_
    refine pu_calli (F := (f_X0_isSet f 1)) (va_runV (As := [.int 1]) (rest := []) ⟨hx, hb, hml, hown, hts⟩ (p_X0_isSet l dC dI h0 _ f 1) (cwV 1 hts gX0_holds_X0_isSet rfl rfl rfl (by decide +kernel) ⟨Nat.le_of_ble_eq_true rfl, Nat.le_of_ble_eq_true rfl⟩) (pu_preV (ci := 1) rfl hK hP) rfl rfl hl.1 rfl (lv_room (Nat.le_of_ble_eq_true rfl)) dX0_holds_171 ⟨Nat.le_of_ble_eq_true rfl, Nat.le_of_ble_eq_true rfl⟩) ?_
    refine rg (J := 191) (st := []) (if (f_X0_isSet f 1) = 0 then (if (f_X0_isSet f 64) = 0 then 1 else 0) else 0) (fun k => ?_) (fun y_18 ey_18 => ?_)
    · refine lv_if_ne (tgt := 190) hx hb dX0_holds_174 (by decide) (fun c_19 => ?_) (fun c_19 => ?_)
      · refine lv_iconst (v := 0) hx hb dX0_holds_190 (by decide) ?_
        exact rg_e k (by first | rw [if_neg c_19] | simp only [if_neg c_19])
      · refine lv_aload_n hx hb dX0_holds_177 rfl (lv_at hl 0 rfl) ?_
        refine lv_bipush (v := 64) hx hb dX0_holds_178 (by decide +kernel) ?_
        refine pu_calli (F := (f_X0_isSet f 64)) (va_runV (As := [.int 64]) (rest := []) ⟨hx, hb, hml, hown, hts⟩ (p_X0_isSet l dC dI h0 _ f 64) (cwV 1 hts gX0_holds_X0_isSet rfl rfl rfl (by decide +kernel) ⟨Nat.le_of_ble_eq_true rfl, Nat.le_of_ble_eq_true rfl⟩) (pu_preV (ci := 1) rfl hK hP) rfl rfl hl.1 rfl (lv_room (Nat.le_of_ble_eq_true rfl)) dX0_holds_180 ⟨Nat.le_of_ble_eq_true rfl, Nat.le_of_ble_eq_true rfl⟩) ?_
        refine lv_if_ne (tgt := 190) hx hb dX0_holds_183 (by decide) (fun c_20 => ?_) (fun c_20 => ?_)
        · refine lv_iconst (v := 0) hx hb dX0_holds_190 (by decide) ?_
          exact rg_e k (by first | rw [if_pos c_19, if_neg c_20] | simp only [if_pos c_19, if_neg c_20])
        · refine lv_iconst (v := 1) hx hb dX0_holds_186 (by decide) ?_
          refine lv_goto (tgt := 191) hx hb dX0_holds_187 (by decide) ?_
          exact rg_e k (by first | rw [if_pos c_19, if_pos c_20] | simp only [if_pos c_19, if_pos c_20])
    refine W.widen (k := 1) (n := 6) (by omega) (by omega) ?_
    exact vx_ret (W.zret (v := y_18) hx hb hr (nb_of (by rw [ey_18]; repeat (first | exact Or.inl rfl | exact Or.inr rfl | apply fb_X0_isSet | apply fb_X0_hasHighestBit | split))) (fun t ht hW => ⟨⟨y_18, f, rfl, ⟨(by subst ey_18; simp only [x_X0_holds, if_neg c_1, if_neg c_2, if_neg c_5, if_neg c_6, if_neg c_9, if_neg c_10, if_neg c_13, if_pos c_17]), (by subst ey_18; simp only [f_X0_holds, if_neg c_1, if_neg c_2, if_neg c_5, if_neg c_6, if_neg c_9, if_neg c_10, if_neg c_13, if_pos c_17]), (by subst ey_18; simp only [f_X0_holds, if_neg c_1, if_neg c_2, if_neg c_5, if_neg c_6, if_neg c_9, if_neg c_10, if_neg c_13, if_pos c_17])⟩, by rw [ht]; exact hP, va_K.moved hW.alike hK, hD⟩, hS.F ht⟩) hS.2.2 dX0_holds_191)
  by_cases c_21 : a1 = 8
  · refine lv_tableIn (off := 191) (tgt := 192) hx hb dX0_holds_1 (by rw [c_21]; decide) (by rw [c_21]; decide) (by rw [c_21]; rfl) (by decide) ?_
    refine lv_aload_n hx hb dX0_holds_192 rfl (lv_at hl 0 rfl) ?_
    refine lv_sipush (v := 128) hx hb dX0_holds_193 (by decide +kernel) ?_
    refine pu_calli (F := (f_X0_isSet f 128)) (va_runV (As := [.int 128]) (rest := []) ⟨hx, hb, hml, hown, hts⟩ (p_X0_isSet l dC dI h0 _ f 128) (cwV 1 hts gX0_holds_X0_isSet rfl rfl rfl (by decide +kernel) ⟨Nat.le_of_ble_eq_true rfl, Nat.le_of_ble_eq_true rfl⟩) (pu_preV (ci := 1) rfl hK hP) rfl rfl hl.1 rfl (lv_room (Nat.le_of_ble_eq_true rfl)) dX0_holds_196 ⟨Nat.le_of_ble_eq_true rfl, Nat.le_of_ble_eq_true rfl⟩) ?_
    refine W.widen (k := 1) (n := 6) (by omega) (by omega) ?_
    exact vx_ret (W.zret (v := (f_X0_isSet f 128)) hx hb hr (nb_of (by apply fb_X0_isSet <;> assumption)) (fun t ht hW => ⟨⟨(f_X0_isSet f 128), f, rfl, ⟨(by simp only [x_X0_holds, if_neg c_1, if_neg c_2, if_neg c_5, if_neg c_6, if_neg c_9, if_neg c_10, if_neg c_13, if_neg c_17, if_pos c_21]), (by simp only [f_X0_holds, if_neg c_1, if_neg c_2, if_neg c_5, if_neg c_6, if_neg c_9, if_neg c_10, if_neg c_13, if_neg c_17, if_pos c_21]), (by simp only [f_X0_holds, if_neg c_1, if_neg c_2, if_neg c_5, if_neg c_6, if_neg c_9, if_neg c_10, if_neg c_13, if_neg c_17, if_pos c_21])⟩, by rw [ht]; exact hP, va_K.moved hW.alike hK, hD⟩, hS.F ht⟩) hS.2.2 dX0_holds_199)
  by_cases c_22 : a1 = 9
  · refine lv_tableIn (off := 199) (tgt := 200) hx hb dX0_holds_1 (by rw [c_22]; decide) (by rw [c_22]; decide) (by rw [c_22]; rfl) (by decide) ?_
    refine lv_aload_n hx hb dX0_holds_200 rfl (lv_at hl 0 rfl) ?_
    refine lv_sipush (v := 128) hx hb dX0_holds_201 (by decide +kernel) ?_
    refine pu_calli (F := (f_X0_isSet f 128)) (va_runV (As := [.int 128]) (rest := []) ⟨hx, hb, hml, hown, hts⟩ (p_X0_isSet l dC dI h0 _ f 128) (cwV 1 hts gX0_holds_X0_isSet rfl rfl rfl (by decide +kernel) ⟨Nat.le_of_ble_eq_true rfl, Nat.le_of_ble_eq_true rfl⟩) (pu_preV (ci := 1) rfl hK hP) rfl rfl hl.1 rfl (lv_room (Nat.le_of_ble_eq_true rfl)) dX0_holds_204 ⟨Nat.le_of_ble_eq_true rfl, Nat.le_of_ble_eq_true rfl⟩) ?_
    refine rg (J := 215) (st := []) (if (f_X0_isSet f 128) = 0 then 1 else 0) (fun k => ?_) (fun y_23 ey_23 => ?_)
    · refine lv_if_ne (tgt := 214) hx hb dX0_holds_207 (by decide) (fun c_24 => ?_) (fun c_24 => ?_)
      · refine lv_iconst (v := 0) hx hb dX0_holds_214 (by decide) ?_
        exact rg_e k (by first | rw [if_neg c_24] | simp only [if_neg c_24])
      · refine lv_iconst (v := 1) hx hb dX0_holds_210 (by decide) ?_
        refine lv_goto (tgt := 215) hx hb dX0_holds_211 (by decide) ?_
        exact rg_e k (by first | rw [if_pos c_24] | simp only [if_pos c_24])
    refine W.widen (k := 1) (n := 6) (by omega) (by omega) ?_
    exact vx_ret (W.zret (v := y_23) hx hb hr (nb_of (by rw [ey_23]; repeat (first | exact Or.inl rfl | exact Or.inr rfl | apply fb_X0_isSet | apply fb_X0_hasHighestBit | split))) (fun t ht hW => ⟨⟨y_23, f, rfl, ⟨(by subst ey_23; simp only [x_X0_holds, if_neg c_1, if_neg c_2, if_neg c_5, if_neg c_6, if_neg c_9, if_neg c_10, if_neg c_13, if_neg c_17, if_neg c_21, if_pos c_22]), (by subst ey_23; simp only [f_X0_holds, if_neg c_1, if_neg c_2, if_neg c_5, if_neg c_6, if_neg c_9, if_neg c_10, if_neg c_13, if_neg c_17, if_neg c_21, if_pos c_22]), (by subst ey_23; simp only [f_X0_holds, if_neg c_1, if_neg c_2, if_neg c_5, if_neg c_6, if_neg c_9, if_neg c_10, if_neg c_13, if_neg c_17, if_neg c_21, if_pos c_22])⟩, by rw [ht]; exact hP, va_K.moved hW.alike hK, hD⟩, hS.F ht⟩) hS.2.2 dX0_holds_215)
  by_cases c_25 : a1 = 10
  · refine lv_tableIn (off := 215) (tgt := 216) hx hb dX0_holds_1 (by rw [c_25]; decide) (by rw [c_25]; decide) (by rw [c_25]; rfl) (by decide) ?_
    refine lv_aload_n hx hb dX0_holds_216 rfl (lv_at hl 0 rfl) ?_
    refine lv_iconst (v := 4) hx hb dX0_holds_217 (by decide) ?_
    refine pu_calli (F := (f_X0_isSet f 4)) (va_runV (As := [.int 4]) (rest := []) ⟨hx, hb, hml, hown, hts⟩ (p_X0_isSet l dC dI h0 _ f 4) (cwV 1 hts gX0_holds_X0_isSet rfl rfl rfl (by decide +kernel) ⟨Nat.le_of_ble_eq_true rfl, Nat.le_of_ble_eq_true rfl⟩) (pu_preV (ci := 1) rfl hK hP) rfl rfl hl.1 rfl (lv_room (Nat.le_of_ble_eq_true rfl)) dX0_holds_218 ⟨Nat.le_of_ble_eq_true rfl, Nat.le_of_ble_eq_true rfl⟩) ?_
    refine W.widen (k := 1) (n := 6) (by omega) (by omega) ?_
    exact vx_ret (W.zret (v := (f_X0_isSet f 4)) hx hb hr (nb_of (by apply fb_X0_isSet <;> assumption)) (fun t ht hW => ⟨⟨(f_X0_isSet f 4), f, rfl, ⟨(by simp only [x_X0_holds, if_neg c_1, if_neg c_2, if_neg c_5, if_neg c_6, if_neg c_9, if_neg c_10, if_neg c_13, if_neg c_17, if_neg c_21, if_neg c_22, if_pos c_25]), (by simp only [f_X0_holds, if_neg c_1, if_neg c_2, if_neg c_5, if_neg c_6, if_neg c_9, if_neg c_10, if_neg c_13, if_neg c_17, if_neg c_21, if_neg c_22, if_pos c_25]), (by simp only [f_X0_holds, if_neg c_1, if_neg c_2, if_neg c_5, if_neg c_6, if_neg c_9, if_neg c_10, if_neg c_13, if_neg c_17, if_neg c_21, if_neg c_22, if_pos c_25])⟩, by rw [ht]; exact hP, va_K.moved hW.alike hK, hD⟩, hS.F ht⟩) hS.2.2 dX0_holds_221)
  by_cases c_26 : a1 = 11
  · refine lv_tableIn (off := 221) (tgt := 222) hx hb dX0_holds_1 (by rw [c_26]; decide) (by rw [c_26]; decide) (by rw [c_26]; rfl) (by decide) ?_
    refine lv_aload_n hx hb dX0_holds_222 rfl (lv_at hl 0 rfl) ?_
    refine lv_iconst (v := 4) hx hb dX0_holds_223 (by decide) ?_
    refine pu_calli (F := (f_X0_isSet f 4)) (va_runV (As := [.int 4]) (rest := []) ⟨hx, hb, hml, hown, hts⟩ (p_X0_isSet l dC dI h0 _ f 4) (cwV 1 hts gX0_holds_X0_isSet rfl rfl rfl (by decide +kernel) ⟨Nat.le_of_ble_eq_true rfl, Nat.le_of_ble_eq_true rfl⟩) (pu_preV (ci := 1) rfl hK hP) rfl rfl hl.1 rfl (lv_room (Nat.le_of_ble_eq_true rfl)) dX0_holds_224 ⟨Nat.le_of_ble_eq_true rfl, Nat.le_of_ble_eq_true rfl⟩) ?_
    refine rg (J := 235) (st := []) (if (f_X0_isSet f 4) = 0 then 1 else 0) (fun k => ?_) (fun y_27 ey_27 => ?_)
    · refine lv_if_ne (tgt := 234) hx hb dX0_holds_227 (by decide) (fun c_28 => ?_) (fun c_28 => ?_)
      · refine lv_iconst (v := 0) hx hb dX0_holds_234 (by decide) ?_
        exact rg_e k (by first | rw [if_neg c_28] | simp only [if_neg c_28])
      · refine lv_iconst (v := 1) hx hb dX0_holds_230 (by decide) ?_
        refine lv_goto (tgt := 235) hx hb dX0_holds_231 (by decide) ?_
        exact rg_e k (by first | rw [if_pos c_28] | simp only [if_pos c_28])
    refine W.widen (k := 1) (n := 6) (by omega) (by omega) ?_
    exact vx_ret (W.zret (v := y_27) hx hb hr (nb_of (by rw [ey_27]; repeat (first | exact Or.inl rfl | exact Or.inr rfl | apply fb_X0_isSet | apply fb_X0_hasHighestBit | split))) (fun t ht hW => ⟨⟨y_27, f, rfl, ⟨(by subst ey_27; simp only [x_X0_holds, if_neg c_1, if_neg c_2, if_neg c_5, if_neg c_6, if_neg c_9, if_neg c_10, if_neg c_13, if_neg c_17, if_neg c_21, if_neg c_22, if_neg c_25, if_pos c_26]), (by subst ey_27; simp only [f_X0_holds, if_neg c_1, if_neg c_2, if_neg c_5, if_neg c_6, if_neg c_9, if_neg c_10, if_neg c_13, if_neg c_17, if_neg c_21, if_neg c_22, if_neg c_25, if_pos c_26]), (by subst ey_27; simp only [f_X0_holds, if_neg c_1, if_neg c_2, if_neg c_5, if_neg c_6, if_neg c_9, if_neg c_10, if_neg c_13, if_neg c_17, if_neg c_21, if_neg c_22, if_neg c_25, if_pos c_26])⟩, by rw [ht]; exact hP, va_K.moved hW.alike hK, hD⟩, hS.F ht⟩) hS.2.2 dX0_holds_235)
  by_cases c_29 : a1 = 12
  · refine lv_tableIn (off := 235) (tgt := 236) hx hb dX0_holds_1 (by rw [c_29]; decide) (by rw [c_29]; decide) (by rw [c_29]; rfl) (by decide) ?_
    refine lv_aload_n hx hb dX0_holds_236 rfl (lv_at hl 0 rfl) ?_
    refine pu_calli (F := (f_X0_isLess f)) (va_runV (As := []) (rest := []) ⟨hx, hb, hml, hown, hts⟩ (p_X0_isLess l dC dI h0 _ f) (cwV 0 hts gX0_holds_X0_isLess rfl rfl rfl (by decide +kernel) ⟨Nat.le_of_ble_eq_true rfl, Nat.le_of_ble_eq_true rfl⟩) (pu_preV (ci := 1) rfl hK hP) rfl rfl hl.1 rfl (lv_room (Nat.le_of_ble_eq_true rfl)) dX0_holds_237 ⟨Nat.le_of_ble_eq_true rfl, Nat.le_of_ble_eq_true rfl⟩) ?_
    refine W.widen (k := 1) (n := 6) (by omega) (by omega) ?_
    exact vx_ret (W.zret (v := (f_X0_isLess f)) hx hb hr (nb_of (by apply fb_X0_isLess <;> assumption)) (fun t ht hW => ⟨⟨(f_X0_isLess f), f, rfl, ⟨(by simp only [x_X0_holds, if_neg c_1, if_neg c_2, if_neg c_5, if_neg c_6, if_neg c_9, if_neg c_10, if_neg c_13, if_neg c_17, if_neg c_21, if_neg c_22, if_neg c_25, if_neg c_26, if_pos c_29]), (by simp only [f_X0_holds, if_neg c_1, if_neg c_2, if_neg c_5, if_neg c_6, if_neg c_9, if_neg c_10, if_neg c_13, if_neg c_17, if_neg c_21, if_neg c_22, if_neg c_25, if_neg c_26, if_pos c_29]), (by simp only [f_X0_holds, if_neg c_1, if_neg c_2, if_neg c_5, if_neg c_6, if_neg c_9, if_neg c_10, if_neg c_13, if_neg c_17, if_neg c_21, if_neg c_22, if_neg c_25, if_neg c_26, if_pos c_29])⟩, by rw [ht]; exact hP, va_K.moved hW.alike hK, hD⟩, hS.F ht⟩) hS.2.2 dX0_holds_240)
  by_cases c_30 : a1 = 13
  · refine lv_tableIn (off := 240) (tgt := 241) hx hb dX0_holds_1 (by rw [c_30]; decide) (by rw [c_30]; decide) (by rw [c_30]; rfl) (by decide) ?_
    refine lv_aload_n hx hb dX0_holds_241 rfl (lv_at hl 0 rfl) ?_
    refine pu_calli (F := (f_X0_isLess f)) (va_runV (As := []) (rest := []) ⟨hx, hb, hml, hown, hts⟩ (p_X0_isLess l dC dI h0 _ f) (cwV 0 hts gX0_holds_X0_isLess rfl rfl rfl (by decide +kernel) ⟨Nat.le_of_ble_eq_true rfl, Nat.le_of_ble_eq_true rfl⟩) (pu_preV (ci := 1) rfl hK hP) rfl rfl hl.1 rfl (lv_room (Nat.le_of_ble_eq_true rfl)) dX0_holds_242 ⟨Nat.le_of_ble_eq_true rfl, Nat.le_of_ble_eq_true rfl⟩) ?_
    refine rg (J := 253) (st := []) (if (f_X0_isLess f) = 0 then 1 else 0) (fun k => ?_) (fun y_31 ey_31 => ?_)
    · refine lv_if_ne (tgt := 252) hx hb dX0_holds_245 (by decide) (fun c_32 => ?_) (fun c_32 => ?_)
      · refine lv_iconst (v := 0) hx hb dX0_holds_252 (by decide) ?_
        exact rg_e k (by first | rw [if_neg c_32] | simp only [if_neg c_32])
      · refine lv_iconst (v := 1) hx hb dX0_holds_248 (by decide) ?_
        refine lv_goto (tgt := 253) hx hb dX0_holds_249 (by decide) ?_
        exact rg_e k (by first | rw [if_pos c_32] | simp only [if_pos c_32])
    refine W.widen (k := 1) (n := 6) (by omega) (by omega) ?_
    exact vx_ret (W.zret (v := y_31) hx hb hr (nb_of (by rw [ey_31]; repeat (first | exact Or.inl rfl | exact Or.inr rfl | apply fb_X0_isSet | apply fb_X0_hasHighestBit | split))) (fun t ht hW => ⟨⟨y_31, f, rfl, ⟨(by subst ey_31; simp only [x_X0_holds, if_neg c_1, if_neg c_2, if_neg c_5, if_neg c_6, if_neg c_9, if_neg c_10, if_neg c_13, if_neg c_17, if_neg c_21, if_neg c_22, if_neg c_25, if_neg c_26, if_neg c_29, if_pos c_30]), (by subst ey_31; simp only [f_X0_holds, if_neg c_1, if_neg c_2, if_neg c_5, if_neg c_6, if_neg c_9, if_neg c_10, if_neg c_13, if_neg c_17, if_neg c_21, if_neg c_22, if_neg c_25, if_neg c_26, if_neg c_29, if_pos c_30]), (by subst ey_31; simp only [f_X0_holds, if_neg c_1, if_neg c_2, if_neg c_5, if_neg c_6, if_neg c_9, if_neg c_10, if_neg c_13, if_neg c_17, if_neg c_21, if_neg c_22, if_neg c_25, if_neg c_26, if_neg c_29, if_pos c_30])⟩, by rw [ht]; exact hP, va_K.moved hW.alike hK, hD⟩, hS.F ht⟩) hS.2.2 dX0_holds_253)
  by_cases c_33 : a1 = 14
  · refine lv_tableIn (off := 253) (tgt := 254) hx hb dX0_holds_1 (by rw [c_33]; decide) (by rw [c_33]; decide) (by rw [c_33]; rfl) (by decide) ?_
    refine lv_aload_n hx hb dX0_holds_254 rfl (lv_at hl 0 rfl) ?_
    refine pu_calli (F := (f_X0_isLess f)) (va_runV (As := []) (rest := []) ⟨hx, hb, hml, hown, hts⟩ (p_X0_isLess l dC dI h0 _ f) (cwV 0 hts gX0_holds_X0_isLess rfl rfl rfl (by decide +kernel) ⟨Nat.le_of_ble_eq_true rfl, Nat.le_of_ble_eq_true rfl⟩) (pu_preV (ci := 1) rfl hK hP) rfl rfl hl.1 rfl (lv_room (Nat.le_of_ble_eq_true rfl)) dX0_holds_255 ⟨Nat.le_of_ble_eq_true rfl, Nat.le_of_ble_eq_true rfl⟩) ?_
    refine rg (J := 275) (st := []) (if (f_X0_isLess f) = 0 then (if (f_X0_isSet f 64) = 0 then 0 else 1) else 1) (fun k => ?_) (fun y_34 ey_34 => ?_)
    · refine lv_if_ne (tgt := 270) hx hb dX0_holds_258 (by decide) (fun c_35 => ?_) (fun c_35 => ?_)
      · refine lv_iconst (v := 1) hx hb dX0_holds_270 (by decide) ?_
        refine lv_goto (tgt := 275) hx hb dX0_holds_271 (by decide) ?_
        exact rg_e k (by first | rw [if_neg c_35] | simp only [if_neg c_35])
      · refine lv_aload_n hx hb dX0_holds_261 rfl (lv_at hl 0 rfl) ?_
        refine lv_bipush (v := 64) hx hb dX0_holds_262 (by decide +kernel) ?_
        refine pu_calli (F := (f_X0_isSet f 64)) (va_runV (As := [.int 64]) (rest := []) ⟨hx, hb, hml, hown, hts⟩ (p_X0_isSet l dC dI h0 _ f 64) (cwV 1 hts gX0_holds_X0_isSet rfl rfl rfl (by decide +kernel) ⟨Nat.le_of_ble_eq_true rfl, Nat.le_of_ble_eq_true rfl⟩) (pu_preV (ci := 1) rfl hK hP) rfl rfl hl.1 rfl (lv_room (Nat.le_of_ble_eq_true rfl)) dX0_holds_264 ⟨Nat.le_of_ble_eq_true rfl, Nat.le_of_ble_eq_true rfl⟩) ?_
        refine lv_if_eq (tgt := 274) hx hb dX0_holds_267 (by decide) (fun c_36 => ?_) (fun c_36 => ?_)
        · refine lv_iconst (v := 0) hx hb dX0_holds_274 (by decide) ?_
          exact rg_e k (by first | rw [if_pos c_35, if_pos c_36] | simp only [if_pos c_35, if_pos c_36])
        · refine lv_iconst (v := 1) hx hb dX0_holds_270 (by decide) ?_
          refine lv_goto (tgt := 275) hx hb dX0_holds_271 (by decide) ?_
          exact rg_e k (by first | rw [if_pos c_35, if_neg c_36] | simp only [if_pos c_35, if_neg c_36])
    refine W.widen (k := 1) (n := 6) (by omega) (by omega) ?_
    exact vx_ret (W.zret (v := y_34) hx hb hr (nb_of (by rw [ey_34]; repeat (first | exact Or.inl rfl | exact Or.inr rfl | apply fb_X0_isSet | apply fb_X0_hasHighestBit | split))) (fun t ht hW => ⟨⟨y_34, f, rfl, ⟨(by subst ey_34; simp only [x_X0_holds, if_neg c_1, if_neg c_2, if_neg c_5, if_neg c_6, if_neg c_9, if_neg c_10, if_neg c_13, if_neg c_17, if_neg c_21, if_neg c_22, if_neg c_25, if_neg c_26, if_neg c_29, if_neg c_30, if_pos c_33]), (by subst ey_34; simp only [f_X0_holds, if_neg c_1, if_neg c_2, if_neg c_5, if_neg c_6, if_neg c_9, if_neg c_10, if_neg c_13, if_neg c_17, if_neg c_21, if_neg c_22, if_neg c_25, if_neg c_26, if_neg c_29, if_neg c_30, if_pos c_33]), (by subst ey_34; simp only [f_X0_holds, if_neg c_1, if_neg c_2, if_neg c_5, if_neg c_6, if_neg c_9, if_neg c_10, if_neg c_13, if_neg c_17, if_neg c_21, if_neg c_22, if_neg c_25, if_neg c_26, if_neg c_29, if_neg c_30, if_pos c_33])⟩, by rw [ht]; exact hP, va_K.moved hW.alike hK, hD⟩, hS.F ht⟩) hS.2.2 dX0_holds_275)
  by_cases c_37 : a1 = 15
  · refine lv_tableIn (off := 275) (tgt := 276) hx hb dX0_holds_1 (by rw [c_37]; decide) (by rw [c_37]; decide) (by rw [c_37]; rfl) (by decide) ?_
    refine lv_aload_n hx hb dX0_holds_276 rfl (lv_at hl 0 rfl) ?_
    refine pu_calli (F := (f_X0_isLess f)) (va_runV (As := []) (rest := []) ⟨hx, hb, hml, hown, hts⟩ (p_X0_isLess l dC dI h0 _ f) (cwV 0 hts gX0_holds_X0_isLess rfl rfl rfl (by decide +kernel) ⟨Nat.le_of_ble_eq_true rfl, Nat.le_of_ble_eq_true rfl⟩) (pu_preV (ci := 1) rfl hK hP) rfl rfl hl.1 rfl (lv_room (Nat.le_of_ble_eq_true rfl)) dX0_holds_277 ⟨Nat.le_of_ble_eq_true rfl, Nat.le_of_ble_eq_true rfl⟩) ?_
    refine rg (J := 297) (st := []) (if (f_X0_isLess f) = 0 then (if (f_X0_isSet f 64) = 0 then 1 else 0) else 0) (fun k => ?_) (fun y_38 ey_38 => ?_)
    · refine lv_if_ne (tgt := 296) hx hb dX0_holds_280 (by decide) (fun c_39 => ?_) (fun c_39 => ?_)
      · refine lv_iconst (v := 0) hx hb dX0_holds_296 (by decide) ?_
        exact rg_e k (by first | rw [if_neg c_39] | simp only [if_neg c_39])
      · refine lv_aload_n hx hb dX0_holds_283 rfl (lv_at hl 0 rfl) ?_
        refine lv_bipush (v := 64) hx hb dX0_holds_284 (by decide +kernel) ?_
        refine pu_calli (F := (f_X0_isSet f 64)) (va_runV (As := [.int 64]) (rest := []) ⟨hx, hb, hml, hown, hts⟩ (p_X0_isSet l dC dI h0 _ f 64) (cwV 1 hts gX0_holds_X0_isSet rfl rfl rfl (by decide +kernel) ⟨Nat.le_of_ble_eq_true rfl, Nat.le_of_ble_eq_true rfl⟩) (pu_preV (ci := 1) rfl hK hP) rfl rfl hl.1 rfl (lv_room (Nat.le_of_ble_eq_true rfl)) dX0_holds_286 ⟨Nat.le_of_ble_eq_true rfl, Nat.le_of_ble_eq_true rfl⟩) ?_
        refine lv_if_ne (tgt := 296) hx hb dX0_holds_289 (by decide) (fun c_40 => ?_) (fun c_40 => ?_)
        · refine lv_iconst (v := 0) hx hb dX0_holds_296 (by decide) ?_
          exact rg_e k (by first | rw [if_pos c_39, if_neg c_40] | simp only [if_pos c_39, if_neg c_40])
        · refine lv_iconst (v := 1) hx hb dX0_holds_292 (by decide) ?_
          refine lv_goto (tgt := 297) hx hb dX0_holds_293 (by decide) ?_
          exact rg_e k (by first | rw [if_pos c_39, if_pos c_40] | simp only [if_pos c_39, if_pos c_40])
    refine W.widen (k := 1) (n := 6) (by omega) (by omega) ?_
    exact vx_ret (W.zret (v := y_38) hx hb hr (nb_of (by rw [ey_38]; repeat (first | exact Or.inl rfl | exact Or.inr rfl | apply fb_X0_isSet | apply fb_X0_hasHighestBit | split))) (fun t ht hW => ⟨⟨y_38, f, rfl, ⟨(by subst ey_38; simp only [x_X0_holds, if_neg c_1, if_neg c_2, if_neg c_5, if_neg c_6, if_neg c_9, if_neg c_10, if_neg c_13, if_neg c_17, if_neg c_21, if_neg c_22, if_neg c_25, if_neg c_26, if_neg c_29, if_neg c_30, if_neg c_33, if_pos c_37]), (by subst ey_38; simp only [f_X0_holds, if_neg c_1, if_neg c_2, if_neg c_5, if_neg c_6, if_neg c_9, if_neg c_10, if_neg c_13, if_neg c_17, if_neg c_21, if_neg c_22, if_neg c_25, if_neg c_26, if_neg c_29, if_neg c_30, if_neg c_33, if_pos c_37]), (by subst ey_38; simp only [f_X0_holds, if_neg c_1, if_neg c_2, if_neg c_5, if_neg c_6, if_neg c_9, if_neg c_10, if_neg c_13, if_neg c_17, if_neg c_21, if_neg c_22, if_neg c_25, if_neg c_26, if_neg c_29, if_neg c_30, if_neg c_33, if_pos c_37])⟩, by rw [ht]; exact hP, va_K.moved hW.alike hK, hD⟩, hS.F ht⟩) hS.2.2 dX0_holds_297)
  refine lv_tableOut (tgt := 298) hx hb dX0_holds_1 (sw_out 15 (by decide) (fun k hk => by rcases (show k = 0 ∨ k = 1 ∨ k = 2 ∨ k = 3 ∨ k = 4 ∨ k = 5 ∨ k = 6 ∨ k = 7 ∨ k = 8 ∨ k = 9 ∨ k = 10 ∨ k = 11 ∨ k = 12 ∨ k = 13 ∨ k = 14 ∨ k = 15 by omega) with rfl | rfl | rfl | rfl | rfl | rfl | rfl | rfl | rfl | rfl | rfl | rfl | rfl | rfl | rfl | rfl <;> assumption)) (by decide) ?_
  exact vx_throwS (own := RX0) (cls := "java/lang/IllegalArgumentException") (text := "no such condition") (names := ["java/lang/RuntimeException", "java/lang/Exception"]) (ik := 33) (is := 116) (ic := 37) (A := A) hx hb hst hown (by decide +kernel) (by decide +kernel) (hts (.classLink RX0 33 "java/lang/IllegalArgumentException") (by decide +kernel)) (hts (.initialized "java/lang/IllegalArgumentException") (by decide +kernel)) hs_116 (th_hat hth (fun w hw => hts w (List.mem_cons_of_mem _ (List.mem_append_right _ hw))) hth.1 (by decide +kernel)) (by decide +kernel) hth.2.2.1 hth.2.2.2.1 hS (by rw [hml]; exact hl.1) dX0_holds_298 dX0_holds_301 dX0_holds_302 dX0_holds_304 dX0_holds_307 (fun x h => (hte x h).elim) (Nat.le_of_ble_eq_true rfl) (Nat.le_of_ble_eq_true rfl) (Nat.le_of_ble_eq_true rfl) (Nat.le_of_ble_eq_true rfl) hlocks (fun t _ hz hk => ⟨1, ⟨(by simp only [x_X0_holds, if_neg c_1, if_neg c_2, if_neg c_5, if_neg c_6, if_neg c_9, if_neg c_10, if_neg c_13, if_neg c_17, if_neg c_21, if_neg c_22, if_neg c_25, if_neg c_26, if_neg c_29, if_neg c_30, if_neg c_33, if_neg c_37]), by decide⟩, rfl, ⟨hz, fun q hq _ => hk q hq⟩⟩) hS.2.2 (Nat.le_refl _) (Nat.le_refl _)

/-- what X0_operate answers, and the flags behind it -/
def f_X0_operate (f : Int32) (a1 : Int32) (a2 : Int32) (a3 : Int32) (a4 : Int32) : Int32 × Int32 :=
  let y_1 : Int32 := (f_X0_operand a2 a3)
  let y_2 : Int32 := (f_X0_operand a2 a4)
  if a1 = 0 then
  (let r_4 : Int32 := (f_X0_sum f a2 y_1 y_2 0).1
  let u_5 : Int32 := (f_X0_sum f a2 y_1 y_2 0).2
  (r_4, u_5))
  else
  if a1 = 1 then
  (let r_7 : Int32 := (f_X0_logic f a2 (y_1 ||| y_2)).1
  let u_8 : Int32 := (f_X0_logic f a2 (y_1 ||| y_2)).2
  (r_7, u_8))
  else
  if a1 = 2 then
  (let r_10 : Int32 := (f_X0_sum f a2 y_1 y_2 (f &&& 1)).1
  let u_11 : Int32 := (f_X0_sum f a2 y_1 y_2 (f &&& 1)).2
  (r_10, u_11))
  else
  if a1 = 3 then
  (let r_13 : Int32 := (f_X0_difference f a2 y_1 y_2 (f &&& 1)).1
  let u_14 : Int32 := (f_X0_difference f a2 y_1 y_2 (f &&& 1)).2
  (r_13, u_14))
  else
  if a1 = 4 then
  (let r_16 : Int32 := (f_X0_logic f a2 (y_1 &&& y_2)).1
  let u_17 : Int32 := (f_X0_logic f a2 (y_1 &&& y_2)).2
  (r_16, u_17))
  else
  if a1 = 5 then
  (let r_19 : Int32 := (f_X0_difference f a2 y_1 y_2 0).1
  let u_20 : Int32 := (f_X0_difference f a2 y_1 y_2 0).2
  (r_19, u_20))
  else
  if a1 = 6 then
  (let r_22 : Int32 := (f_X0_logic f a2 (y_1 ^^^ y_2)).1
  let u_23 : Int32 := (f_X0_logic f a2 (y_1 ^^^ y_2)).2
  (r_22, u_23))
  else
  if a1 = 7 then
  (let r_25 : Int32 := (f_X0_difference f a2 y_1 y_2 0).1
  let u_26 : Int32 := (f_X0_difference f a2 y_1 y_2 0).2
  (y_1, u_26))
  else
  if a1 = 8 then
  (let r_28 : Int32 := (f_X0_logic f a2 (y_1 &&& y_2)).1
  let u_29 : Int32 := (f_X0_logic f a2 (y_1 &&& y_2)).2
  (y_1, u_29))
  else
  if a1 = 9 then
  (let r_31 : Int32 := (f_X0_oneMore f a2 y_1).1
  let u_32 : Int32 := (f_X0_oneMore f a2 y_1).2
  (r_31, u_32))
  else
  if a1 = 10 then
  (let r_34 : Int32 := (f_X0_oneLess f a2 y_1).1
  let u_35 : Int32 := (f_X0_oneLess f a2 y_1).2
  (r_34, u_35))
  else
  if a1 = 11 then
  (let r_37 : Int32 := (f_X0_difference f a2 0 y_1 0).1
  let u_38 : Int32 := (f_X0_difference f a2 0 y_1 0).2
  (r_37, u_38))
  else
  if a1 = 12 then
  (((f_X0_operand a2 (y_1 ^^^ (-1))), f))
  else
  ((0, f))
/-- what X0_operate throws: 0 nothing, 1 IllegalArgumentException, 2 ArithmeticException -/
def x_X0_operate (f : Int32) (a1 : Int32) (a2 : Int32) (a3 : Int32) (a4 : Int32) : Int32 :=
  let y_1 : Int32 := (f_X0_operand a2 a3)
  let y_2 : Int32 := (f_X0_operand a2 a4)
  if a1 = 0 then
  (let r_4 : Int32 := (f_X0_sum f a2 y_1 y_2 0).1
  let u_5 : Int32 := (f_X0_sum f a2 y_1 y_2 0).2
  0)
  else
  if a1 = 1 then
  (let r_7 : Int32 := (f_X0_logic f a2 (y_1 ||| y_2)).1
  let u_8 : Int32 := (f_X0_logic f a2 (y_1 ||| y_2)).2
  0)
  else
  if a1 = 2 then
  (let r_10 : Int32 := (f_X0_sum f a2 y_1 y_2 (f &&& 1)).1
  let u_11 : Int32 := (f_X0_sum f a2 y_1 y_2 (f &&& 1)).2
  0)
  else
  if a1 = 3 then
  (let r_13 : Int32 := (f_X0_difference f a2 y_1 y_2 (f &&& 1)).1
  let u_14 : Int32 := (f_X0_difference f a2 y_1 y_2 (f &&& 1)).2
  0)
  else
  if a1 = 4 then
  (let r_16 : Int32 := (f_X0_logic f a2 (y_1 &&& y_2)).1
  let u_17 : Int32 := (f_X0_logic f a2 (y_1 &&& y_2)).2
  0)
  else
  if a1 = 5 then
  (let r_19 : Int32 := (f_X0_difference f a2 y_1 y_2 0).1
  let u_20 : Int32 := (f_X0_difference f a2 y_1 y_2 0).2
  0)
  else
  if a1 = 6 then
  (let r_22 : Int32 := (f_X0_logic f a2 (y_1 ^^^ y_2)).1
  let u_23 : Int32 := (f_X0_logic f a2 (y_1 ^^^ y_2)).2
  0)
  else
  if a1 = 7 then
  (let r_25 : Int32 := (f_X0_difference f a2 y_1 y_2 0).1
  let u_26 : Int32 := (f_X0_difference f a2 y_1 y_2 0).2
  0)
  else
  if a1 = 8 then
  (let r_28 : Int32 := (f_X0_logic f a2 (y_1 &&& y_2)).1
  let u_29 : Int32 := (f_X0_logic f a2 (y_1 &&& y_2)).2
  0)
  else
  if a1 = 9 then
  (let r_31 : Int32 := (f_X0_oneMore f a2 y_1).1
  let u_32 : Int32 := (f_X0_oneMore f a2 y_1).2
  0)
  else
  if a1 = 10 then
  (let r_34 : Int32 := (f_X0_oneLess f a2 y_1).1
  let u_35 : Int32 := (f_X0_oneLess f a2 y_1).2
  0)
  else
  if a1 = 11 then
  (let r_37 : Int32 := (f_X0_difference f a2 0 y_1 0).1
  let u_38 : Int32 := (f_X0_difference f a2 0 y_1 0).2
  0)
  else
  if a1 = 12 then
  (0)
  else
  (1)
set_option maxHeartbeats 4000000 in
set_option maxRecDepth 100000 in
theorem p_X0_operate (l : Launch) (hst : l.stackTraces = false) (dC : Nat → ClassId) (dI : Nat → Nat → Nat) (h0 : Nat) (sz : Nat) (f : Int32) (a1 : Int32) (a2 : Int32) (a3 : Int32) (a4 : Int32) : vx_Met l yX0_operate wsX0_operate ({ frames := 6, cells := 1, slots := 6, locals := 135 }) (va_Pc [.ref h0, .int a1, .int a2, .int a3, .int a4] (th_pre (dC, dI) h0 sz f)) (va_Qi (fun (r : Int32) (u : Int32) => x_X0_operate f a1 a2 a3 a4 = 0 ∧ r = (f_X0_operate f a1 a2 a3 a4).1 ∧ u = (f_X0_operate f a1 a2 a3 a4).2) (wr_at (dC, dI) 1 h0 (fun u : Int32 => [.int u]) (wr_A 1 h0 sz [.int f])) (wr_A 1 h0 sz [.int f])) (vx_X (fun u : Int32 => u = x_X0_operate f a1 a2 a3 a4 ∧ ¬ u = 0) (fun E u _ => E = th_E u) (fun _ => False)) 1 6 (wr_A 1 h0 sz [.int f]) := by
  refine vx_ofW (cc := cX0_operate) (maxL := 7) (ret := (some .int)) (by decide) rfl ?_
  intro p e s m args below meth c s₁ B hml hte hv
  obtain ⟨rfl, ⟨hsz, hP, hK, hD0⟩, hth⟩ := hv
  have hx := B.exec
  have hb := B.bytes
  have hr := B.returns
  have hts := atoms_spec (ws := wsX0_operate) B.pre
  have hown : s.vm.findClass RX0 = some m.cls := findClass_of_methodNamed B.named
  have hlocks := B.notSynchronized
  subst hsz
  have hD : va_D (wr_A 1 h0 s.heap.size [.int f]) [(h0, .inr (1, [.int f]))] := hD0.self (sz := s.heap.size)
  generalize hAe : wr_A 1 h0 s.heap.size [.int f] = A at hD hth ⊢
  have hA : ∀ q : Nat, s.heap.size ≤ q → A q := fun q h => by rw [← hAe]; exact Or.inr h
  have hS : va_S A s.heap s.heap [] := va_S.rf
  have hP : va_P (dC, dI) vwCl [(h0, .inr (1, [.int f]))] s.heap := hP
  have hD : va_D A [(h0, .inr (1, [.int f]))] := hD
  obtain ⟨sa_35, hs_35⟩ := hth.2.2.2.2.1 (35, "no such operation") (by decide)
  have hl := lv_entry ([.ref h0, .int a1, .int a2, .int a3, .int a4]) (n := 7) (Nat.le_of_ble_eq_true rfl)
  rw [lg_entry_eq]
  generalize (lg_sl ([.ref h0, .int a1, .int a2, .int a3, .int a4]) ++ List.replicate (7 - (lg_sl ([.ref h0, .int a1, .int a2, .int a3, .int a4])).length) Slot.unset).toArray = ls at hl ⊢
  have hl : lv_has ls 7 [(0, .ref h0), (1, .int a1), (2, .int a2), (3, .int a3), (4, .int a4)] := hl
  refine lv_iload_n hx hb dX0_operate_0 rfl (lv_at hl 2 rfl) ?_
  refine lv_iload_n hx hb dX0_operate_1 rfl (lv_at hl 3 rfl) ?_
  refine pu_calli (F := (f_X0_operand a2 a3)) (va_runS (As := [.int a2, .int a3]) (rest := []) ⟨hx, hb, hml, hown, hts⟩ (p_X0_operand l _ a2 a3) (va_cwS 2 hts gX0_operate_X0_operand rfl rfl rfl (by decide +kernel) ⟨Nat.le_of_ble_eq_true rfl, Nat.le_of_ble_eq_true rfl⟩) pu_preS rfl rfl hl.1 rfl (lv_room (Nat.le_of_ble_eq_true rfl)) dX0_operate_2 ⟨Nat.le_of_ble_eq_true rfl, Nat.le_of_ble_eq_true rfl⟩) ?_
  refine lv_topi (fun y_1 ey_1 => ?_)
  refine lv_istore (lv' := [(5, .int y_1), (0, .ref h0), (1, .int a1), (2, .int a2), (3, .int a3), (4, .int a4)]) hx hb dX0_operate_5 hl (by decide) rfl (fun ls hl => ?_)
  refine lv_iload_n hx hb dX0_operate_7 rfl (lv_at hl 3 rfl) ?_
  refine lv_iload hx hb dX0_operate_8 (lv_at hl 5 rfl) ?_
  refine pu_calli (F := (f_X0_operand a2 a4)) (va_runS (As := [.int a2, .int a4]) (rest := []) ⟨hx, hb, hml, hown, hts⟩ (p_X0_operand l _ a2 a4) (va_cwS 2 hts gX0_operate_X0_operand rfl rfl rfl (by decide +kernel) ⟨Nat.le_of_ble_eq_true rfl, Nat.le_of_ble_eq_true rfl⟩) pu_preS rfl rfl hl.1 rfl (lv_room (Nat.le_of_ble_eq_true rfl)) dX0_operate_10 ⟨Nat.le_of_ble_eq_true rfl, Nat.le_of_ble_eq_true rfl⟩) ?_
  refine lv_topi (fun y_2 ey_2 => ?_)
  refine lv_istore (lv' := [(6, .int y_2), (5, .int y_1), (0, .ref h0), (1, .int a1), (2, .int a2), (3, .int a3), (4, .int a4)]) hx hb dX0_operate_13 hl (by decide) rfl (fun ls hl => ?_)
  refine lv_iload_n hx hb dX0_operate_15 rfl (lv_at hl 3 rfl) ?_
  by_cases c_3 : a1 = 0
  · refine lv_tableIn (off := 68) (tgt := 84) hx hb dX0_operate_16 (by rw [c_3]; decide) (by rw [c_3]; decide) (by rw [c_3]; rfl) (by decide) ?_
    refine lv_aload_n hx hb dX0_operate_84 rfl (lv_at hl 2 rfl) ?_
    refine lv_iload_n hx hb dX0_operate_85 rfl (lv_at hl 4 rfl) ?_
    refine lv_iload hx hb dX0_operate_86 (lv_at hl 1 rfl) ?_
    refine lv_iload hx hb dX0_operate_88 (lv_at hl 0 rfl) ?_
    refine lv_iconst (v := 0) hx hb dX0_operate_90 (by decide) ?_
    refine wr_calli (va_runV (As := [.int a2, .int y_1, .int y_2, .int 0]) (rest := []) ⟨hx, hb, hml, hown, hts⟩ (p_X0_sum l dC dI h0 _ f a2 y_1 y_2 0) (cwV 4 hts gX0_operate_X0_sum rfl rfl rfl (by decide +kernel) ⟨Nat.le_of_ble_eq_true rfl, Nat.le_of_ble_eq_true rfl⟩) (wr_preV (ci := 1) rfl hK hP hD) rfl rfl hl.1 rfl (lv_room (Nat.le_of_ble_eq_true rfl)) dX0_operate_91 ⟨Nat.le_of_ble_eq_true rfl, Nat.le_of_ble_eq_true rfl⟩) hP hD hS hA (fun r_4 u_5 H locs hw hP hD hS => ?_)
    obtain ⟨er_4, eu_5⟩ := hw
    have hP : va_P (dC, dI) vwCl [(h0, .inr (1, [.int u_5]))] H := hP
    have hD : va_D A [(h0, .inr (1, [.int u_5]))] := hD
    refine W.widen (k := 1) (n := 6) (by omega) (by omega) ?_
    exact vx_ret (W.iret (v := r_4) hx hb hr (fun t ht hW => ⟨⟨r_4, u_5, rfl, ⟨(by subst ey_1; subst ey_2; subst er_4; subst eu_5; simp only [x_X0_operate, if_pos c_3]), (by subst ey_1; subst ey_2; subst er_4; subst eu_5; simp only [f_X0_operate, if_pos c_3]), (by subst ey_1; subst ey_2; subst er_4; subst eu_5; simp only [f_X0_operate, if_pos c_3])⟩, by rw [ht]; exact hP, va_K.moved hW.alike hK, hD⟩, hS.F ht⟩) hS.2.2 dX0_operate_94)
  by_cases c_6 : a1 = 1
  · refine lv_tableIn (off := 79) (tgt := 95) hx hb dX0_operate_16 (by rw [c_6]; decide) (by rw [c_6]; decide) (by rw [c_6]; rfl) (by decide) ?_
    refine lv_aload_n hx hb dX0_operate_95 rfl (lv_at hl 2 rfl) ?_
    refine lv_iload_n hx hb dX0_operate_96 rfl (lv_at hl 4 rfl) ?_
    refine lv_iload hx hb dX0_operate_97 (lv_at hl 1 rfl) ?_
    refine lv_iload hx hb dX0_operate_99 (lv_at hl 0 rfl) ?_
    refine lv_ior hx hb dX0_operate_101 ?_
    refine wr_calli (va_runV (As := [.int a2, .int (y_1 ||| y_2)]) (rest := []) ⟨hx, hb, hml, hown, hts⟩ (p_X0_logic l dC dI h0 _ f a2 (y_1 ||| y_2)) (cwV 2 hts gX0_operate_X0_logic rfl rfl rfl (by decide +kernel) ⟨Nat.le_of_ble_eq_true rfl, Nat.le_of_ble_eq_true rfl⟩) (wr_preV (ci := 1) rfl hK hP hD) rfl rfl hl.1 rfl (lv_room (Nat.le_of_ble_eq_true rfl)) dX0_operate_102 ⟨Nat.le_of_ble_eq_true rfl, Nat.le_of_ble_eq_true rfl⟩) hP hD hS hA (fun r_7 u_8 H locs hw hP hD hS => ?_)
    obtain ⟨er_7, eu_8⟩ := hw
    have hP : va_P (dC, dI) vwCl [(h0, .inr (1, [.int u_8]))] H := hP
    have hD : va_D A [(h0, .inr (1, [.int u_8]))] := hD
    refine W.widen (k := 1) (n := 6) (by omega) (by omega) ?_
    exact vx_ret (W.iret (v := r_7) hx hb hr (fun t ht hW => ⟨⟨r_7, u_8, rfl, ⟨(by subst ey_1; subst ey_2; subst er_7; subst eu_8; simp only [x_X0_operate, if_neg c_3, if_pos c_6]), (by subst ey_1; subst ey_2; subst er_7; subst eu_8; simp only [f_X0_operate, if_neg c_3, if_pos c_6]), (by subst ey_1; subst ey_2; subst er_7; subst eu_8; simp only [f_X0_operate, if_neg c_3, if_pos c_6])⟩, by rw [ht]; exact hP, va_K.moved hW.alike hK, hD⟩, hS.F ht⟩) hS.2.2 dX0_operate_105)
  by_cases c_9 : a1 = 2
  · refine lv_tableIn (off := 90) (tgt := 106) hx hb dX0_operate_16 (by rw [c_9]; decide) (by rw [c_9]; decide) (by rw [c_9]; rfl) (by decide) ?_
    refine lv_aload_n hx hb dX0_operate_106 rfl (lv_at hl 2 rfl) ?_
    refine lv_iload_n hx hb dX0_operate_107 rfl (lv_at hl 4 rfl) ?_
    refine lv_iload hx hb dX0_operate_108 (lv_at hl 1 rfl) ?_
    refine lv_iload hx hb dX0_operate_110 (lv_at hl 0 rfl) ?_
    refine lv_aload_n hx hb dX0_operate_112 rfl (lv_at hl 2 rfl) ?_
    refine va_get (D := (dC, dI)) (ci := 1) (v := .int f) (C := RX0) (T := TX0) (N := 1) hx hb hts (by decide +kernel) hown hK hP 0 rfl rfl 0 (by decide) (hts (.fieldLink RX0 7 "WordArithmetic" "held" "I") (by decide +kernel)) (fun _ h9 => h9) rfl dX0_operate_113 ?_
    refine lv_iconst (v := 1) hx hb dX0_operate_116 (by decide) ?_
    refine lv_iand hx hb dX0_operate_117 ?_
    refine wr_calli (va_runV (As := [.int a2, .int y_1, .int y_2, .int (f &&& 1)]) (rest := []) ⟨hx, hb, hml, hown, hts⟩ (p_X0_sum l dC dI h0 _ f a2 y_1 y_2 (f &&& 1)) (cwV 4 hts gX0_operate_X0_sum rfl rfl rfl (by decide +kernel) ⟨Nat.le_of_ble_eq_true rfl, Nat.le_of_ble_eq_true rfl⟩) (wr_preV (ci := 1) rfl hK hP hD) rfl rfl hl.1 rfl (lv_room (Nat.le_of_ble_eq_true rfl)) dX0_operate_118 ⟨Nat.le_of_ble_eq_true rfl, Nat.le_of_ble_eq_true rfl⟩) hP hD hS hA (fun r_10 u_11 H locs hw hP hD hS => ?_)
    obtain ⟨er_10, eu_11⟩ := hw
    have hP : va_P (dC, dI) vwCl [(h0, .inr (1, [.int u_11]))] H := hP
    have hD : va_D A [(h0, .inr (1, [.int u_11]))] := hD
    refine W.widen (k := 1) (n := 6) (by omega) (by omega) ?_
    exact vx_ret (W.iret (v := r_10) hx hb hr (fun t ht hW => ⟨⟨r_10, u_11, rfl, ⟨(by subst ey_1; subst ey_2; subst er_10; subst eu_11; simp only [x_X0_operate, if_neg c_3, if_neg c_6, if_pos c_9]), (by subst ey_1; subst ey_2; subst er_10; subst eu_11; simp only [f_X0_operate, if_neg c_3, if_neg c_6, if_pos c_9]), (by subst ey_1; subst ey_2; subst er_10; subst eu_11; simp only [f_X0_operate, if_neg c_3, if_neg c_6, if_pos c_9])⟩, by rw [ht]; exact hP, va_K.moved hW.alike hK, hD⟩, hS.F ht⟩) hS.2.2 dX0_operate_121)
  by_cases c_12 : a1 = 3
  · refine lv_tableIn (off := 106) (tgt := 122) hx hb dX0_operate_16 (by rw [c_12]; decide) (by rw [c_12]; decide) (by rw [c_12]; rfl) (by decide) ?_
    refine lv_aload_n hx hb dX0_operate_122 rfl (lv_at hl 2 rfl) ?_
    refine lv_iload_n hx hb dX0_operate_123 rfl (lv_at hl 4 rfl) ?_
    refine lv_iload hx hb dX0_operate_124 (lv_at hl 1 rfl) ?_
    refine lv_iload hx hb dX0_operate_126 (lv_at hl 0 rfl) ?_
    refine lv_aload_n hx hb dX0_operate_128 rfl (lv_at hl 2 rfl) ?_
    refine va_get (D := (dC, dI)) (ci := 1) (v := .int f) (C := RX0) (T := TX0) (N := 1) hx hb hts (by decide +kernel) hown hK hP 0 rfl rfl 0 (by decide) (hts (.fieldLink RX0 7 "WordArithmetic" "held" "I") (by decide +kernel)) (fun _ h9 => h9) rfl dX0_operate_129 ?_
    refine lv_iconst (v := 1) hx hb dX0_operate_132 (by decide) ?_
    refine lv_iand hx hb dX0_operate_133 ?_
    refine wr_calli (va_runV (As := [.int a2, .int y_1, .int y_2, .int (f &&& 1)]) (rest := []) ⟨hx, hb, hml, hown, hts⟩ (p_X0_difference l dC dI h0 _ f a2 y_1 y_2 (f &&& 1)) (cwV 4 hts gX0_operate_X0_difference rfl rfl rfl (by decide +kernel) ⟨Nat.le_of_ble_eq_true rfl, Nat.le_of_ble_eq_true rfl⟩) (wr_preV (ci := 1) rfl hK hP hD) rfl rfl hl.1 rfl (lv_room (Nat.le_of_ble_eq_true rfl)) dX0_operate_134 ⟨Nat.le_of_ble_eq_true rfl, Nat.le_of_ble_eq_true rfl⟩) hP hD hS hA (fun r_13 u_14 H locs hw hP hD hS => ?_)
    obtain ⟨er_13, eu_14⟩ := hw
    have hP : va_P (dC, dI) vwCl [(h0, .inr (1, [.int u_14]))] H := hP
    have hD : va_D A [(h0, .inr (1, [.int u_14]))] := hD
    refine W.widen (k := 1) (n := 6) (by omega) (by omega) ?_
    exact vx_ret (W.iret (v := r_13) hx hb hr (fun t ht hW => ⟨⟨r_13, u_14, rfl, ⟨(by subst ey_1; subst ey_2; subst er_13; subst eu_14; simp only [x_X0_operate, if_neg c_3, if_neg c_6, if_neg c_9, if_pos c_12]), (by subst ey_1; subst ey_2; subst er_13; subst eu_14; simp only [f_X0_operate, if_neg c_3, if_neg c_6, if_neg c_9, if_pos c_12]), (by subst ey_1; subst ey_2; subst er_13; subst eu_14; simp only [f_X0_operate, if_neg c_3, if_neg c_6, if_neg c_9, if_pos c_12])⟩, by rw [ht]; exact hP, va_K.moved hW.alike hK, hD⟩, hS.F ht⟩) hS.2.2 dX0_operate_137)
  by_cases c_15 : a1 = 4
  · refine lv_tableIn (off := 122) (tgt := 138) hx hb dX0_operate_16 (by rw [c_15]; decide) (by rw [c_15]; decide) (by rw [c_15]; rfl) (by decide) ?_
    refine lv_aload_n hx hb dX0_operate_138 rfl (lv_at hl 2 rfl) ?_
    refine lv_iload_n hx hb dX0_operate_139 rfl (lv_at hl 4 rfl) ?_
    refine lv_iload hx hb dX0_operate_140 (lv_at hl 1 rfl) ?_
    refine lv_iload hx hb dX0_operate_142 (lv_at hl 0 rfl) ?_
    refine lv_iand hx hb dX0_operate_144 ?_
    refine wr_calli (va_runV (As := [.int a2, .int (y_1 &&& y_2)]) (rest := []) ⟨hx, hb, hml, hown, hts⟩ (p_X0_logic l dC dI h0 _ f a2 (y_1 &&& y_2)) (cwV 2 hts gX0_operate_X0_logic rfl rfl rfl (by decide +kernel) ⟨Nat.le_of_ble_eq_true rfl, Nat.le_of_ble_eq_true rfl⟩) (wr_preV (ci := 1) rfl hK hP hD) rfl rfl hl.1 rfl (lv_room (Nat.le_of_ble_eq_true rfl)) dX0_operate_145 ⟨Nat.le_of_ble_eq_true rfl, Nat.le_of_ble_eq_true rfl⟩) hP hD hS hA (fun r_16 u_17 H locs hw hP hD hS => ?_)
    obtain ⟨er_16, eu_17⟩ := hw
    have hP : va_P (dC, dI) vwCl [(h0, .inr (1, [.int u_17]))] H := hP
    have hD : va_D A [(h0, .inr (1, [.int u_17]))] := hD
    refine W.widen (k := 1) (n := 6) (by omega) (by omega) ?_
    exact vx_ret (W.iret (v := r_16) hx hb hr (fun t ht hW => ⟨⟨r_16, u_17, rfl, ⟨(by subst ey_1; subst ey_2; subst er_16; subst eu_17; simp only [x_X0_operate, if_neg c_3, if_neg c_6, if_neg c_9, if_neg c_12, if_pos c_15]), (by subst ey_1; subst ey_2; subst er_16; subst eu_17; simp only [f_X0_operate, if_neg c_3, if_neg c_6, if_neg c_9, if_neg c_12, if_pos c_15]), (by subst ey_1; subst ey_2; subst er_16; subst eu_17; simp only [f_X0_operate, if_neg c_3, if_neg c_6, if_neg c_9, if_neg c_12, if_pos c_15])⟩, by rw [ht]; exact hP, va_K.moved hW.alike hK, hD⟩, hS.F ht⟩) hS.2.2 dX0_operate_148)
  by_cases c_18 : a1 = 5
  · refine lv_tableIn (off := 133) (tgt := 149) hx hb dX0_operate_16 (by rw [c_18]; decide) (by rw [c_18]; decide) (by rw [c_18]; rfl) (by decide) ?_
    refine lv_aload_n hx hb dX0_operate_149 rfl (lv_at hl 2 rfl) ?_
    refine lv_iload_n hx hb dX0_operate_150 rfl (lv_at hl 4 rfl) ?_
    refine lv_iload hx hb dX0_operate_151 (lv_at hl 1 rfl) ?_
    refine lv_iload hx hb dX0_operate_153 (lv_at hl 0 rfl) ?_
    refine lv_iconst (v := 0) hx hb dX0_operate_155 (by decide) ?_
    refine wr_calli (va_runV (As := [.int a2, .int y_1, .int y_2, .int 0]) (rest := []) ⟨hx, hb, hml, hown, hts⟩ (p_X0_difference l dC dI h0 _ f a2 y_1 y_2 0) (cwV 4 hts gX0_operate_X0_difference rfl rfl rfl (by decide +kernel) ⟨Nat.le_of_ble_eq_true rfl, Nat.le_of_ble_eq_true rfl⟩) (wr_preV (ci := 1) rfl hK hP hD) rfl rfl hl.1 rfl (lv_room (Nat.le_of_ble_eq_true rfl)) dX0_operate_156 ⟨Nat.le_of_ble_eq_true rfl, Nat.le_of_ble_eq_true rfl⟩) hP hD hS hA (fun r_19 u_20 H locs hw hP hD hS => ?_)
    obtain ⟨er_19, eu_20⟩ := hw
    have hP : va_P (dC, dI) vwCl [(h0, .inr (1, [.int u_20]))] H := hP
    have hD : va_D A [(h0, .inr (1, [.int u_20]))] := hD
    refine W.widen (k := 1) (n := 6) (by omega) (by omega) ?_
    exact vx_ret (W.iret (v := r_19) hx hb hr (fun t ht hW => ⟨⟨r_19, u_20, rfl, ⟨(by subst ey_1; subst ey_2; subst er_19; subst eu_20; simp only [x_X0_operate, if_neg c_3, if_neg c_6, if_neg c_9, if_neg c_12, if_neg c_15, if_pos c_18]), (by subst ey_1; subst ey_2; subst er_19; subst eu_20; simp only [f_X0_operate, if_neg c_3, if_neg c_6, if_neg c_9, if_neg c_12, if_neg c_15, if_pos c_18]), (by subst ey_1; subst ey_2; subst er_19; subst eu_20; simp only [f_X0_operate, if_neg c_3, if_neg c_6, if_neg c_9, if_neg c_12, if_neg c_15, if_pos c_18])⟩, by rw [ht]; exact hP, va_K.moved hW.alike hK, hD⟩, hS.F ht⟩) hS.2.2 dX0_operate_159)
  by_cases c_21 : a1 = 6
  · refine lv_tableIn (off := 144) (tgt := 160) hx hb dX0_operate_16 (by rw [c_21]; decide) (by rw [c_21]; decide) (by rw [c_21]; rfl) (by decide) ?_
    refine lv_aload_n hx hb dX0_operate_160 rfl (lv_at hl 2 rfl) ?_
    refine lv_iload_n hx hb dX0_operate_161 rfl (lv_at hl 4 rfl) ?_
    refine lv_iload hx hb dX0_operate_162 (lv_at hl 1 rfl) ?_
    refine lv_iload hx hb dX0_operate_164 (lv_at hl 0 rfl) ?_
    refine lv_ixor hx hb dX0_operate_166 ?_
    refine wr_calli (va_runV (As := [.int a2, .int (y_1 ^^^ y_2)]) (rest := []) ⟨hx, hb, hml, hown, hts⟩ (p_X0_logic l dC dI h0 _ f a2 (y_1 ^^^ y_2)) (cwV 2 hts gX0_operate_X0_logic rfl rfl rfl (by decide +kernel) ⟨Nat.le_of_ble_eq_true rfl, Nat.le_of_ble_eq_true rfl⟩) (wr_preV (ci := 1) rfl hK hP hD) rfl rfl hl.1 rfl (lv_room (Nat.le_of_ble_eq_true rfl)) dX0_operate_167 ⟨Nat.le_of_ble_eq_true rfl, Nat.le_of_ble_eq_true rfl⟩) hP hD hS hA (fun r_22 u_23 H locs hw hP hD hS => ?_)
    obtain ⟨er_22, eu_23⟩ := hw
    have hP : va_P (dC, dI) vwCl [(h0, .inr (1, [.int u_23]))] H := hP
    have hD : va_D A [(h0, .inr (1, [.int u_23]))] := hD
    refine W.widen (k := 1) (n := 6) (by omega) (by omega) ?_
    exact vx_ret (W.iret (v := r_22) hx hb hr (fun t ht hW => ⟨⟨r_22, u_23, rfl, ⟨(by subst ey_1; subst ey_2; subst er_22; subst eu_23; simp only [x_X0_operate, if_neg c_3, if_neg c_6, if_neg c_9, if_neg c_12, if_neg c_15, if_neg c_18, if_pos c_21]), (by subst ey_1; subst ey_2; subst er_22; subst eu_23; simp only [f_X0_operate, if_neg c_3, if_neg c_6, if_neg c_9, if_neg c_12, if_neg c_15, if_neg c_18, if_pos c_21]), (by subst ey_1; subst ey_2; subst er_22; subst eu_23; simp only [f_X0_operate, if_neg c_3, if_neg c_6, if_neg c_9, if_neg c_12, if_neg c_15, if_neg c_18, if_pos c_21])⟩, by rw [ht]; exact hP, va_K.moved hW.alike hK, hD⟩, hS.F ht⟩) hS.2.2 dX0_operate_170)
  by_cases c_24 : a1 = 7
  · refine lv_tableIn (off := 155) (tgt := 171) hx hb dX0_operate_16 (by rw [c_24]; decide) (by rw [c_24]; decide) (by rw [c_24]; rfl) (by decide) ?_
    refine lv_aload_n hx hb dX0_operate_171 rfl (lv_at hl 2 rfl) ?_
    refine lv_iload_n hx hb dX0_operate_172 rfl (lv_at hl 4 rfl) ?_
    refine lv_iload hx hb dX0_operate_173 (lv_at hl 1 rfl) ?_
    refine lv_iload hx hb dX0_operate_175 (lv_at hl 0 rfl) ?_
    refine lv_iconst (v := 0) hx hb dX0_operate_177 (by decide) ?_
    refine wr_calli (va_runV (As := [.int a2, .int y_1, .int y_2, .int 0]) (rest := []) ⟨hx, hb, hml, hown, hts⟩ (p_X0_difference l dC dI h0 _ f a2 y_1 y_2 0) (cwV 4 hts gX0_operate_X0_difference rfl rfl rfl (by decide +kernel) ⟨Nat.le_of_ble_eq_true rfl, Nat.le_of_ble_eq_true rfl⟩) (wr_preV (ci := 1) rfl hK hP hD) rfl rfl hl.1 rfl (lv_room (Nat.le_of_ble_eq_true rfl)) dX0_operate_178 ⟨Nat.le_of_ble_eq_true rfl, Nat.le_of_ble_eq_true rfl⟩) hP hD hS hA (fun r_25 u_26 H locs hw hP hD hS => ?_)
    obtain ⟨er_25, eu_26⟩ := hw
    have hP : va_P (dC, dI) vwCl [(h0, .inr (1, [.int u_26]))] H := hP
    have hD : va_D A [(h0, .inr (1, [.int u_26]))] := hD
    refine lv_pop hx hb dX0_operate_181 rfl ?_
    refine lv_iload hx hb dX0_operate_182 (lv_at hl 1 rfl) ?_
    refine W.widen (k := 1) (n := 6) (by omega) (by omega) ?_
    exact vx_ret (W.iret (v := y_1) hx hb hr (fun t ht hW => ⟨⟨y_1, u_26, rfl, ⟨(by subst ey_1; subst ey_2; subst er_25; subst eu_26; simp only [x_X0_operate, if_neg c_3, if_neg c_6, if_neg c_9, if_neg c_12, if_neg c_15, if_neg c_18, if_neg c_21, if_pos c_24]), (by subst ey_1; subst ey_2; subst er_25; subst eu_26; simp only [f_X0_operate, if_neg c_3, if_neg c_6, if_neg c_9, if_neg c_12, if_neg c_15, if_neg c_18, if_neg c_21, if_pos c_24]), (by subst ey_1; subst ey_2; subst er_25; subst eu_26; simp only [f_X0_operate, if_neg c_3, if_neg c_6, if_neg c_9, if_neg c_12, if_neg c_15, if_neg c_18, if_neg c_21, if_pos c_24])⟩, by rw [ht]; exact hP, va_K.moved hW.alike hK, hD⟩, hS.F ht⟩) hS.2.2 dX0_operate_184)
  by_cases c_27 : a1 = 8
  · refine lv_tableIn (off := 169) (tgt := 185) hx hb dX0_operate_16 (by rw [c_27]; decide) (by rw [c_27]; decide) (by rw [c_27]; rfl) (by decide) ?_
    refine lv_aload_n hx hb dX0_operate_185 rfl (lv_at hl 2 rfl) ?_
    refine lv_iload_n hx hb dX0_operate_186 rfl (lv_at hl 4 rfl) ?_
    refine lv_iload hx hb dX0_operate_187 (lv_at hl 1 rfl) ?_
    refine lv_iload hx hb dX0_operate_189 (lv_at hl 0 rfl) ?_
    refine lv_iand hx hb dX0_operate_191 ?_
    refine wr_calli (va_runV (As := [.int a2, .int (y_1 &&& y_2)]) (rest := []) ⟨hx, hb, hml, hown, hts⟩ (p_X0_logic l dC dI h0 _ f a2 (y_1 &&& y_2)) (cwV 2 hts gX0_operate_X0_logic rfl rfl rfl (by decide +kernel) ⟨Nat.le_of_ble_eq_true rfl, Nat.le_of_ble_eq_true rfl⟩) (wr_preV (ci := 1) rfl hK hP hD) rfl rfl hl.1 rfl (lv_room (Nat.le_of_ble_eq_true rfl)) dX0_operate_192 ⟨Nat.le_of_ble_eq_true rfl, Nat.le_of_ble_eq_true rfl⟩) hP hD hS hA (fun r_28 u_29 H locs hw hP hD hS => ?_)
    obtain ⟨er_28, eu_29⟩ := hw
    have hP : va_P (dC, dI) vwCl [(h0, .inr (1, [.int u_29]))] H := hP
    have hD : va_D A [(h0, .inr (1, [.int u_29]))] := hD
    refine lv_pop hx hb dX0_operate_195 rfl ?_
    refine lv_iload hx hb dX0_operate_196 (lv_at hl 1 rfl) ?_
    refine W.widen (k := 1) (n := 6) (by omega) (by omega) ?_
    exact vx_ret (W.iret (v := y_1) hx hb hr (fun t ht hW => ⟨⟨y_1, u_29, rfl, ⟨(by subst ey_1; subst ey_2; subst er_28; subst eu_29; simp only [x_X0_operate, if_neg c_3, if_neg c_6, if_neg c_9, if_neg c_12, if_neg c_15, if_neg c_18, if_neg c_21, if_neg c_24, if_pos c_27]), (by subst ey_1; subst ey_2; subst er_28; subst eu_29; simp only [f_X0_operate, if_neg c_3, if_neg c_6, if_neg c_9, if_neg c_12, if_neg c_15, if_neg c_18, if_neg c_21, if_neg c_24, if_pos c_27]), (by subst ey_1; subst ey_2; subst er_28; subst eu_29; simp only [f_X0_operate, if_neg c_3, if_neg c_6, if_neg c_9, if_neg c_12, if_neg c_15, if_neg c_18, if_neg c_21, if_neg c_24, if_pos c_27])⟩, by rw [ht]; exact hP, va_K.moved hW.alike hK, hD⟩, hS.F ht⟩) hS.2.2 dX0_operate_198)
  by_cases c_30 : a1 = 9
  · refine lv_tableIn (off := 183) (tgt := 199) hx hb dX0_operate_16 (by rw [c_30]; decide) (by rw [c_30]; decide) (by rw [c_30]; rfl) (by decide) ?_
    refine lv_aload_n hx hb dX0_operate_199 rfl (lv_at hl 2 rfl) ?_
    refine lv_iload_n hx hb dX0_operate_200 rfl (lv_at hl 4 rfl) ?_
    refine lv_iload hx hb dX0_operate_201 (lv_at hl 1 rfl) ?_
    refine wr_calli (va_runV (As := [.int a2, .int y_1]) (rest := []) ⟨hx, hb, hml, hown, hts⟩ (p_X0_oneMore l dC dI h0 _ f a2 y_1) (cwV 2 hts gX0_operate_X0_oneMore rfl rfl rfl (by decide +kernel) ⟨Nat.le_of_ble_eq_true rfl, Nat.le_of_ble_eq_true rfl⟩) (wr_preV (ci := 1) rfl hK hP hD) rfl rfl hl.1 rfl (lv_room (Nat.le_of_ble_eq_true rfl)) dX0_operate_203 ⟨Nat.le_of_ble_eq_true rfl, Nat.le_of_ble_eq_true rfl⟩) hP hD hS hA (fun r_31 u_32 H locs hw hP hD hS => ?_)
    obtain ⟨er_31, eu_32⟩ := hw
    have hP : va_P (dC, dI) vwCl [(h0, .inr (1, [.int u_32]))] H := hP
    have hD : va_D A [(h0, .inr (1, [.int u_32]))] := hD
    refine W.widen (k := 1) (n := 6) (by omega) (by omega) ?_
    exact vx_ret (W.iret (v := r_31) hx hb hr (fun t ht hW => ⟨⟨r_31, u_32, rfl, ⟨(by subst ey_1; subst ey_2; subst er_31; subst eu_32; simp only [x_X0_operate, if_neg c_3, if_neg c_6, if_neg c_9, if_neg c_12, if_neg c_15, if_neg c_18, if_neg c_21, if_neg c_24, if_neg c_27, if_pos c_30]), (by subst ey_1; subst ey_2; subst er_31; subst eu_32; simp only [f_X0_operate, if_neg c_3, if_neg c_6, if_neg c_9, if_neg c_12, if_neg c_15, if_neg c_18, if_neg c_21, if_neg c_24, if_neg c_27, if_pos c_30]), (by subst ey_1; subst ey_2; subst er_31; subst eu_32; simp only [f_X0_operate, if_neg c_3, if_neg c_6, if_neg c_9, if_neg c_12, if_neg c_15, if_neg c_18, if_neg c_21, if_neg c_24, if_neg c_27, if_pos c_30])⟩, by rw [ht]; exact hP, va_K.moved hW.alike hK, hD⟩, hS.F ht⟩) hS.2.2 dX0_operate_206)
  by_cases c_33 : a1 = 10
  · refine lv_tableIn (off := 191) (tgt := 207) hx hb dX0_operate_16 (by rw [c_33]; decide) (by rw [c_33]; decide) (by rw [c_33]; rfl) (by decide) ?_
    refine lv_aload_n hx hb dX0_operate_207 rfl (lv_at hl 2 rfl) ?_
    refine lv_iload_n hx hb dX0_operate_208 rfl (lv_at hl 4 rfl) ?_
    refine lv_iload hx hb dX0_operate_209 (lv_at hl 1 rfl) ?_
    refine wr_calli (va_runV (As := [.int a2, .int y_1]) (rest := []) ⟨hx, hb, hml, hown, hts⟩ (p_X0_oneLess l dC dI h0 _ f a2 y_1) (cwV 2 hts gX0_operate_X0_oneLess rfl rfl rfl (by decide +kernel) ⟨Nat.le_of_ble_eq_true rfl, Nat.le_of_ble_eq_true rfl⟩) (wr_preV (ci := 1) rfl hK hP hD) rfl rfl hl.1 rfl (lv_room (Nat.le_of_ble_eq_true rfl)) dX0_operate_211 ⟨Nat.le_of_ble_eq_true rfl, Nat.le_of_ble_eq_true rfl⟩) hP hD hS hA (fun r_34 u_35 H locs hw hP hD hS => ?_)
    obtain ⟨er_34, eu_35⟩ := hw
    have hP : va_P (dC, dI) vwCl [(h0, .inr (1, [.int u_35]))] H := hP
    have hD : va_D A [(h0, .inr (1, [.int u_35]))] := hD
    refine W.widen (k := 1) (n := 6) (by omega) (by omega) ?_
    exact vx_ret (W.iret (v := r_34) hx hb hr (fun t ht hW => ⟨⟨r_34, u_35, rfl, ⟨(by subst ey_1; subst ey_2; subst er_34; subst eu_35; simp only [x_X0_operate, if_neg c_3, if_neg c_6, if_neg c_9, if_neg c_12, if_neg c_15, if_neg c_18, if_neg c_21, if_neg c_24, if_neg c_27, if_neg c_30, if_pos c_33]), (by subst ey_1; subst ey_2; subst er_34; subst eu_35; simp only [f_X0_operate, if_neg c_3, if_neg c_6, if_neg c_9, if_neg c_12, if_neg c_15, if_neg c_18, if_neg c_21, if_neg c_24, if_neg c_27, if_neg c_30, if_pos c_33]), (by subst ey_1; subst ey_2; subst er_34; subst eu_35; simp only [f_X0_operate, if_neg c_3, if_neg c_6, if_neg c_9, if_neg c_12, if_neg c_15, if_neg c_18, if_neg c_21, if_neg c_24, if_neg c_27, if_neg c_30, if_pos c_33])⟩, by rw [ht]; exact hP, va_K.moved hW.alike hK, hD⟩, hS.F ht⟩) hS.2.2 dX0_operate_214)
  by_cases c_36 : a1 = 11
  · refine lv_tableIn (off := 199) (tgt := 215) hx hb dX0_operate_16 (by rw [c_36]; decide) (by rw [c_36]; decide) (by rw [c_36]; rfl) (by decide) ?_
    refine lv_aload_n hx hb dX0_operate_215 rfl (lv_at hl 2 rfl) ?_
    refine lv_iload_n hx hb dX0_operate_216 rfl (lv_at hl 4 rfl) ?_
    refine lv_iconst (v := 0) hx hb dX0_operate_217 (by decide) ?_
    refine lv_iload hx hb dX0_operate_218 (lv_at hl 1 rfl) ?_
    refine lv_iconst (v := 0) hx hb dX0_operate_220 (by decide) ?_
    refine wr_calli (va_runV (As := [.int a2, .int 0, .int y_1, .int 0]) (rest := []) ⟨hx, hb, hml, hown, hts⟩ (p_X0_difference l dC dI h0 _ f a2 0 y_1 0) (cwV 4 hts gX0_operate_X0_difference rfl rfl rfl (by decide +kernel) ⟨Nat.le_of_ble_eq_true rfl, Nat.le_of_ble_eq_true rfl⟩) (wr_preV (ci := 1) rfl hK hP hD) rfl rfl hl.1 rfl (lv_room (Nat.le_of_ble_eq_true rfl)) dX0_operate_221 ⟨Nat.le_of_ble_eq_true rfl, Nat.le_of_ble_eq_true rfl⟩) hP hD hS hA (fun r_37 u_38 H locs hw hP hD hS => ?_)
    obtain ⟨er_37, eu_38⟩ := hw
    have hP : va_P (dC, dI) vwCl [(h0, .inr (1, [.int u_38]))] H := hP
    have hD : va_D A [(h0, .inr (1, [.int u_38]))] := hD
    refine W.widen (k := 1) (n := 6) (by omega) (by omega) ?_
    exact vx_ret (W.iret (v := r_37) hx hb hr (fun t ht hW => ⟨⟨r_37, u_38, rfl, ⟨(by subst ey_1; subst ey_2; subst er_37; subst eu_38; simp only [x_X0_operate, if_neg c_3, if_neg c_6, if_neg c_9, if_neg c_12, if_neg c_15, if_neg c_18, if_neg c_21, if_neg c_24, if_neg c_27, if_neg c_30, if_neg c_33, if_pos c_36]), (by subst ey_1; subst ey_2; subst er_37; subst eu_38; simp only [f_X0_operate, if_neg c_3, if_neg c_6, if_neg c_9, if_neg c_12, if_neg c_15, if_neg c_18, if_neg c_21, if_neg c_24, if_neg c_27, if_neg c_30, if_neg c_33, if_pos c_36]), (by subst ey_1; subst ey_2; subst er_37; subst eu_38; simp only [f_X0_operate, if_neg c_3, if_neg c_6, if_neg c_9, if_neg c_12, if_neg c_15, if_neg c_18, if_neg c_21, if_neg c_24, if_neg c_27, if_neg c_30, if_neg c_33, if_pos c_36])⟩, by rw [ht]; exact hP, va_K.moved hW.alike hK, hD⟩, hS.F ht⟩) hS.2.2 dX0_operate_224)
  by_cases c_39 : a1 = 12
  · refine lv_tableIn (off := 209) (tgt := 225) hx hb dX0_operate_16 (by rw [c_39]; decide) (by rw [c_39]; decide) (by rw [c_39]; rfl) (by decide) ?_
    refine lv_iload_n hx hb dX0_operate_225 rfl (lv_at hl 4 rfl) ?_
    refine lv_iload hx hb dX0_operate_226 (lv_at hl 1 rfl) ?_
    refine lv_iconst (v := (-1)) hx hb dX0_operate_228 (by decide) ?_
    refine lv_ixor hx hb dX0_operate_229 ?_
    refine pu_calli (F := (f_X0_operand a2 (y_1 ^^^ (-1)))) (va_runS (As := [.int a2, .int (y_1 ^^^ (-1))]) (rest := []) ⟨hx, hb, hml, hown, hts⟩ (p_X0_operand l _ a2 (y_1 ^^^ (-1))) (va_cwS 2 hts gX0_operate_X0_operand rfl rfl rfl (by decide +kernel) ⟨Nat.le_of_ble_eq_true rfl, Nat.le_of_ble_eq_true rfl⟩) pu_preS rfl rfl hl.1 rfl (lv_room (Nat.le_of_ble_eq_true rfl)) dX0_operate_230 ⟨Nat.le_of_ble_eq_true rfl, Nat.le_of_ble_eq_true rfl⟩) ?_
    refine W.widen (k := 1) (n := 6) (by omega) (by omega) ?_
    exact vx_ret (W.iret (v := (f_X0_operand a2 (y_1 ^^^ (-1)))) hx hb hr (fun t ht hW => ⟨⟨(f_X0_operand a2 (y_1 ^^^ (-1))), f, rfl, ⟨(by subst ey_1; subst ey_2; simp only [x_X0_operate, if_neg c_3, if_neg c_6, if_neg c_9, if_neg c_12, if_neg c_15, if_neg c_18, if_neg c_21, if_neg c_24, if_neg c_27, if_neg c_30, if_neg c_33, if_neg c_36, if_pos c_39]), (by subst ey_1; subst ey_2; simp only [f_X0_operate, if_neg c_3, if_neg c_6, if_neg c_9, if_neg c_12, if_neg c_15, if_neg c_18, if_neg c_21, if_neg c_24, if_neg c_27, if_neg c_30, if_neg c_33, if_neg c_36, if_pos c_39]), (by subst ey_1; subst ey_2; simp only [f_X0_operate, if_neg c_3, if_neg c_6, if_neg c_9, if_neg c_12, if_neg c_15, if_neg c_18, if_neg c_21, if_neg c_24, if_neg c_27, if_neg c_30, if_neg c_33, if_neg c_36, if_pos c_39])⟩, by rw [ht]; exact hP, va_K.moved hW.alike hK, hD⟩, hS.F ht⟩) hS.2.2 dX0_operate_233)
  refine lv_tableOut (tgt := 234) hx hb dX0_operate_16 (sw_out 12 (by decide) (fun k hk => by rcases (show k = 0 ∨ k = 1 ∨ k = 2 ∨ k = 3 ∨ k = 4 ∨ k = 5 ∨ k = 6 ∨ k = 7 ∨ k = 8 ∨ k = 9 ∨ k = 10 ∨ k = 11 ∨ k = 12 by omega) with rfl | rfl | rfl | rfl | rfl | rfl | rfl | rfl | rfl | rfl | rfl | rfl | rfl <;> assumption)) (by decide) ?_
  exact vx_throwS (own := RX0) (cls := "java/lang/IllegalArgumentException") (text := "no such operation") (names := ["java/lang/RuntimeException", "java/lang/Exception"]) (ik := 33) (is := 35) (ic := 37) (A := A) hx hb hst hown (by decide +kernel) (by decide +kernel) (hts (.classLink RX0 33 "java/lang/IllegalArgumentException") (by decide +kernel)) (hts (.initialized "java/lang/IllegalArgumentException") (by decide +kernel)) hs_35 (th_hat hth (fun w hw => hts w (List.mem_cons_of_mem _ (List.mem_append_right _ hw))) hth.1 (by decide +kernel)) (by decide +kernel) hth.2.2.1 hth.2.2.2.1 hS (by rw [hml]; exact hl.1) dX0_operate_234 dX0_operate_237 dX0_operate_238 dX0_operate_240 dX0_operate_243 (fun x h => (hte x h).elim) (Nat.le_of_ble_eq_true rfl) (Nat.le_of_ble_eq_true rfl) (Nat.le_of_ble_eq_true rfl) (Nat.le_of_ble_eq_true rfl) hlocks (fun t _ hz hk => ⟨1, ⟨(by subst ey_1; subst ey_2; simp only [x_X0_operate, if_neg c_3, if_neg c_6, if_neg c_9, if_neg c_12, if_neg c_15, if_neg c_18, if_neg c_21, if_neg c_24, if_neg c_27, if_neg c_30, if_neg c_33, if_neg c_36, if_neg c_39]), by decide⟩, rfl, ⟨hz, fun q hq _ => hk q hq⟩⟩) hS.2.2 (Nat.le_refl _) (Nat.le_refl _)
