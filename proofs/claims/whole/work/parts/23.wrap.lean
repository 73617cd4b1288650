/-! THE LAW'S OWN CALLS: each puts the class's answer into out, or answers which exception came -/
abbrev lw_W (q0 q2 : Nat) (cA : ClassId) (f : Int32) (g : Nat → Int64) : va_W := [(q0, .inr (1, [.int f])), (q2, .inl (cA, 1, .inr (.inl g)))]
def lw_pre (D : va_G) (q0 q2 sz : Nat) (cA : ClassId) (f : Int32) (g : Nat → Int64) (U : State) : Prop := U.heap.size = sz ∧ va_P D vwCl (lw_W q0 q2 cA f g) U.heap ∧ va_K D vwCl [(cA, .long)] U ∧ va_D (fun _ => True) (lw_W q0 q2 cA f g) ∧ th_w (va_A (lw_W q0 q2 cA f g) sz) U U.heap ∧ va_Nc "java/lang/ArithmeticException" "java/lang/IllegalArgumentException" U
def lw_at (D : va_G) (q0 q2 : Nat) (cA : ClassId) (A : Nat → Prop) (u : Int32 × (Nat → Int64)) (t : State) : Prop := va_P D vwCl (lw_W q0 q2 cA u.1 u.2) t.heap ∧ va_K D vwCl [(cA, .long)] t ∧ va_D A (lw_W q0 q2 cA u.1 u.2)
/-- behind such a call: x: what the class throws, F: its answer (as it stands in out) and its flags, k: what the law's call answers then -/
def lw_post (x : Int32) (v : Int64) (fl : Int32) (f : Int32) (g : Nat → Int64) (k : Int32) (r : Int32) (u : Int32 × (Nat → Int64)) : Prop := (x = 0 ∧ r = 0 ∧ u = (fl, vp_updL g (0 : Int32).toNatClampNeg v)) ∨ (¬ x = 0 ∧ r = k ∧ u = (f, g))
theorem th_preV {s : State} {H : Heap} {D : va_G} {h0 : Nat} {f : Int32} {As : List Value} {A : Nat → Prop} (hK : va_K D vwCl [] s) (hP : va_P D vwCl [(h0, .inr (1, [.int f]))] H) (hD : va_D A [(h0, .inr (1, [.int f]))]) (hth : th_w A s H) (hF : ∀ q, wr_A 1 h0 H.size [.int f] q → A q) : PreV s H RX0 h0 (va_Pc (.ref h0 :: As) (th_pre D h0 H.size f)) As :=
  ⟨fun a U g mk q => by
      obtain ⟨e0, ⟨q0, q1, q2, q3⟩, q4⟩ := q
      exact ⟨e0, ⟨q0, q1, va_K.moved (u := U) (U := U.calling g mk a) (Vm.Alike.refl U.vm) q2, q3⟩, th_w.warm (s := U) (U := U.calling g mk a) (State.WarmedH.refl U) q4⟩,
    va_recv hK hP (ci := 1) (q0 := 0) rfl rfl,
    fun U hU hW => ⟨rfl, ⟨by rw [hU], by rw [hU]; exact hP, va_K.moved hW.alike hK, hD.weaken (fun _ _ _ _ => trivial)⟩, by rw [hU]; exact th_w.warm hW (hth.narrow hF)⟩⟩

theorem or_ite {P : Int32 → Prop} {c : Prop} [Decidable c] {x y : Int32} (hx : P x) (hy : P y) : P (if c then x else y) := by
  split <;> assumption
def P01 (z : Int32) : Prop := z = 0 ∨ z = 1
def P02 (z : Int32) : Prop := z = 0 ∨ z = 2
def P012 (z : Int32) : Prop := z = 0 ∨ z = 1 ∨ z = 2
theorem xv_X0_shift (a1 : Int32) (a2 : Int32) (a3 : Int32) (a4 : Int32) : x_X0_shift a1 a2 a3 a4 = 0 ∨ x_X0_shift a1 a2 a3 a4 = 1 := by
  show P01 (x_X0_shift a1 a2 a3 a4)
  unfold x_X0_shift
  (try dsimp only)
  repeat (first | refine or_ite (P := P01) ?_ ?_ | exact Or.inl rfl | exact Or.inr rfl)
theorem xv_X0_divide (a1 : Int32) (a2 : Int32) (a3 : Int32) (a4 : Int32) : x_X0_divide a1 a2 a3 a4 = 0 ∨ x_X0_divide a1 a2 a3 a4 = 2 := by
  show P02 (x_X0_divide a1 a2 a3 a4)
  unfold x_X0_divide
  (try dsimp only)
  repeat (first | refine or_ite (P := P02) ?_ ?_ | exact Or.inl rfl | exact Or.inr rfl)
theorem xv_X0_adjust (f : Int32) (a1 : Int32) (a2 : Int32) (a3 : Int32) : x_X0_adjust f a1 a2 a3 = 0 ∨ x_X0_adjust f a1 a2 a3 = 1 ∨ x_X0_adjust f a1 a2 a3 = 2 := by
  show P012 (x_X0_adjust f a1 a2 a3)
  unfold x_X0_adjust
  (try dsimp only)
  repeat (first | refine or_ite (P := P012) ?_ ?_ | exact Or.inl rfl | exact Or.inr (Or.inl rfl) | exact Or.inr (Or.inr rfl))
theorem xv_X0_holds (f : Int32) (a1 : Int32) : x_X0_holds f a1 = 0 ∨ x_X0_holds f a1 = 1 := by
  show P01 (x_X0_holds f a1)
  unfold x_X0_holds
  (try dsimp only)
  repeat (first | refine or_ite (P := P01) ?_ ?_ | exact Or.inl rfl | exact Or.inr rfl)
theorem xv_X0_operate (f : Int32) (a1 : Int32) (a2 : Int32) (a3 : Int32) (a4 : Int32) : x_X0_operate f a1 a2 a3 a4 = 0 ∨ x_X0_operate f a1 a2 a3 a4 = 1 := by
  show P01 (x_X0_operate f a1 a2 a3 a4)
  unfold x_X0_operate
  (try dsimp only)
  repeat (first | refine or_ite (P := P01) ?_ ?_ | exact Or.inl rfl | exact Or.inr rfl)
set_option maxHeartbeats 4000000 in
set_option maxRecDepth 100000 in
theorem p_L_operate (l : Launch) (hst : l.stackTraces = false) (dC : Nat → ClassId) (dI : Nat → Nat → Nat) (q0 q2 : Nat) (sz : Nat) (cA : ClassId) (f : Int32) (g : Nat → Int64) (a1 : Int32) (a2 : Int32) (a3 : Int32) (a4 : Int32) : vx_Met l yL_operate wsL_operate ({ frames := 7, cells := 1, slots := 6, locals := 161 }) (va_Pc [.ref q0, .int a1, .int a2, .int a3, .int a4, .ref q2] (lw_pre (dC, dI) q0 q2 sz cA f g)) (va_Qi (fun (r : Int32) (u : Int32 × (Nat → Int64)) => lw_post (x_X0_operate f a1 a2 a3 a4) (f_X0_operate f a1 a2 a3 a4).1.toInt64 (f_X0_operate f a1 a2 a3 a4).2 f g 1 r u) (lw_at (dC, dI) q0 q2 cA (va_A (lw_W q0 q2 cA f g) sz)) (va_A (lw_W q0 q2 cA f g) sz)) (vx_X (fun _ : Unit => False) (fun _ _ _ => True) (fun _ => False)) 1 6 (va_A (lw_W q0 q2 cA f g) sz) := by
  refine vx_ofWH (cc := cL_operate) (maxL := 7) (ret := (some .int)) (hh := [(0, 14, 17, 13)]) (by decide) rfl ?_
  intro p e s m args below meth c s₁ B hml hv
  obtain ⟨rfl, hsz, hP, hK, hD0, hth, hnc⟩ := hv
  have hx := B.exec
  have hb := B.bytes
  have hr := B.returns
  have hts := atoms_spec (ws := wsL_operate) B.pre
  have htab : c.exceptionTable.toList = tableOf [(0, 14, 17, 13)] := vx_table (x := yL_operate) B (hts (Cond.codeWith yL_operate cL_operate 7 (some .int) [(0, 14, 17, 13)]) List.mem_cons_self)
  have hown : s.vm.findClass RL = some m.cls := findClass_of_methodNamed B.named
  have hlocks := B.notSynchronized
  subst hsz
  have hD : va_D (va_A (lw_W q0 q2 cA f g) s.heap.size) (lw_W q0 q2 cA f g) := hD0.self (sz := s.heap.size)
  generalize hAe : va_A (lw_W q0 q2 cA f g) s.heap.size = A at hD hth ⊢
  have hA : ∀ q : Nat, s.heap.size ≤ q → A q := fun q h => by rw [← hAe]; exact Or.inr h
  have hS : va_S A s.heap s.heap [] := va_S.rf
  have hl := lv_entry ([.ref q0, .int a1, .int a2, .int a3, .int a4, .ref q2]) (n := 7) (Nat.le_of_ble_eq_true rfl)
  rw [lg_entry_eq]
  generalize (lg_sl ([.ref q0, .int a1, .int a2, .int a3, .int a4, .ref q2]) ++ List.replicate (7 - (lg_sl ([.ref q0, .int a1, .int a2, .int a3, .int a4, .ref q2])).length) Slot.unset).toArray = ls at hl ⊢
  have hl : lv_has ls 7 [(0, .ref q0), (1, .int a1), (2, .int a2), (3, .int a3), (4, .int a4), (5, .ref q2)] := hl
  refine lv_aload hx hb dL_operate_0 (lv_at hl 5 rfl) ?_
  refine lv_iconst (v := 0) hx hb dL_operate_2 (by decide) ?_
  refine lv_aload_n hx hb dL_operate_3 rfl (lv_at hl 0 rfl) ?_
  refine lv_iload_n hx hb dL_operate_4 rfl (lv_at hl 1 rfl) ?_
  refine lv_iload_n hx hb dL_operate_5 rfl (lv_at hl 2 rfl) ?_
  refine lv_iload_n hx hb dL_operate_6 rfl (lv_at hl 3 rfl) ?_
  refine lv_iload hx hb dL_operate_7 (lv_at hl 4 rfl) ?_
  have hPc := hP.sub (ws' := [(q0, .inr (1, [.int f]))]) [0] rfl
  have hDc := hD.sub (ws' := [(q0, .inr (1, [.int f]))]) [0] (by decide) rfl
  have hKc := hK.sub (tys' := []) [] rfl
  have hFc := va_free (wc := [(q0, .inr (1, [.int f]))]) hD hS hA [0] rfl
  refine vx_calli (vx_runV (As := [.int a1, .int a2, .int a3, .int a4]) (rest := [.int 0, .ref q2]) ⟨hx, hb, hml, hown, hts⟩ (p_X0_operate l hst dC dI q0 _ f a1 a2 a3 a4) (cwV 4 hts gL_operate_X0_operate rfl rfl rfl (by decide +kernel) ⟨Nat.le_of_ble_eq_true rfl, Nat.le_of_ble_eq_true rfl⟩) (th_preV hKc hPc hDc hth hFc) rfl rfl hl.1 rfl (lv_room (Nat.le_of_ble_eq_true rfl)) dL_operate_9 ⟨Nat.le_of_ble_eq_true rfl, Nat.le_of_ble_eq_true rfl⟩) hS (fun q _ h => hFc q h) hFc (fun q _ h => h.elim) (fun E ce q9 u t H1 locs1 ht hvm hp hB hz hk hS1 hce hcv hcl => ?_) (fun r u t H1 locs1 ht hvm hw hB hz hk hS1 => ?_)
  · obtain ⟨hx1, hx0⟩ := hp
    have hP1 : va_P (dC, dI) vwCl (lw_W q0 q2 cA f g) H1 := hP.kept (fun k q hq => hk q.1 ((hP k q hq).lt) (fun h => h))
    have hu : u = (x_X0_operate f a1 a2 a3 a4) := hx1
    have hE : E = "java/lang/IllegalArgumentException" := by
      rcases xv_X0_operate f a1 a2 a3 a4 with h | h
      · exact absurd (hu.trans h) hx0
      · rw [hB, hu, h]; rfl
    subst hE
    refine vx_catch (own := RL) (name := "java/lang/IllegalArgumentException") (E := "java/lang/IllegalArgumentException") hown [] (⟨0, 14, 17, 13⟩ : ExceptionTableEntry) [] (by rw [htab]; rfl) (fun z hz => by cases hz) (by decide) (by decide) (hts (.classLink RL 13 "java/lang/IllegalArgumentException") (by decide +kernel)) (va_Nw.use rfl hth.1) hce hcv hcl ?_
    refine lv_astore (lv' := [(6, .ref q9), (0, .ref q0), (1, .int a1), (2, .int a2), (3, .int a3), (4, .int a4), (5, .ref q2)]) hx hb dL_operate_17 hl (by decide) rfl (fun ls hl => ?_)
    refine lv_iconst (v := 1) hx hb dL_operate_19 (by decide) ?_
    exact vx_ret (W.iret (v := 1) hx hb hr (fun t ht hW => ⟨⟨1, (f, g), rfl, Or.inr ⟨by rw [← hu]; exact hx0, rfl, rfl⟩, by rw [ht]; exact hP1, va_K.moved hW.alike hK, hD⟩, hS1.F ht⟩) hS1.2.2 dL_operate_20)
  · obtain ⟨hx0, hr1, hu1⟩ := hw
    obtain ⟨hP1, hK1, hD1⟩ := hB
    rw [ht] at hP1
    obtain ⟨hP2, hD2⟩ := va_join (wr := [(q2, .inl (cA, 1, .inr (.inl g)))]) (w1 := [(q0, .inr (1, [.int u]))]) hP hD [0] [1] rfl rfl (by decide) (by decide) hk hFc hP1 hD1
    have hP2 : va_P (dC, dI) vwCl [(q2, .inl (cA, 1, .inr (.inl g))), (q0, .inr (1, [.int u]))] H1 := hP2
    have hD2 : va_D A [(q2, .inl (cA, 1, .inr (.inl g))), (q0, .inr (1, [.int u]))] := hD2
    refine lv_i2l (v := (r : Int32).toInt64) hx hb dL_operate_12 rfl ?_
    refine va_last (D := (dC, dI)) (x := r.toInt64) hx hb hK hP2 hD2 hS1 0 0 rfl rfl (vp_in_nI (n := 0) (by decide) (by decide)) dL_operate_13 (fun H2 locs2 hP3 hD3 hS3 => ?_)
    refine lv_goto (tgt := 21) hx hb dL_operate_14 (by decide) ?_
    refine lv_iconst (v := 0) hx hb dL_operate_21 (by decide) ?_
    have hP4 := hP3.sub (ws' := lw_W q0 q2 cA u (vp_updL g (0 : Int32).toNatClampNeg (r.toInt64))) [1, 0] rfl
    have hD4 := hD3.sub (ws' := lw_W q0 q2 cA u (vp_updL g (0 : Int32).toNatClampNeg (r.toInt64))) [1, 0] (by decide) rfl
    exact vx_ret (W.iret (v := 0) hx hb hr (fun t ht hW => ⟨⟨0, (u, vp_updL g (0 : Int32).toNatClampNeg (r.toInt64)), rfl, Or.inl ⟨hx0, rfl, by rw [hu1, hr1]⟩, by rw [ht]; exact hP4, va_K.moved hW.alike hK, hD4⟩, hS3.F ht⟩) hS3.2.2 dL_operate_22)
set_option maxHeartbeats 4000000 in
set_option maxRecDepth 100000 in
theorem p_L_shift (l : Launch) (hst : l.stackTraces = false) (dC : Nat → ClassId) (dI : Nat → Nat → Nat) (q0 q2 : Nat) (sz : Nat) (cA : ClassId) (f : Int32) (g : Nat → Int64) (a1 : Int32) (a2 : Int32) (a3 : Int32) (a4 : Int32) : vx_Met l yL_shift wsL_shift ({ frames := 7, cells := 1, slots := 6, locals := 109 }) (va_Pc [.ref q0, .int a1, .int a2, .int a3, .int a4, .ref q2] (lw_pre (dC, dI) q0 q2 sz cA f g)) (va_Qi (fun (r : Int32) (u : Int32 × (Nat → Int64)) => lw_post (x_X0_shift a1 a2 a3 a4) (f_X0_shift f a1 a2 a3 a4).1.toInt64 (f_X0_shift f a1 a2 a3 a4).2 f g 1 r u) (lw_at (dC, dI) q0 q2 cA (va_A (lw_W q0 q2 cA f g) sz)) (va_A (lw_W q0 q2 cA f g) sz)) (vx_X (fun _ : Unit => False) (fun _ _ _ => True) (fun _ => False)) 1 6 (va_A (lw_W q0 q2 cA f g) sz) := by
  refine vx_ofWH (cc := cL_shift) (maxL := 7) (ret := (some .int)) (hh := [(0, 14, 17, 13)]) (by decide) rfl ?_
  intro p e s m args below meth c s₁ B hml hv
  obtain ⟨rfl, hsz, hP, hK, hD0, hth, hnc⟩ := hv
  have hx := B.exec
  have hb := B.bytes
  have hr := B.returns
  have hts := atoms_spec (ws := wsL_shift) B.pre
  have htab : c.exceptionTable.toList = tableOf [(0, 14, 17, 13)] := vx_table (x := yL_shift) B (hts (Cond.codeWith yL_shift cL_shift 7 (some .int) [(0, 14, 17, 13)]) List.mem_cons_self)
  have hown : s.vm.findClass RL = some m.cls := findClass_of_methodNamed B.named
  have hlocks := B.notSynchronized
  subst hsz
  have hD : va_D (va_A (lw_W q0 q2 cA f g) s.heap.size) (lw_W q0 q2 cA f g) := hD0.self (sz := s.heap.size)
  generalize hAe : va_A (lw_W q0 q2 cA f g) s.heap.size = A at hD hth ⊢
  have hA : ∀ q : Nat, s.heap.size ≤ q → A q := fun q h => by rw [← hAe]; exact Or.inr h
  have hS : va_S A s.heap s.heap [] := va_S.rf
  have hl := lv_entry ([.ref q0, .int a1, .int a2, .int a3, .int a4, .ref q2]) (n := 7) (Nat.le_of_ble_eq_true rfl)
  rw [lg_entry_eq]
  generalize (lg_sl ([.ref q0, .int a1, .int a2, .int a3, .int a4, .ref q2]) ++ List.replicate (7 - (lg_sl ([.ref q0, .int a1, .int a2, .int a3, .int a4, .ref q2])).length) Slot.unset).toArray = ls at hl ⊢
  have hl : lv_has ls 7 [(0, .ref q0), (1, .int a1), (2, .int a2), (3, .int a3), (4, .int a4), (5, .ref q2)] := hl
  refine lv_aload hx hb dL_shift_0 (lv_at hl 5 rfl) ?_
  refine lv_iconst (v := 0) hx hb dL_shift_2 (by decide) ?_
  refine lv_aload_n hx hb dL_shift_3 rfl (lv_at hl 0 rfl) ?_
  refine lv_iload_n hx hb dL_shift_4 rfl (lv_at hl 1 rfl) ?_
  refine lv_iload_n hx hb dL_shift_5 rfl (lv_at hl 2 rfl) ?_
  refine lv_iload_n hx hb dL_shift_6 rfl (lv_at hl 3 rfl) ?_
  refine lv_iload hx hb dL_shift_7 (lv_at hl 4 rfl) ?_
  have hPc := hP.sub (ws' := [(q0, .inr (1, [.int f]))]) [0] rfl
  have hDc := hD.sub (ws' := [(q0, .inr (1, [.int f]))]) [0] (by decide) rfl
  have hKc := hK.sub (tys' := []) [] rfl
  have hFc := va_free (wc := [(q0, .inr (1, [.int f]))]) hD hS hA [0] rfl
  refine vx_calli (vx_runV (As := [.int a1, .int a2, .int a3, .int a4]) (rest := [.int 0, .ref q2]) ⟨hx, hb, hml, hown, hts⟩ (p_X0_shift l hst dC dI q0 _ f a1 a2 a3 a4) (cwV 4 hts gL_shift_X0_shift rfl rfl rfl (by decide +kernel) ⟨Nat.le_of_ble_eq_true rfl, Nat.le_of_ble_eq_true rfl⟩) (th_preV hKc hPc hDc hth hFc) rfl rfl hl.1 rfl (lv_room (Nat.le_of_ble_eq_true rfl)) dL_shift_9 ⟨Nat.le_of_ble_eq_true rfl, Nat.le_of_ble_eq_true rfl⟩) hS (fun q _ h => hFc q h) hFc (fun q _ h => h.elim) (fun E ce q9 u t H1 locs1 ht hvm hp hB hz hk hS1 hce hcv hcl => ?_) (fun r u t H1 locs1 ht hvm hw hB hz hk hS1 => ?_)
  · obtain ⟨hx1, hx0⟩ := hp
    have hP1 : va_P (dC, dI) vwCl (lw_W q0 q2 cA f g) H1 := hP.kept (fun k q hq => hk q.1 ((hP k q hq).lt) (fun h => h))
    have hu : u = (x_X0_shift a1 a2 a3 a4) := hx1
    have hE : E = "java/lang/IllegalArgumentException" := by
      rcases xv_X0_shift a1 a2 a3 a4 with h | h
      · exact absurd (hu.trans h) hx0
      · rw [hB, hu, h]; rfl
    subst hE
    refine vx_catch (own := RL) (name := "java/lang/IllegalArgumentException") (E := "java/lang/IllegalArgumentException") hown [] (⟨0, 14, 17, 13⟩ : ExceptionTableEntry) [] (by rw [htab]; rfl) (fun z hz => by cases hz) (by decide) (by decide) (hts (.classLink RL 13 "java/lang/IllegalArgumentException") (by decide +kernel)) (va_Nw.use rfl hth.1) hce hcv hcl ?_
    refine lv_astore (lv' := [(6, .ref q9), (0, .ref q0), (1, .int a1), (2, .int a2), (3, .int a3), (4, .int a4), (5, .ref q2)]) hx hb dL_shift_17 hl (by decide) rfl (fun ls hl => ?_)
    refine lv_iconst (v := 1) hx hb dL_shift_19 (by decide) ?_
    exact vx_ret (W.iret (v := 1) hx hb hr (fun t ht hW => ⟨⟨1, (f, g), rfl, Or.inr ⟨by rw [← hu]; exact hx0, rfl, rfl⟩, by rw [ht]; exact hP1, va_K.moved hW.alike hK, hD⟩, hS1.F ht⟩) hS1.2.2 dL_shift_20)
  · obtain ⟨hx0, hr1, hu1⟩ := hw
    obtain ⟨hP1, hK1, hD1⟩ := hB
    rw [ht] at hP1
    obtain ⟨hP2, hD2⟩ := va_join (wr := [(q2, .inl (cA, 1, .inr (.inl g)))]) (w1 := [(q0, .inr (1, [.int u]))]) hP hD [0] [1] rfl rfl (by decide) (by decide) hk hFc hP1 hD1
    have hP2 : va_P (dC, dI) vwCl [(q2, .inl (cA, 1, .inr (.inl g))), (q0, .inr (1, [.int u]))] H1 := hP2
    have hD2 : va_D A [(q2, .inl (cA, 1, .inr (.inl g))), (q0, .inr (1, [.int u]))] := hD2
    refine lv_i2l (v := (r : Int32).toInt64) hx hb dL_shift_12 rfl ?_
    refine va_last (D := (dC, dI)) (x := r.toInt64) hx hb hK hP2 hD2 hS1 0 0 rfl rfl (vp_in_nI (n := 0) (by decide) (by decide)) dL_shift_13 (fun H2 locs2 hP3 hD3 hS3 => ?_)
    refine lv_goto (tgt := 21) hx hb dL_shift_14 (by decide) ?_
    refine lv_iconst (v := 0) hx hb dL_shift_21 (by decide) ?_
    have hP4 := hP3.sub (ws' := lw_W q0 q2 cA u (vp_updL g (0 : Int32).toNatClampNeg (r.toInt64))) [1, 0] rfl
    have hD4 := hD3.sub (ws' := lw_W q0 q2 cA u (vp_updL g (0 : Int32).toNatClampNeg (r.toInt64))) [1, 0] (by decide) rfl
    exact vx_ret (W.iret (v := 0) hx hb hr (fun t ht hW => ⟨⟨0, (u, vp_updL g (0 : Int32).toNatClampNeg (r.toInt64)), rfl, Or.inl ⟨hx0, rfl, by rw [hu1, hr1]⟩, by rw [ht]; exact hP4, va_K.moved hW.alike hK, hD4⟩, hS3.F ht⟩) hS3.2.2 dL_shift_22)
set_option maxHeartbeats 4000000 in
set_option maxRecDepth 100000 in
theorem p_L_divide (l : Launch) (hst : l.stackTraces = false) (dC : Nat → ClassId) (dI : Nat → Nat → Nat) (q0 q2 : Nat) (sz : Nat) (cA : ClassId) (f : Int32) (g : Nat → Int64) (a1 : Int32) (a2 : Int32) (a3 : Int32) (a4 : Int32) : vx_Met l yL_divide wsL_divide ({ frames := 7, cells := 1, slots := 6, locals := 117 }) (va_Pc [.ref q0, .int a1, .int a2, .int a3, .int a4, .ref q2] (lw_pre (dC, dI) q0 q2 sz cA f g)) (va_Qi (fun (r : Int32) (u : Int32 × (Nat → Int64)) => lw_post (x_X0_divide a1 a2 a3 a4) (f_X0_divide f a1 a2 a3 a4).1.toInt64 (f_X0_divide f a1 a2 a3 a4).2 f g 1 r u) (lw_at (dC, dI) q0 q2 cA (va_A (lw_W q0 q2 cA f g) sz)) (va_A (lw_W q0 q2 cA f g) sz)) (vx_X (fun _ : Unit => False) (fun _ _ _ => True) (fun _ => False)) 1 6 (va_A (lw_W q0 q2 cA f g) sz) := by
  refine vx_ofWH (cc := cL_divide) (maxL := 7) (ret := (some .int)) (hh := [(0, 14, 17, 22)]) (by decide) rfl ?_
  intro p e s m args below meth c s₁ B hml hv
  obtain ⟨rfl, hsz, hP, hK, hD0, hth, hnc⟩ := hv
  have hx := B.exec
  have hb := B.bytes
  have hr := B.returns
  have hts := atoms_spec (ws := wsL_divide) B.pre
  have htab : c.exceptionTable.toList = tableOf [(0, 14, 17, 22)] := vx_table (x := yL_divide) B (hts (Cond.codeWith yL_divide cL_divide 7 (some .int) [(0, 14, 17, 22)]) List.mem_cons_self)
  have hown : s.vm.findClass RL = some m.cls := findClass_of_methodNamed B.named
  have hlocks := B.notSynchronized
  subst hsz
  have hD : va_D (va_A (lw_W q0 q2 cA f g) s.heap.size) (lw_W q0 q2 cA f g) := hD0.self (sz := s.heap.size)
  generalize hAe : va_A (lw_W q0 q2 cA f g) s.heap.size = A at hD hth ⊢
  have hA : ∀ q : Nat, s.heap.size ≤ q → A q := fun q h => by rw [← hAe]; exact Or.inr h
  have hS : va_S A s.heap s.heap [] := va_S.rf
  have hl := lv_entry ([.ref q0, .int a1, .int a2, .int a3, .int a4, .ref q2]) (n := 7) (Nat.le_of_ble_eq_true rfl)
  rw [lg_entry_eq]
  generalize (lg_sl ([.ref q0, .int a1, .int a2, .int a3, .int a4, .ref q2]) ++ List.replicate (7 - (lg_sl ([.ref q0, .int a1, .int a2, .int a3, .int a4, .ref q2])).length) Slot.unset).toArray = ls at hl ⊢
  have hl : lv_has ls 7 [(0, .ref q0), (1, .int a1), (2, .int a2), (3, .int a3), (4, .int a4), (5, .ref q2)] := hl
  refine lv_aload hx hb dL_divide_0 (lv_at hl 5 rfl) ?_
  refine lv_iconst (v := 0) hx hb dL_divide_2 (by decide) ?_
  refine lv_aload_n hx hb dL_divide_3 rfl (lv_at hl 0 rfl) ?_
  refine lv_iload_n hx hb dL_divide_4 rfl (lv_at hl 1 rfl) ?_
  refine lv_iload_n hx hb dL_divide_5 rfl (lv_at hl 2 rfl) ?_
  refine lv_iload_n hx hb dL_divide_6 rfl (lv_at hl 3 rfl) ?_
  refine lv_iload hx hb dL_divide_7 (lv_at hl 4 rfl) ?_
  have hPc := hP.sub (ws' := [(q0, .inr (1, [.int f]))]) [0] rfl
  have hDc := hD.sub (ws' := [(q0, .inr (1, [.int f]))]) [0] (by decide) rfl
  have hKc := hK.sub (tys' := []) [] rfl
  have hFc := va_free (wc := [(q0, .inr (1, [.int f]))]) hD hS hA [0] rfl
  refine vx_calli (vx_runV (As := [.int a1, .int a2, .int a3, .int a4]) (rest := [.int 0, .ref q2]) ⟨hx, hb, hml, hown, hts⟩ (p_X0_divide l hst dC dI q0 _ f a1 a2 a3 a4) (cwV 4 hts gL_divide_X0_divide rfl rfl rfl (by decide +kernel) ⟨Nat.le_of_ble_eq_true rfl, Nat.le_of_ble_eq_true rfl⟩) (th_preV hKc hPc hDc hth hFc) rfl rfl hl.1 rfl (lv_room (Nat.le_of_ble_eq_true rfl)) dL_divide_9 ⟨Nat.le_of_ble_eq_true rfl, Nat.le_of_ble_eq_true rfl⟩) hS (fun q _ h => hFc q h) hFc (fun q _ h => h.elim) (fun E ce q9 u t H1 locs1 ht hvm hp hB hz hk hS1 hce hcv hcl => ?_) (fun r u t H1 locs1 ht hvm hw hB hz hk hS1 => ?_)
  · obtain ⟨hx1, hx0⟩ := hp
    have hP1 : va_P (dC, dI) vwCl (lw_W q0 q2 cA f g) H1 := hP.kept (fun k q hq => hk q.1 ((hP k q hq).lt) (fun h => h))
    have hu : u = (x_X0_divide a1 a2 a3 a4) := hx1
    have hE : E = "java/lang/ArithmeticException" := by
      rcases xv_X0_divide a1 a2 a3 a4 with h | h
      · exact absurd (hu.trans h) hx0
      · rw [hB, hu, h]; rfl
    subst hE
    refine vx_catch (own := RL) (name := "java/lang/ArithmeticException") (E := "java/lang/ArithmeticException") hown [] (⟨0, 14, 17, 22⟩ : ExceptionTableEntry) [] (by rw [htab]; rfl) (fun z hz => by cases hz) (by decide) (by decide) (hts (.classLink RL 22 "java/lang/ArithmeticException") (by decide +kernel)) (va_Nw.use rfl hth.2.1) hce hcv hcl ?_
    refine lv_astore (lv' := [(6, .ref q9), (0, .ref q0), (1, .int a1), (2, .int a2), (3, .int a3), (4, .int a4), (5, .ref q2)]) hx hb dL_divide_17 hl (by decide) rfl (fun ls hl => ?_)
    refine lv_iconst (v := 1) hx hb dL_divide_19 (by decide) ?_
    exact vx_ret (W.iret (v := 1) hx hb hr (fun t ht hW => ⟨⟨1, (f, g), rfl, Or.inr ⟨by rw [← hu]; exact hx0, rfl, rfl⟩, by rw [ht]; exact hP1, va_K.moved hW.alike hK, hD⟩, hS1.F ht⟩) hS1.2.2 dL_divide_20)
  · obtain ⟨hx0, hr1, hu1⟩ := hw
    obtain ⟨hP1, hK1, hD1⟩ := hB
    rw [ht] at hP1
    obtain ⟨hP2, hD2⟩ := va_join (wr := [(q2, .inl (cA, 1, .inr (.inl g)))]) (w1 := [(q0, .inr (1, [.int u]))]) hP hD [0] [1] rfl rfl (by decide) (by decide) hk hFc hP1 hD1
    have hP2 : va_P (dC, dI) vwCl [(q2, .inl (cA, 1, .inr (.inl g))), (q0, .inr (1, [.int u]))] H1 := hP2
    have hD2 : va_D A [(q2, .inl (cA, 1, .inr (.inl g))), (q0, .inr (1, [.int u]))] := hD2
    refine lv_i2l (v := (r : Int32).toInt64) hx hb dL_divide_12 rfl ?_
    refine va_last (D := (dC, dI)) (x := r.toInt64) hx hb hK hP2 hD2 hS1 0 0 rfl rfl (vp_in_nI (n := 0) (by decide) (by decide)) dL_divide_13 (fun H2 locs2 hP3 hD3 hS3 => ?_)
    refine lv_goto (tgt := 21) hx hb dL_divide_14 (by decide) ?_
    refine lv_iconst (v := 0) hx hb dL_divide_21 (by decide) ?_
    have hP4 := hP3.sub (ws' := lw_W q0 q2 cA u (vp_updL g (0 : Int32).toNatClampNeg (r.toInt64))) [1, 0] rfl
    have hD4 := hD3.sub (ws' := lw_W q0 q2 cA u (vp_updL g (0 : Int32).toNatClampNeg (r.toInt64))) [1, 0] (by decide) rfl
    exact vx_ret (W.iret (v := 0) hx hb hr (fun t ht hW => ⟨⟨0, (u, vp_updL g (0 : Int32).toNatClampNeg (r.toInt64)), rfl, Or.inl ⟨hx0, rfl, by rw [hu1, hr1]⟩, by rw [ht]; exact hP4, va_K.moved hW.alike hK, hD4⟩, hS3.F ht⟩) hS3.2.2 dL_divide_22)
set_option maxHeartbeats 4000000 in
set_option maxRecDepth 100000 in
theorem p_L_adjust (l : Launch) (hst : l.stackTraces = false) (dC : Nat → ClassId) (dI : Nat → Nat → Nat) (q0 q2 : Nat) (sz : Nat) (cA : ClassId) (f : Int32) (g : Nat → Int64) (a1 : Int32) (a2 : Int32) (a3 : Int32) : vx_Met l yL_adjust wsL_adjust ({ frames := 7, cells := 1, slots := 6, locals := 156 }) (va_Pc [.ref q0, .int a1, .int a2, .int a3, .ref q2] (lw_pre (dC, dI) q0 q2 sz cA f g)) (va_Qi (fun (r : Int32) (u : Int32 × (Nat → Int64)) => lw_post (x_X0_adjust f a1 a2 a3) (f_X0_adjust f a1 a2 a3).1.toInt64 (f_X0_adjust f a1 a2 a3).2 f g (x_X0_adjust f a1 a2 a3) r u) (lw_at (dC, dI) q0 q2 cA (va_A (lw_W q0 q2 cA f g) sz)) (va_A (lw_W q0 q2 cA f g) sz)) (vx_X (fun _ : Unit => False) (fun _ _ _ => True) (fun _ => False)) 1 6 (va_A (lw_W q0 q2 cA f g) sz) := by
  refine vx_ofWH (cc := cL_adjust) (maxL := 6) (ret := (some .int)) (hh := [(0, 12, 15, 13), (0, 12, 19, 22)]) (by decide) rfl ?_
  intro p e s m args below meth c s₁ B hml hv
  obtain ⟨rfl, hsz, hP, hK, hD0, hth, hnc⟩ := hv
  have hx := B.exec
  have hb := B.bytes
  have hr := B.returns
  have hts := atoms_spec (ws := wsL_adjust) B.pre
  have htab : c.exceptionTable.toList = tableOf [(0, 12, 15, 13), (0, 12, 19, 22)] := vx_table (x := yL_adjust) B (hts (Cond.codeWith yL_adjust cL_adjust 6 (some .int) [(0, 12, 15, 13), (0, 12, 19, 22)]) List.mem_cons_self)
  have hown : s.vm.findClass RL = some m.cls := findClass_of_methodNamed B.named
  have hlocks := B.notSynchronized
  subst hsz
  have hD : va_D (va_A (lw_W q0 q2 cA f g) s.heap.size) (lw_W q0 q2 cA f g) := hD0.self (sz := s.heap.size)
  generalize hAe : va_A (lw_W q0 q2 cA f g) s.heap.size = A at hD hth ⊢
  have hA : ∀ q : Nat, s.heap.size ≤ q → A q := fun q h => by rw [← hAe]; exact Or.inr h
  have hS : va_S A s.heap s.heap [] := va_S.rf
  have hl := lv_entry ([.ref q0, .int a1, .int a2, .int a3, .ref q2]) (n := 6) (Nat.le_of_ble_eq_true rfl)
  rw [lg_entry_eq]
  generalize (lg_sl ([.ref q0, .int a1, .int a2, .int a3, .ref q2]) ++ List.replicate (6 - (lg_sl ([.ref q0, .int a1, .int a2, .int a3, .ref q2])).length) Slot.unset).toArray = ls at hl ⊢
  have hl : lv_has ls 6 [(0, .ref q0), (1, .int a1), (2, .int a2), (3, .int a3), (4, .ref q2)] := hl
  refine lv_aload hx hb dL_adjust_0 (lv_at hl 4 rfl) ?_
  refine lv_iconst (v := 0) hx hb dL_adjust_2 (by decide) ?_
  refine lv_aload_n hx hb dL_adjust_3 rfl (lv_at hl 0 rfl) ?_
  refine lv_iload_n hx hb dL_adjust_4 rfl (lv_at hl 1 rfl) ?_
  refine lv_iload_n hx hb dL_adjust_5 rfl (lv_at hl 2 rfl) ?_
  refine lv_iload_n hx hb dL_adjust_6 rfl (lv_at hl 3 rfl) ?_
  have hPc := hP.sub (ws' := [(q0, .inr (1, [.int f]))]) [0] rfl
  have hDc := hD.sub (ws' := [(q0, .inr (1, [.int f]))]) [0] (by decide) rfl
  have hKc := hK.sub (tys' := []) [] rfl
  have hFc := va_free (wc := [(q0, .inr (1, [.int f]))]) hD hS hA [0] rfl
  refine vx_calli (vx_runV (As := [.int a1, .int a2, .int a3]) (rest := [.int 0, .ref q2]) ⟨hx, hb, hml, hown, hts⟩ (p_X0_adjust l hst dC dI q0 _ f a1 a2 a3) (cwV 3 hts gL_adjust_X0_adjust rfl rfl rfl (by decide +kernel) ⟨Nat.le_of_ble_eq_true rfl, Nat.le_of_ble_eq_true rfl⟩) (th_preV hKc hPc hDc hth hFc) rfl rfl hl.1 rfl (lv_room (Nat.le_of_ble_eq_true rfl)) dL_adjust_7 ⟨Nat.le_of_ble_eq_true rfl, Nat.le_of_ble_eq_true rfl⟩) hS (fun q _ h => hFc q h) hFc (fun q _ h => h.elim) (fun E ce q9 u t H1 locs1 ht hvm hp hB hz hk hS1 hce hcv hcl => ?_) (fun r u t H1 locs1 ht hvm hw hB hz hk hS1 => ?_)
  · obtain ⟨hx1, hx0⟩ := hp
    have hP1 : va_P (dC, dI) vwCl (lw_W q0 q2 cA f g) H1 := hP.kept (fun k q hq => hk q.1 ((hP k q hq).lt) (fun h => h))
    have hu : u = (x_X0_adjust f a1 a2 a3) := hx1
    rcases xv_X0_adjust f a1 a2 a3 with h | h | h
    · exact absurd (hu.trans h) hx0
    · have hE : E = "java/lang/IllegalArgumentException" := by rw [hB, hu, h]; rfl
      subst hE
      have hu9 : (1 : Int32) = (x_X0_adjust f a1 a2 a3) := h.symm
      refine vx_catch (own := RL) (name := "java/lang/IllegalArgumentException") (E := "java/lang/IllegalArgumentException") hown [] (⟨0, 12, 15, 13⟩ : ExceptionTableEntry) [(⟨0, 12, 19, 22⟩ : ExceptionTableEntry)] (by rw [htab]; rfl) (fun z hz => by cases hz) (by decide) (by decide) (hts (.classLink RL 13 "java/lang/IllegalArgumentException") (by decide +kernel)) (va_Nw.use rfl hth.1) hce hcv hcl ?_
      refine lv_astore (lv' := [(5, .ref q9), (0, .ref q0), (1, .int a1), (2, .int a2), (3, .int a3), (4, .ref q2)]) hx hb dL_adjust_15 hl (by decide) rfl (fun ls hl => ?_)
      refine lv_iconst (v := 1) hx hb dL_adjust_17 (by decide) ?_
      exact vx_ret (W.iret (v := 1) hx hb hr (fun t ht hW => ⟨⟨1, (f, g), rfl, Or.inr ⟨by rw [← hu]; exact hx0, hu9, rfl⟩, by rw [ht]; exact hP1, va_K.moved hW.alike hK, hD⟩, hS1.F ht⟩) hS1.2.2 dL_adjust_18)
    · have hE : E = "java/lang/ArithmeticException" := by rw [hB, hu, h]; rfl
      subst hE
      have hu9 : (2 : Int32) = (x_X0_adjust f a1 a2 a3) := h.symm
      refine vx_catch (own := RL) (name := "java/lang/ArithmeticException") (E := "java/lang/ArithmeticException") hown [(⟨0, 12, 15, 13⟩ : ExceptionTableEntry)] (⟨0, 12, 19, 22⟩ : ExceptionTableEntry) [] (by rw [htab]; rfl) (fun z hz => by rw [List.mem_singleton.mp hz]; exact Or.inr ⟨by decide, "java/lang/IllegalArgumentException", hts (.classLink RL 13 "java/lang/IllegalArgumentException") (by decide +kernel), hnc⟩) (by decide) (by decide) (hts (.classLink RL 22 "java/lang/ArithmeticException") (by decide +kernel)) (va_Nw.use rfl hth.2.1) hce hcv hcl ?_
      refine lv_astore (lv' := [(5, .ref q9), (0, .ref q0), (1, .int a1), (2, .int a2), (3, .int a3), (4, .ref q2)]) hx hb dL_adjust_19 hl (by decide) rfl (fun ls hl => ?_)
      refine lv_iconst (v := 2) hx hb dL_adjust_21 (by decide) ?_
      exact vx_ret (W.iret (v := 2) hx hb hr (fun t ht hW => ⟨⟨2, (f, g), rfl, Or.inr ⟨by rw [← hu]; exact hx0, hu9, rfl⟩, by rw [ht]; exact hP1, va_K.moved hW.alike hK, hD⟩, hS1.F ht⟩) hS1.2.2 dL_adjust_22)
  · obtain ⟨hx0, hr1, hu1⟩ := hw
    obtain ⟨hP1, hK1, hD1⟩ := hB
    rw [ht] at hP1
    obtain ⟨hP2, hD2⟩ := va_join (wr := [(q2, .inl (cA, 1, .inr (.inl g)))]) (w1 := [(q0, .inr (1, [.int u]))]) hP hD [0] [1] rfl rfl (by decide) (by decide) hk hFc hP1 hD1
    have hP2 : va_P (dC, dI) vwCl [(q2, .inl (cA, 1, .inr (.inl g))), (q0, .inr (1, [.int u]))] H1 := hP2
    have hD2 : va_D A [(q2, .inl (cA, 1, .inr (.inl g))), (q0, .inr (1, [.int u]))] := hD2
    refine lv_i2l (v := (r : Int32).toInt64) hx hb dL_adjust_10 rfl ?_
    refine va_last (D := (dC, dI)) (x := r.toInt64) hx hb hK hP2 hD2 hS1 0 0 rfl rfl (vp_in_nI (n := 0) (by decide) (by decide)) dL_adjust_11 (fun H2 locs2 hP3 hD3 hS3 => ?_)
    refine lv_goto (tgt := 23) hx hb dL_adjust_12 (by decide) ?_
    refine lv_iconst (v := 0) hx hb dL_adjust_23 (by decide) ?_
    have hP4 := hP3.sub (ws' := lw_W q0 q2 cA u (vp_updL g (0 : Int32).toNatClampNeg (r.toInt64))) [1, 0] rfl
    have hD4 := hD3.sub (ws' := lw_W q0 q2 cA u (vp_updL g (0 : Int32).toNatClampNeg (r.toInt64))) [1, 0] (by decide) rfl
    exact vx_ret (W.iret (v := 0) hx hb hr (fun t ht hW => ⟨⟨0, (u, vp_updL g (0 : Int32).toNatClampNeg (r.toInt64)), rfl, Or.inl ⟨hx0, rfl, by rw [hu1, hr1]⟩, by rw [ht]; exact hP4, va_K.moved hW.alike hK, hD4⟩, hS3.F ht⟩) hS3.2.2 dL_adjust_24)
set_option maxHeartbeats 4000000 in
set_option maxRecDepth 100000 in
theorem p_L_holds (l : Launch) (hst : l.stackTraces = false) (dC : Nat → ClassId) (dI : Nat → Nat → Nat) (q0 q2 : Nat) (sz : Nat) (cA : ClassId) (f : Int32) (g : Nat → Int64) (a1 : Int32) : vx_Met l yL_holds wsL_holds ({ frames := 7, cells := 1, slots := 6, locals := 103 }) (va_Pc [.ref q0, .int a1, .ref q2] (lw_pre (dC, dI) q0 q2 sz cA f g)) (va_Qi (fun (r : Int32) (u : Int32 × (Nat → Int64)) => lw_post (x_X0_holds f a1) (if (f_X0_holds f a1).1 = 0 then (0 : Int64) else 1) (f_X0_holds f a1).2 f g 1 r u) (lw_at (dC, dI) q0 q2 cA (va_A (lw_W q0 q2 cA f g) sz)) (va_A (lw_W q0 q2 cA f g) sz)) (vx_X (fun _ : Unit => False) (fun _ _ _ => True) (fun _ => False)) 1 6 (va_A (lw_W q0 q2 cA f g) sz) := by
  refine vx_ofWH (cc := cL_holds) (maxL := 4) (ret := (some .int)) (hh := [(0, 16, 19, 13)]) (by decide) rfl ?_
  intro p e s m args below meth c s₁ B hml hv
  obtain ⟨rfl, hsz, hP, hK, hD0, hth, hnc⟩ := hv
  have hx := B.exec
  have hb := B.bytes
  have hr := B.returns
  have hts := atoms_spec (ws := wsL_holds) B.pre
  have htab : c.exceptionTable.toList = tableOf [(0, 16, 19, 13)] := vx_table (x := yL_holds) B (hts (Cond.codeWith yL_holds cL_holds 4 (some .int) [(0, 16, 19, 13)]) List.mem_cons_self)
  have hown : s.vm.findClass RL = some m.cls := findClass_of_methodNamed B.named
  have hlocks := B.notSynchronized
  subst hsz
  have hD : va_D (va_A (lw_W q0 q2 cA f g) s.heap.size) (lw_W q0 q2 cA f g) := hD0.self (sz := s.heap.size)
  generalize hAe : va_A (lw_W q0 q2 cA f g) s.heap.size = A at hD hth ⊢
  have hA : ∀ q : Nat, s.heap.size ≤ q → A q := fun q h => by rw [← hAe]; exact Or.inr h
  have hS : va_S A s.heap s.heap [] := va_S.rf
  have hl := lv_entry ([.ref q0, .int a1, .ref q2]) (n := 4) (Nat.le_of_ble_eq_true rfl)
  rw [lg_entry_eq]
  generalize (lg_sl ([.ref q0, .int a1, .ref q2]) ++ List.replicate (4 - (lg_sl ([.ref q0, .int a1, .ref q2])).length) Slot.unset).toArray = ls at hl ⊢
  have hl : lv_has ls 4 [(0, .ref q0), (1, .int a1), (2, .ref q2)] := hl
  refine lv_aload_n hx hb dL_holds_0 rfl (lv_at hl 2 rfl) ?_
  refine lv_iconst (v := 0) hx hb dL_holds_1 (by decide) ?_
  refine lv_aload_n hx hb dL_holds_2 rfl (lv_at hl 0 rfl) ?_
  refine lv_iload_n hx hb dL_holds_3 rfl (lv_at hl 1 rfl) ?_
  have hPc := hP.sub (ws' := [(q0, .inr (1, [.int f]))]) [0] rfl
  have hDc := hD.sub (ws' := [(q0, .inr (1, [.int f]))]) [0] (by decide) rfl
  have hKc := hK.sub (tys' := []) [] rfl
  have hFc := va_free (wc := [(q0, .inr (1, [.int f]))]) hD hS hA [0] rfl
  refine vx_calli (vx_runV (As := [.int a1]) (rest := [.int 0, .ref q2]) ⟨hx, hb, hml, hown, hts⟩ (p_X0_holds l hst dC dI q0 _ f a1) (cwV 1 hts gL_holds_X0_holds rfl rfl rfl (by decide +kernel) ⟨Nat.le_of_ble_eq_true rfl, Nat.le_of_ble_eq_true rfl⟩) (th_preV hKc hPc hDc hth hFc) rfl rfl hl.1 rfl (lv_room (Nat.le_of_ble_eq_true rfl)) dL_holds_4 ⟨Nat.le_of_ble_eq_true rfl, Nat.le_of_ble_eq_true rfl⟩) hS (fun q _ h => hFc q h) hFc (fun q _ h => h.elim) (fun E ce q9 u t H1 locs1 ht hvm hp hB hz hk hS1 hce hcv hcl => ?_) (fun r u t H1 locs1 ht hvm hw hB hz hk hS1 => ?_)
  · obtain ⟨hx1, hx0⟩ := hp
    have hP1 : va_P (dC, dI) vwCl (lw_W q0 q2 cA f g) H1 := hP.kept (fun k q hq => hk q.1 ((hP k q hq).lt) (fun h => h))
    have hu : u = (x_X0_holds f a1) := hx1
    have hE : E = "java/lang/IllegalArgumentException" := by
      rcases xv_X0_holds f a1 with h | h
      · exact absurd (hu.trans h) hx0
      · rw [hB, hu, h]; rfl
    subst hE
    refine vx_catch (own := RL) (name := "java/lang/IllegalArgumentException") (E := "java/lang/IllegalArgumentException") hown [] (⟨0, 16, 19, 13⟩ : ExceptionTableEntry) [] (by rw [htab]; rfl) (fun z hz => by cases hz) (by decide) (by decide) (hts (.classLink RL 13 "java/lang/IllegalArgumentException") (by decide +kernel)) (va_Nw.use rfl hth.1) hce hcv hcl ?_
    refine lv_astore_n (lv' := [(3, .ref q9), (0, .ref q0), (1, .int a1), (2, .ref q2)]) hx hb dL_holds_19 rfl hl (by decide) rfl (fun ls hl => ?_)
    refine lv_iconst (v := 1) hx hb dL_holds_20 (by decide) ?_
    exact vx_ret (W.iret (v := 1) hx hb hr (fun t ht hW => ⟨⟨1, (f, g), rfl, Or.inr ⟨by rw [← hu]; exact hx0, rfl, rfl⟩, by rw [ht]; exact hP1, va_K.moved hW.alike hK, hD⟩, hS1.F ht⟩) hS1.2.2 dL_holds_21)
  · obtain ⟨hx0, hr1, hu1⟩ := hw
    obtain ⟨hP1, hK1, hD1⟩ := hB
    rw [ht] at hP1
    obtain ⟨hP2, hD2⟩ := va_join (wr := [(q2, .inl (cA, 1, .inr (.inl g)))]) (w1 := [(q0, .inr (1, [.int u]))]) hP hD [0] [1] rfl rfl (by decide) (by decide) hk hFc hP1 hD1
    have hP2 : va_P (dC, dI) vwCl [(q2, .inl (cA, 1, .inr (.inl g))), (q0, .inr (1, [.int u]))] H1 := hP2
    have hD2 : va_D A [(q2, .inl (cA, 1, .inr (.inl g))), (q0, .inr (1, [.int u]))] := hD2
    refine rgL (J := 15) (st := [.int 0, .ref q2]) (if r = 0 then 0 else 1) (fun k => ?_) (fun y ey => ?_)
    · refine lv_if_eq (tgt := 14) hx hb dL_holds_7 (by decide) (fun c_1 => ?_) (fun c_1 => ?_)
      · refine lv_lconst (v := 0) hx hb dL_holds_14 (by decide +kernel) ?_
        exact rgL_e k (by rw [if_pos c_1])
      · refine lv_lconst (v := 1) hx hb dL_holds_10 (by decide +kernel) ?_
        refine lv_goto (tgt := 15) hx hb dL_holds_11 (by decide) ?_
        exact rgL_e k (by rw [if_neg c_1])
    refine va_last (D := (dC, dI)) (x := y) hx hb hK hP2 hD2 hS1 0 0 rfl rfl (vp_in_nI (n := 0) (by decide) (by decide)) dL_holds_15 (fun H2 locs2 hP3 hD3 hS3 => ?_)
    refine lv_goto (tgt := 22) hx hb dL_holds_16 (by decide) ?_
    refine lv_iconst (v := 0) hx hb dL_holds_22 (by decide) ?_
    have hP4 := hP3.sub (ws' := lw_W q0 q2 cA u (vp_updL g (0 : Int32).toNatClampNeg (y))) [1, 0] rfl
    have hD4 := hD3.sub (ws' := lw_W q0 q2 cA u (vp_updL g (0 : Int32).toNatClampNeg (y))) [1, 0] (by decide) rfl
    exact vx_ret (W.iret (v := 0) hx hb hr (fun t ht hW => ⟨⟨0, (u, vp_updL g (0 : Int32).toNatClampNeg (y)), rfl, Or.inl ⟨hx0, rfl, by rw [hu1, ey, hr1]⟩, by rw [ht]; exact hP4, va_K.moved hW.alike hK, hD4⟩, hS3.F ht⟩) hS3.2.2 dL_holds_23)
