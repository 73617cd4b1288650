/-! THE START: two objects, a place for answers, then the loop -/
theorem tb {args : Array Value} {s : State} (h : ∀ w ∈ lw_tbl, w.before args s = true) (i : Nat) {w : Cond} (hi : lw_tbl[i]? = some w) : w.before args s = true := h w (List.mem_of_getElem? hi)
theorem th_str {args : Array Value} {s : State} {k : Nat} {tx : String} (h1 : (Cond.stringRef RX0 k tx).before args s = true) (h2 : (Cond.exactly (.string RX0 k) "java/lang/String").before args s = true) : ∃ sa, vk_R RX0 k tx sa s := by
  obtain ⟨a, c, cA, kA, q1, -⟩ := Cond.exactly_spec (args := args) (first := s) (o := none) (s := s) (idx := []) (t := .string RX0 k) (cls := "java/lang/String") h2
  exact ⟨a, vk_R.of h1 q1⟩
theorem wr_preI {s : State} {H : Heap} {D : va_G} {ci h0 : Nat} {fs As : List Value} {A : Nat → Prop} (hK : va_K D vwCl [] s) (hP : va_P D vwCl [(h0, .inr (ci, fs))] H) (hD : va_D A [(h0, .inr (ci, fs))]) : PreS s H (va_Pc (.ref h0 :: As) (wr_pre D ci h0 H.size fs)) (.ref h0 :: As) :=
  ⟨fun a U g mk q => by obtain ⟨q0, q1, qP, qK, qD⟩ := q; exact ⟨q0, q1, qP, va_K.moved (u := U) (U := U.calling g mk a) (Vm.Alike.refl U.vm) qK, qD⟩, fun U hU hW => ⟨rfl, by rw [hU], by rw [hU]; exact hP, va_K.moved hW.alike hK, hD.weaken (fun _ _ _ _ => trivial)⟩⟩
set_option maxRecDepth 100000 in
set_option maxHeartbeats 4000000 in
/-- what a throw needs, at the start -/
theorem th_start {s : State} {b : Nat} (hts0 : ∀ w ∈ lw_tbl, w.before #[Value.ref b] s = true) (hgv : (Jvm.Cond.and given_1 narrow_1).before #[Value.ref b] s = true) : th_w (fun q : Nat => s.heap.size ≤ q) s s.heap ∧ va_Nc "java/lang/ArithmeticException" "java/lang/IllegalArgumentException" s := by
  have hs := flat_of_before _ hgv
  have hA : ∀ a : Nat, a < s.heap.size → ¬ (fun q : Nat => s.heap.size ≤ q) a := fun a h => Nat.not_le.mpr h
  have e35 : (Cond.exactly (.string RX0 35) "java/lang/String").before #[Value.ref b] s = true := hs _ (by decide +kernel)
  have e40 : (Cond.exactly (.string RX0 40) "java/lang/String").before #[Value.ref b] s = true := hs _ (by decide +kernel)
  have e42 : (Cond.exactly (.string RX0 42) "java/lang/String").before #[Value.ref b] s = true := hs _ (by decide +kernel)
  have e70 : (Cond.exactly (.string RX0 70) "java/lang/String").before #[Value.ref b] s = true := hs _ (by decide +kernel)
  have e77 : (Cond.exactly (.string RX0 77) "java/lang/String").before #[Value.ref b] s = true := hs _ (by decide +kernel)
  have e98 : (Cond.exactly (.string RX0 98) "java/lang/String").before #[Value.ref b] s = true := hs _ (by decide +kernel)
  have e103 : (Cond.exactly (.string RX0 103) "java/lang/String").before #[Value.ref b] s = true := hs _ (by decide +kernel)
  have e116 : (Cond.exactly (.string RX0 116) "java/lang/String").before #[Value.ref b] s = true := hs _ (by decide +kernel)
  have u1 : (Cond.isRef (.static Bundle.tN "UNASSIGNED_STACK" Bundle.steD)).before #[Value.ref b] s = true := hs _ (by decide +kernel)
  have u2 : (Cond.isRef (.static Bundle.tN "SUPPRESSED_SENTINEL" Bundle.listD)).before #[Value.ref b] s = true := hs _ (by decide +kernel)
  have u3 : (Cond.not (.castable "java/lang/ArithmeticException" "java/lang/IllegalArgumentException")).before #[Value.ref b] s = true := hs _ (by decide +kernel)
  refine ⟨⟨va_Nw.of rfl (tb hts0 145 (by decide +kernel) : (Cond.castable "java/lang/IllegalArgumentException" "java/lang/IllegalArgumentException").before #[Value.ref b] s = true), va_Nw.of rfl (tb hts0 246 (by decide +kernel) : (Cond.castable "java/lang/ArithmeticException" "java/lang/ArithmeticException").before #[Value.ref b] s = true), vx_Zqof (tb hts0 170 (by decide +kernel) : (Cond.laysStatic "java/lang/Throwable" "UNASSIGNED_STACK" "[Ljava/lang/StackTraceElement;").before #[Value.ref b] s = true) (tb hts0 35 (by decide +kernel) : (Cond.initialized "java/lang/Throwable").before #[Value.ref b] s = true) u1 hA, vx_Zqof (tb hts0 172 (by decide +kernel) : (Cond.laysStatic "java/lang/Throwable" "SUPPRESSED_SENTINEL" "Ljava/util/List;").before #[Value.ref b] s = true) (tb hts0 35 (by decide +kernel) : (Cond.initialized "java/lang/Throwable").before #[Value.ref b] s = true) u2 hA, ?_, ?_⟩, va_Nc.of u3⟩
  · intro q hq
    simp only [th_L, List.mem_cons, List.not_mem_nil, or_false] at hq
    rcases hq with rfl | rfl | rfl | rfl | rfl | rfl | rfl | rfl
    · exact th_str (tb hts0 183 (by decide +kernel) : (Cond.stringRef RX0 35 "no such operation").before #[Value.ref b] s = true) e35
    · exact th_str (tb hts0 217 (by decide +kernel) : (Cond.stringRef RX0 40 "no such shift").before #[Value.ref b] s = true) e40
    · exact th_str (tb hts0 218 (by decide +kernel) : (Cond.stringRef RX0 42 "times is not 0 .. 255").before #[Value.ref b] s = true) e42
    · exact th_str (tb hts0 262 (by decide +kernel) : (Cond.stringRef RX0 70 "divided by 0").before #[Value.ref b] s = true) e70
    · exact th_str (tb hts0 267 (by decide +kernel) : (Cond.stringRef RX0 77 "the quotient is no operand").before #[Value.ref b] s = true) e77
    · exact th_str (tb hts0 308 (by decide +kernel) : (Cond.stringRef RX0 98 "the base is 0").before #[Value.ref b] s = true) e98
    · exact th_str (tb hts0 309 (by decide +kernel) : (Cond.stringRef RX0 103 "no such adjustment").before #[Value.ref b] s = true) e103
    · exact th_str (tb hts0 321 (by decide +kernel) : (Cond.stringRef RX0 116 "no such condition").before #[Value.ref b] s = true) e116
  · intro y hy
    simp only [th_D, List.mem_cons, List.not_mem_nil, or_false] at hy
    rcases hy with rfl | rfl | rfl
    · exact va_Nw.of rfl (tb hts0 147 (by decide +kernel))
    · exact va_Nw.of rfl (tb hts0 149 (by decide +kernel))
    · exact va_Nw.of rfl (tb hts0 151 (by decide +kernel))
set_option maxHeartbeats 4000000 in
set_option maxRecDepth 100000 in
/-- THE LAW, from its entry -/
theorem whole_start {p : Program} {e : Env} {s : State} {m : MethodId} {below : List Frame} {meth : Method} {c : Code} (l : Launch) (hflags : l.flags = flags0) {b L : Nat} {xs : Nat → Int32} (hL : L ≤ 2560) (C0 : lw_At p s m meth c b L xs) : W p l e room_1 s m #[Value.ref b] below meth c s.heap [] 0 0 (lw_Z below #[Value.ref b] s) (entryFrame m ([Value.ref b] : List Value).toArray 7) := by
  obtain ⟨hx, hb, hr, hml, hown, hts0, hX, hbl, hlocks, hgv⟩ := id C0
  have hst : l.stackTraces = false := by unfold Launch.stackTraces; rw [hflags]; decide +kernel
  obtain ⟨hth0, hnc⟩ := th_start hts0 hgv
  have hts : ∀ w ∈ wsL_law, w.before #[Value.ref b] s = true := fun w h => hts0 w (wsL_law_in w h)
  have hown : s.vm.findClass RL = some m.cls := hown
  have hA : ∀ q : Nat, s.heap.size ≤ q → (fun q : Nat => s.heap.size ≤ q) q := fun _ h => h
  obtain ⟨c0, iS0, hKn0⟩ := u_known (C := RJ0) (T := TJ0) (N := 2) (n := 4) hts0 inJ0 (tb hts0 248 (by decide +kernel) : (Cond.instantiable RJ0 4).before #[Value.ref b] s = true)
  obtain ⟨c1, iS1, hKn1⟩ := u_known (C := RX0) (T := TX0) (N := 1) (n := 1) hts0 inX0 (tb hts0 42 (by decide +kernel) : (Cond.instantiable RX0 1).before #[Value.ref b] s = true)
  obtain ⟨c2, iS2, hKn2⟩ := u_known (C := RX1) (T := TX1) (N := 3) (n := 3) hts0 inX1 (tb hts0 323 (by decide +kernel) : (Cond.instantiable RX1 3).before #[Value.ref b] s = true)
  obtain ⟨dC, dI, hKc⟩ : ∃ (dC : Nat → ClassId) (dI : Nat → Nat → Nat), ∀ (k : Nat) (q : vw_C), vwCl[k]? = some q → u_Kn s q.1 q.2.1 q.2.2 (dC k) (dI k) := by
    refine ⟨fun k => if k = 0 then c0 else if k = 1 then c1 else c2, fun k => if k = 0 then iS0 else if k = 1 then iS1 else iS2, ?_⟩
    intro k q hq
    match k, hq with
    | 0, hq => cases hq; exact hKn0
    | 1, hq => cases hq; exact hKn1
    | 2, hq => cases hq; exact hKn2
    | k + 3, hq => simp [vwCl] at hq
  have hS : va_S (fun q : Nat => s.heap.size ≤ q) s.heap s.heap [] := va_S.rf
  have hK : va_K (dC, dI) vwCl [] s := ⟨hKc, fun k q h => by simp at h⟩
  have hP : va_P (dC, dI) vwCl [] s.heap := fun k q h => by simp at h
  have hD : va_D (fun q : Nat => s.heap.size ≤ q) [] := ⟨fun i j p q h => by simp at h, fun k q h => by simp at h⟩
  have hl := lv_entry ([.ref b]) (n := 7) (Nat.le_of_ble_eq_true rfl)
  rw [lg_entry_eq]
  generalize (lg_sl ([.ref b]) ++ List.replicate (7 - (lg_sl ([.ref b])).length) Slot.unset).toArray = ls at hl ⊢
  have hl : lv_has ls 7 [(0, .ref b)] := hl
  refine va_new (ci := 1) (fs := [.int 0]) (C := RX0) (T := TX0) (N := 1) hx hb hts0 inX0 tyX0 tyX0_ok hown (tb hts0 41 (by decide +kernel) : (Cond.classLink RL 8 RX0).before #[Value.ref b] s = true) (tb hts0 42 (by decide +kernel) : (Cond.instantiable RX0 1).before #[Value.ref b] s = true) (tb hts0 32 (by decide +kernel) : (Cond.initialized RX0).before #[Value.ref b] s = true) hK hP hD hS hA rfl (fun j hj => by rcases (show j = 0 by omega) with rfl <;> rfl) (Nat.le_of_ble_eq_true rfl) (Nat.le_of_ble_eq_true rfl) dL_law_0 (fun q0 H hP hD hS => ?_)
  have hP : va_P (dC, dI) vwCl [(q0, .inr (1, [.int 0]))] H := hP
  have hD : va_D (fun q : Nat => s.heap.size ≤ q) [(q0, .inr (1, [.int 0]))] := hD
  refine W.widen (k := 1) (n := 1) (by omega) (by omega) ?_
  refine lv_dup hx hb dL_law_3 rfl ?_
  refine wr_callv (va_runI (As := []) (rest := [.ref q0]) ⟨hx, hb, hml, hown, hts⟩ (p_X0_init l dC dI q0 _ 0) (cwI 0 hts gL_law_X0_init rfl rfl rfl (tb hts0 32 (by decide +kernel) : (Cond.initialized RX0).before #[Value.ref b] s = true) (tb hts0 43 (by decide +kernel) : (Cond.methodLink RL 32 yX0_init).before #[Value.ref b] s = true) (tb hts0 44 (by decide +kernel) : (Cond.instanceMethod yX0_init).before #[Value.ref b] s = true) rfl (by decide +kernel) ⟨Nat.le_of_ble_eq_true rfl, Nat.le_of_ble_eq_true rfl⟩) (wr_preI hK hP hD) rfl rfl hl.1 rfl (lv_room (Nat.le_of_ble_eq_true rfl)) dL_law_4 ⟨Nat.le_of_ble_eq_true rfl, Nat.le_of_ble_eq_true rfl⟩) hP hD hS hA (fun u H locs hu hP hD hS => ?_)
  have hu0 : u = 0 := hu
  subst hu0
  have hP : va_P (dC, dI) vwCl [(q0, .inr (1, [.int 0]))] H := hP
  have hD : va_D (fun q : Nat => s.heap.size ≤ q) [(q0, .inr (1, [.int 0]))] := hD
  refine lv_astore_n (lv' := [(1, .ref q0), (0, .ref b)]) hx hb dL_law_7 rfl hl (by decide) rfl (fun ls hl => ?_)
  refine va_new (ci := 2) (fs := [.int 0, .int 0, .int 0]) (C := RX1) (T := TX1) (N := 3) hx hb hts0 inX1 tyX1 tyX1_ok hown (tb hts0 322 (by decide +kernel) : (Cond.classLink RL 33 RX1).before #[Value.ref b] s = true) (tb hts0 323 (by decide +kernel) : (Cond.instantiable RX1 3).before #[Value.ref b] s = true) (tb hts0 33 (by decide +kernel) : (Cond.initialized RX1).before #[Value.ref b] s = true) hK hP hD hS hA rfl (fun j hj => by rcases (show j = 0 ∨ j = 1 ∨ j = 2 by omega) with rfl | rfl | rfl <;> rfl) (Nat.le_of_ble_eq_true rfl) (Nat.le_of_ble_eq_true rfl) dL_law_8 (fun q1 H hP hD hS => ?_)
  have hP : va_P (dC, dI) vwCl [(q0, .inr (1, [.int 0])), (q1, .inr (2, [.int 0, .int 0, .int 0]))] H := hP
  have hD : va_D (fun q : Nat => s.heap.size ≤ q) [(q0, .inr (1, [.int 0])), (q1, .inr (2, [.int 0, .int 0, .int 0]))] := hD
  refine W.widen (k := 2) (n := 4) (by omega) (by omega) ?_
  refine lv_dup hx hb dL_law_11 rfl ?_
  have hPc := hP.sub (ws' := [(q1, .inr (2, [.int 0, .int 0, .int 0]))]) [1] rfl
  have hDc := hD.sub (ws' := [(q1, .inr (2, [.int 0, .int 0, .int 0]))]) [1] (by decide) rfl
  have hFc := va_free (wc := [(q1, .inr (2, [.int 0, .int 0, .int 0]))]) hD hS hA [1] rfl
  refine va_callv (va_runI (As := []) (rest := [.ref q1]) ⟨hx, hb, hml, hown, hts⟩ (p_X1_init l dC dI q1 _ 0 0 0) (cwI 0 hts gL_law_X1_init rfl rfl rfl (tb hts0 33 (by decide +kernel) : (Cond.initialized RX1).before #[Value.ref b] s = true) (tb hts0 324 (by decide +kernel) : (Cond.methodLink RL 35 yX1_init).before #[Value.ref b] s = true) (tb hts0 325 (by decide +kernel) : (Cond.instanceMethod yX1_init).before #[Value.ref b] s = true) rfl (by decide +kernel) ⟨Nat.le_of_ble_eq_true rfl, Nat.le_of_ble_eq_true rfl⟩) (wr_preI hK hPc hDc) rfl rfl hl.1 rfl (lv_room (Nat.le_of_ble_eq_true rfl)) dL_law_12 ⟨Nat.le_of_ble_eq_true rfl, Nat.le_of_ble_eq_true rfl⟩) hS (fun q _ h => hFc q h) hFc (fun u t H1 locs ht hvm hw hB hz1 hk1 hS => ?_)
  obtain ⟨hP1, hK1, hD1⟩ := hB
  rw [ht] at hP1
  obtain ⟨hP, hD⟩ := va_join (wr := [(q0, .inr (1, [.int 0]))]) (w1 := [(q1, .inr (2, [.int 0, .int 0, .int 0]))]) hP hD [1] [0] rfl rfl (by decide) (by decide) hk1 hFc hP1 hD1
  generalize H1 = H at hP hS ⊢
  have hP : va_P (dC, dI) vwCl [(q0, .inr (1, [.int 0])), (q1, .inr (2, [.int 0, .int 0, .int 0]))] H := hP
  have hD : va_D (fun q : Nat => s.heap.size ≤ q) [(q0, .inr (1, [.int 0])), (q1, .inr (2, [.int 0, .int 0, .int 0]))] := hD
  refine W.widen (k := 2) (n := 4) (by omega) (by omega) ?_
  refine lv_astore_n (lv' := [(2, .ref q1), (1, .ref q0), (0, .ref b)]) hx hb dL_law_15 rfl hl (by decide) rfl (fun ls hl => ?_)
  refine lv_iconst (v := 1) hx hb dL_law_16 (by decide) ?_
  refine va_newa (atype := .long) (ty := .long) (a0 := (1, .inr (.inl (fun _ => 0)))) (N' := 1) hx hb (tb hts0 423 (by decide +kernel) : (Cond.arrayClass .long).before #[Value.ref b] s = true) rfl hK hP hD hS hA (fun _ => rfl) (by decide) (by decide) (by decide) (Nat.le_of_ble_eq_true rfl) (Nat.le_of_ble_eq_true rfl) dL_law_17 (fun q2 cA H hK hP hD hS => ?_)
  have hP : va_P (dC, dI) vwCl (lw_V q0 q1 q2 cA (nI 0) 0 (nI 0) 0 (fun _ => 0)) H := hP
  have hD : va_D (fun q : Nat => s.heap.size ≤ q) (lw_V q0 q1 q2 cA (nI 0) 0 (nI 0) 0 (fun _ => 0)) := hD
  have hK : va_K (dC, dI) vwCl [(cA, .long)] s := hK
  refine lv_astore_n (lv' := [(3, .ref q2), (2, .ref q1), (1, .ref q0), (0, .ref b)]) hx hb dL_law_19 rfl hl (by decide) rfl (fun ls hl => ?_)
  refine lv_iconst (v := 0) hx hb dL_law_20 (by decide) ?_
  refine lv_istore (lv' := [(4, .int 0), (3, .ref q2), (2, .ref q1), (1, .ref q0), (0, .ref b)]) hx hb dL_law_21 hl (by decide) rfl (fun ls hl => ?_)
  exact law_loop hst hL C0 hth0 hnc q0 q1 q2 cA hK (L + 1) 0 0 0 0 (fun _ => 0) H _ ls (Nat.zero_le _) (by omega) (by decide) hP hD hS (lv_sub hl [0, 4, 3, 2, 1] rfl)
