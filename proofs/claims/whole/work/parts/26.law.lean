/-! THE LAW -/
abbrev lw_V (q0 q1 q2 : Nat) (cA : ClassId) (f cd fl al : Int32) (g : Nat → Int64) : va_W := [(q0, .inr (1, [.int f])), (q1, .inr (2, [.int cd, .int fl, .int al])), (q2, .inl (cA, 1, .inr (.inl g)))]
theorem lwL_preS {s : State} {H : Heap} {D : va_G} {q0 q2 : Nat} {cA : ClassId} {f : Int32} {g : Nat → Int64} {As : List Value} {A : Nat → Prop} (hK : va_K D vwCl [(cA, .long)] s) (hP : va_P D vwCl (lw_W q0 q2 cA f g) H) (hD : va_D A (lw_W q0 q2 cA f g)) (hth : th_w A s H) (hF : ∀ q, va_A (lw_W q0 q2 cA f g) H.size q → A q) (hnc : va_Nc "java/lang/ArithmeticException" "java/lang/IllegalArgumentException" s) : PreS s H (va_Pc As (lw_pre D q0 q2 H.size cA f g)) As :=
  ⟨fun a U gg mk q => by
      obtain ⟨e0, q0, q1, q2, q3, q4, q5⟩ := q
      exact ⟨e0, q0, q1, va_K.moved (u := U) (U := U.calling gg mk a) (Vm.Alike.refl U.vm) q2, q3, th_w.warm (s := U) (U := U.calling gg mk a) (State.WarmedH.refl U) q4, va_Nc.moved (u := U) (U := U.calling gg mk a) (Vm.Alike.refl U.vm) q5⟩,
    fun U hU hW => ⟨rfl, by rw [hU], by rw [hU]; exact hP, va_K.moved hW.alike hK, hD.weaken (fun _ _ _ _ => trivial), by rw [hU]; exact th_w.warm hW (hth.narrow hF), va_Nc.moved hW.alike hnc⟩⟩
section
variable {p : Program} {l : Launch} {e : Env} {R : Room} {s : State} {m : MethodId} {args : Array Value} {below : List Frame} {meth : Method} {c : Code} {H : Heap} {locs : List Loc} {cells slots : Nat} {Q : State → Prop}
variable {cc : ByteArray} {pc : Nat} {ls : Array Slot} {rest st0 st : List Value} {a : Array Value} {A : Nat → Prop} {H0 : Heap} {D : va_G} {q0 q1 q2 : Nat} {cA : ClassId} {f cd fl al : Int32} {g : Nat → Int64}
theorem rg1 {J : Nat} (V : Int32) (h : W p l e R s m args below meth c H locs cells slots Q (F0 m J ls (.int V :: st)) → W p l e R s m args below meth c H locs cells slots Q (F0 m pc ls rest)) (k : W p l e R s m args below meth c H locs cells slots Q (F0 m J ls (.int V :: st))) : W p l e R s m args below meth c H locs cells slots Q (F0 m pc ls rest) := h k
theorem lw_sld (hexec : p.tables.exec = Jvm.exec) (hb : c.code = cc) {b L : Nat} {xs : Nat → Int32} (hX : va_X b L xs s H0) (hbl : b < H0.size) (hbA : ¬ A b) (hS : va_S A H0 H locs) {i v : Int32} (hin : vp_in i L) (hv : v = xs i.toNatClampNeg) (hdg : decode cc pc = .ok (.iaload, 1))
    (kk : W p l e R s m args below meth c H locs cells slots Q (F0 m (pc + 1) ls (.int v :: rest))) : W p l e R s m args below meth c H locs cells slots Q (F0 m pc ls (.int i :: .ref b :: rest)) := va_sld hexec hb hX hbl hbA hS hin hdg (hv ▸ kk)
theorem lw_cL {post : Int32 → Int32 × (Nat → Int64) → Prop} (hr : vx_Run p l e R s m args below meth c H locs cells slots 1 6 (F0 m pc ls st0) rest (va_Qi post (lw_at D q0 q2 cA (va_A (lw_W q0 q2 cA f g) H.size)) (va_A (lw_W q0 q2 cA f g) H.size) a) (vx_X (fun _ : Unit => False) (fun _ _ _ => True) (fun _ => False)) (va_A (lw_W q0 q2 cA f g) H.size))
    (hP : va_P D vwCl (lw_V q0 q1 q2 cA f cd fl al g) H) (hD : va_D A (lw_V q0 q1 q2 cA f cd fl al g)) (hS : va_S A H0 H locs) (hA : ∀ q : Nat, H0.size ≤ q → A q)
    (kk : ∀ (r : Int32) (u : Int32 × (Nat → Int64)) (H1 : Heap) (locs1 : List Loc), post r u → va_P D vwCl (lw_V q0 q1 q2 cA u.1 cd fl al u.2) H1 → va_D A (lw_V q0 q1 q2 cA u.1 cd fl al u.2) → va_S A H0 H1 locs1 → W p l e R s m args below meth c H1 locs1 (cells + 1) (slots + 6) Q (F0 m (pc + 3) ls (.int r :: rest))) : W p l e R s m args below meth c H locs cells slots Q (F0 m pc ls st0) := by
  have hFc := va_free (wc := lw_W q0 q2 cA f g) hD hS hA [0, 2] rfl
  refine vx_calli hr hS (fun q _ h => hFc q h) hFc (fun q _ h => h.elim) (fun E ce q9 u t H1 locs1 ht hvm hp => hp.elim) (fun r u t H1 locs1 ht hvm hw hB hz hk hS1 => ?_)
  obtain ⟨hP1, hK1, hD1⟩ := hB
  rw [ht] at hP1
  obtain ⟨hP2, hD2⟩ := va_join (wr := [(q1, .inr (2, [.int cd, .int fl, .int al]))]) (w1 := lw_W q0 q2 cA u.1 u.2) hP hD [0, 2] [1] rfl rfl (by decide) (by decide) hk hFc hP1 hD1
  exact kk r u H1 locs1 hw (hP2.sub [1, 0, 2] rfl) (hD2.sub [1, 0, 2] (by decide) rfl) hS1
theorem lw_c0v {S : Type} {post : S → Prop} {gf : S → Int32} (hr : va_Run p l e R s m args below meth c H locs cells slots 0 0 (F0 m pc ls st0) rest (va_Qv post (wr_at D 1 q0 (fun u : S => [.int (gf u)]) (wr_A 1 q0 H.size [.int f])) (wr_A 1 q0 H.size [.int f]) a) (wr_A 1 q0 H.size [.int f]))
    (hP : va_P D vwCl (lw_V q0 q1 q2 cA f cd fl al g) H) (hD : va_D A (lw_V q0 q1 q2 cA f cd fl al g)) (hS : va_S A H0 H locs) (hA : ∀ q : Nat, H0.size ≤ q → A q)
    (kk : ∀ (u : S) (H1 : Heap) (locs1 : List Loc), post u → va_P D vwCl (lw_V q0 q1 q2 cA (gf u) cd fl al g) H1 → va_D A (lw_V q0 q1 q2 cA (gf u) cd fl al g) → va_S A H0 H1 locs1 → W p l e R s m args below meth c H1 locs1 cells slots Q (F0 m (pc + 3) ls rest)) : W p l e R s m args below meth c H locs cells slots Q (F0 m pc ls st0) := by
  have hFc := va_free (wc := [(q0, .inr (1, [.int f]))]) hD hS hA [0] rfl
  refine va_callv hr hS (fun q _ h => hFc q h) hFc (fun u t H1 locs1 ht hvm hw hB hz hk hS1 => ?_)
  obtain ⟨hP1, hK1, hD1⟩ := hB
  rw [ht] at hP1
  obtain ⟨hP2, hD2⟩ := va_join (wr := [(q1, .inr (2, [.int cd, .int fl, .int al])), (q2, .inl (cA, 1, .inr (.inl g)))]) (w1 := [(q0, .inr (1, [.int (gf u)]))]) hP hD [0] [1, 2] rfl rfl (by decide) (by decide) hk hFc hP1 hD1
  exact kk u H1 locs1 hw (hP2.sub [2, 0, 1] rfl) (hD2.sub [2, 0, 1] (by decide) rfl) hS1
theorem lw_c0i {S : Type} {post : Int32 → S → Prop} {gf : S → Int32} (hr : va_Run p l e R s m args below meth c H locs cells slots 0 0 (F0 m pc ls st0) rest (va_Qi post (wr_at D 1 q0 (fun u : S => [.int (gf u)]) (wr_A 1 q0 H.size [.int f])) (wr_A 1 q0 H.size [.int f]) a) (wr_A 1 q0 H.size [.int f]))
    (hP : va_P D vwCl (lw_V q0 q1 q2 cA f cd fl al g) H) (hD : va_D A (lw_V q0 q1 q2 cA f cd fl al g)) (hS : va_S A H0 H locs) (hA : ∀ q : Nat, H0.size ≤ q → A q)
    (kk : ∀ (r : Int32) (u : S) (H1 : Heap) (locs1 : List Loc), post r u → va_P D vwCl (lw_V q0 q1 q2 cA (gf u) cd fl al g) H1 → va_D A (lw_V q0 q1 q2 cA (gf u) cd fl al g) → va_S A H0 H1 locs1 → W p l e R s m args below meth c H1 locs1 cells slots Q (F0 m (pc + 3) ls (.int r :: rest))) : W p l e R s m args below meth c H locs cells slots Q (F0 m pc ls st0) := by
  have hFc := va_free (wc := [(q0, .inr (1, [.int f]))]) hD hS hA [0] rfl
  refine va_calli hr hS (fun q _ h => hFc q h) hFc (fun r u t H1 locs1 ht hvm hw hB hz hk hS1 => ?_)
  obtain ⟨hP1, hK1, hD1⟩ := hB
  rw [ht] at hP1
  obtain ⟨hP2, hD2⟩ := va_join (wr := [(q1, .inr (2, [.int cd, .int fl, .int al])), (q2, .inl (cA, 1, .inr (.inl g)))]) (w1 := [(q0, .inr (1, [.int (gf u)]))]) hP hD [0] [1, 2] rfl rfl (by decide) (by decide) hk hFc hP1 hD1
  exact kk r u H1 locs1 hw (hP2.sub [2, 0, 1] rfl) (hD2.sub [2, 0, 1] (by decide) rfl) hS1
theorem lw_c1v {S : Type} {post : S → Prop} {gc gf ga : S → Int32} (hr : va_Run p l e R s m args below meth c H locs cells slots 0 0 (F0 m pc ls st0) rest (va_Qv post (wr_at D 2 q1 (fun u : S => [.int (gc u), .int (gf u), .int (ga u)]) (wr_A 2 q1 H.size [.int cd, .int fl, .int al])) (wr_A 2 q1 H.size [.int cd, .int fl, .int al]) a) (wr_A 2 q1 H.size [.int cd, .int fl, .int al]))
    (hP : va_P D vwCl (lw_V q0 q1 q2 cA f cd fl al g) H) (hD : va_D A (lw_V q0 q1 q2 cA f cd fl al g)) (hS : va_S A H0 H locs) (hA : ∀ q : Nat, H0.size ≤ q → A q)
    (kk : ∀ (u : S) (H1 : Heap) (locs1 : List Loc), post u → va_P D vwCl (lw_V q0 q1 q2 cA f (gc u) (gf u) (ga u) g) H1 → va_D A (lw_V q0 q1 q2 cA f (gc u) (gf u) (ga u) g) → va_S A H0 H1 locs1 → W p l e R s m args below meth c H1 locs1 cells slots Q (F0 m (pc + 3) ls rest)) : W p l e R s m args below meth c H locs cells slots Q (F0 m pc ls st0) := by
  have hFc := va_free (wc := [(q1, .inr (2, [.int cd, .int fl, .int al]))]) hD hS hA [1] rfl
  refine va_callv hr hS (fun q _ h => hFc q h) hFc (fun u t H1 locs1 ht hvm hw hB hz hk hS1 => ?_)
  obtain ⟨hP1, hK1, hD1⟩ := hB
  rw [ht] at hP1
  obtain ⟨hP2, hD2⟩ := va_join (wr := [(q0, .inr (1, [.int f])), (q2, .inl (cA, 1, .inr (.inl g)))]) (w1 := [(q1, .inr (2, [.int (gc u), .int (gf u), .int (ga u)]))]) hP hD [1] [0, 2] rfl rfl (by decide) (by decide) hk hFc hP1 hD1
  exact kk u H1 locs1 hw (hP2.sub [0, 2, 1] rfl) (hD2.sub [0, 2, 1] (by decide) rfl) hS1
theorem lw_c1i {S : Type} {post : Int32 → S → Prop} {gc gf ga : S → Int32} (hr : va_Run p l e R s m args below meth c H locs cells slots 0 0 (F0 m pc ls st0) rest (va_Qi post (wr_at D 2 q1 (fun u : S => [.int (gc u), .int (gf u), .int (ga u)]) (wr_A 2 q1 H.size [.int cd, .int fl, .int al])) (wr_A 2 q1 H.size [.int cd, .int fl, .int al]) a) (wr_A 2 q1 H.size [.int cd, .int fl, .int al]))
    (hP : va_P D vwCl (lw_V q0 q1 q2 cA f cd fl al g) H) (hD : va_D A (lw_V q0 q1 q2 cA f cd fl al g)) (hS : va_S A H0 H locs) (hA : ∀ q : Nat, H0.size ≤ q → A q)
    (kk : ∀ (r : Int32) (u : S) (H1 : Heap) (locs1 : List Loc), post r u → va_P D vwCl (lw_V q0 q1 q2 cA f (gc u) (gf u) (ga u) g) H1 → va_D A (lw_V q0 q1 q2 cA f (gc u) (gf u) (ga u) g) → va_S A H0 H1 locs1 → W p l e R s m args below meth c H1 locs1 cells slots Q (F0 m (pc + 3) ls (.int r :: rest))) : W p l e R s m args below meth c H locs cells slots Q (F0 m pc ls st0) := by
  have hFc := va_free (wc := [(q1, .inr (2, [.int cd, .int fl, .int al]))]) hD hS hA [1] rfl
  refine va_calli hr hS (fun q _ h => hFc q h) hFc (fun r u t H1 locs1 ht hvm hw hB hz hk hS1 => ?_)
  obtain ⟨hP1, hK1, hD1⟩ := hB
  rw [ht] at hP1
  obtain ⟨hP2, hD2⟩ := va_join (wr := [(q0, .inr (1, [.int f])), (q2, .inl (cA, 1, .inr (.inl g)))]) (w1 := [(q1, .inr (2, [.int (gc u), .int (gf u), .int (ga u)]))]) hP hD [1] [0, 2] rfl rfl (by decide) (by decide) hk hFc hP1 hD1
  exact kk r u H1 locs1 hw (hP2.sub [0, 2, 1] rfl) (hD2.sub [0, 2, 1] (by decide) rfl) hS1
end
theorem lw_k1 {x : Int32} (h : x = 0 ∨ x = 1) : ¬ x = 0 → (1 : Int32) = x ∧ ¬ (1 : Int32) = 0 := fun h0 => h.elim (fun q => absurd q h0) (fun q => ⟨q.symm, by decide⟩)
/-- what the law asks behind a call that may throw -/
theorem lw_two {n : Nat} (hn : n < 4096) {x r0 f0 r1 c1 f1 k r : Int32} {g : Nat → Int64} {u : Int32 × (Nat → Int64)} (hrel : rel n x r0 f0 r1 c1 f1) (hk : ¬ x = 0 → k = x ∧ ¬ k = 0) (hw : lw_post x r0.toInt64 f0 (nI n) g k r u) : c1 = r ∧ (r = 0 → u.2 (0 : Int32).toNatClampNeg = r1.toInt64) ∧ ∃ m, m < 4096 ∧ u.1 = nI m ∧ f1 = nI m := by
  rcases hrel with ⟨h1, h2, h3, m, hm, h4, h5⟩ | ⟨h1, h2, h3⟩
  · rcases hw with ⟨_, hr, hu⟩ | ⟨h6, _, _⟩
    · exact ⟨by rw [h2, hr], fun _ => by rw [hu]; rw [← h3]; show vp_updL g (0 : Int32).toNatClampNeg _ (0 : Int32).toNatClampNeg = _; exact pk_uLs, m, hm, by rw [hu]; exact h4, h5⟩
    · exact absurd h1 h6
  · obtain ⟨k1, k2⟩ := hk h1
    rcases hw with ⟨h6, _, _⟩ | ⟨_, hr, hu⟩
    · exact absurd h6 h1
    · exact ⟨by rw [h2, hr, k1], fun q => absurd (hr.symm.trans q) k2, n, hn, by rw [hu], h3⟩
theorem lw_twoD {n : Nat} {x r0 f0 r1 c1 r : Int32} {g : Nat → Int64} {u : Int32 × (Nat → Int64)} (hrel : (x = 0 ∧ c1 = 0 ∧ r0 = r1 ∧ f0 = nI n) ∨ (x = 2 ∧ c1 = 1)) (hw : lw_post x r0.toInt64 f0 (nI n) g 1 r u) : c1 = r ∧ (r = 0 → u.2 (0 : Int32).toNatClampNeg = r1.toInt64) ∧ u.1 = nI n := by
  rcases hrel with ⟨h1, h2, h3, h4⟩ | ⟨h1, h2⟩
  · rcases hw with ⟨_, hr, hu⟩ | ⟨h5, _, _⟩
    · exact ⟨by rw [h2, hr], fun _ => by rw [hu]; rw [← h3]; show vp_updL g (0 : Int32).toNatClampNeg _ (0 : Int32).toNatClampNeg = _; exact pk_uLs, by rw [hu]; exact h4⟩
    · exact absurd h1 h5
  · rcases hw with ⟨h5, _, _⟩ | ⟨_, hr, hu⟩
    · exact absurd (h5.symm.trans h1) (by decide)
    · exact ⟨by rw [h2, hr], fun q => absurd (hr.symm.trans q) (by decide), by rw [hu]⟩
theorem lw_twoH {n : Nat} {x r0 f0 r1 c1 r : Int32} {g : Nat → Int64} {u : Int32 × (Nat → Int64)} (hrel : (x = 0 ∧ c1 = 0 ∧ r0 = r1 ∧ f0 = nI n) ∨ (x = 1 ∧ c1 = 1)) (hw : lw_post x (if r0 = 0 then (0 : Int64) else 1) f0 (nI n) g 1 r u) : c1 = r ∧ (r = 0 → u.2 (0 : Int32).toNatClampNeg = (if r1 = 0 then (0 : Int64) else 1)) ∧ u.1 = nI n := by
  rcases hrel with ⟨h1, h2, h3, h4⟩ | ⟨h1, h2⟩
  · rcases hw with ⟨_, hr, hu⟩ | ⟨h5, _, _⟩
    · exact ⟨by rw [h2, hr], fun _ => by rw [hu]; rw [← h3]; show vp_updL g (0 : Int32).toNatClampNeg _ (0 : Int32).toNatClampNeg = _; exact pk_uLs, by rw [hu]; exact h4⟩
    · exact absurd h1 h5
  · rcases hw with ⟨h5, _, _⟩ | ⟨_, hr, hu⟩
    · exact absurd (h5.symm.trans h1) (by decide)
    · exact ⟨by rw [h2, hr], fun q => absurd (hr.symm.trans q) (by decide), by rw [hu]⟩
set_option maxHeartbeats 8000000 in
set_option maxRecDepth 100000 in
/-- the law's loop: at its head, behind j calls, both have the same flags -/
theorem law_loop {p : Program} {l : Launch} {e : Env} {s : State} {m : MethodId} {below : List Frame} {meth : Method} {c : Code} {dC : Nat → ClassId} {dI : Nat → Nat → Nat} {b L : Nat} {xs : Nat → Int32} (hst : l.stackTraces = false) (hL : L ≤ 2560) (C0 : lw_At p s m meth c b L xs) (hth0 : th_w (fun q : Nat => s.heap.size ≤ q) s s.heap) (hnc : va_Nc "java/lang/ArithmeticException" "java/lang/IllegalArgumentException" s) (q0 q1 q2 : Nat) (cA : ClassId) (hK : va_K (dC, dI) vwCl [(cA, .long)] s) :
    ∀ (nn j n : Nat) (cd al : Int32) (g : Nat → Int64) (H : Heap) (locs : List Loc) (ls : Array Slot), 5 * j ≤ L → L + 1 ≤ 5 * j + nn → n < 4096 → va_P (dC, dI) vwCl (lw_V q0 q1 q2 cA (nI n) cd (nI n) al g) H → va_D (fun q : Nat => s.heap.size ≤ q) (lw_V q0 q1 q2 cA (nI n) cd (nI n) al g) → va_S (fun q : Nat => s.heap.size ≤ q) s.heap H locs → lv_has ls 7 [(4, .int (nI (5 * j))), (0, .ref b), (1, .ref q0), (2, .ref q1), (3, .ref q2)] → W p l e room_1 s m #[Value.ref b] below meth c H locs (3 + j) (5 + 6 * j) (lw_Z below #[Value.ref b] s) (F0 m 23 ls []) := by
  obtain ⟨hx, hb, hr, hml, hown, hts0, hX, hbl, hlocks, hgv⟩ := C0
  have hts : ∀ w ∈ wsL_law, w.before #[Value.ref b] s = true := fun w h => hts0 w (wsL_law_in w h)
  have hown : s.vm.findClass RL = some m.cls := hown
  have hA : ∀ q : Nat, s.heap.size ≤ q → (fun q : Nat => s.heap.size ≤ q) q := fun _ h => h
  have hbA : ¬ (fun q : Nat => s.heap.size ≤ q) b := Nat.not_le.mpr hbl
  intro nn
  induction nn with
  | zero =>
    intro j n cd al g H locs ls h1 h2
    exact absurd h2 (by omega)
  | succ nn ih =>
    intro j n cd al g H locs ls hj hjn hn hP hD hS hl
    refine lv_iload hx hb dL_law_23 (lv_at hl 0 rfl) ?_
    refine lv_aload_n hx hb dL_law_25 rfl (lv_at hl 1 rfl) ?_
    refine va_slen hx hb hX hbl hbA hS dL_law_26 ?_
    refine lv_iconst (v := 5) hx hb dL_law_27 (by decide) ?_
    refine lv_isub hx hb dL_law_28 ?_
    have hcmp : (Int32.ofNat L - 5 < nI (5 * j)) ↔ L < 5 * j + 5 := by
      show nI L - I 5 < nI (5 * j) ↔ _
      rw [← I_nI L, ← I_nI (5 * j), I_sub, I_lt (by omega) (by omega) (by omega) (by omega)]
      omega
    refine lv_icmp_gt (tgt := 759) hx hb dL_law_29 (by decide) (fun c_10 => ?_) (fun c_10 => ?_)
    · refine lv_iconst (v := 1) hx hb dL_law_759 (by decide) ?_
      refine va_forget (fun q hq => hS.2.2 q hq) ?_
      refine W.widen (k := 3083) (n := 20533) (by omega) (by omega) ?_
      exact lw_ret hx hb hr hlocks dL_law_760
    · have hlt : 5 * j + 5 ≤ L := by
        rcases Nat.lt_or_ge L (5 * j + 5) with q | q
        · exact absurd (hcmp.mpr q) c_10
        · exact q
      obtain ⟨x4, ex4⟩ : ∃ y : Int32, y = nI (5 * j) := ⟨_, rfl⟩
      have hx5 : x4 + Int32.ofInt 5 = nI (5 * (j + 1)) := by rw [ex4]; exact nI_add (5 * j) 5
      rw [← ex4] at hl
      have hcl1 : 3 + j + 1 ≤ room_1.cells := by show 3 + j + 1 ≤ 3083; omega
      have hsl1 : 5 + 6 * j + 6 ≤ room_1.slots := by show 5 + 6 * j + 6 ≤ 20533; omega
      have hcl9 : 3 + j + 1 + 0 ≤ room_1.cells := hcl1
      have hsl9 : 5 + 6 * j + 6 + 0 ≤ room_1.slots := hsl1
      have hcl0 : 3 + j + 0 ≤ room_1.cells := Nat.le_of_succ_le hcl1
      have hsl0 : 5 + 6 * j + 0 ≤ room_1.slots := Nat.le_trans (Nat.add_le_add_left (Nat.zero_le 6) _) hsl1
      have hin0 : vp_in x4 L := by rw [ex4]; exact vp_in_nI (by omega) (by omega)
      have hin1 : vp_in (x4 + 1) L := by rw [ex4, show nI (5 * j) + 1 = nI (5 * j + 1) from nI_add _ 1]; exact vp_in_nI (by omega) (by omega)
      have hin2 : vp_in (x4 + 2) L := by rw [ex4, show nI (5 * j) + 2 = nI (5 * j + 2) from nI_add _ 2]; exact vp_in_nI (by omega) (by omega)
      have hin3 : vp_in (x4 + 3) L := by rw [ex4, show nI (5 * j) + 3 = nI (5 * j + 3) from nI_add _ 3]; exact vp_in_nI (by omega) (by omega)
      have hin4 : vp_in (x4 + 4) L := by rw [ex4, show nI (5 * j) + 4 = nI (5 * j + 4) from nI_add _ 4]; exact vp_in_nI (by omega) (by omega)
      obtain ⟨s0, hs0⟩ : ∃ y : Int32, y = xs x4.toNatClampNeg := ⟨_, rfl⟩
      obtain ⟨s1, hs1⟩ : ∃ y : Int32, y = xs (x4 + 1).toNatClampNeg := ⟨_, rfl⟩
      obtain ⟨s2, hs2⟩ : ∃ y : Int32, y = xs (x4 + 2).toNatClampNeg := ⟨_, rfl⟩
      obtain ⟨s3, hs3⟩ : ∃ y : Int32, y = xs (x4 + 3).toNatClampNeg := ⟨_, rfl⟩
      obtain ⟨s4, hs4⟩ : ∃ y : Int32, y = xs (x4 + 4).toNatClampNeg := ⟨_, rfl⟩
      obtain ⟨w1, hw1⟩ : ∃ y : Int32, y = (if s1 = 0 then 0 else 1) := ⟨_, rfl⟩
      obtain ⟨w2, hw2⟩ : ∃ y : Int32, y = (if s2 = 0 then 0 else 1) := ⟨_, rfl⟩
      refine lv_aload_n hx hb dL_law_32 rfl (lv_at hl 1 rfl) ?_
      refine lv_iload hx hb dL_law_33 (lv_at hl 0 rfl) ?_
      refine lw_sld (v := s0) hx hb hX hbl hbA hS hin0 hs0 dL_law_35 ?_
      refine lv_bipush (v := 15) hx hb dL_law_36 (by decide +kernel) ?_
      refine lv_iand hx hb dL_law_38 ?_
      refine lv_topi (fun y0 _ => ?_)
      by_cases c0 : y0 = 0
      · refine lv_tableIn (off := 49) (tgt := 88) hx hb dL_law_39 (by rw [c0]; decide) (by rw [c0]; decide) (by rw [c0]; rfl) (by decide) ?_
        refine lv_aload_n hx hb dL_law_88 rfl (lv_at hl 2 rfl) ?_
        refine lv_aload_n hx hb dL_law_89 rfl (lv_at hl 1 rfl) ?_
        refine lv_iload hx hb dL_law_90 (lv_at hl 0 rfl) ?_
        refine lv_iconst (v := 1) hx hb dL_law_92 (by decide) ?_
        refine lv_iadd hx hb dL_law_93 ?_
        refine lw_sld (v := s1) hx hb hX hbl hbA hS hin1 hs1 dL_law_94 ?_
        have hPc := hP.sub (ws' := [(q0, .inr (1, [.int (nI n)]))]) [0] rfl
        have hKc := hK.sub (tys' := []) [] rfl
        have hDc := hD.sub (ws' := [(q0, .inr (1, [.int (nI n)]))]) [0] (by decide) rfl
        refine lw_c0v (va_runV (As := [.int s1]) (rest := []) ⟨hx, hb, hml, hown, hts⟩ (p_X0_set l dC dI q0 _ (nI n) s1) (cwV 1 hts gL_law_X0_set rfl rfl rfl (by decide +kernel) ⟨Nat.le_of_ble_eq_true rfl, Nat.le_of_ble_eq_true rfl⟩) (wr_preV (ci := 1) rfl hKc hPc hDc) rfl rfl hl.1 rfl (lv_room (Nat.le_of_ble_eq_true rfl)) dL_law_95 ⟨hcl0, hsl0⟩) hP hD hS hA (fun u1 H locs hu1 hP hD hS => ?_)
        have hP : va_P (dC, dI) vwCl (lw_V q0 q1 q2 cA u1 cd (nI n) al g) H := hP
        have hD : va_D (fun q : Nat => s.heap.size ≤ q) (lw_V q0 q1 q2 cA u1 cd (nI n) al g) := hD
        refine lv_aload_n hx hb dL_law_98 rfl (lv_at hl 3 rfl) ?_
        refine lv_aload_n hx hb dL_law_99 rfl (lv_at hl 1 rfl) ?_
        refine lv_iload hx hb dL_law_100 (lv_at hl 0 rfl) ?_
        refine lv_iconst (v := 1) hx hb dL_law_102 (by decide) ?_
        refine lv_iadd hx hb dL_law_103 ?_
        refine lw_sld (v := s1) hx hb hX hbl hbA hS hin1 hs1 dL_law_104 ?_
        have hPc := hP.sub (ws' := [(q1, .inr (2, [.int cd, .int (nI n), .int al]))]) [1] rfl
        have hKc := hK.sub (tys' := []) [] rfl
        have hDc := hD.sub (ws' := [(q1, .inr (2, [.int cd, .int (nI n), .int al]))]) [1] (by decide) rfl
        refine lw_c1v (va_runV (As := [.int s1]) (rest := []) ⟨hx, hb, hml, hown, hts⟩ (p_X1_set l dC dI q1 _ cd (nI n) al s1) (cwV 1 hts gL_law_X1_set rfl rfl rfl (by decide +kernel) ⟨Nat.le_of_ble_eq_true rfl, Nat.le_of_ble_eq_true rfl⟩) (wr_preV (ci := 2) rfl hKc hPc hDc) rfl rfl hl.1 rfl (lv_room (Nat.le_of_ble_eq_true rfl)) dL_law_105 ⟨hcl0, hsl0⟩) hP hD hS hA (fun u2 H locs hu2 hP hD hS => ?_)
        have hP : va_P (dC, dI) vwCl (lw_V q0 q1 q2 cA u1 u2.1 u2.2 al g) H := hP
        have hD : va_D (fun q : Nat => s.heap.size ≤ q) (lw_V q0 q1 q2 cA u1 u2.1 u2.2 al g) := hD
        refine lv_goto (tgt := 753) hx hb dL_law_108 (by decide) ?_
        obtain ⟨e1_, m1, hm1, e2_⟩ := set_eq s1
        have e3_ : u1 = nI m1 := hu1.trans e2_
        have e4_ : u2.2 = nI m1 := by rw [hu2]; exact e1_.trans e2_
        rw [e3_, e4_] at hP hD
        refine lv_iinc (v := nI (5 * (j + 1))) (lv' := [(4, .int (nI (5 * (j + 1)))), (0, .ref b), (1, .ref q0), (2, .ref q1), (3, .ref q2)]) hx hb dL_law_753 hl (k := 0) rfl hx5 (by decide) rfl (fun ls hl => ?_)
        refine lv_goto (tgt := 23) hx hb dL_law_756 (by decide) ?_
        refine W.widen (k := 3 + (j + 1)) (n := 5 + 6 * (j + 1)) (by omega) (by omega) ?_
        exact ih (j + 1) m1 u2.1 al g H locs ls (by omega) (by omega) hm1 hP hD hS (lv_sub hl [0, 1, 2, 3, 4] rfl)
      by_cases c1 : y0 = 1
      · refine lv_tableIn (off := 72) (tgt := 111) hx hb dL_law_39 (by rw [c1]; decide) (by rw [c1]; decide) (by rw [c1]; rfl) (by decide) ?_
        refine lv_aload_n hx hb dL_law_111 rfl (lv_at hl 2 rfl) ?_
        have hPc := hP.sub (ws' := [(q0, .inr (1, [.int (nI n)]))]) [0] rfl
        have hKc := hK.sub (tys' := []) [] rfl
        refine pu_calli (F := (f_X0_flags (nI n))) (va_runV (As := []) (rest := []) ⟨hx, hb, hml, hown, hts⟩ (p_X0_flags l dC dI q0 _ (nI n)) (cwV 0 hts gL_law_X0_flags rfl rfl rfl (by decide +kernel) ⟨Nat.le_of_ble_eq_true rfl, Nat.le_of_ble_eq_true rfl⟩) (pu_preV (ci := 1) rfl hKc hPc) rfl rfl hl.1 rfl (lv_room (Nat.le_of_ble_eq_true rfl)) dL_law_112 ⟨hcl0, hsl0⟩) ?_
        refine lv_aload_n hx hb dL_law_115 rfl (lv_at hl 3 rfl) ?_
        have hPc := hP.sub (ws' := [(q1, .inr (2, [.int cd, .int (nI n), .int al]))]) [1] rfl
        have hKc := hK.sub (tys' := []) [] rfl
        have hDc := hD.sub (ws' := [(q1, .inr (2, [.int cd, .int (nI n), .int al]))]) [1] (by decide) rfl
        refine lw_c1i (va_runV (As := []) (rest := [.int (f_X0_flags (nI n))]) ⟨hx, hb, hml, hown, hts⟩ (p_X1_flags l dC dI q1 _ cd (nI n) al) (cwV 0 hts gL_law_X1_flags rfl rfl rfl (by decide +kernel) ⟨Nat.le_of_ble_eq_true rfl, Nat.le_of_ble_eq_true rfl⟩) (wr_preV (ci := 2) rfl hKc hPc hDc) rfl rfl hl.1 rfl (lv_room (Nat.le_of_ble_eq_true rfl)) dL_law_116 ⟨hcl0, hsl0⟩) hP hD hS hA (fun r2 u2 H locs hu2 hP hD hS => ?_)
        obtain ⟨er2, hu2⟩ := hu2
        have hP : va_P (dC, dI) vwCl (lw_V q0 q1 q2 cA (nI n) u2 (nI n) al g) H := hP
        have hD : va_D (fun q : Nat => s.heap.size ≤ q) (lw_V q0 q1 q2 cA (nI n) u2 (nI n) al g) := hD
        refine lv_icmp_eq (tgt := 753) hx hb dL_law_119 (by decide) (fun c_ => ?_) (fun c_ => ?_)
        · skip
          refine lv_iinc (v := nI (5 * (j + 1))) (lv' := [(4, .int (nI (5 * (j + 1)))), (0, .ref b), (1, .ref q0), (2, .ref q1), (3, .ref q2)]) hx hb dL_law_753 hl (k := 0) rfl hx5 (by decide) rfl (fun ls hl => ?_)
          refine lv_goto (tgt := 23) hx hb dL_law_756 (by decide) ?_
          refine W.widen (k := 3 + (j + 1)) (n := 5 + 6 * (j + 1)) (by omega) (by omega) ?_
          exact ih (j + 1) n u2 al g H locs ls (by omega) (by omega) hn hP hD hS (lv_sub hl [0, 1, 2, 3, 4] rfl)
        · exact absurd (by rw [er2]; rfl) c_
      by_cases c2 : y0 = 2
      · refine lv_tableIn (off := 85) (tgt := 124) hx hb dL_law_39 (by rw [c2]; decide) (by rw [c2]; decide) (by rw [c2]; rfl) (by decide) ?_
        refine lv_aload_n hx hb dL_law_124 rfl (lv_at hl 2 rfl) ?_
        refine lv_aload_n hx hb dL_law_125 rfl (lv_at hl 1 rfl) ?_
        refine lv_iload hx hb dL_law_126 (lv_at hl 0 rfl) ?_
        refine lv_iconst (v := 1) hx hb dL_law_128 (by decide) ?_
        refine lv_iadd hx hb dL_law_129 ?_
        refine lw_sld (v := s1) hx hb hX hbl hbA hS hin1 hs1 dL_law_130 ?_
        refine lv_aload_n hx hb dL_law_131 rfl (lv_at hl 1 rfl) ?_
        refine lv_iload hx hb dL_law_132 (lv_at hl 0 rfl) ?_
        refine lv_iconst (v := 2) hx hb dL_law_134 (by decide) ?_
        refine lv_iadd hx hb dL_law_135 ?_
        refine lw_sld (v := s2) hx hb hX hbl hbA hS hin2 hs2 dL_law_136 ?_
        refine rg1 (J := 145) (st := [.int s1, .ref q0]) w2 (fun k => ?_) ?_
        · refine lv_if_eq (tgt := 144) hx hb dL_law_137 (by decide) (fun c_ => ?_) (fun c_ => ?_)
          · refine lv_iconst (v := 0) hx hb dL_law_144 (by decide) ?_
            exact rg_e k (by rw [hw2, if_pos c_])
          · refine lv_iconst (v := 1) hx hb dL_law_140 (by decide) ?_
            refine lv_goto (tgt := 145) hx hb dL_law_141 (by decide) ?_
            exact rg_e k (by rw [hw2, if_neg c_])
        refine lv_aload_n hx hb dL_law_145 rfl (lv_at hl 1 rfl) ?_
        refine lv_iload hx hb dL_law_146 (lv_at hl 0 rfl) ?_
        refine lv_iconst (v := 3) hx hb dL_law_148 (by decide) ?_
        refine lv_iadd hx hb dL_law_149 ?_
        refine lw_sld (v := s3) hx hb hX hbl hbA hS hin3 hs3 dL_law_150 ?_
        refine lv_aload_n hx hb dL_law_151 rfl (lv_at hl 1 rfl) ?_
        refine lv_iload hx hb dL_law_152 (lv_at hl 0 rfl) ?_
        refine lv_iconst (v := 4) hx hb dL_law_154 (by decide) ?_
        refine lv_iadd hx hb dL_law_155 ?_
        refine lw_sld (v := s4) hx hb hX hbl hbA hS hin4 hs4 dL_law_156 ?_
        refine lv_aload_n hx hb dL_law_157 rfl (lv_at hl 4 rfl) ?_
        have hPc := hP.sub (ws' := lw_W q0 q2 cA (nI n) g) [0, 2] rfl
        have hDc := hD.sub (ws' := lw_W q0 q2 cA (nI n) g) [0, 2] (by decide) rfl
        have hFc := va_free (wc := lw_W q0 q2 cA (nI n) g) hD hS hA [0, 2] rfl
        refine lw_cL (vx_runSX (As := [.ref q0, .int s1, .int w2, .int s3, .int s4, .ref q2]) (rest := []) ⟨hx, hb, hml, hown, hts⟩ (p_L_operate l hst dC dI q0 q2 _ cA (nI n) g s1 w2 s3 s4) (vx_cwSW 6 hts gL_law_L_operate rfl rfl rfl (by decide +kernel) ⟨Nat.le_of_ble_eq_true rfl, Nat.le_of_ble_eq_true rfl⟩) (lwL_preS hK hPc hDc (hth0.kept hS.2.1) hFc hnc) rfl rfl hl.1 rfl (lv_room (Nat.le_of_ble_eq_true rfl)) dL_law_158 ⟨hcl1, hsl1⟩) hP hD hS hA (fun r1 u1 H locs hw hP hD hS => ?_)
        obtain ⟨f1, g1⟩ := u1
        have hP : va_P (dC, dI) vwCl (lw_V q0 q1 q2 cA f1 cd (nI n) al g1) H := hP
        have hD : va_D (fun q : Nat => s.heap.size ≤ q) (lw_V q0 q1 q2 cA f1 cd (nI n) al g1) := hD
        refine lv_istore (lv' := [(5, .int r1), (4, .int x4), (0, .ref b), (1, .ref q0), (2, .ref q1), (3, .ref q2)]) hx hb dL_law_161 hl (by decide) rfl (fun ls hl => ?_)
        refine lv_aload_n hx hb dL_law_163 rfl (lv_at hl 4 rfl) ?_
        refine lv_aload_n hx hb dL_law_164 rfl (lv_at hl 2 rfl) ?_
        refine lv_iload hx hb dL_law_165 (lv_at hl 1 rfl) ?_
        refine lv_iconst (v := 1) hx hb dL_law_167 (by decide) ?_
        refine lv_iadd hx hb dL_law_168 ?_
        refine lw_sld (v := s1) hx hb hX hbl hbA hS hin1 hs1 dL_law_169 ?_
        refine lv_aload_n hx hb dL_law_170 rfl (lv_at hl 2 rfl) ?_
        refine lv_iload hx hb dL_law_171 (lv_at hl 1 rfl) ?_
        refine lv_iconst (v := 2) hx hb dL_law_173 (by decide) ?_
        refine lv_iadd hx hb dL_law_174 ?_
        refine lw_sld (v := s2) hx hb hX hbl hbA hS hin2 hs2 dL_law_175 ?_
        refine rg1 (J := 184) (st := [.int s1, .ref q1]) w2 (fun k => ?_) ?_
        · refine lv_if_eq (tgt := 183) hx hb dL_law_176 (by decide) (fun c_ => ?_) (fun c_ => ?_)
          · refine lv_iconst (v := 0) hx hb dL_law_183 (by decide) ?_
            exact rg_e k (by rw [hw2, if_pos c_])
          · refine lv_iconst (v := 1) hx hb dL_law_179 (by decide) ?_
            refine lv_goto (tgt := 184) hx hb dL_law_180 (by decide) ?_
            exact rg_e k (by rw [hw2, if_neg c_])
        refine lv_aload_n hx hb dL_law_184 rfl (lv_at hl 2 rfl) ?_
        refine lv_iload hx hb dL_law_185 (lv_at hl 1 rfl) ?_
        refine lv_iconst (v := 3) hx hb dL_law_187 (by decide) ?_
        refine lv_iadd hx hb dL_law_188 ?_
        refine lw_sld (v := s3) hx hb hX hbl hbA hS hin3 hs3 dL_law_189 ?_
        refine lv_aload_n hx hb dL_law_190 rfl (lv_at hl 2 rfl) ?_
        refine lv_iload hx hb dL_law_191 (lv_at hl 1 rfl) ?_
        refine lv_iconst (v := 4) hx hb dL_law_193 (by decide) ?_
        refine lv_iadd hx hb dL_law_194 ?_
        refine lw_sld (v := s4) hx hb hX hbl hbA hS hin4 hs4 dL_law_195 ?_
        have hPc := hP.sub (ws' := [(q1, .inr (2, [.int cd, .int (nI n), .int al]))]) [1] rfl
        have hKc := hK.sub (tys' := []) [] rfl
        have hDc := hD.sub (ws' := [(q1, .inr (2, [.int cd, .int (nI n), .int al]))]) [1] (by decide) rfl
        refine lw_c1i (va_runV (As := [.int s1, .int w2, .int s3, .int s4]) (rest := []) ⟨hx, hb, hml, hown, hts⟩ (p_X1_operate l dC dI q1 _ cd (nI n) al s1 w2 s3 s4) (cwV 4 hts gL_law_X1_operate rfl rfl rfl (by decide +kernel) ⟨Nat.le_of_ble_eq_true rfl, Nat.le_of_ble_eq_true rfl⟩) (wr_preV (ci := 2) rfl hKc hPc hDc) rfl rfl hl.1 rfl (lv_room (Nat.le_of_ble_eq_true rfl)) dL_law_196 ⟨hcl9, hsl9⟩) hP hD hS hA (fun r2 u2 H locs hu2 hP hD hS => ?_)
        obtain ⟨er2, hu2⟩ := hu2
        have hP : va_P (dC, dI) vwCl (lw_V q0 q1 q2 cA f1 u2.1 u2.2.1 u2.2.2 g1) H := hP
        have hD : va_D (fun q : Nat => s.heap.size ≤ q) (lw_V q0 q1 q2 cA f1 u2.1 u2.2.1 u2.2.2 g1) := hD
        refine lv_istore (lv' := [(6, .int r2), (5, .int r1), (4, .int x4), (0, .ref b), (1, .ref q0), (2, .ref q1), (3, .ref q2)]) hx hb dL_law_199 hl (by decide) rfl (fun ls hl => ?_)
        refine lv_aload_n hx hb dL_law_201 rfl (lv_at hl 5 rfl) ?_
        have hPc := hP.sub (ws' := [(q1, .inr (2, [.int u2.1, .int u2.2.1, .int u2.2.2]))]) [1] rfl
        have hKc := hK.sub (tys' := []) [] rfl
        refine pu_calli (F := (f_X1_thrown u2.1)) (va_runV (As := []) (rest := []) ⟨hx, hb, hml, hown, hts⟩ (p_X1_thrown l dC dI q1 _ u2.1 u2.2.1 u2.2.2) (cwV 0 hts gL_law_X1_thrown rfl rfl rfl (by decide +kernel) ⟨Nat.le_of_ble_eq_true rfl, Nat.le_of_ble_eq_true rfl⟩) (pu_preV (ci := 2) rfl hKc hPc) rfl rfl hl.1 rfl (lv_room (Nat.le_of_ble_eq_true rfl)) dL_law_202 ⟨hcl9, hsl9⟩) ?_
        obtain ⟨hcd, hBB, mm, hmm, hf9, hfl9⟩ := lw_two hn (op_rel hn al s1 w2 s3 s4) (lw_k1 (xv_X0_operate (nI n) s1 w2 s3 s4)) hw
        dsimp only at hBB hf9
        have hcd2 : f_X1_thrown u2.1 = r1 := by show u2.1 = r1; rw [hu2]; exact hcd
        have hfl2 : u2.2.1 = nI mm := by rw [hu2]; exact hfl9
        refine lv_iload hx hb dL_law_205 (lv_at hl 1 rfl) ?_
        refine lv_icmp_eq (tgt := 212) hx hb dL_law_207 (by decide) (fun c_ => ?_) (fun c_ => absurd hcd2 c_)
        refine lv_iload hx hb dL_law_212 (lv_at hl 1 rfl) ?_
        refine lv_if_ne (tgt := 229) hx hb dL_law_214 (by decide) (fun c1_ => ?_) (fun c1_ => ?_)
        · skip
          refine lv_goto (tgt := 753) hx hb dL_law_229 (by decide) ?_
          rw [hf9, hfl2] at hP hD
          refine lv_iinc (v := nI (5 * (j + 1))) (lv' := [(4, .int (nI (5 * (j + 1)))), (6, .int r2), (5, .int r1), (0, .ref b), (1, .ref q0), (2, .ref q1), (3, .ref q2)]) hx hb dL_law_753 hl (k := 2) rfl hx5 (by decide) rfl (fun ls hl => ?_)
          refine lv_goto (tgt := 23) hx hb dL_law_756 (by decide) ?_
          refine W.widen (k := 3 + (j + 1)) (n := 5 + 6 * (j + 1)) (by omega) (by omega) ?_
          exact ih (j + 1) mm u2.1 u2.2.2 g1 H locs ls (by omega) (by omega) hmm hP hD hS (lv_sub hl [0, 3, 4, 5, 6] rfl)
        · skip
          refine lv_aload_n hx hb dL_law_217 rfl (lv_at hl 6 rfl) ?_
          refine lv_iconst (v := 0) hx hb dL_law_218 (by decide) ?_
          refine va_lald (D := (dC, dI)) hx hb hK hP 2 0 rfl rfl (vp_in_nI (n := 0) (by decide) (by decide)) dL_law_219 ?_
          refine lv_iload hx hb dL_law_220 (lv_at hl 0 rfl) ?_
          refine lv_i2l (v := r2.toInt64) hx hb dL_law_222 rfl ?_
          refine W.lcmp hx hb dL_law_223 ?_
          refine lv_if_eq (tgt := 229) hx hb dL_law_224 (by decide) (fun c2_ => ?_) (fun c2_ => absurd ((lg_cmp_eq _ _).mpr (by rw [hBB c1_, er2])) c2_)
          refine lv_goto (tgt := 753) hx hb dL_law_229 (by decide) ?_
          rw [hf9, hfl2] at hP hD
          refine lv_iinc (v := nI (5 * (j + 1))) (lv' := [(4, .int (nI (5 * (j + 1)))), (6, .int r2), (5, .int r1), (0, .ref b), (1, .ref q0), (2, .ref q1), (3, .ref q2)]) hx hb dL_law_753 hl (k := 2) rfl hx5 (by decide) rfl (fun ls hl => ?_)
          refine lv_goto (tgt := 23) hx hb dL_law_756 (by decide) ?_
          refine W.widen (k := 3 + (j + 1)) (n := 5 + 6 * (j + 1)) (by omega) (by omega) ?_
          exact ih (j + 1) mm u2.1 u2.2.2 g1 H locs ls (by omega) (by omega) hmm hP hD hS (lv_sub hl [0, 3, 4, 5, 6] rfl)
      by_cases c3 : y0 = 3
      · refine lv_tableIn (off := 193) (tgt := 232) hx hb dL_law_39 (by rw [c3]; decide) (by rw [c3]; decide) (by rw [c3]; rfl) (by decide) ?_
        refine lv_aload_n hx hb dL_law_232 rfl (lv_at hl 2 rfl) ?_
        refine lv_aload_n hx hb dL_law_233 rfl (lv_at hl 1 rfl) ?_
        refine lv_iload hx hb dL_law_234 (lv_at hl 0 rfl) ?_
        refine lv_iconst (v := 1) hx hb dL_law_236 (by decide) ?_
        refine lv_iadd hx hb dL_law_237 ?_
        refine lw_sld (v := s1) hx hb hX hbl hbA hS hin1 hs1 dL_law_238 ?_
        refine lv_aload_n hx hb dL_law_239 rfl (lv_at hl 1 rfl) ?_
        refine lv_iload hx hb dL_law_240 (lv_at hl 0 rfl) ?_
        refine lv_iconst (v := 2) hx hb dL_law_242 (by decide) ?_
        refine lv_iadd hx hb dL_law_243 ?_
        refine lw_sld (v := s2) hx hb hX hbl hbA hS hin2 hs2 dL_law_244 ?_
        refine rg1 (J := 253) (st := [.int s1, .ref q0]) w2 (fun k => ?_) ?_
        · refine lv_if_eq (tgt := 252) hx hb dL_law_245 (by decide) (fun c_ => ?_) (fun c_ => ?_)
          · refine lv_iconst (v := 0) hx hb dL_law_252 (by decide) ?_
            exact rg_e k (by rw [hw2, if_pos c_])
          · refine lv_iconst (v := 1) hx hb dL_law_248 (by decide) ?_
            refine lv_goto (tgt := 253) hx hb dL_law_249 (by decide) ?_
            exact rg_e k (by rw [hw2, if_neg c_])
        refine lv_aload_n hx hb dL_law_253 rfl (lv_at hl 1 rfl) ?_
        refine lv_iload hx hb dL_law_254 (lv_at hl 0 rfl) ?_
        refine lv_iconst (v := 3) hx hb dL_law_256 (by decide) ?_
        refine lv_iadd hx hb dL_law_257 ?_
        refine lw_sld (v := s3) hx hb hX hbl hbA hS hin3 hs3 dL_law_258 ?_
        refine lv_aload_n hx hb dL_law_259 rfl (lv_at hl 1 rfl) ?_
        refine lv_iload hx hb dL_law_260 (lv_at hl 0 rfl) ?_
        refine lv_iconst (v := 4) hx hb dL_law_262 (by decide) ?_
        refine lv_iadd hx hb dL_law_263 ?_
        refine lw_sld (v := s4) hx hb hX hbl hbA hS hin4 hs4 dL_law_264 ?_
        refine lv_aload_n hx hb dL_law_265 rfl (lv_at hl 4 rfl) ?_
        have hPc := hP.sub (ws' := lw_W q0 q2 cA (nI n) g) [0, 2] rfl
        have hDc := hD.sub (ws' := lw_W q0 q2 cA (nI n) g) [0, 2] (by decide) rfl
        have hFc := va_free (wc := lw_W q0 q2 cA (nI n) g) hD hS hA [0, 2] rfl
        refine lw_cL (vx_runSX (As := [.ref q0, .int s1, .int w2, .int s3, .int s4, .ref q2]) (rest := []) ⟨hx, hb, hml, hown, hts⟩ (p_L_shift l hst dC dI q0 q2 _ cA (nI n) g s1 w2 s3 s4) (vx_cwSW 6 hts gL_law_L_shift rfl rfl rfl (by decide +kernel) ⟨Nat.le_of_ble_eq_true rfl, Nat.le_of_ble_eq_true rfl⟩) (lwL_preS hK hPc hDc (hth0.kept hS.2.1) hFc hnc) rfl rfl hl.1 rfl (lv_room (Nat.le_of_ble_eq_true rfl)) dL_law_266 ⟨hcl1, hsl1⟩) hP hD hS hA (fun r1 u1 H locs hw hP hD hS => ?_)
        obtain ⟨f1, g1⟩ := u1
        have hP : va_P (dC, dI) vwCl (lw_V q0 q1 q2 cA f1 cd (nI n) al g1) H := hP
        have hD : va_D (fun q : Nat => s.heap.size ≤ q) (lw_V q0 q1 q2 cA f1 cd (nI n) al g1) := hD
        refine lv_istore (lv' := [(5, .int r1), (4, .int x4), (0, .ref b), (1, .ref q0), (2, .ref q1), (3, .ref q2)]) hx hb dL_law_269 hl (by decide) rfl (fun ls hl => ?_)
        refine lv_aload_n hx hb dL_law_271 rfl (lv_at hl 4 rfl) ?_
        refine lv_aload_n hx hb dL_law_272 rfl (lv_at hl 2 rfl) ?_
        refine lv_iload hx hb dL_law_273 (lv_at hl 1 rfl) ?_
        refine lv_iconst (v := 1) hx hb dL_law_275 (by decide) ?_
        refine lv_iadd hx hb dL_law_276 ?_
        refine lw_sld (v := s1) hx hb hX hbl hbA hS hin1 hs1 dL_law_277 ?_
        refine lv_aload_n hx hb dL_law_278 rfl (lv_at hl 2 rfl) ?_
        refine lv_iload hx hb dL_law_279 (lv_at hl 1 rfl) ?_
        refine lv_iconst (v := 2) hx hb dL_law_281 (by decide) ?_
        refine lv_iadd hx hb dL_law_282 ?_
        refine lw_sld (v := s2) hx hb hX hbl hbA hS hin2 hs2 dL_law_283 ?_
        refine rg1 (J := 292) (st := [.int s1, .ref q1]) w2 (fun k => ?_) ?_
        · refine lv_if_eq (tgt := 291) hx hb dL_law_284 (by decide) (fun c_ => ?_) (fun c_ => ?_)
          · refine lv_iconst (v := 0) hx hb dL_law_291 (by decide) ?_
            exact rg_e k (by rw [hw2, if_pos c_])
          · refine lv_iconst (v := 1) hx hb dL_law_287 (by decide) ?_
            refine lv_goto (tgt := 292) hx hb dL_law_288 (by decide) ?_
            exact rg_e k (by rw [hw2, if_neg c_])
        refine lv_aload_n hx hb dL_law_292 rfl (lv_at hl 2 rfl) ?_
        refine lv_iload hx hb dL_law_293 (lv_at hl 1 rfl) ?_
        refine lv_iconst (v := 3) hx hb dL_law_295 (by decide) ?_
        refine lv_iadd hx hb dL_law_296 ?_
        refine lw_sld (v := s3) hx hb hX hbl hbA hS hin3 hs3 dL_law_297 ?_
        refine lv_aload_n hx hb dL_law_298 rfl (lv_at hl 2 rfl) ?_
        refine lv_iload hx hb dL_law_299 (lv_at hl 1 rfl) ?_
        refine lv_iconst (v := 4) hx hb dL_law_301 (by decide) ?_
        refine lv_iadd hx hb dL_law_302 ?_
        refine lw_sld (v := s4) hx hb hX hbl hbA hS hin4 hs4 dL_law_303 ?_
        have hPc := hP.sub (ws' := [(q1, .inr (2, [.int cd, .int (nI n), .int al]))]) [1] rfl
        have hKc := hK.sub (tys' := []) [] rfl
        have hDc := hD.sub (ws' := [(q1, .inr (2, [.int cd, .int (nI n), .int al]))]) [1] (by decide) rfl
        refine lw_c1i (va_runV (As := [.int s1, .int w2, .int s3, .int s4]) (rest := []) ⟨hx, hb, hml, hown, hts⟩ (p_X1_shift l dC dI q1 _ cd (nI n) al s1 w2 s3 s4) (cwV 4 hts gL_law_X1_shift rfl rfl rfl (by decide +kernel) ⟨Nat.le_of_ble_eq_true rfl, Nat.le_of_ble_eq_true rfl⟩) (wr_preV (ci := 2) rfl hKc hPc hDc) rfl rfl hl.1 rfl (lv_room (Nat.le_of_ble_eq_true rfl)) dL_law_304 ⟨hcl9, hsl9⟩) hP hD hS hA (fun r2 u2 H locs hu2 hP hD hS => ?_)
        obtain ⟨er2, hu2⟩ := hu2
        have hP : va_P (dC, dI) vwCl (lw_V q0 q1 q2 cA f1 u2.1 u2.2.1 u2.2.2 g1) H := hP
        have hD : va_D (fun q : Nat => s.heap.size ≤ q) (lw_V q0 q1 q2 cA f1 u2.1 u2.2.1 u2.2.2 g1) := hD
        refine lv_istore (lv' := [(6, .int r2), (5, .int r1), (4, .int x4), (0, .ref b), (1, .ref q0), (2, .ref q1), (3, .ref q2)]) hx hb dL_law_307 hl (by decide) rfl (fun ls hl => ?_)
        refine lv_aload_n hx hb dL_law_309 rfl (lv_at hl 5 rfl) ?_
        have hPc := hP.sub (ws' := [(q1, .inr (2, [.int u2.1, .int u2.2.1, .int u2.2.2]))]) [1] rfl
        have hKc := hK.sub (tys' := []) [] rfl
        refine pu_calli (F := (f_X1_thrown u2.1)) (va_runV (As := []) (rest := []) ⟨hx, hb, hml, hown, hts⟩ (p_X1_thrown l dC dI q1 _ u2.1 u2.2.1 u2.2.2) (cwV 0 hts gL_law_X1_thrown rfl rfl rfl (by decide +kernel) ⟨Nat.le_of_ble_eq_true rfl, Nat.le_of_ble_eq_true rfl⟩) (pu_preV (ci := 2) rfl hKc hPc) rfl rfl hl.1 rfl (lv_room (Nat.le_of_ble_eq_true rfl)) dL_law_310 ⟨hcl9, hsl9⟩) ?_
        obtain ⟨hcd, hBB, mm, hmm, hf9, hfl9⟩ := lw_two hn (sh_rel hn al s1 w2 s3 s4) (lw_k1 (xv_X0_shift s1 w2 s3 s4)) hw
        dsimp only at hBB hf9
        have hcd2 : f_X1_thrown u2.1 = r1 := by show u2.1 = r1; rw [hu2]; exact hcd
        have hfl2 : u2.2.1 = nI mm := by rw [hu2]; exact hfl9
        refine lv_iload hx hb dL_law_313 (lv_at hl 1 rfl) ?_
        refine lv_icmp_eq (tgt := 320) hx hb dL_law_315 (by decide) (fun c_ => ?_) (fun c_ => absurd hcd2 c_)
        refine lv_iload hx hb dL_law_320 (lv_at hl 1 rfl) ?_
        refine lv_if_ne (tgt := 337) hx hb dL_law_322 (by decide) (fun c1_ => ?_) (fun c1_ => ?_)
        · skip
          refine lv_goto (tgt := 753) hx hb dL_law_337 (by decide) ?_
          rw [hf9, hfl2] at hP hD
          refine lv_iinc (v := nI (5 * (j + 1))) (lv' := [(4, .int (nI (5 * (j + 1)))), (6, .int r2), (5, .int r1), (0, .ref b), (1, .ref q0), (2, .ref q1), (3, .ref q2)]) hx hb dL_law_753 hl (k := 2) rfl hx5 (by decide) rfl (fun ls hl => ?_)
          refine lv_goto (tgt := 23) hx hb dL_law_756 (by decide) ?_
          refine W.widen (k := 3 + (j + 1)) (n := 5 + 6 * (j + 1)) (by omega) (by omega) ?_
          exact ih (j + 1) mm u2.1 u2.2.2 g1 H locs ls (by omega) (by omega) hmm hP hD hS (lv_sub hl [0, 3, 4, 5, 6] rfl)
        · skip
          refine lv_aload_n hx hb dL_law_325 rfl (lv_at hl 6 rfl) ?_
          refine lv_iconst (v := 0) hx hb dL_law_326 (by decide) ?_
          refine va_lald (D := (dC, dI)) hx hb hK hP 2 0 rfl rfl (vp_in_nI (n := 0) (by decide) (by decide)) dL_law_327 ?_
          refine lv_iload hx hb dL_law_328 (lv_at hl 0 rfl) ?_
          refine lv_i2l (v := r2.toInt64) hx hb dL_law_330 rfl ?_
          refine W.lcmp hx hb dL_law_331 ?_
          refine lv_if_eq (tgt := 337) hx hb dL_law_332 (by decide) (fun c2_ => ?_) (fun c2_ => absurd ((lg_cmp_eq _ _).mpr (by rw [hBB c1_, er2])) c2_)
          refine lv_goto (tgt := 753) hx hb dL_law_337 (by decide) ?_
          rw [hf9, hfl2] at hP hD
          refine lv_iinc (v := nI (5 * (j + 1))) (lv' := [(4, .int (nI (5 * (j + 1)))), (6, .int r2), (5, .int r1), (0, .ref b), (1, .ref q0), (2, .ref q1), (3, .ref q2)]) hx hb dL_law_753 hl (k := 2) rfl hx5 (by decide) rfl (fun ls hl => ?_)
          refine lv_goto (tgt := 23) hx hb dL_law_756 (by decide) ?_
          refine W.widen (k := 3 + (j + 1)) (n := 5 + 6 * (j + 1)) (by omega) (by omega) ?_
          exact ih (j + 1) mm u2.1 u2.2.2 g1 H locs ls (by omega) (by omega) hmm hP hD hS (lv_sub hl [0, 3, 4, 5, 6] rfl)
      by_cases c4 : y0 = 4
      · refine lv_tableIn (off := 301) (tgt := 340) hx hb dL_law_39 (by rw [c4]; decide) (by rw [c4]; decide) (by rw [c4]; rfl) (by decide) ?_
        refine lv_aload_n hx hb dL_law_340 rfl (lv_at hl 2 rfl) ?_
        refine lv_aload_n hx hb dL_law_341 rfl (lv_at hl 1 rfl) ?_
        refine lv_iload hx hb dL_law_342 (lv_at hl 0 rfl) ?_
        refine lv_iconst (v := 1) hx hb dL_law_344 (by decide) ?_
        refine lv_iadd hx hb dL_law_345 ?_
        refine lw_sld (v := s1) hx hb hX hbl hbA hS hin1 hs1 dL_law_346 ?_
        refine rg1 (J := 355) (st := [.ref q0]) w1 (fun k => ?_) ?_
        · refine lv_if_eq (tgt := 354) hx hb dL_law_347 (by decide) (fun c_ => ?_) (fun c_ => ?_)
          · refine lv_iconst (v := 0) hx hb dL_law_354 (by decide) ?_
            exact rg_e k (by rw [hw1, if_pos c_])
          · refine lv_iconst (v := 1) hx hb dL_law_350 (by decide) ?_
            refine lv_goto (tgt := 355) hx hb dL_law_351 (by decide) ?_
            exact rg_e k (by rw [hw1, if_neg c_])
        refine lv_aload_n hx hb dL_law_355 rfl (lv_at hl 1 rfl) ?_
        refine lv_iload hx hb dL_law_356 (lv_at hl 0 rfl) ?_
        refine lv_iconst (v := 2) hx hb dL_law_358 (by decide) ?_
        refine lv_iadd hx hb dL_law_359 ?_
        refine lw_sld (v := s2) hx hb hX hbl hbA hS hin2 hs2 dL_law_360 ?_
        refine rg1 (J := 369) (st := [.int w1, .ref q0]) w2 (fun k => ?_) ?_
        · refine lv_if_eq (tgt := 368) hx hb dL_law_361 (by decide) (fun c_ => ?_) (fun c_ => ?_)
          · refine lv_iconst (v := 0) hx hb dL_law_368 (by decide) ?_
            exact rg_e k (by rw [hw2, if_pos c_])
          · refine lv_iconst (v := 1) hx hb dL_law_364 (by decide) ?_
            refine lv_goto (tgt := 369) hx hb dL_law_365 (by decide) ?_
            exact rg_e k (by rw [hw2, if_neg c_])
        refine lv_aload_n hx hb dL_law_369 rfl (lv_at hl 1 rfl) ?_
        refine lv_iload hx hb dL_law_370 (lv_at hl 0 rfl) ?_
        refine lv_iconst (v := 3) hx hb dL_law_372 (by decide) ?_
        refine lv_iadd hx hb dL_law_373 ?_
        refine lw_sld (v := s3) hx hb hX hbl hbA hS hin3 hs3 dL_law_374 ?_
        refine lv_aload_n hx hb dL_law_375 rfl (lv_at hl 1 rfl) ?_
        refine lv_iload hx hb dL_law_376 (lv_at hl 0 rfl) ?_
        refine lv_iconst (v := 4) hx hb dL_law_378 (by decide) ?_
        refine lv_iadd hx hb dL_law_379 ?_
        refine lw_sld (v := s4) hx hb hX hbl hbA hS hin4 hs4 dL_law_380 ?_
        have hPc := hP.sub (ws' := [(q0, .inr (1, [.int (nI n)]))]) [0] rfl
        have hKc := hK.sub (tys' := []) [] rfl
        have hDc := hD.sub (ws' := [(q0, .inr (1, [.int (nI n)]))]) [0] (by decide) rfl
        refine lw_c0i (va_runV (As := [.int w1, .int w2, .int s3, .int s4]) (rest := []) ⟨hx, hb, hml, hown, hts⟩ (p_X0_multiply l dC dI q0 _ (nI n) w1 w2 s3 s4) (cwV 4 hts gL_law_X0_multiply rfl rfl rfl (by decide +kernel) ⟨Nat.le_of_ble_eq_true rfl, Nat.le_of_ble_eq_true rfl⟩) (wr_preV (ci := 1) rfl hKc hPc hDc) rfl rfl hl.1 rfl (lv_room (Nat.le_of_ble_eq_true rfl)) dL_law_381 ⟨hcl0, hsl0⟩) hP hD hS hA (fun r1 u1 H locs hu1 hP hD hS => ?_)
        obtain ⟨er1, hu1⟩ := hu1
        have hP : va_P (dC, dI) vwCl (lw_V q0 q1 q2 cA u1 cd (nI n) al g) H := hP
        have hD : va_D (fun q : Nat => s.heap.size ≤ q) (lw_V q0 q1 q2 cA u1 cd (nI n) al g) := hD
        refine lv_aload_n hx hb dL_law_384 rfl (lv_at hl 3 rfl) ?_
        refine lv_aload_n hx hb dL_law_385 rfl (lv_at hl 1 rfl) ?_
        refine lv_iload hx hb dL_law_386 (lv_at hl 0 rfl) ?_
        refine lv_iconst (v := 1) hx hb dL_law_388 (by decide) ?_
        refine lv_iadd hx hb dL_law_389 ?_
        refine lw_sld (v := s1) hx hb hX hbl hbA hS hin1 hs1 dL_law_390 ?_
        refine rg1 (J := 399) (st := [.ref q1, .int r1]) w1 (fun k => ?_) ?_
        · refine lv_if_eq (tgt := 398) hx hb dL_law_391 (by decide) (fun c_ => ?_) (fun c_ => ?_)
          · refine lv_iconst (v := 0) hx hb dL_law_398 (by decide) ?_
            exact rg_e k (by rw [hw1, if_pos c_])
          · refine lv_iconst (v := 1) hx hb dL_law_394 (by decide) ?_
            refine lv_goto (tgt := 399) hx hb dL_law_395 (by decide) ?_
            exact rg_e k (by rw [hw1, if_neg c_])
        refine lv_aload_n hx hb dL_law_399 rfl (lv_at hl 1 rfl) ?_
        refine lv_iload hx hb dL_law_400 (lv_at hl 0 rfl) ?_
        refine lv_iconst (v := 2) hx hb dL_law_402 (by decide) ?_
        refine lv_iadd hx hb dL_law_403 ?_
        refine lw_sld (v := s2) hx hb hX hbl hbA hS hin2 hs2 dL_law_404 ?_
        refine rg1 (J := 413) (st := [.int w1, .ref q1, .int r1]) w2 (fun k => ?_) ?_
        · refine lv_if_eq (tgt := 412) hx hb dL_law_405 (by decide) (fun c_ => ?_) (fun c_ => ?_)
          · refine lv_iconst (v := 0) hx hb dL_law_412 (by decide) ?_
            exact rg_e k (by rw [hw2, if_pos c_])
          · refine lv_iconst (v := 1) hx hb dL_law_408 (by decide) ?_
            refine lv_goto (tgt := 413) hx hb dL_law_409 (by decide) ?_
            exact rg_e k (by rw [hw2, if_neg c_])
        refine lv_aload_n hx hb dL_law_413 rfl (lv_at hl 1 rfl) ?_
        refine lv_iload hx hb dL_law_414 (lv_at hl 0 rfl) ?_
        refine lv_iconst (v := 3) hx hb dL_law_416 (by decide) ?_
        refine lv_iadd hx hb dL_law_417 ?_
        refine lw_sld (v := s3) hx hb hX hbl hbA hS hin3 hs3 dL_law_418 ?_
        refine lv_aload_n hx hb dL_law_419 rfl (lv_at hl 1 rfl) ?_
        refine lv_iload hx hb dL_law_420 (lv_at hl 0 rfl) ?_
        refine lv_iconst (v := 4) hx hb dL_law_422 (by decide) ?_
        refine lv_iadd hx hb dL_law_423 ?_
        refine lw_sld (v := s4) hx hb hX hbl hbA hS hin4 hs4 dL_law_424 ?_
        have hPc := hP.sub (ws' := [(q1, .inr (2, [.int cd, .int (nI n), .int al]))]) [1] rfl
        have hKc := hK.sub (tys' := []) [] rfl
        have hDc := hD.sub (ws' := [(q1, .inr (2, [.int cd, .int (nI n), .int al]))]) [1] (by decide) rfl
        refine lw_c1i (va_runV (As := [.int w1, .int w2, .int s3, .int s4]) (rest := [.int r1]) ⟨hx, hb, hml, hown, hts⟩ (p_X1_multiply l dC dI q1 _ cd (nI n) al w1 w2 s3 s4) (cwV 4 hts gL_law_X1_multiply rfl rfl rfl (by decide +kernel) ⟨Nat.le_of_ble_eq_true rfl, Nat.le_of_ble_eq_true rfl⟩) (wr_preV (ci := 2) rfl hKc hPc hDc) rfl rfl hl.1 rfl (lv_room (Nat.le_of_ble_eq_true rfl)) dL_law_425 ⟨hcl0, hsl0⟩) hP hD hS hA (fun r2 u2 H locs hu2 hP hD hS => ?_)
        obtain ⟨er2, hu2⟩ := hu2
        have hP : va_P (dC, dI) vwCl (lw_V q0 q1 q2 cA u1 u2.1 u2.2.1 u2.2.2 g) H := hP
        have hD : va_D (fun q : Nat => s.heap.size ≤ q) (lw_V q0 q1 q2 cA u1 u2.1 u2.2.1 u2.2.2 g) := hD
        obtain ⟨e1_, m1, hm1, e2_, e3_⟩ := mul_eq w1 w2 s3 s4 hn
        refine lv_icmp_eq (tgt := 753) hx hb dL_law_428 (by decide) (fun c_ => ?_) (fun c_ => ?_)
        · skip
          have e4_ : u1 = nI m1 := hu1.trans e2_
          have e5_ : u2.2.1 = nI m1 := by rw [hu2]; exact e3_
          rw [e4_, e5_] at hP hD
          refine lv_iinc (v := nI (5 * (j + 1))) (lv' := [(4, .int (nI (5 * (j + 1)))), (0, .ref b), (1, .ref q0), (2, .ref q1), (3, .ref q2)]) hx hb dL_law_753 hl (k := 0) rfl hx5 (by decide) rfl (fun ls hl => ?_)
          refine lv_goto (tgt := 23) hx hb dL_law_756 (by decide) ?_
          refine W.widen (k := 3 + (j + 1)) (n := 5 + 6 * (j + 1)) (by omega) (by omega) ?_
          exact ih (j + 1) m1 u2.1 u2.2.2 g H locs ls (by omega) (by omega) hm1 hP hD hS (lv_sub hl [0, 1, 2, 3, 4] rfl)
        · exact absurd (by rw [er1, er2]; exact e1_) c_
      by_cases c5 : y0 = 5
      · refine lv_tableIn (off := 394) (tgt := 433) hx hb dL_law_39 (by rw [c5]; decide) (by rw [c5]; decide) (by rw [c5]; rfl) (by decide) ?_
        refine lv_aload_n hx hb dL_law_433 rfl (lv_at hl 2 rfl) ?_
        refine lv_aload_n hx hb dL_law_434 rfl (lv_at hl 1 rfl) ?_
        refine lv_iload hx hb dL_law_435 (lv_at hl 0 rfl) ?_
        refine lv_iconst (v := 1) hx hb dL_law_437 (by decide) ?_
        refine lv_iadd hx hb dL_law_438 ?_
        refine lw_sld (v := s1) hx hb hX hbl hbA hS hin1 hs1 dL_law_439 ?_
        refine rg1 (J := 448) (st := [.ref q0]) w1 (fun k => ?_) ?_
        · refine lv_if_eq (tgt := 447) hx hb dL_law_440 (by decide) (fun c_ => ?_) (fun c_ => ?_)
          · refine lv_iconst (v := 0) hx hb dL_law_447 (by decide) ?_
            exact rg_e k (by rw [hw1, if_pos c_])
          · refine lv_iconst (v := 1) hx hb dL_law_443 (by decide) ?_
            refine lv_goto (tgt := 448) hx hb dL_law_444 (by decide) ?_
            exact rg_e k (by rw [hw1, if_neg c_])
        refine lv_aload_n hx hb dL_law_448 rfl (lv_at hl 1 rfl) ?_
        refine lv_iload hx hb dL_law_449 (lv_at hl 0 rfl) ?_
        refine lv_iconst (v := 2) hx hb dL_law_451 (by decide) ?_
        refine lv_iadd hx hb dL_law_452 ?_
        refine lw_sld (v := s2) hx hb hX hbl hbA hS hin2 hs2 dL_law_453 ?_
        refine rg1 (J := 462) (st := [.int w1, .ref q0]) w2 (fun k => ?_) ?_
        · refine lv_if_eq (tgt := 461) hx hb dL_law_454 (by decide) (fun c_ => ?_) (fun c_ => ?_)
          · refine lv_iconst (v := 0) hx hb dL_law_461 (by decide) ?_
            exact rg_e k (by rw [hw2, if_pos c_])
          · refine lv_iconst (v := 1) hx hb dL_law_457 (by decide) ?_
            refine lv_goto (tgt := 462) hx hb dL_law_458 (by decide) ?_
            exact rg_e k (by rw [hw2, if_neg c_])
        refine lv_aload_n hx hb dL_law_462 rfl (lv_at hl 1 rfl) ?_
        refine lv_iload hx hb dL_law_463 (lv_at hl 0 rfl) ?_
        refine lv_iconst (v := 3) hx hb dL_law_465 (by decide) ?_
        refine lv_iadd hx hb dL_law_466 ?_
        refine lw_sld (v := s3) hx hb hX hbl hbA hS hin3 hs3 dL_law_467 ?_
        refine lv_aload_n hx hb dL_law_468 rfl (lv_at hl 1 rfl) ?_
        refine lv_iload hx hb dL_law_469 (lv_at hl 0 rfl) ?_
        refine lv_iconst (v := 4) hx hb dL_law_471 (by decide) ?_
        refine lv_iadd hx hb dL_law_472 ?_
        refine lw_sld (v := s4) hx hb hX hbl hbA hS hin4 hs4 dL_law_473 ?_
        refine lv_aload_n hx hb dL_law_474 rfl (lv_at hl 4 rfl) ?_
        have hPc := hP.sub (ws' := lw_W q0 q2 cA (nI n) g) [0, 2] rfl
        have hDc := hD.sub (ws' := lw_W q0 q2 cA (nI n) g) [0, 2] (by decide) rfl
        have hFc := va_free (wc := lw_W q0 q2 cA (nI n) g) hD hS hA [0, 2] rfl
        refine lw_cL (vx_runSX (As := [.ref q0, .int w1, .int w2, .int s3, .int s4, .ref q2]) (rest := []) ⟨hx, hb, hml, hown, hts⟩ (p_L_divide l hst dC dI q0 q2 _ cA (nI n) g w1 w2 s3 s4) (vx_cwSW 6 hts gL_law_L_divide rfl rfl rfl (by decide +kernel) ⟨Nat.le_of_ble_eq_true rfl, Nat.le_of_ble_eq_true rfl⟩) (lwL_preS hK hPc hDc (hth0.kept hS.2.1) hFc hnc) rfl rfl hl.1 rfl (lv_room (Nat.le_of_ble_eq_true rfl)) dL_law_475 ⟨hcl1, hsl1⟩) hP hD hS hA (fun r1 u1 H locs hw hP hD hS => ?_)
        obtain ⟨f1, g1⟩ := u1
        have hP : va_P (dC, dI) vwCl (lw_V q0 q1 q2 cA f1 cd (nI n) al g1) H := hP
        have hD : va_D (fun q : Nat => s.heap.size ≤ q) (lw_V q0 q1 q2 cA f1 cd (nI n) al g1) := hD
        refine lv_istore (lv' := [(5, .int r1), (4, .int x4), (0, .ref b), (1, .ref q0), (2, .ref q1), (3, .ref q2)]) hx hb dL_law_478 hl (by decide) rfl (fun ls hl => ?_)
        refine lv_aload_n hx hb dL_law_480 rfl (lv_at hl 4 rfl) ?_
        refine lv_aload_n hx hb dL_law_481 rfl (lv_at hl 2 rfl) ?_
        refine lv_iload hx hb dL_law_482 (lv_at hl 1 rfl) ?_
        refine lv_iconst (v := 1) hx hb dL_law_484 (by decide) ?_
        refine lv_iadd hx hb dL_law_485 ?_
        refine lw_sld (v := s1) hx hb hX hbl hbA hS hin1 hs1 dL_law_486 ?_
        refine rg1 (J := 495) (st := [.ref q1]) w1 (fun k => ?_) ?_
        · refine lv_if_eq (tgt := 494) hx hb dL_law_487 (by decide) (fun c_ => ?_) (fun c_ => ?_)
          · refine lv_iconst (v := 0) hx hb dL_law_494 (by decide) ?_
            exact rg_e k (by rw [hw1, if_pos c_])
          · refine lv_iconst (v := 1) hx hb dL_law_490 (by decide) ?_
            refine lv_goto (tgt := 495) hx hb dL_law_491 (by decide) ?_
            exact rg_e k (by rw [hw1, if_neg c_])
        refine lv_aload_n hx hb dL_law_495 rfl (lv_at hl 2 rfl) ?_
        refine lv_iload hx hb dL_law_496 (lv_at hl 1 rfl) ?_
        refine lv_iconst (v := 2) hx hb dL_law_498 (by decide) ?_
        refine lv_iadd hx hb dL_law_499 ?_
        refine lw_sld (v := s2) hx hb hX hbl hbA hS hin2 hs2 dL_law_500 ?_
        refine rg1 (J := 509) (st := [.int w1, .ref q1]) w2 (fun k => ?_) ?_
        · refine lv_if_eq (tgt := 508) hx hb dL_law_501 (by decide) (fun c_ => ?_) (fun c_ => ?_)
          · refine lv_iconst (v := 0) hx hb dL_law_508 (by decide) ?_
            exact rg_e k (by rw [hw2, if_pos c_])
          · refine lv_iconst (v := 1) hx hb dL_law_504 (by decide) ?_
            refine lv_goto (tgt := 509) hx hb dL_law_505 (by decide) ?_
            exact rg_e k (by rw [hw2, if_neg c_])
        refine lv_aload_n hx hb dL_law_509 rfl (lv_at hl 2 rfl) ?_
        refine lv_iload hx hb dL_law_510 (lv_at hl 1 rfl) ?_
        refine lv_iconst (v := 3) hx hb dL_law_512 (by decide) ?_
        refine lv_iadd hx hb dL_law_513 ?_
        refine lw_sld (v := s3) hx hb hX hbl hbA hS hin3 hs3 dL_law_514 ?_
        refine lv_aload_n hx hb dL_law_515 rfl (lv_at hl 2 rfl) ?_
        refine lv_iload hx hb dL_law_516 (lv_at hl 1 rfl) ?_
        refine lv_iconst (v := 4) hx hb dL_law_518 (by decide) ?_
        refine lv_iadd hx hb dL_law_519 ?_
        refine lw_sld (v := s4) hx hb hX hbl hbA hS hin4 hs4 dL_law_520 ?_
        have hPc := hP.sub (ws' := [(q1, .inr (2, [.int cd, .int (nI n), .int al]))]) [1] rfl
        have hKc := hK.sub (tys' := []) [] rfl
        have hDc := hD.sub (ws' := [(q1, .inr (2, [.int cd, .int (nI n), .int al]))]) [1] (by decide) rfl
        refine lw_c1i (va_runV (As := [.int w1, .int w2, .int s3, .int s4]) (rest := []) ⟨hx, hb, hml, hown, hts⟩ (p_X1_divide l dC dI q1 _ cd (nI n) al w1 w2 s3 s4) (cwV 4 hts gL_law_X1_divide rfl rfl rfl (by decide +kernel) ⟨Nat.le_of_ble_eq_true rfl, Nat.le_of_ble_eq_true rfl⟩) (wr_preV (ci := 2) rfl hKc hPc hDc) rfl rfl hl.1 rfl (lv_room (Nat.le_of_ble_eq_true rfl)) dL_law_521 ⟨hcl9, hsl9⟩) hP hD hS hA (fun r2 u2 H locs hu2 hP hD hS => ?_)
        obtain ⟨er2, hu2⟩ := hu2
        have hP : va_P (dC, dI) vwCl (lw_V q0 q1 q2 cA f1 u2.1 (nI n) u2.2 g1) H := hP
        have hD : va_D (fun q : Nat => s.heap.size ≤ q) (lw_V q0 q1 q2 cA f1 u2.1 (nI n) u2.2 g1) := hD
        refine lv_istore (lv' := [(6, .int r2), (5, .int r1), (4, .int x4), (0, .ref b), (1, .ref q0), (2, .ref q1), (3, .ref q2)]) hx hb dL_law_524 hl (by decide) rfl (fun ls hl => ?_)
        refine lv_aload_n hx hb dL_law_526 rfl (lv_at hl 5 rfl) ?_
        have hPc := hP.sub (ws' := [(q1, .inr (2, [.int u2.1, .int (nI n), .int u2.2]))]) [1] rfl
        have hKc := hK.sub (tys' := []) [] rfl
        refine pu_calli (F := (f_X1_thrown u2.1)) (va_runV (As := []) (rest := []) ⟨hx, hb, hml, hown, hts⟩ (p_X1_thrown l dC dI q1 _ u2.1 (nI n) u2.2) (cwV 0 hts gL_law_X1_thrown rfl rfl rfl (by decide +kernel) ⟨Nat.le_of_ble_eq_true rfl, Nat.le_of_ble_eq_true rfl⟩) (pu_preV (ci := 2) rfl hKc hPc) rfl rfl hl.1 rfl (lv_room (Nat.le_of_ble_eq_true rfl)) dL_law_527 ⟨hcl9, hsl9⟩) ?_
        obtain ⟨hcd, hBB, hf9⟩ := lw_twoD (div_rel n w1 w2 s3 s4 al) hw
        dsimp only at hBB hf9
        have hcd2 : f_X1_thrown u2.1 = r1 := by show u2.1 = r1; rw [hu2]; exact hcd
        refine lv_iload hx hb dL_law_530 (lv_at hl 1 rfl) ?_
        refine lv_icmp_eq (tgt := 537) hx hb dL_law_532 (by decide) (fun c_ => ?_) (fun c_ => absurd hcd2 c_)
        refine lv_iload hx hb dL_law_537 (lv_at hl 1 rfl) ?_
        refine lv_if_ne (tgt := 554) hx hb dL_law_539 (by decide) (fun c1_ => ?_) (fun c1_ => ?_)
        · skip
          refine lv_goto (tgt := 753) hx hb dL_law_554 (by decide) ?_
          rw [hf9] at hP hD
          refine lv_iinc (v := nI (5 * (j + 1))) (lv' := [(4, .int (nI (5 * (j + 1)))), (6, .int r2), (5, .int r1), (0, .ref b), (1, .ref q0), (2, .ref q1), (3, .ref q2)]) hx hb dL_law_753 hl (k := 2) rfl hx5 (by decide) rfl (fun ls hl => ?_)
          refine lv_goto (tgt := 23) hx hb dL_law_756 (by decide) ?_
          refine W.widen (k := 3 + (j + 1)) (n := 5 + 6 * (j + 1)) (by omega) (by omega) ?_
          exact ih (j + 1) n u2.1 u2.2 g1 H locs ls (by omega) (by omega) hn hP hD hS (lv_sub hl [0, 3, 4, 5, 6] rfl)
        · skip
          refine lv_aload_n hx hb dL_law_542 rfl (lv_at hl 6 rfl) ?_
          refine lv_iconst (v := 0) hx hb dL_law_543 (by decide) ?_
          refine va_lald (D := (dC, dI)) hx hb hK hP 2 0 rfl rfl (vp_in_nI (n := 0) (by decide) (by decide)) dL_law_544 ?_
          refine lv_iload hx hb dL_law_545 (lv_at hl 0 rfl) ?_
          refine lv_i2l (v := r2.toInt64) hx hb dL_law_547 rfl ?_
          refine W.lcmp hx hb dL_law_548 ?_
          refine lv_if_eq (tgt := 554) hx hb dL_law_549 (by decide) (fun c2_ => ?_) (fun c2_ => absurd ((lg_cmp_eq _ _).mpr (by rw [hBB c1_, er2])) c2_)
          refine lv_goto (tgt := 753) hx hb dL_law_554 (by decide) ?_
          rw [hf9] at hP hD
          refine lv_iinc (v := nI (5 * (j + 1))) (lv' := [(4, .int (nI (5 * (j + 1)))), (6, .int r2), (5, .int r1), (0, .ref b), (1, .ref q0), (2, .ref q1), (3, .ref q2)]) hx hb dL_law_753 hl (k := 2) rfl hx5 (by decide) rfl (fun ls hl => ?_)
          refine lv_goto (tgt := 23) hx hb dL_law_756 (by decide) ?_
          refine W.widen (k := 3 + (j + 1)) (n := 5 + 6 * (j + 1)) (by omega) (by omega) ?_
          exact ih (j + 1) n u2.1 u2.2 g1 H locs ls (by omega) (by omega) hn hP hD hS (lv_sub hl [0, 3, 4, 5, 6] rfl)
      by_cases c6 : y0 = 6
      · refine lv_tableIn (off := 518) (tgt := 557) hx hb dL_law_39 (by rw [c6]; decide) (by rw [c6]; decide) (by rw [c6]; rfl) (by decide) ?_
        refine lv_aload_n hx hb dL_law_557 rfl (lv_at hl 2 rfl) ?_
        refine lv_aload_n hx hb dL_law_558 rfl (lv_at hl 1 rfl) ?_
        refine lv_iload hx hb dL_law_559 (lv_at hl 0 rfl) ?_
        refine lv_iconst (v := 1) hx hb dL_law_561 (by decide) ?_
        refine lv_iadd hx hb dL_law_562 ?_
        refine lw_sld (v := s1) hx hb hX hbl hbA hS hin1 hs1 dL_law_563 ?_
        refine lv_aload_n hx hb dL_law_564 rfl (lv_at hl 1 rfl) ?_
        refine lv_iload hx hb dL_law_565 (lv_at hl 0 rfl) ?_
        refine lv_iconst (v := 2) hx hb dL_law_567 (by decide) ?_
        refine lv_iadd hx hb dL_law_568 ?_
        refine lw_sld (v := s2) hx hb hX hbl hbA hS hin2 hs2 dL_law_569 ?_
        refine lv_aload_n hx hb dL_law_570 rfl (lv_at hl 1 rfl) ?_
        refine lv_iload hx hb dL_law_571 (lv_at hl 0 rfl) ?_
        refine lv_iconst (v := 3) hx hb dL_law_573 (by decide) ?_
        refine lv_iadd hx hb dL_law_574 ?_
        refine lw_sld (v := s3) hx hb hX hbl hbA hS hin3 hs3 dL_law_575 ?_
        refine lv_aload_n hx hb dL_law_576 rfl (lv_at hl 4 rfl) ?_
        have hPc := hP.sub (ws' := lw_W q0 q2 cA (nI n) g) [0, 2] rfl
        have hDc := hD.sub (ws' := lw_W q0 q2 cA (nI n) g) [0, 2] (by decide) rfl
        have hFc := va_free (wc := lw_W q0 q2 cA (nI n) g) hD hS hA [0, 2] rfl
        refine lw_cL (vx_runSX (As := [.ref q0, .int s1, .int s2, .int s3, .ref q2]) (rest := []) ⟨hx, hb, hml, hown, hts⟩ (p_L_adjust l hst dC dI q0 q2 _ cA (nI n) g s1 s2 s3) (vx_cwSW 5 hts gL_law_L_adjust rfl rfl rfl (by decide +kernel) ⟨Nat.le_of_ble_eq_true rfl, Nat.le_of_ble_eq_true rfl⟩) (lwL_preS hK hPc hDc (hth0.kept hS.2.1) hFc hnc) rfl rfl hl.1 rfl (lv_room (Nat.le_of_ble_eq_true rfl)) dL_law_577 ⟨hcl1, hsl1⟩) hP hD hS hA (fun r1 u1 H locs hw hP hD hS => ?_)
        obtain ⟨f1, g1⟩ := u1
        have hP : va_P (dC, dI) vwCl (lw_V q0 q1 q2 cA f1 cd (nI n) al g1) H := hP
        have hD : va_D (fun q : Nat => s.heap.size ≤ q) (lw_V q0 q1 q2 cA f1 cd (nI n) al g1) := hD
        refine lv_istore (lv' := [(5, .int r1), (4, .int x4), (0, .ref b), (1, .ref q0), (2, .ref q1), (3, .ref q2)]) hx hb dL_law_580 hl (by decide) rfl (fun ls hl => ?_)
        refine lv_aload_n hx hb dL_law_582 rfl (lv_at hl 4 rfl) ?_
        refine lv_aload_n hx hb dL_law_583 rfl (lv_at hl 2 rfl) ?_
        refine lv_iload hx hb dL_law_584 (lv_at hl 1 rfl) ?_
        refine lv_iconst (v := 1) hx hb dL_law_586 (by decide) ?_
        refine lv_iadd hx hb dL_law_587 ?_
        refine lw_sld (v := s1) hx hb hX hbl hbA hS hin1 hs1 dL_law_588 ?_
        refine lv_aload_n hx hb dL_law_589 rfl (lv_at hl 2 rfl) ?_
        refine lv_iload hx hb dL_law_590 (lv_at hl 1 rfl) ?_
        refine lv_iconst (v := 2) hx hb dL_law_592 (by decide) ?_
        refine lv_iadd hx hb dL_law_593 ?_
        refine lw_sld (v := s2) hx hb hX hbl hbA hS hin2 hs2 dL_law_594 ?_
        refine lv_aload_n hx hb dL_law_595 rfl (lv_at hl 2 rfl) ?_
        refine lv_iload hx hb dL_law_596 (lv_at hl 1 rfl) ?_
        refine lv_iconst (v := 3) hx hb dL_law_598 (by decide) ?_
        refine lv_iadd hx hb dL_law_599 ?_
        refine lw_sld (v := s3) hx hb hX hbl hbA hS hin3 hs3 dL_law_600 ?_
        have hPc := hP.sub (ws' := [(q1, .inr (2, [.int cd, .int (nI n), .int al]))]) [1] rfl
        have hKc := hK.sub (tys' := []) [] rfl
        have hDc := hD.sub (ws' := [(q1, .inr (2, [.int cd, .int (nI n), .int al]))]) [1] (by decide) rfl
        refine lw_c1i (va_runV (As := [.int s1, .int s2, .int s3]) (rest := []) ⟨hx, hb, hml, hown, hts⟩ (p_X1_adjust l dC dI q1 _ cd (nI n) al s1 s2 s3) (cwV 3 hts gL_law_X1_adjust rfl rfl rfl (by decide +kernel) ⟨Nat.le_of_ble_eq_true rfl, Nat.le_of_ble_eq_true rfl⟩) (wr_preV (ci := 2) rfl hKc hPc hDc) rfl rfl hl.1 rfl (lv_room (Nat.le_of_ble_eq_true rfl)) dL_law_601 ⟨hcl9, hsl9⟩) hP hD hS hA (fun r2 u2 H locs hu2 hP hD hS => ?_)
        obtain ⟨er2, hu2⟩ := hu2
        have hP : va_P (dC, dI) vwCl (lw_V q0 q1 q2 cA f1 u2.1 u2.2.1 u2.2.2 g1) H := hP
        have hD : va_D (fun q : Nat => s.heap.size ≤ q) (lw_V q0 q1 q2 cA f1 u2.1 u2.2.1 u2.2.2 g1) := hD
        refine lv_istore (lv' := [(6, .int r2), (5, .int r1), (4, .int x4), (0, .ref b), (1, .ref q0), (2, .ref q1), (3, .ref q2)]) hx hb dL_law_604 hl (by decide) rfl (fun ls hl => ?_)
        refine lv_aload_n hx hb dL_law_606 rfl (lv_at hl 5 rfl) ?_
        have hPc := hP.sub (ws' := [(q1, .inr (2, [.int u2.1, .int u2.2.1, .int u2.2.2]))]) [1] rfl
        have hKc := hK.sub (tys' := []) [] rfl
        refine pu_calli (F := (f_X1_thrown u2.1)) (va_runV (As := []) (rest := []) ⟨hx, hb, hml, hown, hts⟩ (p_X1_thrown l dC dI q1 _ u2.1 u2.2.1 u2.2.2) (cwV 0 hts gL_law_X1_thrown rfl rfl rfl (by decide +kernel) ⟨Nat.le_of_ble_eq_true rfl, Nat.le_of_ble_eq_true rfl⟩) (pu_preV (ci := 2) rfl hKc hPc) rfl rfl hl.1 rfl (lv_room (Nat.le_of_ble_eq_true rfl)) dL_law_607 ⟨hcl9, hsl9⟩) ?_
        obtain ⟨hcd, hBB, mm, hmm, hf9, hfl9⟩ := lw_two hn (adj_rel hn al s1 s2 s3) (fun h => ⟨rfl, h⟩) hw
        dsimp only at hBB hf9
        have hcd2 : f_X1_thrown u2.1 = r1 := by show u2.1 = r1; rw [hu2]; exact hcd
        have hfl2 : u2.2.1 = nI mm := by rw [hu2]; exact hfl9
        refine lv_iload hx hb dL_law_610 (lv_at hl 1 rfl) ?_
        refine lv_icmp_eq (tgt := 617) hx hb dL_law_612 (by decide) (fun c_ => ?_) (fun c_ => absurd hcd2 c_)
        refine lv_iload hx hb dL_law_617 (lv_at hl 1 rfl) ?_
        refine lv_if_ne (tgt := 634) hx hb dL_law_619 (by decide) (fun c1_ => ?_) (fun c1_ => ?_)
        · skip
          refine lv_goto (tgt := 753) hx hb dL_law_634 (by decide) ?_
          rw [hf9, hfl2] at hP hD
          refine lv_iinc (v := nI (5 * (j + 1))) (lv' := [(4, .int (nI (5 * (j + 1)))), (6, .int r2), (5, .int r1), (0, .ref b), (1, .ref q0), (2, .ref q1), (3, .ref q2)]) hx hb dL_law_753 hl (k := 2) rfl hx5 (by decide) rfl (fun ls hl => ?_)
          refine lv_goto (tgt := 23) hx hb dL_law_756 (by decide) ?_
          refine W.widen (k := 3 + (j + 1)) (n := 5 + 6 * (j + 1)) (by omega) (by omega) ?_
          exact ih (j + 1) mm u2.1 u2.2.2 g1 H locs ls (by omega) (by omega) hmm hP hD hS (lv_sub hl [0, 3, 4, 5, 6] rfl)
        · skip
          refine lv_aload_n hx hb dL_law_622 rfl (lv_at hl 6 rfl) ?_
          refine lv_iconst (v := 0) hx hb dL_law_623 (by decide) ?_
          refine va_lald (D := (dC, dI)) hx hb hK hP 2 0 rfl rfl (vp_in_nI (n := 0) (by decide) (by decide)) dL_law_624 ?_
          refine lv_iload hx hb dL_law_625 (lv_at hl 0 rfl) ?_
          refine lv_i2l (v := r2.toInt64) hx hb dL_law_627 rfl ?_
          refine W.lcmp hx hb dL_law_628 ?_
          refine lv_if_eq (tgt := 634) hx hb dL_law_629 (by decide) (fun c2_ => ?_) (fun c2_ => absurd ((lg_cmp_eq _ _).mpr (by rw [hBB c1_, er2])) c2_)
          refine lv_goto (tgt := 753) hx hb dL_law_634 (by decide) ?_
          rw [hf9, hfl2] at hP hD
          refine lv_iinc (v := nI (5 * (j + 1))) (lv' := [(4, .int (nI (5 * (j + 1)))), (6, .int r2), (5, .int r1), (0, .ref b), (1, .ref q0), (2, .ref q1), (3, .ref q2)]) hx hb dL_law_753 hl (k := 2) rfl hx5 (by decide) rfl (fun ls hl => ?_)
          refine lv_goto (tgt := 23) hx hb dL_law_756 (by decide) ?_
          refine W.widen (k := 3 + (j + 1)) (n := 5 + 6 * (j + 1)) (by omega) (by omega) ?_
          exact ih (j + 1) mm u2.1 u2.2.2 g1 H locs ls (by omega) (by omega) hmm hP hD hS (lv_sub hl [0, 3, 4, 5, 6] rfl)
      by_cases c7 : y0 = 7
      · refine lv_tableIn (off := 598) (tgt := 637) hx hb dL_law_39 (by rw [c7]; decide) (by rw [c7]; decide) (by rw [c7]; rfl) (by decide) ?_
        refine lv_aload_n hx hb dL_law_637 rfl (lv_at hl 2 rfl) ?_
        refine lv_aload_n hx hb dL_law_638 rfl (lv_at hl 1 rfl) ?_
        refine lv_iload hx hb dL_law_639 (lv_at hl 0 rfl) ?_
        refine lv_iconst (v := 1) hx hb dL_law_641 (by decide) ?_
        refine lv_iadd hx hb dL_law_642 ?_
        refine lw_sld (v := s1) hx hb hX hbl hbA hS hin1 hs1 dL_law_643 ?_
        refine rg1 (J := 652) (st := [.ref q0]) w1 (fun k => ?_) ?_
        · refine lv_if_eq (tgt := 651) hx hb dL_law_644 (by decide) (fun c_ => ?_) (fun c_ => ?_)
          · refine lv_iconst (v := 0) hx hb dL_law_651 (by decide) ?_
            exact rg_e k (by rw [hw1, if_pos c_])
          · refine lv_iconst (v := 1) hx hb dL_law_647 (by decide) ?_
            refine lv_goto (tgt := 652) hx hb dL_law_648 (by decide) ?_
            exact rg_e k (by rw [hw1, if_neg c_])
        refine lv_aload_n hx hb dL_law_652 rfl (lv_at hl 1 rfl) ?_
        refine lv_iload hx hb dL_law_653 (lv_at hl 0 rfl) ?_
        refine lv_iconst (v := 2) hx hb dL_law_655 (by decide) ?_
        refine lv_iadd hx hb dL_law_656 ?_
        refine lw_sld (v := s2) hx hb hX hbl hbA hS hin2 hs2 dL_law_657 ?_
        have hPc := hP.sub (ws' := [(q0, .inr (1, [.int (nI n)]))]) [0] rfl
        have hKc := hK.sub (tys' := []) [] rfl
        refine pu_calli (F := (f_X0_extend w1 s2)) (va_runV (As := [.int w1, .int s2]) (rest := []) ⟨hx, hb, hml, hown, hts⟩ (p_X0_extend l dC dI q0 _ (nI n) w1 s2) (cwV 2 hts gL_law_X0_extend rfl rfl rfl (by decide +kernel) ⟨Nat.le_of_ble_eq_true rfl, Nat.le_of_ble_eq_true rfl⟩) (pu_preV (ci := 1) rfl hKc hPc) rfl rfl hl.1 rfl (lv_room (Nat.le_of_ble_eq_true rfl)) dL_law_658 ⟨hcl0, hsl0⟩) ?_
        refine lv_aload_n hx hb dL_law_661 rfl (lv_at hl 3 rfl) ?_
        refine lv_aload_n hx hb dL_law_662 rfl (lv_at hl 1 rfl) ?_
        refine lv_iload hx hb dL_law_663 (lv_at hl 0 rfl) ?_
        refine lv_iconst (v := 1) hx hb dL_law_665 (by decide) ?_
        refine lv_iadd hx hb dL_law_666 ?_
        refine lw_sld (v := s1) hx hb hX hbl hbA hS hin1 hs1 dL_law_667 ?_
        refine rg1 (J := 676) (st := [.ref q1, .int (f_X0_extend w1 s2)]) w1 (fun k => ?_) ?_
        · refine lv_if_eq (tgt := 675) hx hb dL_law_668 (by decide) (fun c_ => ?_) (fun c_ => ?_)
          · refine lv_iconst (v := 0) hx hb dL_law_675 (by decide) ?_
            exact rg_e k (by rw [hw1, if_pos c_])
          · refine lv_iconst (v := 1) hx hb dL_law_671 (by decide) ?_
            refine lv_goto (tgt := 676) hx hb dL_law_672 (by decide) ?_
            exact rg_e k (by rw [hw1, if_neg c_])
        refine lv_aload_n hx hb dL_law_676 rfl (lv_at hl 1 rfl) ?_
        refine lv_iload hx hb dL_law_677 (lv_at hl 0 rfl) ?_
        refine lv_iconst (v := 2) hx hb dL_law_679 (by decide) ?_
        refine lv_iadd hx hb dL_law_680 ?_
        refine lw_sld (v := s2) hx hb hX hbl hbA hS hin2 hs2 dL_law_681 ?_
        have hPc := hP.sub (ws' := [(q1, .inr (2, [.int cd, .int (nI n), .int al]))]) [1] rfl
        have hKc := hK.sub (tys' := []) [] rfl
        have hDc := hD.sub (ws' := [(q1, .inr (2, [.int cd, .int (nI n), .int al]))]) [1] (by decide) rfl
        refine lw_c1i (va_runV (As := [.int w1, .int s2]) (rest := [.int (f_X0_extend w1 s2)]) ⟨hx, hb, hml, hown, hts⟩ (p_X1_extend l dC dI q1 _ cd (nI n) al w1 s2) (cwV 2 hts gL_law_X1_extend rfl rfl rfl (by decide +kernel) ⟨Nat.le_of_ble_eq_true rfl, Nat.le_of_ble_eq_true rfl⟩) (wr_preV (ci := 2) rfl hKc hPc hDc) rfl rfl hl.1 rfl (lv_room (Nat.le_of_ble_eq_true rfl)) dL_law_682 ⟨hcl0, hsl0⟩) hP hD hS hA (fun r2 u2 H locs hu2 hP hD hS => ?_)
        obtain ⟨er2, hu2⟩ := hu2
        have hP : va_P (dC, dI) vwCl (lw_V q0 q1 q2 cA (nI n) u2.1 (nI n) u2.2 g) H := hP
        have hD : va_D (fun q : Nat => s.heap.size ≤ q) (lw_V q0 q1 q2 cA (nI n) u2.1 (nI n) u2.2 g) := hD
        refine lv_icmp_eq (tgt := 753) hx hb dL_law_685 (by decide) (fun c_ => ?_) (fun c_ => ?_)
        · skip
          refine lv_iinc (v := nI (5 * (j + 1))) (lv' := [(4, .int (nI (5 * (j + 1)))), (0, .ref b), (1, .ref q0), (2, .ref q1), (3, .ref q2)]) hx hb dL_law_753 hl (k := 0) rfl hx5 (by decide) rfl (fun ls hl => ?_)
          refine lv_goto (tgt := 23) hx hb dL_law_756 (by decide) ?_
          refine W.widen (k := 3 + (j + 1)) (n := 5 + 6 * (j + 1)) (by omega) (by omega) ?_
          exact ih (j + 1) n u2.1 u2.2 g H locs ls (by omega) (by omega) hn hP hD hS (lv_sub hl [0, 1, 2, 3, 4] rfl)
        · exact absurd (by rw [er2]; exact ext_eq w1 s2) c_
      by_cases c8 : y0 = 8
      · refine lv_tableIn (off := 651) (tgt := 690) hx hb dL_law_39 (by rw [c8]; decide) (by rw [c8]; decide) (by rw [c8]; rfl) (by decide) ?_
        refine lv_aload_n hx hb dL_law_690 rfl (lv_at hl 2 rfl) ?_
        refine lv_aload_n hx hb dL_law_691 rfl (lv_at hl 1 rfl) ?_
        refine lv_iload hx hb dL_law_692 (lv_at hl 0 rfl) ?_
        refine lv_iconst (v := 1) hx hb dL_law_694 (by decide) ?_
        refine lv_iadd hx hb dL_law_695 ?_
        refine lw_sld (v := s1) hx hb hX hbl hbA hS hin1 hs1 dL_law_696 ?_
        refine lv_aload_n hx hb dL_law_697 rfl (lv_at hl 4 rfl) ?_
        have hPc := hP.sub (ws' := lw_W q0 q2 cA (nI n) g) [0, 2] rfl
        have hDc := hD.sub (ws' := lw_W q0 q2 cA (nI n) g) [0, 2] (by decide) rfl
        have hFc := va_free (wc := lw_W q0 q2 cA (nI n) g) hD hS hA [0, 2] rfl
        refine lw_cL (vx_runSX (As := [.ref q0, .int s1, .ref q2]) (rest := []) ⟨hx, hb, hml, hown, hts⟩ (p_L_holds l hst dC dI q0 q2 _ cA (nI n) g s1) (vx_cwSW 3 hts gL_law_L_holds rfl rfl rfl (by decide +kernel) ⟨Nat.le_of_ble_eq_true rfl, Nat.le_of_ble_eq_true rfl⟩) (lwL_preS hK hPc hDc (hth0.kept hS.2.1) hFc hnc) rfl rfl hl.1 rfl (lv_room (Nat.le_of_ble_eq_true rfl)) dL_law_698 ⟨hcl1, hsl1⟩) hP hD hS hA (fun r1 u1 H locs hw hP hD hS => ?_)
        obtain ⟨f1, g1⟩ := u1
        have hP : va_P (dC, dI) vwCl (lw_V q0 q1 q2 cA f1 cd (nI n) al g1) H := hP
        have hD : va_D (fun q : Nat => s.heap.size ≤ q) (lw_V q0 q1 q2 cA f1 cd (nI n) al g1) := hD
        refine lv_istore (lv' := [(5, .int r1), (4, .int x4), (0, .ref b), (1, .ref q0), (2, .ref q1), (3, .ref q2)]) hx hb dL_law_701 hl (by decide) rfl (fun ls hl => ?_)
        refine lv_aload_n hx hb dL_law_703 rfl (lv_at hl 4 rfl) ?_
        refine lv_aload_n hx hb dL_law_704 rfl (lv_at hl 2 rfl) ?_
        refine lv_iload hx hb dL_law_705 (lv_at hl 1 rfl) ?_
        refine lv_iconst (v := 1) hx hb dL_law_707 (by decide) ?_
        refine lv_iadd hx hb dL_law_708 ?_
        refine lw_sld (v := s1) hx hb hX hbl hbA hS hin1 hs1 dL_law_709 ?_
        have hPc := hP.sub (ws' := [(q1, .inr (2, [.int cd, .int (nI n), .int al]))]) [1] rfl
        have hKc := hK.sub (tys' := []) [] rfl
        have hDc := hD.sub (ws' := [(q1, .inr (2, [.int cd, .int (nI n), .int al]))]) [1] (by decide) rfl
        refine lw_c1i (va_runV (As := [.int s1]) (rest := []) ⟨hx, hb, hml, hown, hts⟩ (p_X1_holds l dC dI q1 _ cd (nI n) al s1) (cwV 1 hts gL_law_X1_holds rfl rfl rfl (by decide +kernel) ⟨Nat.le_of_ble_eq_true rfl, Nat.le_of_ble_eq_true rfl⟩) (wr_preV (ci := 2) rfl hKc hPc hDc) rfl rfl hl.1 rfl (lv_room (Nat.le_of_ble_eq_true rfl)) dL_law_710 ⟨hcl9, hsl9⟩) hP hD hS hA (fun r2 u2 H locs hu2 hP hD hS => ?_)
        obtain ⟨er2, hu2⟩ := hu2
        have hP : va_P (dC, dI) vwCl (lw_V q0 q1 q2 cA f1 u2 (nI n) al g1) H := hP
        have hD : va_D (fun q : Nat => s.heap.size ≤ q) (lw_V q0 q1 q2 cA f1 u2 (nI n) al g1) := hD
        refine lv_istore (lv' := [(6, .int r2), (5, .int r1), (4, .int x4), (0, .ref b), (1, .ref q0), (2, .ref q1), (3, .ref q2)]) hx hb dL_law_713 hl (by decide) rfl (fun ls hl => ?_)
        refine lv_aload_n hx hb dL_law_715 rfl (lv_at hl 5 rfl) ?_
        have hPc := hP.sub (ws' := [(q1, .inr (2, [.int u2, .int (nI n), .int al]))]) [1] rfl
        have hKc := hK.sub (tys' := []) [] rfl
        refine pu_calli (F := (f_X1_thrown u2)) (va_runV (As := []) (rest := []) ⟨hx, hb, hml, hown, hts⟩ (p_X1_thrown l dC dI q1 _ u2 (nI n) al) (cwV 0 hts gL_law_X1_thrown rfl rfl rfl (by decide +kernel) ⟨Nat.le_of_ble_eq_true rfl, Nat.le_of_ble_eq_true rfl⟩) (pu_preV (ci := 2) rfl hKc hPc) rfl rfl hl.1 rfl (lv_room (Nat.le_of_ble_eq_true rfl)) dL_law_716 ⟨hcl9, hsl9⟩) ?_
        obtain ⟨hcd, hBB, hf9⟩ := lw_twoH (h_rel hn s1) hw
        dsimp only at hBB hf9
        have hcd2 : f_X1_thrown u2 = r1 := by show u2 = r1; rw [hu2]; exact hcd
        refine lv_iload hx hb dL_law_719 (lv_at hl 1 rfl) ?_
        refine lv_icmp_eq (tgt := 726) hx hb dL_law_721 (by decide) (fun c_ => ?_) (fun c_ => absurd hcd2 c_)
        refine lv_iload hx hb dL_law_726 (lv_at hl 1 rfl) ?_
        refine lv_if_ne (tgt := 750) hx hb dL_law_728 (by decide) (fun c1_ => ?_) (fun c1_ => ?_)
        · skip
          refine lv_goto (tgt := 753) hx hb dL_law_750 (by decide) ?_
          rw [hf9] at hP hD
          refine lv_iinc (v := nI (5 * (j + 1))) (lv' := [(4, .int (nI (5 * (j + 1)))), (6, .int r2), (5, .int r1), (0, .ref b), (1, .ref q0), (2, .ref q1), (3, .ref q2)]) hx hb dL_law_753 hl (k := 2) rfl hx5 (by decide) rfl (fun ls hl => ?_)
          refine lv_goto (tgt := 23) hx hb dL_law_756 (by decide) ?_
          refine W.widen (k := 3 + (j + 1)) (n := 5 + 6 * (j + 1)) (by omega) (by omega) ?_
          exact ih (j + 1) n u2 al g1 H locs ls (by omega) (by omega) hn hP hD hS (lv_sub hl [0, 3, 4, 5, 6] rfl)
        · skip
          refine lv_aload_n hx hb dL_law_731 rfl (lv_at hl 6 rfl) ?_
          refine lv_iconst (v := 0) hx hb dL_law_732 (by decide) ?_
          refine va_lald (D := (dC, dI)) hx hb hK hP 2 0 rfl rfl (vp_in_nI (n := 0) (by decide) (by decide)) dL_law_733 ?_
          refine lv_iload hx hb dL_law_734 (lv_at hl 0 rfl) ?_
          refine rgL (J := 744) (st := [.long (g1 (0 : Int32).toNatClampNeg)]) (if r2 = 0 then 0 else 1) (fun k => ?_) (fun y ey => ?_)
          · refine lv_if_eq (tgt := 743) hx hb dL_law_736 (by decide) (fun c_2 => ?_) (fun c_2 => ?_)
            · refine lv_lconst (v := 0) hx hb dL_law_743 (by decide +kernel) ?_
              exact rgL_e k (by rw [if_pos c_2])
            · refine lv_lconst (v := 1) hx hb dL_law_739 (by decide +kernel) ?_
              refine lv_goto (tgt := 744) hx hb dL_law_740 (by decide) ?_
              exact rgL_e k (by rw [if_neg c_2])
          refine W.lcmp hx hb dL_law_744 ?_
          refine lv_if_eq (tgt := 750) hx hb dL_law_745 (by decide) (fun c2_ => ?_) (fun c2_ => absurd ((lg_cmp_eq _ _).mpr (by rw [hBB c1_, ey, er2])) c2_)
          refine lv_goto (tgt := 753) hx hb dL_law_750 (by decide) ?_
          rw [hf9] at hP hD
          refine lv_iinc (v := nI (5 * (j + 1))) (lv' := [(4, .int (nI (5 * (j + 1)))), (6, .int r2), (5, .int r1), (0, .ref b), (1, .ref q0), (2, .ref q1), (3, .ref q2)]) hx hb dL_law_753 hl (k := 2) rfl hx5 (by decide) rfl (fun ls hl => ?_)
          refine lv_goto (tgt := 23) hx hb dL_law_756 (by decide) ?_
          refine W.widen (k := 3 + (j + 1)) (n := 5 + 6 * (j + 1)) (by omega) (by omega) ?_
          exact ih (j + 1) n u2 al g1 H locs ls (by omega) (by omega) hn hP hD hS (lv_sub hl [0, 3, 4, 5, 6] rfl)
      refine lv_tableOut (tgt := 753) hx hb dL_law_39 (sw_out 8 (by decide) (fun k hk => by rcases (show k = 0 ∨ k = 1 ∨ k = 2 ∨ k = 3 ∨ k = 4 ∨ k = 5 ∨ k = 6 ∨ k = 7 ∨ k = 8 by omega) with rfl | rfl | rfl | rfl | rfl | rfl | rfl | rfl | rfl <;> assumption)) (by decide) ?_
      refine lv_iinc (v := nI (5 * (j + 1))) (lv' := [(4, .int (nI (5 * (j + 1)))), (0, .ref b), (1, .ref q0), (2, .ref q1), (3, .ref q2)]) hx hb dL_law_753 hl (k := 0) rfl hx5 (by decide) rfl (fun ls hl => ?_)
      refine lv_goto (tgt := 23) hx hb dL_law_756 (by decide) ?_
      refine W.widen (k := 3 + (j + 1)) (n := 5 + 6 * (j + 1)) (by omega) (by omega) ?_
      exact ih (j + 1) n cd al g H locs ls (by omega) (by omega) hn hP hD hS (lv_sub hl [0, 1, 2, 3, 4] rfl)
