/-! THE BASE: a pure call is like an arithmetic row; a call that writes its own object's fields; joins; remainders -/
/-- what irem, lrem answer -/
def jr (x y : Int32) : Int32 := x - x / y * y
def jrL (x y : Int64) : Int64 := x - x / y * y
section
variable {p : Program} {l : Launch} {e : Env} {R : Room} {s : State} {m : MethodId} {args : Array Value} {below : List Frame} {meth : Method} {c : Code} {H : Heap} {locs : List Loc} {cells slots : Nat} {Q : State → Prop}
variable {cc : ByteArray} {pc : Nat} {ls : Array Slot} {rest st0 st : List Value} {a : Array Value} {A : Nat → Prop} {H0 : Heap}
theorem pu_calli {F : Int32} (hr : va_Run p l e R s m args below meth c H locs cells slots 0 0 (F0 m pc ls st0) rest (va_Qi (fun (r : Int32) (_ : Unit) => r = F) (fun _ t => t.heap = H) (fun _ => False) a) (fun _ => False))
    (kk : W p l e R s m args below meth c H locs cells slots Q (F0 m (pc + 3) ls (.int F :: rest))) : W p l e R s m args below meth c H locs cells slots Q (F0 m pc ls st0) := by
  intro T hT X
  obtain ⟨v, st₀, t, T', L, h0, X', hL, e1, e2, ⟨⟨r, u, hv, hp, hb⟩, hz, hk⟩, st⟩ := hr T hT X
  cases hv
  subst hp
  have hL0 : L = [] := by
    cases L with
    | nil => rfl
    | cons q L => exact (hL q List.mem_cons_self).elim
  subst hL0
  rw [List.append_nil] at X'
  obtain ⟨t2, a1, b1⟩ := kk T' (by rw [e1]; exact hb) X'
  exact ⟨t2, st t2 a1, b1⟩
theorem pu_calll {F : Int64} (hr : va_Run p l e R s m args below meth c H locs cells slots 0 0 (F0 m pc ls st0) rest (va_Ql (fun (r : Int64) (_ : Unit) => r = F) (fun _ t => t.heap = H) (fun _ => False) a) (fun _ => False))
    (kk : W p l e R s m args below meth c H locs cells slots Q (F0 m (pc + 3) ls (.long F :: rest))) : W p l e R s m args below meth c H locs cells slots Q (F0 m pc ls st0) := by
  intro T hT X
  obtain ⟨v, st₀, t, T', L, h0, X', hL, e1, e2, ⟨⟨r, u, hv, hp, hb⟩, hz, hk⟩, st⟩ := hr T hT X
  cases hv
  subst hp
  have hL0 : L = [] := by
    cases L with
    | nil => rfl
    | cons q L => exact (hL q List.mem_cons_self).elim
  subst hL0
  rw [List.append_nil] at X'
  obtain ⟨t2, a1, b1⟩ := kk T' (by rw [e1]; exact hb) X'
  exact ⟨t2, st t2 a1, b1⟩
/-- a join: all roads of an expression come to J with one value on the stack -/
theorem rg {J : Nat} (V : Int32) (h : W p l e R s m args below meth c H locs cells slots Q (F0 m J ls (.int V :: st)) → W p l e R s m args below meth c H locs cells slots Q (F0 m pc ls rest)) (k : ∀ y : Int32, y = V → W p l e R s m args below meth c H locs cells slots Q (F0 m J ls (.int y :: st))) : W p l e R s m args below meth c H locs cells slots Q (F0 m pc ls rest) := h (k V rfl)
theorem rg_e {J : Nat} {V v : Int32} (k : W p l e R s m args below meth c H locs cells slots Q (F0 m J ls (.int V :: st))) (h : V = v) : W p l e R s m args below meth c H locs cells slots Q (F0 m J ls (.int v :: st)) := h ▸ k
theorem rgL {J : Nat} (V : Int64) (h : W p l e R s m args below meth c H locs cells slots Q (F0 m J ls (.long V :: st)) → W p l e R s m args below meth c H locs cells slots Q (F0 m pc ls rest)) (k : ∀ y : Int64, y = V → W p l e R s m args below meth c H locs cells slots Q (F0 m J ls (.long y :: st))) : W p l e R s m args below meth c H locs cells slots Q (F0 m pc ls rest) := h (k V rfl)
theorem rgL_e {J : Nat} {V v : Int64} (k : W p l e R s m args below meth c H locs cells slots Q (F0 m J ls (.long V :: st))) (h : V = v) : W p l e R s m args below meth c H locs cells slots Q (F0 m J ls (.long v :: st)) := h ▸ k
theorem jr_row (hexec : p.tables.exec = Jvm.exec) (hb : c.code = cc) {x y : Int32} (hdg : decode cc pc = .ok (.irem, 1)) (hne : ¬ y = 0)
    (k : W p l e R s m args below meth c H locs cells slots Q (F0 m (pc + 1) ls (.int (jr x y) :: rest))) : W p l e R s m args below meth c H locs cells slots Q (F0 m pc ls (.int y :: .int x :: rest)) := lv_irem hexec hb hdg hne k
theorem jrL_row (hexec : p.tables.exec = Jvm.exec) (hb : c.code = cc) {x y : Int64} (hdg : decode cc pc = .ok (.lrem, 1)) (hne : ¬ y = 0)
    (k : W p l e R s m args below meth c H locs cells slots Q (F0 m (pc + 1) ls (.long (jrL x y) :: rest))) : W p l e R s m args below meth c H locs cells slots Q (F0 m pc ls (.long y :: .long x :: rest)) := lv_lrem hexec hb hdg hne k
/-- a world of one object: before a call that may write, behind it, what may be written -/
def wr_pre (D : va_G) (ci h0 sz : Nat) (fs : List Value) (U : State) : Prop := U.heap.size = sz ∧ va_P D vwCl [(h0, .inr (ci, fs))] U.heap ∧ va_K D vwCl [] U ∧ va_D (fun _ => True) [(h0, .inr (ci, fs))]
def wr_at {S : Type} (D : va_G) (ci h0 : Nat) (g : S → List Value) (A : Nat → Prop) (u : S) (t : State) : Prop := va_P D vwCl [(h0, .inr (ci, g u))] t.heap ∧ va_K D vwCl [] t ∧ va_D A [(h0, .inr (ci, g u))]
abbrev wr_A (ci h0 sz : Nat) (fs : List Value) : Nat → Prop := va_A [(h0, .inr (ci, fs))] sz
/-- a call that reads: the heap is the one that it was -/
def pu_pre (D : va_G) (ci h0 : Nat) (HH : Heap) (fs : List Value) (U : State) : Prop := U.heap = HH ∧ va_P D vwCl [(h0, .inr (ci, fs))] U.heap ∧ va_K D vwCl [] U
theorem wr_preV {D : va_G} {ci h0 : Nat} {fs As : List Value} {q : vw_C} (hc : vwCl[ci]? = some q) (hK : va_K D vwCl [] s) (hP : va_P D vwCl [(h0, .inr (ci, fs))] H) (hD : va_D A [(h0, .inr (ci, fs))]) : PreV s H q.1 h0 (va_Pc (.ref h0 :: As) (wr_pre D ci h0 H.size fs)) As :=
  ⟨fun a U g mk q => by obtain ⟨q0, q1, qP, qK, qD⟩ := q; exact ⟨q0, q1, qP, va_K.moved (u := U) (U := U.calling g mk a) (Vm.Alike.refl U.vm) qK, qD⟩, va_recv hK hP (ci := ci) (q0 := 0) hc rfl, fun U hU hW => ⟨rfl, by rw [hU], by rw [hU]; exact hP, va_K.moved hW.alike hK, hD.weaken (fun _ _ _ _ => trivial)⟩⟩
theorem pu_preV {D : va_G} {ci h0 : Nat} {fs As : List Value} {q : vw_C} (hc : vwCl[ci]? = some q) (hK : va_K D vwCl [] s) (hP : va_P D vwCl [(h0, .inr (ci, fs))] H) : PreV s H q.1 h0 (va_Pc (.ref h0 :: As) (pu_pre D ci h0 H fs)) As :=
  ⟨fun a U g mk q => by obtain ⟨q0, q1, qP, qK⟩ := q; exact ⟨q0, q1, qP, va_K.moved (u := U) (U := U.calling g mk a) (Vm.Alike.refl U.vm) qK⟩, va_recv hK hP (ci := ci) (q0 := 0) hc rfl, fun U hU hW => ⟨rfl, hU, by rw [hU]; exact hP, va_K.moved hW.alike hK⟩⟩
theorem pu_preS {As : List Value} : PreS s H (va_Pc As (fun U => U.heap = H)) As :=
  ⟨fun a U g mk q => by obtain ⟨q0, q1⟩ := q; exact ⟨q0, q1⟩, fun U hU hW => ⟨rfl, hU⟩⟩
theorem wr_calli {D : va_G} {ci h0 : Nat} {fs : List Value} {S : Type} {post : Int32 → S → Prop} {g : S → List Value} (hr : va_Run p l e R s m args below meth c H locs cells slots 0 0 (F0 m pc ls st0) rest (va_Qi post (wr_at D ci h0 g (wr_A ci h0 H.size fs)) (wr_A ci h0 H.size fs) a) (wr_A ci h0 H.size fs))
    (hP : va_P D vwCl [(h0, .inr (ci, fs))] H) (hD : va_D A [(h0, .inr (ci, fs))]) (hS : va_S A H0 H locs) (hA : ∀ q : Nat, H0.size ≤ q → A q)
    (kk : ∀ (r : Int32) (u : S) (H1 : Heap) (locs1 : List Loc), post r u → va_P D vwCl [(h0, .inr (ci, g u))] H1 → va_D A [(h0, .inr (ci, g u))] → va_S A H0 H1 locs1 → W p l e R s m args below meth c H1 locs1 cells slots Q (F0 m (pc + 3) ls (.int r :: rest))) : W p l e R s m args below meth c H locs cells slots Q (F0 m pc ls st0) := by
  have hFc := va_free (wc := [(h0, .inr (ci, fs))]) hD hS hA [0] rfl
  refine va_calli hr hS (fun q _ h => hFc q h) hFc (fun r u t H1 locs1 ht hvm hw hB hz1 hk1 hS1 => ?_)
  obtain ⟨hP1, hK1, hD1⟩ := hB
  rw [ht] at hP1
  obtain ⟨hP2, hD2⟩ := va_join (wr := []) (w1 := [(h0, .inr (ci, g u))]) hP hD [0] [] rfl rfl (by decide) (by decide) hk1 hFc hP1 hD1
  exact kk r u H1 locs1 hw hP2 hD2 hS1
theorem wr_callv {D : va_G} {ci h0 : Nat} {fs : List Value} {S : Type} {post : S → Prop} {g : S → List Value} (hr : va_Run p l e R s m args below meth c H locs cells slots 0 0 (F0 m pc ls st0) rest (va_Qv post (wr_at D ci h0 g (wr_A ci h0 H.size fs)) (wr_A ci h0 H.size fs) a) (wr_A ci h0 H.size fs))
    (hP : va_P D vwCl [(h0, .inr (ci, fs))] H) (hD : va_D A [(h0, .inr (ci, fs))]) (hS : va_S A H0 H locs) (hA : ∀ q : Nat, H0.size ≤ q → A q)
    (kk : ∀ (u : S) (H1 : Heap) (locs1 : List Loc), post u → va_P D vwCl [(h0, .inr (ci, g u))] H1 → va_D A [(h0, .inr (ci, g u))] → va_S A H0 H1 locs1 → W p l e R s m args below meth c H1 locs1 cells slots Q (F0 m (pc + 3) ls rest)) : W p l e R s m args below meth c H locs cells slots Q (F0 m pc ls st0) := by
  have hFc := va_free (wc := [(h0, .inr (ci, fs))]) hD hS hA [0] rfl
  refine va_callv hr hS (fun q _ h => hFc q h) hFc (fun u t H1 locs1 ht hvm hw hB hz1 hk1 hS1 => ?_)
  obtain ⟨hP1, hK1, hD1⟩ := hB
  rw [ht] at hP1
  obtain ⟨hP2, hD2⟩ := va_join (wr := []) (w1 := [(h0, .inr (ci, g u))]) hP hD [0] [] rfl rfl (by decide) (by decide) hk1 hFc hP1 hD1
  exact kk u H1 locs1 hw hP2 hD2 hS1
theorem pu_F {t : State} (ht : t.heap = s.heap) : va_F (fun _ => False) s t := ⟨by rw [ht]; exact Nat.le_refl _, fun q _ _ => by rw [ht]⟩
end
theorem nb_of {v : Int32} (h : v = 0 ∨ v = 1) : narrow .boolean (.int v) = .int v := by
  rcases h with h | h <;> rw [h] <;> rfl
theorem hal_0 {al : Int32} (h : al = 256 ∨ al = 65536) : ¬ al = 0 := by rcases h with h | h <;> rw [h] <;> decide
theorem hal_2 {al : Int32} (h : al = 256 ∨ al = 65536) : ¬ al / 2 = 0 := by rcases h with h | h <;> rw [h] <;> decide
theorem sw_out {x : Int32} (n : Nat) (hn : n < 100) (h : ∀ k : Nat, k ≤ n → ¬ x = nI k) : x.toInt < 0 ∨ (n : Int) < x.toInt := by
  by_cases h0 : x < 0
  · exact Or.inl (by have := Int32.lt_iff_toInt_lt.mp h0; simpa using this)
  · obtain ⟨j, hj, rfl⟩ := nI_of h0
    rw [nI_toInt hj]
    refine Or.inr ?_
    rcases Nat.lt_or_ge n j with q | q
    · exact Int.ofNat_lt.mpr q
    · exact absurd rfl (h j q)
theorem lk_ne {x : Int32} {k : Nat} (hk : k < 100) (h : ¬ x = nI k) : x.toInt ≠ (k : Int) := fun e => h (by
  apply Int32.toInt_inj.mp
  rw [nI_toInt (by omega), e])
theorem lk_out {x : Int32} (h1 : ¬ x = 1) (h2 : ¬ x = 3) (h3 : ¬ x = 7) : Op.lookupswitch.offset (#[(1, 35), (3, 37), (7, 43)] : Array (Int × Int)).toList 45 x.toInt = 45 := by
  have e1 := lk_ne (k := 1) (by decide) h1
  have e2 := lk_ne (k := 3) (by decide) h2
  have e3 := lk_ne (k := 7) (by decide) h3
  show (if (1 : Int) = x.toInt then (35 : Int) else if (3 : Int) = x.toInt then 37 else if (7 : Int) = x.toInt then 43 else 45) = 45
  rw [if_neg (fun h => e1 h.symm), if_neg (fun h => e2 h.symm), if_neg (fun h => e3 h.symm)]
theorem hal_L {al : Int32} (h : al = 256 ∨ al = 65536) : ¬ al.toInt64 = 0 := by rcases h with h | h <;> rw [h] <;> decide
