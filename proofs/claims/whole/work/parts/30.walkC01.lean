abbrev wJ6_bitCount_0f7a4 (c : Nat → ClassId) : va_W := []
def GJ6_bitCount_0f7a4 (p : Program) (l : Launch) (e : Env) (s : State) (m : MethodId) (args : Array Value) (below : List Frame) (meth : Method) (cd : Code) (D : va_G) (c : Nat → ClassId) (A : Nat → Prop) (r_ret : Int32) (pc : Nat) (st : List Value) (loc : List (Nat × Value)) : Prop :=
  ∀ (H : Heap) (locs : List Loc) (ls : Array Slot), va_P D vwCl (wJ6_bitCount_0f7a4 c) H → va_D A (wJ6_bitCount_0f7a4 c) → va_S A s.heap H locs → lv_has ls 1 loc → W p l e ({ frames := 0, cells := 0, slots := 0, locals := 0 } : Room) s m args below meth cd H locs 0 0 (MQ below (xQi D (xT c) A r_ret (wJ6_bitCount_0f7a4 c)) args s 0 0 A) (F0 m pc ls st)
theorem lkJ6_bitCount_0f7a4_c265 : Cond.constant RJ6 265 1431655765 ∈ wsJ6_bitCount_0f7a4 := by decide +kernel
theorem lkJ6_bitCount_0f7a4_c266 : Cond.constant RJ6 266 858993459 ∈ wsJ6_bitCount_0f7a4 := by decide +kernel
theorem lkJ6_bitCount_0f7a4_c267 : Cond.constant RJ6 267 252645135 ∈ wsJ6_bitCount_0f7a4 := by decide +kernel
set_option maxHeartbeats 4000000 in
set_option maxRecDepth 100000 in
theorem kJ6_bitCount_0f7a4_48 {p : Program} {l : Launch} {e : Env} {s : State} {m : MethodId} {args : Array Value} {below : List Frame} {meth : Method} {cd : Code} {D : va_G} {c : Nat → ClassId} {A : Nat → Prop} (E0 : xE p s m args meth cd D (xT c) A RJ6 cJ6_bitCount_0f7a4 1 (some .int) wsJ6_bitCount_0f7a4) (n : Nat) (r_ret : Int32) (v0 : Int32) (hr : fJ6_bitCount_0f7a4_48 n v0 = some (r_ret)) : GJ6_bitCount_0f7a4 p l e s m args below meth cd D c A r_ret 48 [] [(0, .int v0)] := by
  have E1 := E0
  obtain ⟨hx, hb, hml, hret, hown, hts, hlocks, hA, hK⟩ := E1
  intro H locs ls hP hD hS hl
  unfold fJ6_bitCount_0f7a4_48 at hr
  refine lv_iload_n hx hb dJ6_bitCount_0f7a4_48 rfl (lv_at hl 0 rfl) ?_
  refine lv_bipush (v := 63) hx hb dJ6_bitCount_0f7a4_49 (by decide) ?_
  refine lv_iand hx hb dJ6_bitCount_0f7a4_51 ?_
  have e0 := x_some hr
  subst e0
  exact x_reti hx hb hret hlocks hP hD hK hS dJ6_bitCount_0f7a4_52
set_option maxHeartbeats 4000000 in
set_option maxRecDepth 100000 in
theorem kJ6_bitCount_0f7a4_34 {p : Program} {l : Launch} {e : Env} {s : State} {m : MethodId} {args : Array Value} {below : List Frame} {meth : Method} {cd : Code} {D : va_G} {c : Nat → ClassId} {A : Nat → Prop} (E0 : xE p s m args meth cd D (xT c) A RJ6 cJ6_bitCount_0f7a4 1 (some .int) wsJ6_bitCount_0f7a4) (n : Nat) (r_ret : Int32) (v0 : Int32) (hr : fJ6_bitCount_0f7a4_34 n v0 = some (r_ret)) : GJ6_bitCount_0f7a4 p l e s m args below meth cd D c A r_ret 34 [] [(0, .int v0)] := by
  have E1 := E0
  obtain ⟨hx, hb, hml, hret, hown, hts, hlocks, hA, hK⟩ := E1
  intro H locs ls hP hD hS hl
  unfold fJ6_bitCount_0f7a4_34 at hr
  refine lv_iload_n hx hb dJ6_bitCount_0f7a4_34 rfl (lv_at hl 0 rfl) ?_
  refine lv_iload_n hx hb dJ6_bitCount_0f7a4_35 rfl (lv_at hl 0 rfl) ?_
  refine lv_bipush (v := 8) hx hb dJ6_bitCount_0f7a4_36 (by decide) ?_
  refine lv_iushr hx hb dJ6_bitCount_0f7a4_38 rfl ?_
  refine lv_iadd hx hb dJ6_bitCount_0f7a4_39 ?_
  refine lv_istore_n (lv' := [(0, .int (v0 + ((v0.toUInt32 >>> ((8 : Int32).toUInt32 &&& Int32.toUInt32 31)).toInt32)))]) hx hb dJ6_bitCount_0f7a4_40 rfl hl (by decide) rfl (fun ls hl => ?_)
  refine lv_iload_n hx hb dJ6_bitCount_0f7a4_41 rfl (lv_at hl 0 rfl) ?_
  refine lv_iload_n hx hb dJ6_bitCount_0f7a4_42 rfl (lv_at hl 0 rfl) ?_
  refine lv_bipush (v := 16) hx hb dJ6_bitCount_0f7a4_43 (by decide) ?_
  refine lv_iushr hx hb dJ6_bitCount_0f7a4_45 rfl ?_
  refine lv_iadd hx hb dJ6_bitCount_0f7a4_46 ?_
  refine lv_istore_n (lv' := [(0, .int ((v0 + ((v0.toUInt32 >>> ((8 : Int32).toUInt32 &&& Int32.toUInt32 31)).toInt32)) + (((v0 + ((v0.toUInt32 >>> ((8 : Int32).toUInt32 &&& Int32.toUInt32 31)).toInt32)).toUInt32 >>> ((16 : Int32).toUInt32 &&& Int32.toUInt32 31)).toInt32)))]) hx hb dJ6_bitCount_0f7a4_47 rfl hl (by decide) rfl (fun ls hl => ?_)
  exact kJ6_bitCount_0f7a4_48 E0 n r_ret ((v0 + ((v0.toUInt32 >>> ((8 : Int32).toUInt32 &&& Int32.toUInt32 31)).toInt32)) + (((v0 + ((v0.toUInt32 >>> ((8 : Int32).toUInt32 &&& Int32.toUInt32 31)).toInt32)).toUInt32 >>> ((16 : Int32).toUInt32 &&& Int32.toUInt32 31)).toInt32)) hr H locs ls hP hD hS (lv_sub hl [0] rfl)
set_option maxHeartbeats 4000000 in
set_option maxRecDepth 100000 in
theorem kJ6_bitCount_0f7a4_24 {p : Program} {l : Launch} {e : Env} {s : State} {m : MethodId} {args : Array Value} {below : List Frame} {meth : Method} {cd : Code} {D : va_G} {c : Nat → ClassId} {A : Nat → Prop} (E0 : xE p s m args meth cd D (xT c) A RJ6 cJ6_bitCount_0f7a4 1 (some .int) wsJ6_bitCount_0f7a4) (n : Nat) (r_ret : Int32) (v0 : Int32) (hr : fJ6_bitCount_0f7a4_24 n v0 = some (r_ret)) : GJ6_bitCount_0f7a4 p l e s m args below meth cd D c A r_ret 24 [] [(0, .int v0)] := by
  have E1 := E0
  obtain ⟨hx, hb, hml, hret, hown, hts, hlocks, hA, hK⟩ := E1
  intro H locs ls hP hD hS hl
  unfold fJ6_bitCount_0f7a4_24 at hr
  refine lv_iload_n hx hb dJ6_bitCount_0f7a4_24 rfl (lv_at hl 0 rfl) ?_
  refine lv_iload_n hx hb dJ6_bitCount_0f7a4_25 rfl (lv_at hl 0 rfl) ?_
  refine lv_iconst (v := 4) hx hb dJ6_bitCount_0f7a4_26 (by decide) ?_
  refine lv_iushr hx hb dJ6_bitCount_0f7a4_27 rfl ?_
  refine lv_iadd hx hb dJ6_bitCount_0f7a4_28 ?_
  refine lv_ldcw hx hb hown (hts _ lkJ6_bitCount_0f7a4_c267) dJ6_bitCount_0f7a4_29 ?_
  refine lv_iand hx hb dJ6_bitCount_0f7a4_32 ?_
  refine lv_istore_n (lv' := [(0, .int ((v0 + ((v0.toUInt32 >>> ((4 : Int32).toUInt32 &&& Int32.toUInt32 31)).toInt32)) &&& 252645135))]) hx hb dJ6_bitCount_0f7a4_33 rfl hl (by decide) rfl (fun ls hl => ?_)
  exact kJ6_bitCount_0f7a4_34 E0 n r_ret ((v0 + ((v0.toUInt32 >>> ((4 : Int32).toUInt32 &&& Int32.toUInt32 31)).toInt32)) &&& 252645135) hr H locs ls hP hD hS (lv_sub hl [0] rfl)
set_option maxHeartbeats 4000000 in
set_option maxRecDepth 100000 in
theorem kJ6_bitCount_0f7a4_10 {p : Program} {l : Launch} {e : Env} {s : State} {m : MethodId} {args : Array Value} {below : List Frame} {meth : Method} {cd : Code} {D : va_G} {c : Nat → ClassId} {A : Nat → Prop} (E0 : xE p s m args meth cd D (xT c) A RJ6 cJ6_bitCount_0f7a4 1 (some .int) wsJ6_bitCount_0f7a4) (n : Nat) (r_ret : Int32) (v0 : Int32) (hr : fJ6_bitCount_0f7a4_10 n v0 = some (r_ret)) : GJ6_bitCount_0f7a4 p l e s m args below meth cd D c A r_ret 10 [] [(0, .int v0)] := by
  have E1 := E0
  obtain ⟨hx, hb, hml, hret, hown, hts, hlocks, hA, hK⟩ := E1
  intro H locs ls hP hD hS hl
  unfold fJ6_bitCount_0f7a4_10 at hr
  refine lv_iload_n hx hb dJ6_bitCount_0f7a4_10 rfl (lv_at hl 0 rfl) ?_
  refine lv_ldcw hx hb hown (hts _ lkJ6_bitCount_0f7a4_c266) dJ6_bitCount_0f7a4_11 ?_
  refine lv_iand hx hb dJ6_bitCount_0f7a4_14 ?_
  refine lv_iload_n hx hb dJ6_bitCount_0f7a4_15 rfl (lv_at hl 0 rfl) ?_
  refine lv_iconst (v := 2) hx hb dJ6_bitCount_0f7a4_16 (by decide) ?_
  refine lv_iushr hx hb dJ6_bitCount_0f7a4_17 rfl ?_
  refine lv_ldcw hx hb hown (hts _ lkJ6_bitCount_0f7a4_c266) dJ6_bitCount_0f7a4_18 ?_
  refine lv_iand hx hb dJ6_bitCount_0f7a4_21 ?_
  refine lv_iadd hx hb dJ6_bitCount_0f7a4_22 ?_
  refine lv_istore_n (lv' := [(0, .int ((v0 &&& 858993459) + (((v0.toUInt32 >>> ((2 : Int32).toUInt32 &&& Int32.toUInt32 31)).toInt32) &&& 858993459)))]) hx hb dJ6_bitCount_0f7a4_23 rfl hl (by decide) rfl (fun ls hl => ?_)
  exact kJ6_bitCount_0f7a4_24 E0 n r_ret ((v0 &&& 858993459) + (((v0.toUInt32 >>> ((2 : Int32).toUInt32 &&& Int32.toUInt32 31)).toInt32) &&& 858993459)) hr H locs ls hP hD hS (lv_sub hl [0] rfl)
set_option maxHeartbeats 4000000 in
set_option maxRecDepth 100000 in
theorem kJ6_bitCount_0f7a4_0 {p : Program} {l : Launch} {e : Env} {s : State} {m : MethodId} {args : Array Value} {below : List Frame} {meth : Method} {cd : Code} {D : va_G} {c : Nat → ClassId} {A : Nat → Prop} (E0 : xE p s m args meth cd D (xT c) A RJ6 cJ6_bitCount_0f7a4 1 (some .int) wsJ6_bitCount_0f7a4) (n : Nat) (r_ret : Int32) (v0 : Int32) (hr : fJ6_bitCount_0f7a4 n v0 = some (r_ret)) : GJ6_bitCount_0f7a4 p l e s m args below meth cd D c A r_ret 0 [] [(0, .int v0)] := by
  have E1 := E0
  obtain ⟨hx, hb, hml, hret, hown, hts, hlocks, hA, hK⟩ := E1
  intro H locs ls hP hD hS hl
  unfold fJ6_bitCount_0f7a4 at hr
  refine lv_iload_n hx hb dJ6_bitCount_0f7a4_0 rfl (lv_at hl 0 rfl) ?_
  refine lv_iload_n hx hb dJ6_bitCount_0f7a4_1 rfl (lv_at hl 0 rfl) ?_
  refine lv_iconst (v := 1) hx hb dJ6_bitCount_0f7a4_2 (by decide) ?_
  refine lv_iushr hx hb dJ6_bitCount_0f7a4_3 rfl ?_
  refine lv_ldcw hx hb hown (hts _ lkJ6_bitCount_0f7a4_c265) dJ6_bitCount_0f7a4_4 ?_
  refine lv_iand hx hb dJ6_bitCount_0f7a4_7 ?_
  refine lv_isub hx hb dJ6_bitCount_0f7a4_8 ?_
  refine lv_istore_n (lv' := [(0, .int (v0 - (((v0.toUInt32 >>> ((1 : Int32).toUInt32 &&& Int32.toUInt32 31)).toInt32) &&& 1431655765)))]) hx hb dJ6_bitCount_0f7a4_9 rfl hl (by decide) rfl (fun ls hl => ?_)
  exact kJ6_bitCount_0f7a4_10 E0 n r_ret (v0 - (((v0.toUInt32 >>> ((1 : Int32).toUInt32 &&& Int32.toUInt32 31)).toInt32) &&& 1431655765)) hr H locs ls hP hD hS (lv_sub hl [0] rfl)
set_option maxHeartbeats 4000000 in
set_option maxRecDepth 100000 in
theorem mJ6_bitCount_0f7a4 (l : Launch) (D : va_G) (c : Nat → ClassId) (sz : Nat) (v0 : Int32) (n : Nat) (r_ret : Int32) (h : fJ6_bitCount_0f7a4 n v0 = some (r_ret)) : Met l yJ6_bitCount_0f7a4 wsJ6_bitCount_0f7a4 ({ frames := 0, cells := 0, slots := 0, locals := 0 } : Room) (xPc D (xT c) sz [.int v0] (wJ6_bitCount_0f7a4 c) (fun _ => True)) (xQi D (xT c) (va_A (wJ6_bitCount_0f7a4 c) sz) r_ret (wJ6_bitCount_0f7a4 c)) 0 0 (va_A (wJ6_bitCount_0f7a4 c) sz) := by
  refine Met.ofW (cc := cJ6_bitCount_0f7a4) (maxL := 1) (ret := (some .int)) (by decide) rfl ?_
  intro p e s m args below meth cd s₁ B hml hv
  obtain ⟨rfl, hsz, hP, hK, hD0, hV⟩ := hv
  subst hsz
  have hl := lv_entry [.int v0] (n := 1) (Nat.le_of_ble_eq_true rfl)
  rw [lg_entry_eq]
  exact kJ6_bitCount_0f7a4_0 (A := va_A (wJ6_bitCount_0f7a4 c) s.heap.size) ⟨B.exec, B.bytes, hml, B.returns, findClass_of_methodNamed B.named, atoms_spec (ws := wsJ6_bitCount_0f7a4) B.pre, B.notSynchronized, fun q h => Or.inr h, hK⟩ n r_ret v0 h s.heap [] _ hP hD0.self va_S.rf hl

abbrev wJ6_numberOfLeadingZeros_0f7a4 (c : Nat → ClassId) : va_W := []
def GJ6_numberOfLeadingZeros_0f7a4 (p : Program) (l : Launch) (e : Env) (s : State) (m : MethodId) (args : Array Value) (below : List Frame) (meth : Method) (cd : Code) (D : va_G) (c : Nat → ClassId) (A : Nat → Prop) (r_ret : Int32) (pc : Nat) (st : List Value) (loc : List (Nat × Value)) : Prop :=
  ∀ (H : Heap) (locs : List Loc) (ls : Array Slot), va_P D vwCl (wJ6_numberOfLeadingZeros_0f7a4 c) H → va_D A (wJ6_numberOfLeadingZeros_0f7a4 c) → va_S A s.heap H locs → lv_has ls 2 loc → W p l e ({ frames := 0, cells := 0, slots := 0, locals := 0 } : Room) s m args below meth cd H locs 0 0 (MQ below (xQi D (xT c) A r_ret (wJ6_numberOfLeadingZeros_0f7a4 c)) args s 0 0 A) (F0 m pc ls st)
theorem lkJ6_numberOfLeadingZeros_0f7a4_c264 : Cond.constant RJ6 264 65536 ∈ wsJ6_numberOfLeadingZeros_0f7a4 := by decide +kernel
set_option maxHeartbeats 4000000 in
set_option maxRecDepth 100000 in
theorem kJ6_numberOfLeadingZeros_0f7a4_14 {p : Program} {l : Launch} {e : Env} {s : State} {m : MethodId} {args : Array Value} {below : List Frame} {meth : Method} {cd : Code} {D : va_G} {c : Nat → ClassId} {A : Nat → Prop} (E0 : xE p s m args meth cd D (xT c) A RJ6 cJ6_numberOfLeadingZeros_0f7a4 2 (some .int) wsJ6_numberOfLeadingZeros_0f7a4) (n : Nat) (r_ret : Int32) (t0 : Int32) (hr : fJ6_numberOfLeadingZeros_0f7a4_14 n t0 = some (r_ret)) : GJ6_numberOfLeadingZeros_0f7a4 p l e s m args below meth cd D c A r_ret 14 [.int t0] [] := by
  have E1 := E0
  obtain ⟨hx, hb, hml, hret, hown, hts, hlocks, hA, hK⟩ := E1
  intro H locs ls hP hD hS hl
  unfold fJ6_numberOfLeadingZeros_0f7a4_14 at hr
  have e0 := x_some hr
  subst e0
  exact x_reti hx hb hret hlocks hP hD hK hS dJ6_numberOfLeadingZeros_0f7a4_14
set_option maxHeartbeats 4000000 in
set_option maxRecDepth 100000 in
theorem kJ6_numberOfLeadingZeros_0f7a4_73 {p : Program} {l : Launch} {e : Env} {s : State} {m : MethodId} {args : Array Value} {below : List Frame} {meth : Method} {cd : Code} {D : va_G} {c : Nat → ClassId} {A : Nat → Prop} (E0 : xE p s m args meth cd D (xT c) A RJ6 cJ6_numberOfLeadingZeros_0f7a4 2 (some .int) wsJ6_numberOfLeadingZeros_0f7a4) (n : Nat) (r_ret : Int32) (v0 : Int32) (v1 : Int32) (hr : fJ6_numberOfLeadingZeros_0f7a4_73 n v0 v1 = some (r_ret)) : GJ6_numberOfLeadingZeros_0f7a4 p l e s m args below meth cd D c A r_ret 73 [] [(0, .int v0), (1, .int v1)] := by
  have E1 := E0
  obtain ⟨hx, hb, hml, hret, hown, hts, hlocks, hA, hK⟩ := E1
  intro H locs ls hP hD hS hl
  unfold fJ6_numberOfLeadingZeros_0f7a4_73 at hr
  refine lv_iload_n hx hb dJ6_numberOfLeadingZeros_0f7a4_73 rfl (lv_at hl 1 rfl) ?_
  refine lv_iload_n hx hb dJ6_numberOfLeadingZeros_0f7a4_74 rfl (lv_at hl 0 rfl) ?_
  refine lv_iconst (v := 1) hx hb dJ6_numberOfLeadingZeros_0f7a4_75 (by decide) ?_
  refine lv_iushr hx hb dJ6_numberOfLeadingZeros_0f7a4_76 rfl ?_
  refine lv_isub hx hb dJ6_numberOfLeadingZeros_0f7a4_77 ?_
  have e0 := x_some hr
  subst e0
  exact x_reti hx hb hret hlocks hP hD hK hS dJ6_numberOfLeadingZeros_0f7a4_78
set_option maxHeartbeats 4000000 in
set_option maxRecDepth 100000 in
theorem kJ6_numberOfLeadingZeros_0f7a4_61 {p : Program} {l : Launch} {e : Env} {s : State} {m : MethodId} {args : Array Value} {below : List Frame} {meth : Method} {cd : Code} {D : va_G} {c : Nat → ClassId} {A : Nat → Prop} (E0 : xE p s m args meth cd D (xT c) A RJ6 cJ6_numberOfLeadingZeros_0f7a4 2 (some .int) wsJ6_numberOfLeadingZeros_0f7a4) (n : Nat) (r_ret : Int32) (v0 : Int32) (v1 : Int32) (hr : fJ6_numberOfLeadingZeros_0f7a4_61 n v0 v1 = some (r_ret)) : GJ6_numberOfLeadingZeros_0f7a4 p l e s m args below meth cd D c A r_ret 61 [] [(0, .int v0), (1, .int v1)] := by
  have E1 := E0
  obtain ⟨hx, hb, hml, hret, hown, hts, hlocks, hA, hK⟩ := E1
  intro H locs ls hP hD hS hl
  unfold fJ6_numberOfLeadingZeros_0f7a4_61 at hr
  refine lv_iload_n hx hb dJ6_numberOfLeadingZeros_0f7a4_61 rfl (lv_at hl 0 rfl) ?_
  refine lv_iconst (v := 4) hx hb dJ6_numberOfLeadingZeros_0f7a4_62 (by decide) ?_
  refine lv_icmp_lt (tgt := 73) hx hb dJ6_numberOfLeadingZeros_0f7a4_63 (by decide) (fun c_1 => ?_) (fun c_1 => ?_)
  · have hr := x_ift hr c_1
    exact kJ6_numberOfLeadingZeros_0f7a4_73 E0 n r_ret v0 v1 hr H locs ls hP hD hS (lv_sub hl [0, 1] rfl)
  · have hr := x_iff hr c_1
    refine lv_iinc (v := v1 + (-2)) (lv' := [(1, .int (v1 + (-2))), (0, .int v0)]) hx hb dJ6_numberOfLeadingZeros_0f7a4_66 hl (k := 1) rfl rfl (by decide) rfl (fun ls hl => ?_)
    refine lv_iload_n hx hb dJ6_numberOfLeadingZeros_0f7a4_69 rfl (lv_at hl 1 rfl) ?_
    refine lv_iconst (v := 2) hx hb dJ6_numberOfLeadingZeros_0f7a4_70 (by decide) ?_
    refine lv_iushr hx hb dJ6_numberOfLeadingZeros_0f7a4_71 rfl ?_
    refine lv_istore_n (lv' := [(0, .int ((v0.toUInt32 >>> ((2 : Int32).toUInt32 &&& Int32.toUInt32 31)).toInt32)), (1, .int (v1 + (-2)))]) hx hb dJ6_numberOfLeadingZeros_0f7a4_72 rfl hl (by decide) rfl (fun ls hl => ?_)
    exact kJ6_numberOfLeadingZeros_0f7a4_73 E0 n r_ret ((v0.toUInt32 >>> ((2 : Int32).toUInt32 &&& Int32.toUInt32 31)).toInt32) (v1 + (-2)) hr H locs ls hP hD hS (lv_sub hl [0, 1] rfl)
set_option maxHeartbeats 4000000 in
set_option maxRecDepth 100000 in
theorem kJ6_numberOfLeadingZeros_0f7a4_48 {p : Program} {l : Launch} {e : Env} {s : State} {m : MethodId} {args : Array Value} {below : List Frame} {meth : Method} {cd : Code} {D : va_G} {c : Nat → ClassId} {A : Nat → Prop} (E0 : xE p s m args meth cd D (xT c) A RJ6 cJ6_numberOfLeadingZeros_0f7a4 2 (some .int) wsJ6_numberOfLeadingZeros_0f7a4) (n : Nat) (r_ret : Int32) (v0 : Int32) (v1 : Int32) (hr : fJ6_numberOfLeadingZeros_0f7a4_48 n v0 v1 = some (r_ret)) : GJ6_numberOfLeadingZeros_0f7a4 p l e s m args below meth cd D c A r_ret 48 [] [(0, .int v0), (1, .int v1)] := by
  have E1 := E0
  obtain ⟨hx, hb, hml, hret, hown, hts, hlocks, hA, hK⟩ := E1
  intro H locs ls hP hD hS hl
  unfold fJ6_numberOfLeadingZeros_0f7a4_48 at hr
  refine lv_iload_n hx hb dJ6_numberOfLeadingZeros_0f7a4_48 rfl (lv_at hl 0 rfl) ?_
  refine lv_bipush (v := 16) hx hb dJ6_numberOfLeadingZeros_0f7a4_49 (by decide) ?_
  refine lv_icmp_lt (tgt := 61) hx hb dJ6_numberOfLeadingZeros_0f7a4_51 (by decide) (fun c_1 => ?_) (fun c_1 => ?_)
  · have hr := x_ift hr c_1
    exact kJ6_numberOfLeadingZeros_0f7a4_61 E0 n r_ret v0 v1 hr H locs ls hP hD hS (lv_sub hl [0, 1] rfl)
  · have hr := x_iff hr c_1
    refine lv_iinc (v := v1 + (-4)) (lv' := [(1, .int (v1 + (-4))), (0, .int v0)]) hx hb dJ6_numberOfLeadingZeros_0f7a4_54 hl (k := 1) rfl rfl (by decide) rfl (fun ls hl => ?_)
    refine lv_iload_n hx hb dJ6_numberOfLeadingZeros_0f7a4_57 rfl (lv_at hl 1 rfl) ?_
    refine lv_iconst (v := 4) hx hb dJ6_numberOfLeadingZeros_0f7a4_58 (by decide) ?_
    refine lv_iushr hx hb dJ6_numberOfLeadingZeros_0f7a4_59 rfl ?_
    refine lv_istore_n (lv' := [(0, .int ((v0.toUInt32 >>> ((4 : Int32).toUInt32 &&& Int32.toUInt32 31)).toInt32)), (1, .int (v1 + (-4)))]) hx hb dJ6_numberOfLeadingZeros_0f7a4_60 rfl hl (by decide) rfl (fun ls hl => ?_)
    exact kJ6_numberOfLeadingZeros_0f7a4_61 E0 n r_ret ((v0.toUInt32 >>> ((4 : Int32).toUInt32 &&& Int32.toUInt32 31)).toInt32) (v1 + (-4)) hr H locs ls hP hD hS (lv_sub hl [0, 1] rfl)
set_option maxHeartbeats 4000000 in
set_option maxRecDepth 100000 in
theorem kJ6_numberOfLeadingZeros_0f7a4_33 {p : Program} {l : Launch} {e : Env} {s : State} {m : MethodId} {args : Array Value} {below : List Frame} {meth : Method} {cd : Code} {D : va_G} {c : Nat → ClassId} {A : Nat → Prop} (E0 : xE p s m args meth cd D (xT c) A RJ6 cJ6_numberOfLeadingZeros_0f7a4 2 (some .int) wsJ6_numberOfLeadingZeros_0f7a4) (n : Nat) (r_ret : Int32) (v0 : Int32) (v1 : Int32) (hr : fJ6_numberOfLeadingZeros_0f7a4_33 n v0 v1 = some (r_ret)) : GJ6_numberOfLeadingZeros_0f7a4 p l e s m args below meth cd D c A r_ret 33 [] [(0, .int v0), (1, .int v1)] := by
  have E1 := E0
  obtain ⟨hx, hb, hml, hret, hown, hts, hlocks, hA, hK⟩ := E1
  intro H locs ls hP hD hS hl
  unfold fJ6_numberOfLeadingZeros_0f7a4_33 at hr
  refine lv_iload_n hx hb dJ6_numberOfLeadingZeros_0f7a4_33 rfl (lv_at hl 0 rfl) ?_
  refine lv_sipush (v := 256) hx hb dJ6_numberOfLeadingZeros_0f7a4_34 (by decide) ?_
  refine lv_icmp_lt (tgt := 48) hx hb dJ6_numberOfLeadingZeros_0f7a4_37 (by decide) (fun c_1 => ?_) (fun c_1 => ?_)
  · have hr := x_ift hr c_1
    exact kJ6_numberOfLeadingZeros_0f7a4_48 E0 n r_ret v0 v1 hr H locs ls hP hD hS (lv_sub hl [0, 1] rfl)
  · have hr := x_iff hr c_1
    refine lv_iinc (v := v1 + (-8)) (lv' := [(1, .int (v1 + (-8))), (0, .int v0)]) hx hb dJ6_numberOfLeadingZeros_0f7a4_40 hl (k := 1) rfl rfl (by decide) rfl (fun ls hl => ?_)
    refine lv_iload_n hx hb dJ6_numberOfLeadingZeros_0f7a4_43 rfl (lv_at hl 1 rfl) ?_
    refine lv_bipush (v := 8) hx hb dJ6_numberOfLeadingZeros_0f7a4_44 (by decide) ?_
    refine lv_iushr hx hb dJ6_numberOfLeadingZeros_0f7a4_46 rfl ?_
    refine lv_istore_n (lv' := [(0, .int ((v0.toUInt32 >>> ((8 : Int32).toUInt32 &&& Int32.toUInt32 31)).toInt32)), (1, .int (v1 + (-8)))]) hx hb dJ6_numberOfLeadingZeros_0f7a4_47 rfl hl (by decide) rfl (fun ls hl => ?_)
    exact kJ6_numberOfLeadingZeros_0f7a4_48 E0 n r_ret ((v0.toUInt32 >>> ((8 : Int32).toUInt32 &&& Int32.toUInt32 31)).toInt32) (v1 + (-8)) hr H locs ls hP hD hS (lv_sub hl [0, 1] rfl)
set_option maxHeartbeats 4000000 in
set_option maxRecDepth 100000 in
theorem kJ6_numberOfLeadingZeros_0f7a4_0 {p : Program} {l : Launch} {e : Env} {s : State} {m : MethodId} {args : Array Value} {below : List Frame} {meth : Method} {cd : Code} {D : va_G} {c : Nat → ClassId} {A : Nat → Prop} (E0 : xE p s m args meth cd D (xT c) A RJ6 cJ6_numberOfLeadingZeros_0f7a4 2 (some .int) wsJ6_numberOfLeadingZeros_0f7a4) (n : Nat) (r_ret : Int32) (v0 : Int32) (hr : fJ6_numberOfLeadingZeros_0f7a4 n v0 = some (r_ret)) : GJ6_numberOfLeadingZeros_0f7a4 p l e s m args below meth cd D c A r_ret 0 [] [(0, .int v0)] := by
  have E1 := E0
  obtain ⟨hx, hb, hml, hret, hown, hts, hlocks, hA, hK⟩ := E1
  intro H locs ls hP hD hS hl
  unfold fJ6_numberOfLeadingZeros_0f7a4 at hr
  refine lv_iload_n hx hb dJ6_numberOfLeadingZeros_0f7a4_0 rfl (lv_at hl 0 rfl) ?_
  refine lv_if_gt (tgt := 15) hx hb dJ6_numberOfLeadingZeros_0f7a4_1 (by decide) (fun c_1 => ?_) (fun c_1 => ?_)
  · have hr := x_ift hr c_1
    refine lv_bipush (v := 31) hx hb dJ6_numberOfLeadingZeros_0f7a4_15 (by decide) ?_
    refine lv_istore_n (lv' := [(1, .int 31), (0, .int v0)]) hx hb dJ6_numberOfLeadingZeros_0f7a4_17 rfl hl (by decide) rfl (fun ls hl => ?_)
    refine lv_iload_n hx hb dJ6_numberOfLeadingZeros_0f7a4_18 rfl (lv_at hl 1 rfl) ?_
    refine lv_ldcw hx hb hown (hts _ lkJ6_numberOfLeadingZeros_0f7a4_c264) dJ6_numberOfLeadingZeros_0f7a4_19 ?_
    refine lv_icmp_lt (tgt := 33) hx hb dJ6_numberOfLeadingZeros_0f7a4_22 (by decide) (fun c_2 => ?_) (fun c_2 => ?_)
    · have hr := x_ift hr c_2
      exact kJ6_numberOfLeadingZeros_0f7a4_33 E0 n r_ret v0 31 hr H locs ls hP hD hS (lv_sub hl [1, 0] rfl)
    · have hr := x_iff hr c_2
      refine lv_iinc (v := 31 + (-16)) (lv' := [(1, .int (31 + (-16))), (0, .int v0)]) hx hb dJ6_numberOfLeadingZeros_0f7a4_25 hl (k := 0) rfl rfl (by decide) rfl (fun ls hl => ?_)
      refine lv_iload_n hx hb dJ6_numberOfLeadingZeros_0f7a4_28 rfl (lv_at hl 1 rfl) ?_
      refine lv_bipush (v := 16) hx hb dJ6_numberOfLeadingZeros_0f7a4_29 (by decide) ?_
      refine lv_iushr hx hb dJ6_numberOfLeadingZeros_0f7a4_31 rfl ?_
      refine lv_istore_n (lv' := [(0, .int ((v0.toUInt32 >>> ((16 : Int32).toUInt32 &&& Int32.toUInt32 31)).toInt32)), (1, .int (31 + (-16)))]) hx hb dJ6_numberOfLeadingZeros_0f7a4_32 rfl hl (by decide) rfl (fun ls hl => ?_)
      exact kJ6_numberOfLeadingZeros_0f7a4_33 E0 n r_ret ((v0.toUInt32 >>> ((16 : Int32).toUInt32 &&& Int32.toUInt32 31)).toInt32) (31 + (-16)) hr H locs ls hP hD hS (lv_sub hl [0, 1] rfl)
  · have hr := x_iff hr c_1
    refine lv_iload_n hx hb dJ6_numberOfLeadingZeros_0f7a4_4 rfl (lv_at hl 0 rfl) ?_
    refine lv_if_ne (tgt := 13) hx hb dJ6_numberOfLeadingZeros_0f7a4_5 (by decide) (fun c_3 => ?_) (fun c_3 => ?_)
    · have hr := x_iff hr c_3
      refine lv_iconst (v := 0) hx hb dJ6_numberOfLeadingZeros_0f7a4_13 (by decide) ?_
      exact kJ6_numberOfLeadingZeros_0f7a4_14 E0 n r_ret 0 hr H locs ls hP hD hS (lv_sub hl [] rfl)
    · have hr := x_ift hr c_3
      refine lv_bipush (v := 32) hx hb dJ6_numberOfLeadingZeros_0f7a4_8 (by decide) ?_
      refine lv_goto (tgt := 14) hx hb dJ6_numberOfLeadingZeros_0f7a4_10 (by decide) ?_
      exact kJ6_numberOfLeadingZeros_0f7a4_14 E0 n r_ret 32 hr H locs ls hP hD hS (lv_sub hl [] rfl)
set_option maxHeartbeats 4000000 in
set_option maxRecDepth 100000 in
theorem mJ6_numberOfLeadingZeros_0f7a4 (l : Launch) (D : va_G) (c : Nat → ClassId) (sz : Nat) (v0 : Int32) (n : Nat) (r_ret : Int32) (h : fJ6_numberOfLeadingZeros_0f7a4 n v0 = some (r_ret)) : Met l yJ6_numberOfLeadingZeros_0f7a4 wsJ6_numberOfLeadingZeros_0f7a4 ({ frames := 0, cells := 0, slots := 0, locals := 0 } : Room) (xPc D (xT c) sz [.int v0] (wJ6_numberOfLeadingZeros_0f7a4 c) (fun _ => True)) (xQi D (xT c) (va_A (wJ6_numberOfLeadingZeros_0f7a4 c) sz) r_ret (wJ6_numberOfLeadingZeros_0f7a4 c)) 0 0 (va_A (wJ6_numberOfLeadingZeros_0f7a4 c) sz) := by
  refine Met.ofW (cc := cJ6_numberOfLeadingZeros_0f7a4) (maxL := 2) (ret := (some .int)) (by decide) rfl ?_
  intro p e s m args below meth cd s₁ B hml hv
  obtain ⟨rfl, hsz, hP, hK, hD0, hV⟩ := hv
  subst hsz
  have hl := lv_entry [.int v0] (n := 2) (Nat.le_of_ble_eq_true rfl)
  rw [lg_entry_eq]
  exact kJ6_numberOfLeadingZeros_0f7a4_0 (A := va_A (wJ6_numberOfLeadingZeros_0f7a4 c) s.heap.size) ⟨B.exec, B.bytes, hml, B.returns, findClass_of_methodNamed B.named, atoms_spec (ws := wsJ6_numberOfLeadingZeros_0f7a4) B.pre, B.notSynchronized, fun q h => Or.inr h, hK⟩ n r_ret v0 h s.heap [] _ hP hD0.self va_S.rf hl

abbrev wJ6_numberOfTrailingZeros_0f7a4 (c : Nat → ClassId) : va_W := []
def GJ6_numberOfTrailingZeros_0f7a4 (p : Program) (l : Launch) (e : Env) (s : State) (m : MethodId) (args : Array Value) (below : List Frame) (meth : Method) (cd : Code) (D : va_G) (c : Nat → ClassId) (A : Nat → Prop) (r_ret : Int32) (pc : Nat) (st : List Value) (loc : List (Nat × Value)) : Prop :=
  ∀ (H : Heap) (locs : List Loc) (ls : Array Slot), va_P D vwCl (wJ6_numberOfTrailingZeros_0f7a4 c) H → va_D A (wJ6_numberOfTrailingZeros_0f7a4 c) → va_S A s.heap H locs → lv_has ls 2 loc → W p l e ({ frames := 0, cells := 0, slots := 0, locals := 0 } : Room) s m args below meth cd H locs 0 0 (MQ below (xQi D (xT c) A r_ret (wJ6_numberOfTrailingZeros_0f7a4 c)) args s 0 0 A) (F0 m pc ls st)
theorem lkJ6_numberOfTrailingZeros_0f7a4_c264 : Cond.constant RJ6 264 65536 ∈ wsJ6_numberOfTrailingZeros_0f7a4 := by decide +kernel
set_option maxHeartbeats 4000000 in
set_option maxRecDepth 100000 in
theorem kJ6_numberOfTrailingZeros_0f7a4_74 {p : Program} {l : Launch} {e : Env} {s : State} {m : MethodId} {args : Array Value} {below : List Frame} {meth : Method} {cd : Code} {D : va_G} {c : Nat → ClassId} {A : Nat → Prop} (E0 : xE p s m args meth cd D (xT c) A RJ6 cJ6_numberOfTrailingZeros_0f7a4 2 (some .int) wsJ6_numberOfTrailingZeros_0f7a4) (n : Nat) (r_ret : Int32) (v0 : Int32) (v1 : Int32) (hr : fJ6_numberOfTrailingZeros_0f7a4_74 n v0 v1 = some (r_ret)) : GJ6_numberOfTrailingZeros_0f7a4 p l e s m args below meth cd D c A r_ret 74 [] [(0, .int v0), (1, .int v1)] := by
  have E1 := E0
  obtain ⟨hx, hb, hml, hret, hown, hts, hlocks, hA, hK⟩ := E1
  intro H locs ls hP hD hS hl
  unfold fJ6_numberOfTrailingZeros_0f7a4_74 at hr
  refine lv_iload_n hx hb dJ6_numberOfTrailingZeros_0f7a4_74 rfl (lv_at hl 1 rfl) ?_
  refine lv_iload_n hx hb dJ6_numberOfTrailingZeros_0f7a4_75 rfl (lv_at hl 0 rfl) ?_
  refine lv_iconst (v := 1) hx hb dJ6_numberOfTrailingZeros_0f7a4_76 (by decide) ?_
  refine lv_iushr hx hb dJ6_numberOfTrailingZeros_0f7a4_77 rfl ?_
  refine lv_iadd hx hb dJ6_numberOfTrailingZeros_0f7a4_78 ?_
  have e0 := x_some hr
  subst e0
  exact x_reti hx hb hret hlocks hP hD hK hS dJ6_numberOfTrailingZeros_0f7a4_79
set_option maxHeartbeats 4000000 in
set_option maxRecDepth 100000 in
theorem kJ6_numberOfTrailingZeros_0f7a4_62 {p : Program} {l : Launch} {e : Env} {s : State} {m : MethodId} {args : Array Value} {below : List Frame} {meth : Method} {cd : Code} {D : va_G} {c : Nat → ClassId} {A : Nat → Prop} (E0 : xE p s m args meth cd D (xT c) A RJ6 cJ6_numberOfTrailingZeros_0f7a4 2 (some .int) wsJ6_numberOfTrailingZeros_0f7a4) (n : Nat) (r_ret : Int32) (v0 : Int32) (v1 : Int32) (hr : fJ6_numberOfTrailingZeros_0f7a4_62 n v0 v1 = some (r_ret)) : GJ6_numberOfTrailingZeros_0f7a4 p l e s m args below meth cd D c A r_ret 62 [] [(0, .int v0), (1, .int v1)] := by
  have E1 := E0
  obtain ⟨hx, hb, hml, hret, hown, hts, hlocks, hA, hK⟩ := E1
  intro H locs ls hP hD hS hl
  unfold fJ6_numberOfTrailingZeros_0f7a4_62 at hr
  refine lv_iload_n hx hb dJ6_numberOfTrailingZeros_0f7a4_62 rfl (lv_at hl 0 rfl) ?_
  refine lv_iconst (v := 4) hx hb dJ6_numberOfTrailingZeros_0f7a4_63 (by decide) ?_
  refine lv_icmp_le (tgt := 74) hx hb dJ6_numberOfTrailingZeros_0f7a4_64 (by decide) (fun c_1 => ?_) (fun c_1 => ?_)
  · have hr := x_ift hr c_1
    exact kJ6_numberOfTrailingZeros_0f7a4_74 E0 n r_ret v0 v1 hr H locs ls hP hD hS (lv_sub hl [0, 1] rfl)
  · have hr := x_iff hr c_1
    refine lv_iinc (v := v1 + 2) (lv' := [(1, .int (v1 + 2)), (0, .int v0)]) hx hb dJ6_numberOfTrailingZeros_0f7a4_67 hl (k := 1) rfl rfl (by decide) rfl (fun ls hl => ?_)
    refine lv_iload_n hx hb dJ6_numberOfTrailingZeros_0f7a4_70 rfl (lv_at hl 1 rfl) ?_
    refine lv_iconst (v := 2) hx hb dJ6_numberOfTrailingZeros_0f7a4_71 (by decide) ?_
    refine lv_iushr hx hb dJ6_numberOfTrailingZeros_0f7a4_72 rfl ?_
    refine lv_istore_n (lv' := [(0, .int ((v0.toUInt32 >>> ((2 : Int32).toUInt32 &&& Int32.toUInt32 31)).toInt32)), (1, .int (v1 + 2))]) hx hb dJ6_numberOfTrailingZeros_0f7a4_73 rfl hl (by decide) rfl (fun ls hl => ?_)
    exact kJ6_numberOfTrailingZeros_0f7a4_74 E0 n r_ret ((v0.toUInt32 >>> ((2 : Int32).toUInt32 &&& Int32.toUInt32 31)).toInt32) (v1 + 2) hr H locs ls hP hD hS (lv_sub hl [0, 1] rfl)
set_option maxHeartbeats 4000000 in
set_option maxRecDepth 100000 in
theorem kJ6_numberOfTrailingZeros_0f7a4_49 {p : Program} {l : Launch} {e : Env} {s : State} {m : MethodId} {args : Array Value} {below : List Frame} {meth : Method} {cd : Code} {D : va_G} {c : Nat → ClassId} {A : Nat → Prop} (E0 : xE p s m args meth cd D (xT c) A RJ6 cJ6_numberOfTrailingZeros_0f7a4 2 (some .int) wsJ6_numberOfTrailingZeros_0f7a4) (n : Nat) (r_ret : Int32) (v0 : Int32) (v1 : Int32) (hr : fJ6_numberOfTrailingZeros_0f7a4_49 n v0 v1 = some (r_ret)) : GJ6_numberOfTrailingZeros_0f7a4 p l e s m args below meth cd D c A r_ret 49 [] [(0, .int v0), (1, .int v1)] := by
  have E1 := E0
  obtain ⟨hx, hb, hml, hret, hown, hts, hlocks, hA, hK⟩ := E1
  intro H locs ls hP hD hS hl
  unfold fJ6_numberOfTrailingZeros_0f7a4_49 at hr
  refine lv_iload_n hx hb dJ6_numberOfTrailingZeros_0f7a4_49 rfl (lv_at hl 0 rfl) ?_
  refine lv_bipush (v := 16) hx hb dJ6_numberOfTrailingZeros_0f7a4_50 (by decide) ?_
  refine lv_icmp_le (tgt := 62) hx hb dJ6_numberOfTrailingZeros_0f7a4_52 (by decide) (fun c_1 => ?_) (fun c_1 => ?_)
  · have hr := x_ift hr c_1
    exact kJ6_numberOfTrailingZeros_0f7a4_62 E0 n r_ret v0 v1 hr H locs ls hP hD hS (lv_sub hl [0, 1] rfl)
  · have hr := x_iff hr c_1
    refine lv_iinc (v := v1 + 4) (lv' := [(1, .int (v1 + 4)), (0, .int v0)]) hx hb dJ6_numberOfTrailingZeros_0f7a4_55 hl (k := 1) rfl rfl (by decide) rfl (fun ls hl => ?_)
    refine lv_iload_n hx hb dJ6_numberOfTrailingZeros_0f7a4_58 rfl (lv_at hl 1 rfl) ?_
    refine lv_iconst (v := 4) hx hb dJ6_numberOfTrailingZeros_0f7a4_59 (by decide) ?_
    refine lv_iushr hx hb dJ6_numberOfTrailingZeros_0f7a4_60 rfl ?_
    refine lv_istore_n (lv' := [(0, .int ((v0.toUInt32 >>> ((4 : Int32).toUInt32 &&& Int32.toUInt32 31)).toInt32)), (1, .int (v1 + 4))]) hx hb dJ6_numberOfTrailingZeros_0f7a4_61 rfl hl (by decide) rfl (fun ls hl => ?_)
    exact kJ6_numberOfTrailingZeros_0f7a4_62 E0 n r_ret ((v0.toUInt32 >>> ((4 : Int32).toUInt32 &&& Int32.toUInt32 31)).toInt32) (v1 + 4) hr H locs ls hP hD hS (lv_sub hl [0, 1] rfl)
set_option maxHeartbeats 4000000 in
set_option maxRecDepth 100000 in
theorem kJ6_numberOfTrailingZeros_0f7a4_34 {p : Program} {l : Launch} {e : Env} {s : State} {m : MethodId} {args : Array Value} {below : List Frame} {meth : Method} {cd : Code} {D : va_G} {c : Nat → ClassId} {A : Nat → Prop} (E0 : xE p s m args meth cd D (xT c) A RJ6 cJ6_numberOfTrailingZeros_0f7a4 2 (some .int) wsJ6_numberOfTrailingZeros_0f7a4) (n : Nat) (r_ret : Int32) (v0 : Int32) (v1 : Int32) (hr : fJ6_numberOfTrailingZeros_0f7a4_34 n v0 v1 = some (r_ret)) : GJ6_numberOfTrailingZeros_0f7a4 p l e s m args below meth cd D c A r_ret 34 [] [(0, .int v0), (1, .int v1)] := by
  have E1 := E0
  obtain ⟨hx, hb, hml, hret, hown, hts, hlocks, hA, hK⟩ := E1
  intro H locs ls hP hD hS hl
  unfold fJ6_numberOfTrailingZeros_0f7a4_34 at hr
  refine lv_iload_n hx hb dJ6_numberOfTrailingZeros_0f7a4_34 rfl (lv_at hl 0 rfl) ?_
  refine lv_sipush (v := 256) hx hb dJ6_numberOfTrailingZeros_0f7a4_35 (by decide) ?_
  refine lv_icmp_le (tgt := 49) hx hb dJ6_numberOfTrailingZeros_0f7a4_38 (by decide) (fun c_1 => ?_) (fun c_1 => ?_)
  · have hr := x_ift hr c_1
    exact kJ6_numberOfTrailingZeros_0f7a4_49 E0 n r_ret v0 v1 hr H locs ls hP hD hS (lv_sub hl [0, 1] rfl)
  · have hr := x_iff hr c_1
    refine lv_iinc (v := v1 + 8) (lv' := [(1, .int (v1 + 8)), (0, .int v0)]) hx hb dJ6_numberOfTrailingZeros_0f7a4_41 hl (k := 1) rfl rfl (by decide) rfl (fun ls hl => ?_)
    refine lv_iload_n hx hb dJ6_numberOfTrailingZeros_0f7a4_44 rfl (lv_at hl 1 rfl) ?_
    refine lv_bipush (v := 8) hx hb dJ6_numberOfTrailingZeros_0f7a4_45 (by decide) ?_
    refine lv_iushr hx hb dJ6_numberOfTrailingZeros_0f7a4_47 rfl ?_
    refine lv_istore_n (lv' := [(0, .int ((v0.toUInt32 >>> ((8 : Int32).toUInt32 &&& Int32.toUInt32 31)).toInt32)), (1, .int (v1 + 8))]) hx hb dJ6_numberOfTrailingZeros_0f7a4_48 rfl hl (by decide) rfl (fun ls hl => ?_)
    exact kJ6_numberOfTrailingZeros_0f7a4_49 E0 n r_ret ((v0.toUInt32 >>> ((8 : Int32).toUInt32 &&& Int32.toUInt32 31)).toInt32) (v1 + 8) hr H locs ls hP hD hS (lv_sub hl [0, 1] rfl)
set_option maxHeartbeats 4000000 in
set_option maxRecDepth 100000 in
theorem kJ6_numberOfTrailingZeros_0f7a4_0 {p : Program} {l : Launch} {e : Env} {s : State} {m : MethodId} {args : Array Value} {below : List Frame} {meth : Method} {cd : Code} {D : va_G} {c : Nat → ClassId} {A : Nat → Prop} (E0 : xE p s m args meth cd D (xT c) A RJ6 cJ6_numberOfTrailingZeros_0f7a4 2 (some .int) wsJ6_numberOfTrailingZeros_0f7a4) (n : Nat) (r_ret : Int32) (v0 : Int32) (hr : fJ6_numberOfTrailingZeros_0f7a4 n v0 = some (r_ret)) : GJ6_numberOfTrailingZeros_0f7a4 p l e s m args below meth cd D c A r_ret 0 [] [(0, .int v0)] := by
  have E1 := E0
  obtain ⟨hx, hb, hml, hret, hown, hts, hlocks, hA, hK⟩ := E1
  intro H locs ls hP hD hS hl
  unfold fJ6_numberOfTrailingZeros_0f7a4 at hr
  refine lv_iload_n hx hb dJ6_numberOfTrailingZeros_0f7a4_0 rfl (lv_at hl 0 rfl) ?_
  refine lv_iconst (v := (-1)) hx hb dJ6_numberOfTrailingZeros_0f7a4_1 (by decide) ?_
  refine lv_ixor hx hb dJ6_numberOfTrailingZeros_0f7a4_2 ?_
  refine lv_iload_n hx hb dJ6_numberOfTrailingZeros_0f7a4_3 rfl (lv_at hl 0 rfl) ?_
  refine lv_iconst (v := 1) hx hb dJ6_numberOfTrailingZeros_0f7a4_4 (by decide) ?_
  refine lv_isub hx hb dJ6_numberOfTrailingZeros_0f7a4_5 ?_
  refine lv_iand hx hb dJ6_numberOfTrailingZeros_0f7a4_6 ?_
  refine lv_istore_n (lv' := [(0, .int ((v0 ^^^ (-1)) &&& (v0 - 1)))]) hx hb dJ6_numberOfTrailingZeros_0f7a4_7 rfl hl (by decide) rfl (fun ls hl => ?_)
  refine lv_iload_n hx hb dJ6_numberOfTrailingZeros_0f7a4_8 rfl (lv_at hl 0 rfl) ?_
  refine lv_if_gt (tgt := 17) hx hb dJ6_numberOfTrailingZeros_0f7a4_9 (by decide) (fun c_1 => ?_) (fun c_1 => ?_)
  · have hr := x_ift hr c_1
    refine lv_iconst (v := 1) hx hb dJ6_numberOfTrailingZeros_0f7a4_17 (by decide) ?_
    refine lv_istore_n (lv' := [(1, .int 1), (0, .int ((v0 ^^^ (-1)) &&& (v0 - 1)))]) hx hb dJ6_numberOfTrailingZeros_0f7a4_18 rfl hl (by decide) rfl (fun ls hl => ?_)
    refine lv_iload_n hx hb dJ6_numberOfTrailingZeros_0f7a4_19 rfl (lv_at hl 1 rfl) ?_
    refine lv_ldcw hx hb hown (hts _ lkJ6_numberOfTrailingZeros_0f7a4_c264) dJ6_numberOfTrailingZeros_0f7a4_20 ?_
    refine lv_icmp_le (tgt := 34) hx hb dJ6_numberOfTrailingZeros_0f7a4_23 (by decide) (fun c_2 => ?_) (fun c_2 => ?_)
    · have hr := x_ift hr c_2
      exact kJ6_numberOfTrailingZeros_0f7a4_34 E0 n r_ret ((v0 ^^^ (-1)) &&& (v0 - 1)) 1 hr H locs ls hP hD hS (lv_sub hl [1, 0] rfl)
    · have hr := x_iff hr c_2
      refine lv_iinc (v := 1 + 16) (lv' := [(1, .int (1 + 16)), (0, .int ((v0 ^^^ (-1)) &&& (v0 - 1)))]) hx hb dJ6_numberOfTrailingZeros_0f7a4_26 hl (k := 0) rfl rfl (by decide) rfl (fun ls hl => ?_)
      refine lv_iload_n hx hb dJ6_numberOfTrailingZeros_0f7a4_29 rfl (lv_at hl 1 rfl) ?_
      refine lv_bipush (v := 16) hx hb dJ6_numberOfTrailingZeros_0f7a4_30 (by decide) ?_
      refine lv_iushr hx hb dJ6_numberOfTrailingZeros_0f7a4_32 rfl ?_
      refine lv_istore_n (lv' := [(0, .int ((((v0 ^^^ (-1)) &&& (v0 - 1)).toUInt32 >>> ((16 : Int32).toUInt32 &&& Int32.toUInt32 31)).toInt32)), (1, .int (1 + 16))]) hx hb dJ6_numberOfTrailingZeros_0f7a4_33 rfl hl (by decide) rfl (fun ls hl => ?_)
      exact kJ6_numberOfTrailingZeros_0f7a4_34 E0 n r_ret ((((v0 ^^^ (-1)) &&& (v0 - 1)).toUInt32 >>> ((16 : Int32).toUInt32 &&& Int32.toUInt32 31)).toInt32) (1 + 16) hr H locs ls hP hD hS (lv_sub hl [0, 1] rfl)
  · have hr := x_iff hr c_1
    refine lv_iload_n hx hb dJ6_numberOfTrailingZeros_0f7a4_12 rfl (lv_at hl 0 rfl) ?_
    refine lv_bipush (v := 32) hx hb dJ6_numberOfTrailingZeros_0f7a4_13 (by decide) ?_
    refine lv_iand hx hb dJ6_numberOfTrailingZeros_0f7a4_15 ?_
    have e0 := x_some hr
    subst e0
    exact x_reti hx hb hret hlocks hP hD hK hS dJ6_numberOfTrailingZeros_0f7a4_16
set_option maxHeartbeats 4000000 in
set_option maxRecDepth 100000 in
theorem mJ6_numberOfTrailingZeros_0f7a4 (l : Launch) (D : va_G) (c : Nat → ClassId) (sz : Nat) (v0 : Int32) (n : Nat) (r_ret : Int32) (h : fJ6_numberOfTrailingZeros_0f7a4 n v0 = some (r_ret)) : Met l yJ6_numberOfTrailingZeros_0f7a4 wsJ6_numberOfTrailingZeros_0f7a4 ({ frames := 0, cells := 0, slots := 0, locals := 0 } : Room) (xPc D (xT c) sz [.int v0] (wJ6_numberOfTrailingZeros_0f7a4 c) (fun _ => True)) (xQi D (xT c) (va_A (wJ6_numberOfTrailingZeros_0f7a4 c) sz) r_ret (wJ6_numberOfTrailingZeros_0f7a4 c)) 0 0 (va_A (wJ6_numberOfTrailingZeros_0f7a4 c) sz) := by
  refine Met.ofW (cc := cJ6_numberOfTrailingZeros_0f7a4) (maxL := 2) (ret := (some .int)) (by decide) rfl ?_
  intro p e s m args below meth cd s₁ B hml hv
  obtain ⟨rfl, hsz, hP, hK, hD0, hV⟩ := hv
  subst hsz
  have hl := lv_entry [.int v0] (n := 2) (Nat.le_of_ble_eq_true rfl)
  rw [lg_entry_eq]
  exact kJ6_numberOfTrailingZeros_0f7a4_0 (A := va_A (wJ6_numberOfTrailingZeros_0f7a4 c) s.heap.size) ⟨B.exec, B.bytes, hml, B.returns, findClass_of_methodNamed B.named, atoms_spec (ws := wsJ6_numberOfTrailingZeros_0f7a4) B.pre, B.notSynchronized, fun q h => Or.inr h, hK⟩ n r_ret v0 h s.heap [] _ hP hD0.self va_S.rf hl

abbrev wX0_setAs (c : Nat → ClassId) (a_this : Nat) (a_p0 : Nat) (a_p0_leans : Nat) (a_p0_all : Nat) (a_p0_lostWith : Nat) (a_leans : Nat) (a_all : Nat) (a_lostWith : Nat) (x_p0_size : Int32) (x_p0_leans : Nat → Int32) (x_p0_all : Nat → Int32) (x_p0_lostWith : Nat → Int32) (x_size : Int32) (x_leans : Nat → Int32) (x_all : Nat → Int32) (x_lostWith : Nat → Int32) : va_W := [(a_p0, .inr (0, [.int x_p0_size, .ref a_p0_leans, .ref a_p0_all, .ref a_p0_lostWith])), (a_this, .inr (0, [.int x_size, .ref a_leans, .ref a_all, .ref a_lostWith])), (a_p0_leans, .inl (c 0, 12, .inl x_p0_leans)), (a_leans, .inl (c 0, 12, .inl x_leans)), (a_p0_all, .inl (c 0, 12, .inl x_p0_all)), (a_all, .inl (c 0, 12, .inl x_all)), (a_p0_lostWith, .inl (c 0, 12, .inl x_p0_lostWith)), (a_lostWith, .inl (c 0, 12, .inl x_lostWith))]
def GX0_setAs (p : Program) (l : Launch) (e : Env) (s : State) (m : MethodId) (args : Array Value) (below : List Frame) (meth : Method) (cd : Code) (D : va_G) (c : Nat → ClassId) (A : Nat → Prop) (a_this : Nat) (a_p0 : Nat) (a_p0_leans : Nat) (a_p0_all : Nat) (a_p0_lostWith : Nat) (a_leans : Nat) (a_all : Nat) (a_lostWith : Nat) (x_p0_size : Int32) (x_p0_leans : Nat → Int32) (x_p0_all : Nat → Int32) (x_p0_lostWith : Nat → Int32) (rm_size : Int32) (rm_leans : Nat → Int32) (rm_all : Nat → Int32) (rm_lostWith : Nat → Int32) (pc : Nat) (st : List Value) (loc : List (Nat × Value)) (x_size : Int32) (x_leans : Nat → Int32) (x_all : Nat → Int32) (x_lostWith : Nat → Int32) : Prop :=
  ∀ (H : Heap) (locs : List Loc) (ls : Array Slot), va_P D vwCl (wX0_setAs c a_this a_p0 a_p0_leans a_p0_all a_p0_lostWith a_leans a_all a_lostWith x_p0_size x_p0_leans x_p0_all x_p0_lostWith x_size x_leans x_all x_lostWith) H → va_D A (wX0_setAs c a_this a_p0 a_p0_leans a_p0_all a_p0_lostWith a_leans a_all a_lostWith x_p0_size x_p0_leans x_p0_all x_p0_lostWith x_size x_leans x_all x_lostWith) → va_S A s.heap H locs → lv_has ls 2 loc → W p l e ({ frames := 1, cells := 0, slots := 0, locals := 100 } : Room) s m args below meth cd H locs 0 0 (MQ below (xQv D (xT c) A (wX0_setAs c a_this a_p0 a_p0_leans a_p0_all a_p0_lostWith a_leans a_all a_lostWith x_p0_size x_p0_leans x_p0_all x_p0_lostWith rm_size rm_leans rm_all rm_lostWith)) args s 0 0 A) (F0 m pc ls st)
theorem lkX0_setAs_a25 : Cond.methodLink RX0 25 arraycopyName ∈ wsX0_setAs := by decide +kernel
theorem lkX0_setAs_an25 : Cond.native arraycopyName ∈ wsX0_setAs := by decide +kernel
theorem lkX0_setAs_as25 : Cond.static arraycopyName ∈ wsX0_setAs := by decide +kernel
theorem lkX0_setAs_ai25 : Cond.initialized "java/lang/System" ∈ wsX0_setAs := by decide +kernel
theorem lkX0_setAs_f15 : Cond.fieldLink RX0 15 "LeechClub$Facts" "all" "[I" ∈ wsX0_setAs := by decide +kernel
theorem lkX0_setAs_f18 : Cond.fieldLink RX0 18 "LeechClub$Facts" "lostWith" "[I" ∈ wsX0_setAs := by decide +kernel
theorem lkX0_setAs_f21 : Cond.fieldLink RX0 21 "LeechClub$Facts" "size" "I" ∈ wsX0_setAs := by decide +kernel
theorem lkX0_setAs_f9 : Cond.fieldLink RX0 9 "LeechClub$Facts" "leans" "[I" ∈ wsX0_setAs := by decide +kernel
theorem inX0_setAs_X0 : ∀ w ∈ wsX00, w ∈ wsX0_setAs := by decide +kernel
set_option maxHeartbeats 4000000 in
set_option maxRecDepth 100000 in
theorem kX0_setAs_0 {p : Program} {l : Launch} {e : Env} {s : State} {m : MethodId} {args : Array Value} {below : List Frame} {meth : Method} {cd : Code} {D : va_G} {c : Nat → ClassId} {A : Nat → Prop} (E0 : xE p s m args meth cd D (xT c) A RX0 cX0_setAs 2 none wsX0_setAs) (a_this : Nat) (a_p0 : Nat) (a_p0_leans : Nat) (a_p0_all : Nat) (a_p0_lostWith : Nat) (a_leans : Nat) (a_all : Nat) (a_lostWith : Nat) (x_p0_size : Int32) (x_p0_leans : Nat → Int32) (x_p0_all : Nat → Int32) (x_p0_lostWith : Nat → Int32) (n : Nat) (rm_size : Int32) (rm_leans : Nat → Int32) (rm_all : Nat → Int32) (rm_lostWith : Nat → Int32) (x_size : Int32) (x_leans : Nat → Int32) (x_all : Nat → Int32) (x_lostWith : Nat → Int32) (hr : fX0_setAs n x_p0_size x_p0_leans x_p0_all x_p0_lostWith x_size x_leans x_all x_lostWith = some (rm_size, rm_leans, rm_all, rm_lostWith)) : GX0_setAs p l e s m args below meth cd D c A a_this a_p0 a_p0_leans a_p0_all a_p0_lostWith a_leans a_all a_lostWith x_p0_size x_p0_leans x_p0_all x_p0_lostWith rm_size rm_leans rm_all rm_lostWith 0 [] [(0, .ref a_this), (1, .ref a_p0)] x_size x_leans x_all x_lostWith := by
  have E1 := E0
  obtain ⟨hx, hb, hml, hret, hown, hts, hlocks, hA, hK⟩ := E1
  intro H locs ls hP hD hS hl
  unfold fX0_setAs at hr
  refine lv_aload_n hx hb dX0_setAs_0 rfl (lv_at hl 0 rfl) ?_
  refine lv_aload_n hx hb dX0_setAs_1 rfl (lv_at hl 1 rfl) ?_
  refine va_get (D := D) (ci := 0) (v := .int x_p0_size) (C := RX0) (T := TX0) (N := 4) hx hb hts inX0_setAs_X0 hown hK hP 0 rfl rfl 0 (by decide) (hts _ lkX0_setAs_f21) (fun _ h9 => h9) rfl dX0_setAs_2 ?_
  refine va_put (D := D) (ci := 0) (v := .int x_p0_size) (ty := .int) (C := RX0) (T := TX0) (N := 4) hx hb hts inX0_setAs_X0 tyX0 tyX0_ok nmX0 hown hK hP hD hS 1 rfl rfl 0 (by decide) (hts _ lkX0_setAs_f21) (fun _ h9 => h9) rfl (by decide +kernel) rfl rfl (Nat.le_of_ble_eq_true rfl) dX0_setAs_5 (fun H locs hP hD hS => ?_)
  have hP : va_P D vwCl [(a_p0, .inr (0, [.int x_p0_size, .ref a_p0_leans, .ref a_p0_all, .ref a_p0_lostWith])), (a_this, .inr (0, [.int x_p0_size, .ref a_leans, .ref a_all, .ref a_lostWith])), (a_p0_leans, .inl (c 0, 12, .inl x_p0_leans)), (a_leans, .inl (c 0, 12, .inl x_leans)), (a_p0_all, .inl (c 0, 12, .inl x_p0_all)), (a_all, .inl (c 0, 12, .inl x_all)), (a_p0_lostWith, .inl (c 0, 12, .inl x_p0_lostWith)), (a_lostWith, .inl (c 0, 12, .inl x_lostWith))] H := hP
  have hD : va_D A [(a_p0, .inr (0, [.int x_p0_size, .ref a_p0_leans, .ref a_p0_all, .ref a_p0_lostWith])), (a_this, .inr (0, [.int x_p0_size, .ref a_leans, .ref a_all, .ref a_lostWith])), (a_p0_leans, .inl (c 0, 12, .inl x_p0_leans)), (a_leans, .inl (c 0, 12, .inl x_leans)), (a_p0_all, .inl (c 0, 12, .inl x_p0_all)), (a_all, .inl (c 0, 12, .inl x_all)), (a_p0_lostWith, .inl (c 0, 12, .inl x_p0_lostWith)), (a_lostWith, .inl (c 0, 12, .inl x_lostWith))] := hD
  refine lv_aload_n hx hb dX0_setAs_8 rfl (lv_at hl 1 rfl) ?_
  refine va_get (D := D) (ci := 0) (v := .ref a_p0_leans) (C := RX0) (T := TX0) (N := 4) hx hb hts inX0_setAs_X0 hown hK hP 0 rfl rfl 1 (by decide) (hts _ lkX0_setAs_f9) (fun _ h9 => h9) rfl dX0_setAs_9 ?_
  refine lv_iconst (v := 0) hx hb dX0_setAs_12 (by decide) ?_
  refine lv_aload_n hx hb dX0_setAs_13 rfl (lv_at hl 0 rfl) ?_
  refine va_get (D := D) (ci := 0) (v := .ref a_leans) (C := RX0) (T := TX0) (N := 4) hx hb hts inX0_setAs_X0 hown hK hP 1 rfl rfl 1 (by decide) (hts _ lkX0_setAs_f9) (fun _ h9 => h9) rfl dX0_setAs_14 ?_
  refine lv_iconst (v := 0) hx hb dX0_setAs_17 (by decide) ?_
  refine lv_bipush (v := 12) hx hb dX0_setAs_18 (by decide) ?_
  refine va_copyi hx hb (hml.trans hl.1.symm) hown (hts _ lkX0_setAs_a25) (hts _ lkX0_setAs_an25) (hts _ lkX0_setAs_as25) (hts _ lkX0_setAs_ai25) hK hP hD hS 2 3 0 0 rfl rfl rfl rfl rfl (by decide) (by decide) (by decide) (by decide) (by decide) (fun _ _ => rfl) (Nat.le_of_ble_eq_true rfl) (Nat.le_of_ble_eq_true rfl) dX0_setAs_20 (fun H locs hP hD hS => ?_)
  have hP : va_P D vwCl [(a_p0, .inr (0, [.int x_p0_size, .ref a_p0_leans, .ref a_p0_all, .ref a_p0_lostWith])), (a_this, .inr (0, [.int x_p0_size, .ref a_leans, .ref a_all, .ref a_lostWith])), (a_p0_leans, .inl (c 0, 12, .inl x_p0_leans)), (a_leans, .inl (c 0, 12, .inl (va_cpy x_p0_leans x_leans 0 0 12))), (a_p0_all, .inl (c 0, 12, .inl x_p0_all)), (a_all, .inl (c 0, 12, .inl x_all)), (a_p0_lostWith, .inl (c 0, 12, .inl x_p0_lostWith)), (a_lostWith, .inl (c 0, 12, .inl x_lostWith))] H := hP
  have hD : va_D A [(a_p0, .inr (0, [.int x_p0_size, .ref a_p0_leans, .ref a_p0_all, .ref a_p0_lostWith])), (a_this, .inr (0, [.int x_p0_size, .ref a_leans, .ref a_all, .ref a_lostWith])), (a_p0_leans, .inl (c 0, 12, .inl x_p0_leans)), (a_leans, .inl (c 0, 12, .inl (va_cpy x_p0_leans x_leans 0 0 12))), (a_p0_all, .inl (c 0, 12, .inl x_p0_all)), (a_all, .inl (c 0, 12, .inl x_all)), (a_p0_lostWith, .inl (c 0, 12, .inl x_p0_lostWith)), (a_lostWith, .inl (c 0, 12, .inl x_lostWith))] := hD
  refine lv_aload_n hx hb dX0_setAs_23 rfl (lv_at hl 1 rfl) ?_
  refine va_get (D := D) (ci := 0) (v := .ref a_p0_all) (C := RX0) (T := TX0) (N := 4) hx hb hts inX0_setAs_X0 hown hK hP 0 rfl rfl 2 (by decide) (hts _ lkX0_setAs_f15) (fun _ h9 => h9) rfl dX0_setAs_24 ?_
  refine lv_iconst (v := 0) hx hb dX0_setAs_27 (by decide) ?_
  refine lv_aload_n hx hb dX0_setAs_28 rfl (lv_at hl 0 rfl) ?_
  refine va_get (D := D) (ci := 0) (v := .ref a_all) (C := RX0) (T := TX0) (N := 4) hx hb hts inX0_setAs_X0 hown hK hP 1 rfl rfl 2 (by decide) (hts _ lkX0_setAs_f15) (fun _ h9 => h9) rfl dX0_setAs_29 ?_
  refine lv_iconst (v := 0) hx hb dX0_setAs_32 (by decide) ?_
  refine lv_bipush (v := 12) hx hb dX0_setAs_33 (by decide) ?_
  refine va_copyi hx hb (hml.trans hl.1.symm) hown (hts _ lkX0_setAs_a25) (hts _ lkX0_setAs_an25) (hts _ lkX0_setAs_as25) (hts _ lkX0_setAs_ai25) hK hP hD hS 4 5 0 0 rfl rfl rfl rfl rfl (by decide) (by decide) (by decide) (by decide) (by decide) (fun _ _ => rfl) (Nat.le_of_ble_eq_true rfl) (Nat.le_of_ble_eq_true rfl) dX0_setAs_35 (fun H locs hP hD hS => ?_)
  have hP : va_P D vwCl [(a_p0, .inr (0, [.int x_p0_size, .ref a_p0_leans, .ref a_p0_all, .ref a_p0_lostWith])), (a_this, .inr (0, [.int x_p0_size, .ref a_leans, .ref a_all, .ref a_lostWith])), (a_p0_leans, .inl (c 0, 12, .inl x_p0_leans)), (a_leans, .inl (c 0, 12, .inl (va_cpy x_p0_leans x_leans 0 0 12))), (a_p0_all, .inl (c 0, 12, .inl x_p0_all)), (a_all, .inl (c 0, 12, .inl (va_cpy x_p0_all x_all 0 0 12))), (a_p0_lostWith, .inl (c 0, 12, .inl x_p0_lostWith)), (a_lostWith, .inl (c 0, 12, .inl x_lostWith))] H := hP
  have hD : va_D A [(a_p0, .inr (0, [.int x_p0_size, .ref a_p0_leans, .ref a_p0_all, .ref a_p0_lostWith])), (a_this, .inr (0, [.int x_p0_size, .ref a_leans, .ref a_all, .ref a_lostWith])), (a_p0_leans, .inl (c 0, 12, .inl x_p0_leans)), (a_leans, .inl (c 0, 12, .inl (va_cpy x_p0_leans x_leans 0 0 12))), (a_p0_all, .inl (c 0, 12, .inl x_p0_all)), (a_all, .inl (c 0, 12, .inl (va_cpy x_p0_all x_all 0 0 12))), (a_p0_lostWith, .inl (c 0, 12, .inl x_p0_lostWith)), (a_lostWith, .inl (c 0, 12, .inl x_lostWith))] := hD
  refine lv_aload_n hx hb dX0_setAs_38 rfl (lv_at hl 1 rfl) ?_
  refine va_get (D := D) (ci := 0) (v := .ref a_p0_lostWith) (C := RX0) (T := TX0) (N := 4) hx hb hts inX0_setAs_X0 hown hK hP 0 rfl rfl 3 (by decide) (hts _ lkX0_setAs_f18) (fun _ h9 => h9) rfl dX0_setAs_39 ?_
  refine lv_iconst (v := 0) hx hb dX0_setAs_42 (by decide) ?_
  refine lv_aload_n hx hb dX0_setAs_43 rfl (lv_at hl 0 rfl) ?_
  refine va_get (D := D) (ci := 0) (v := .ref a_lostWith) (C := RX0) (T := TX0) (N := 4) hx hb hts inX0_setAs_X0 hown hK hP 1 rfl rfl 3 (by decide) (hts _ lkX0_setAs_f18) (fun _ h9 => h9) rfl dX0_setAs_44 ?_
  refine lv_iconst (v := 0) hx hb dX0_setAs_47 (by decide) ?_
  refine lv_bipush (v := 12) hx hb dX0_setAs_48 (by decide) ?_
  refine va_copyi hx hb (hml.trans hl.1.symm) hown (hts _ lkX0_setAs_a25) (hts _ lkX0_setAs_an25) (hts _ lkX0_setAs_as25) (hts _ lkX0_setAs_ai25) hK hP hD hS 6 7 0 0 rfl rfl rfl rfl rfl (by decide) (by decide) (by decide) (by decide) (by decide) (fun _ _ => rfl) (Nat.le_of_ble_eq_true rfl) (Nat.le_of_ble_eq_true rfl) dX0_setAs_50 (fun H locs hP hD hS => ?_)
  have hP : va_P D vwCl [(a_p0, .inr (0, [.int x_p0_size, .ref a_p0_leans, .ref a_p0_all, .ref a_p0_lostWith])), (a_this, .inr (0, [.int x_p0_size, .ref a_leans, .ref a_all, .ref a_lostWith])), (a_p0_leans, .inl (c 0, 12, .inl x_p0_leans)), (a_leans, .inl (c 0, 12, .inl (va_cpy x_p0_leans x_leans 0 0 12))), (a_p0_all, .inl (c 0, 12, .inl x_p0_all)), (a_all, .inl (c 0, 12, .inl (va_cpy x_p0_all x_all 0 0 12))), (a_p0_lostWith, .inl (c 0, 12, .inl x_p0_lostWith)), (a_lostWith, .inl (c 0, 12, .inl (va_cpy x_p0_lostWith x_lostWith 0 0 12)))] H := hP
  have hD : va_D A [(a_p0, .inr (0, [.int x_p0_size, .ref a_p0_leans, .ref a_p0_all, .ref a_p0_lostWith])), (a_this, .inr (0, [.int x_p0_size, .ref a_leans, .ref a_all, .ref a_lostWith])), (a_p0_leans, .inl (c 0, 12, .inl x_p0_leans)), (a_leans, .inl (c 0, 12, .inl (va_cpy x_p0_leans x_leans 0 0 12))), (a_p0_all, .inl (c 0, 12, .inl x_p0_all)), (a_all, .inl (c 0, 12, .inl (va_cpy x_p0_all x_all 0 0 12))), (a_p0_lostWith, .inl (c 0, 12, .inl x_p0_lostWith)), (a_lostWith, .inl (c 0, 12, .inl (va_cpy x_p0_lostWith x_lostWith 0 0 12)))] := hD
  have g0 := x_some hr
  have e0 := x_p1 g0
  have g1 := x_p2 g0
  have e1 := x_p1 g1
  have g2 := x_p2 g1
  have e2 := x_p1 g2
  have e3 := x_p2 g2
  subst e0
  subst e1
  subst e2
  subst e3
  exact x_retv hx hb hret hlocks hP hD hK hS dX0_setAs_53
set_option maxHeartbeats 4000000 in
set_option maxRecDepth 100000 in
theorem mX0_setAs (l : Launch) (D : va_G) (c : Nat → ClassId) (a_this : Nat) (a_p0 : Nat) (a_p0_leans : Nat) (a_p0_all : Nat) (a_p0_lostWith : Nat) (a_leans : Nat) (a_all : Nat) (a_lostWith : Nat) (sz : Nat) (x_p0_size : Int32) (x_p0_leans : Nat → Int32) (x_p0_all : Nat → Int32) (x_p0_lostWith : Nat → Int32) (x_size : Int32) (x_leans : Nat → Int32) (x_all : Nat → Int32) (x_lostWith : Nat → Int32) (n : Nat) (rm_size : Int32) (rm_leans : Nat → Int32) (rm_all : Nat → Int32) (rm_lostWith : Nat → Int32) (h : fX0_setAs n x_p0_size x_p0_leans x_p0_all x_p0_lostWith x_size x_leans x_all x_lostWith = some (rm_size, rm_leans, rm_all, rm_lostWith)) : Met l yX0_setAs wsX0_setAs ({ frames := 1, cells := 0, slots := 0, locals := 100 } : Room) (xPc D (xT c) sz [.ref a_this, .ref a_p0] (wX0_setAs c a_this a_p0 a_p0_leans a_p0_all a_p0_lostWith a_leans a_all a_lostWith x_p0_size x_p0_leans x_p0_all x_p0_lostWith x_size x_leans x_all x_lostWith) (fun _ => True)) (xQv D (xT c) (va_A (wX0_setAs c a_this a_p0 a_p0_leans a_p0_all a_p0_lostWith a_leans a_all a_lostWith x_p0_size x_p0_leans x_p0_all x_p0_lostWith x_size x_leans x_all x_lostWith) sz) (wX0_setAs c a_this a_p0 a_p0_leans a_p0_all a_p0_lostWith a_leans a_all a_lostWith x_p0_size x_p0_leans x_p0_all x_p0_lostWith rm_size rm_leans rm_all rm_lostWith)) 0 0 (va_A (wX0_setAs c a_this a_p0 a_p0_leans a_p0_all a_p0_lostWith a_leans a_all a_lostWith x_p0_size x_p0_leans x_p0_all x_p0_lostWith x_size x_leans x_all x_lostWith) sz) := by
  refine Met.ofW (cc := cX0_setAs) (maxL := 2) (ret := none) (by decide) rfl ?_
  intro p e s m args below meth cd s₁ B hml hv
  obtain ⟨rfl, hsz, hP, hK, hD0, hV⟩ := hv
  subst hsz
  have hl := lv_entry [.ref a_this, .ref a_p0] (n := 2) (Nat.le_of_ble_eq_true rfl)
  rw [lg_entry_eq]
  exact kX0_setAs_0 (A := va_A (wX0_setAs c a_this a_p0 a_p0_leans a_p0_all a_p0_lostWith a_leans a_all a_lostWith x_p0_size x_p0_leans x_p0_all x_p0_lostWith x_size x_leans x_all x_lostWith) s.heap.size) ⟨B.exec, B.bytes, hml, B.returns, findClass_of_methodNamed B.named, atoms_spec (ws := wsX0_setAs) B.pre, B.notSynchronized, fun q h => Or.inr h, hK⟩ a_this a_p0 a_p0_leans a_p0_all a_p0_lostWith a_leans a_all a_lostWith x_p0_size x_p0_leans x_p0_all x_p0_lostWith n rm_size rm_leans rm_all rm_lostWith x_size x_leans x_all x_lostWith h s.heap [] _ hP hD0.self va_S.rf hl

abbrev wX0_hasFact (c : Nat → ClassId) (a_this : Nat) (a_leans : Nat) (a_all : Nat) (a_lostWith : Nat) (x_size : Int32) : va_W := [(a_this, .inr (0, [.int x_size, .ref a_leans, .ref a_all, .ref a_lostWith]))]
def GX0_hasFact (p : Program) (l : Launch) (e : Env) (s : State) (m : MethodId) (args : Array Value) (below : List Frame) (meth : Method) (cd : Code) (D : va_G) (c : Nat → ClassId) (A : Nat → Prop) (a_this : Nat) (a_leans : Nat) (a_all : Nat) (a_lostWith : Nat) (x_size : Int32) (r_ret : Int32) (pc : Nat) (st : List Value) (loc : List (Nat × Value)) : Prop :=
  ∀ (H : Heap) (locs : List Loc) (ls : Array Slot), va_P D vwCl (wX0_hasFact c a_this a_leans a_all a_lostWith x_size) H → va_D A (wX0_hasFact c a_this a_leans a_all a_lostWith x_size) → va_S A s.heap H locs → lv_has ls 2 loc → W p l e ({ frames := 0, cells := 0, slots := 0, locals := 0 } : Room) s m args below meth cd H locs 0 0 (MQ below (xQi D (xT c) A r_ret (wX0_hasFact c a_this a_leans a_all a_lostWith x_size)) args s 0 0 A) (F0 m pc ls st)
theorem lkX0_hasFact_f21 : Cond.fieldLink RX0 21 "LeechClub$Facts" "size" "I" ∈ wsX0_hasFact := by decide +kernel
theorem inX0_hasFact_X0 : ∀ w ∈ wsX00, w ∈ wsX0_hasFact := by decide +kernel
set_option maxHeartbeats 4000000 in
set_option maxRecDepth 100000 in
theorem kX0_hasFact_17 {p : Program} {l : Launch} {e : Env} {s : State} {m : MethodId} {args : Array Value} {below : List Frame} {meth : Method} {cd : Code} {D : va_G} {c : Nat → ClassId} {A : Nat → Prop} (E0 : xE p s m args meth cd D (xT c) A RX0 cX0_hasFact 2 (some .boolean) wsX0_hasFact) (a_this : Nat) (a_leans : Nat) (a_all : Nat) (a_lostWith : Nat) (x_size : Int32) (n : Nat) (r_ret : Int32) (t0 : Int32) (hr : fX0_hasFact_17 n x_size t0 = some (r_ret)) : GX0_hasFact p l e s m args below meth cd D c A a_this a_leans a_all a_lostWith x_size r_ret 17 [.int t0] [] := by
  have E1 := E0
  obtain ⟨hx, hb, hml, hret, hown, hts, hlocks, hA, hK⟩ := E1
  intro H locs ls hP hD hS hl
  unfold fX0_hasFact_17 at hr
  obtain ⟨hz, hr⟩ := x_need hr
  have e0 := x_some hr
  subst e0
  exact x_retz hx hb hret (x_nz hz) hlocks hP hD hK hS dX0_hasFact_17
set_option maxHeartbeats 4000000 in
set_option maxRecDepth 100000 in
theorem kX0_hasFact_16 {p : Program} {l : Launch} {e : Env} {s : State} {m : MethodId} {args : Array Value} {below : List Frame} {meth : Method} {cd : Code} {D : va_G} {c : Nat → ClassId} {A : Nat → Prop} (E0 : xE p s m args meth cd D (xT c) A RX0 cX0_hasFact 2 (some .boolean) wsX0_hasFact) (a_this : Nat) (a_leans : Nat) (a_all : Nat) (a_lostWith : Nat) (x_size : Int32) (n : Nat) (r_ret : Int32) (hr : fX0_hasFact_16 n x_size = some (r_ret)) : GX0_hasFact p l e s m args below meth cd D c A a_this a_leans a_all a_lostWith x_size r_ret 16 [] [] := by
  have E1 := E0
  obtain ⟨hx, hb, hml, hret, hown, hts, hlocks, hA, hK⟩ := E1
  intro H locs ls hP hD hS hl
  unfold fX0_hasFact_16 at hr
  refine lv_iconst (v := 0) hx hb dX0_hasFact_16 (by decide) ?_
  exact kX0_hasFact_17 E0 a_this a_leans a_all a_lostWith x_size n r_ret 0 hr H locs ls hP hD hS (lv_sub hl [] rfl)
set_option maxHeartbeats 4000000 in
set_option maxRecDepth 100000 in
theorem kX0_hasFact_0 {p : Program} {l : Launch} {e : Env} {s : State} {m : MethodId} {args : Array Value} {below : List Frame} {meth : Method} {cd : Code} {D : va_G} {c : Nat → ClassId} {A : Nat → Prop} (E0 : xE p s m args meth cd D (xT c) A RX0 cX0_hasFact 2 (some .boolean) wsX0_hasFact) (a_this : Nat) (a_leans : Nat) (a_all : Nat) (a_lostWith : Nat) (x_size : Int32) (n : Nat) (r_ret : Int32) (v1 : Int32) (hr : fX0_hasFact n x_size v1 = some (r_ret)) : GX0_hasFact p l e s m args below meth cd D c A a_this a_leans a_all a_lostWith x_size r_ret 0 [] [(0, .ref a_this), (1, .int v1)] := by
  have E1 := E0
  obtain ⟨hx, hb, hml, hret, hown, hts, hlocks, hA, hK⟩ := E1
  intro H locs ls hP hD hS hl
  unfold fX0_hasFact at hr
  refine lv_iload_n hx hb dX0_hasFact_0 rfl (lv_at hl 1 rfl) ?_
  refine lv_if_lt (tgt := 16) hx hb dX0_hasFact_1 (by decide) (fun c_1 => ?_) (fun c_1 => ?_)
  · have hr := x_ift hr c_1
    exact kX0_hasFact_16 E0 a_this a_leans a_all a_lostWith x_size n r_ret hr H locs ls hP hD hS (lv_sub hl [] rfl)
  · have hr := x_iff hr c_1
    refine lv_iload_n hx hb dX0_hasFact_4 rfl (lv_at hl 1 rfl) ?_
    refine lv_aload_n hx hb dX0_hasFact_5 rfl (lv_at hl 0 rfl) ?_
    refine va_get (D := D) (ci := 0) (v := .int x_size) (C := RX0) (T := TX0) (N := 4) hx hb hts inX0_hasFact_X0 hown hK hP 0 rfl rfl 0 (by decide) (hts _ lkX0_hasFact_f21) (fun _ h9 => h9) rfl dX0_hasFact_6 ?_
    refine lv_icmp_ge (tgt := 16) hx hb dX0_hasFact_9 (by decide) (fun c_2 => ?_) (fun c_2 => ?_)
    · have hr := x_ift hr c_2
      exact kX0_hasFact_16 E0 a_this a_leans a_all a_lostWith x_size n r_ret hr H locs ls hP hD hS (lv_sub hl [] rfl)
    · have hr := x_iff hr c_2
      refine lv_iconst (v := 1) hx hb dX0_hasFact_12 (by decide) ?_
      refine lv_goto (tgt := 17) hx hb dX0_hasFact_13 (by decide) ?_
      exact kX0_hasFact_17 E0 a_this a_leans a_all a_lostWith x_size n r_ret 1 hr H locs ls hP hD hS (lv_sub hl [] rfl)
set_option maxHeartbeats 4000000 in
set_option maxRecDepth 100000 in
theorem mX0_hasFact (l : Launch) (D : va_G) (c : Nat → ClassId) (a_this : Nat) (a_leans : Nat) (a_all : Nat) (a_lostWith : Nat) (sz : Nat) (x_size : Int32) (v1 : Int32) (n : Nat) (r_ret : Int32) (h : fX0_hasFact n x_size v1 = some (r_ret)) : Met l yX0_hasFact wsX0_hasFact ({ frames := 0, cells := 0, slots := 0, locals := 0 } : Room) (xPc D (xT c) sz [.ref a_this, .int v1] (wX0_hasFact c a_this a_leans a_all a_lostWith x_size) (fun _ => True)) (xQi D (xT c) (va_A (wX0_hasFact c a_this a_leans a_all a_lostWith x_size) sz) r_ret (wX0_hasFact c a_this a_leans a_all a_lostWith x_size)) 0 0 (va_A (wX0_hasFact c a_this a_leans a_all a_lostWith x_size) sz) := by
  refine Met.ofW (cc := cX0_hasFact) (maxL := 2) (ret := (some .boolean)) (by decide) rfl ?_
  intro p e s m args below meth cd s₁ B hml hv
  obtain ⟨rfl, hsz, hP, hK, hD0, hV⟩ := hv
  subst hsz
  have hl := lv_entry [.ref a_this, .int v1] (n := 2) (Nat.le_of_ble_eq_true rfl)
  rw [lg_entry_eq]
  exact kX0_hasFact_0 (A := va_A (wX0_hasFact c a_this a_leans a_all a_lostWith x_size) s.heap.size) ⟨B.exec, B.bytes, hml, B.returns, findClass_of_methodNamed B.named, atoms_spec (ws := wsX0_hasFact) B.pre, B.notSynchronized, fun q h => Or.inr h, hK⟩ a_this a_leans a_all a_lostWith x_size n r_ret v1 h s.heap [] _ hP hD0.self va_S.rf hl

abbrev wX0_hasBits (c : Nat → ClassId) (a_this : Nat) (a_leans : Nat) (a_all : Nat) (a_lostWith : Nat) (x_size : Int32) : va_W := [(a_this, .inr (0, [.int x_size, .ref a_leans, .ref a_all, .ref a_lostWith]))]
def GX0_hasBits (p : Program) (l : Launch) (e : Env) (s : State) (m : MethodId) (args : Array Value) (below : List Frame) (meth : Method) (cd : Code) (D : va_G) (c : Nat → ClassId) (A : Nat → Prop) (a_this : Nat) (a_leans : Nat) (a_all : Nat) (a_lostWith : Nat) (x_size : Int32) (r_ret : Int32) (pc : Nat) (st : List Value) (loc : List (Nat × Value)) : Prop :=
  ∀ (H : Heap) (locs : List Loc) (ls : Array Slot), va_P D vwCl (wX0_hasBits c a_this a_leans a_all a_lostWith x_size) H → va_D A (wX0_hasBits c a_this a_leans a_all a_lostWith x_size) → va_S A s.heap H locs → lv_has ls 2 loc → W p l e ({ frames := 0, cells := 0, slots := 0, locals := 0 } : Room) s m args below meth cd H locs 0 0 (MQ below (xQi D (xT c) A r_ret (wX0_hasBits c a_this a_leans a_all a_lostWith x_size)) args s 0 0 A) (F0 m pc ls st)
theorem lkX0_hasBits_f21 : Cond.fieldLink RX0 21 "LeechClub$Facts" "size" "I" ∈ wsX0_hasBits := by decide +kernel
theorem inX0_hasBits_X0 : ∀ w ∈ wsX00, w ∈ wsX0_hasBits := by decide +kernel
set_option maxHeartbeats 4000000 in
set_option maxRecDepth 100000 in
theorem kX0_hasBits_19 {p : Program} {l : Launch} {e : Env} {s : State} {m : MethodId} {args : Array Value} {below : List Frame} {meth : Method} {cd : Code} {D : va_G} {c : Nat → ClassId} {A : Nat → Prop} (E0 : xE p s m args meth cd D (xT c) A RX0 cX0_hasBits 2 (some .boolean) wsX0_hasBits) (a_this : Nat) (a_leans : Nat) (a_all : Nat) (a_lostWith : Nat) (x_size : Int32) (n : Nat) (r_ret : Int32) (t0 : Int32) (hr : fX0_hasBits_19 n x_size t0 = some (r_ret)) : GX0_hasBits p l e s m args below meth cd D c A a_this a_leans a_all a_lostWith x_size r_ret 19 [.int t0] [] := by
  have E1 := E0
  obtain ⟨hx, hb, hml, hret, hown, hts, hlocks, hA, hK⟩ := E1
  intro H locs ls hP hD hS hl
  unfold fX0_hasBits_19 at hr
  obtain ⟨hz, hr⟩ := x_need hr
  have e0 := x_some hr
  subst e0
  exact x_retz hx hb hret (x_nz hz) hlocks hP hD hK hS dX0_hasBits_19
set_option maxHeartbeats 4000000 in
set_option maxRecDepth 100000 in
theorem kX0_hasBits_18 {p : Program} {l : Launch} {e : Env} {s : State} {m : MethodId} {args : Array Value} {below : List Frame} {meth : Method} {cd : Code} {D : va_G} {c : Nat → ClassId} {A : Nat → Prop} (E0 : xE p s m args meth cd D (xT c) A RX0 cX0_hasBits 2 (some .boolean) wsX0_hasBits) (a_this : Nat) (a_leans : Nat) (a_all : Nat) (a_lostWith : Nat) (x_size : Int32) (n : Nat) (r_ret : Int32) (hr : fX0_hasBits_18 n x_size = some (r_ret)) : GX0_hasBits p l e s m args below meth cd D c A a_this a_leans a_all a_lostWith x_size r_ret 18 [] [] := by
  have E1 := E0
  obtain ⟨hx, hb, hml, hret, hown, hts, hlocks, hA, hK⟩ := E1
  intro H locs ls hP hD hS hl
  unfold fX0_hasBits_18 at hr
  refine lv_iconst (v := 0) hx hb dX0_hasBits_18 (by decide) ?_
  exact kX0_hasBits_19 E0 a_this a_leans a_all a_lostWith x_size n r_ret 0 hr H locs ls hP hD hS (lv_sub hl [] rfl)
set_option maxHeartbeats 4000000 in
set_option maxRecDepth 100000 in
theorem kX0_hasBits_0 {p : Program} {l : Launch} {e : Env} {s : State} {m : MethodId} {args : Array Value} {below : List Frame} {meth : Method} {cd : Code} {D : va_G} {c : Nat → ClassId} {A : Nat → Prop} (E0 : xE p s m args meth cd D (xT c) A RX0 cX0_hasBits 2 (some .boolean) wsX0_hasBits) (a_this : Nat) (a_leans : Nat) (a_all : Nat) (a_lostWith : Nat) (x_size : Int32) (n : Nat) (r_ret : Int32) (v1 : Int32) (hr : fX0_hasBits n x_size v1 = some (r_ret)) : GX0_hasBits p l e s m args below meth cd D c A a_this a_leans a_all a_lostWith x_size r_ret 0 [] [(0, .ref a_this), (1, .int v1)] := by
  have E1 := E0
  obtain ⟨hx, hb, hml, hret, hown, hts, hlocks, hA, hK⟩ := E1
  intro H locs ls hP hD hS hl
  unfold fX0_hasBits at hr
  refine lv_iload_n hx hb dX0_hasBits_0 rfl (lv_at hl 1 rfl) ?_
  refine lv_if_lt (tgt := 18) hx hb dX0_hasBits_1 (by decide) (fun c_1 => ?_) (fun c_1 => ?_)
  · have hr := x_ift hr c_1
    exact kX0_hasBits_18 E0 a_this a_leans a_all a_lostWith x_size n r_ret hr H locs ls hP hD hS (lv_sub hl [] rfl)
  · have hr := x_iff hr c_1
    refine lv_iload_n hx hb dX0_hasBits_4 rfl (lv_at hl 1 rfl) ?_
    refine lv_iconst (v := 1) hx hb dX0_hasBits_5 (by decide) ?_
    refine lv_aload_n hx hb dX0_hasBits_6 rfl (lv_at hl 0 rfl) ?_
    refine va_get (D := D) (ci := 0) (v := .int x_size) (C := RX0) (T := TX0) (N := 4) hx hb hts inX0_hasBits_X0 hown hK hP 0 rfl rfl 0 (by decide) (hts _ lkX0_hasBits_f21) (fun _ h9 => h9) rfl dX0_hasBits_7 ?_
    refine lv_ishl hx hb dX0_hasBits_10 ?_
    refine lv_icmp_ge (tgt := 18) hx hb dX0_hasBits_11 (by decide) (fun c_2 => ?_) (fun c_2 => ?_)
    · have hr := x_ift hr c_2
      exact kX0_hasBits_18 E0 a_this a_leans a_all a_lostWith x_size n r_ret hr H locs ls hP hD hS (lv_sub hl [] rfl)
    · have hr := x_iff hr c_2
      refine lv_iconst (v := 1) hx hb dX0_hasBits_14 (by decide) ?_
      refine lv_goto (tgt := 19) hx hb dX0_hasBits_15 (by decide) ?_
      exact kX0_hasBits_19 E0 a_this a_leans a_all a_lostWith x_size n r_ret 1 hr H locs ls hP hD hS (lv_sub hl [] rfl)
set_option maxHeartbeats 4000000 in
set_option maxRecDepth 100000 in
theorem mX0_hasBits (l : Launch) (D : va_G) (c : Nat → ClassId) (a_this : Nat) (a_leans : Nat) (a_all : Nat) (a_lostWith : Nat) (sz : Nat) (x_size : Int32) (v1 : Int32) (n : Nat) (r_ret : Int32) (h : fX0_hasBits n x_size v1 = some (r_ret)) : Met l yX0_hasBits wsX0_hasBits ({ frames := 0, cells := 0, slots := 0, locals := 0 } : Room) (xPc D (xT c) sz [.ref a_this, .int v1] (wX0_hasBits c a_this a_leans a_all a_lostWith x_size) (fun _ => True)) (xQi D (xT c) (va_A (wX0_hasBits c a_this a_leans a_all a_lostWith x_size) sz) r_ret (wX0_hasBits c a_this a_leans a_all a_lostWith x_size)) 0 0 (va_A (wX0_hasBits c a_this a_leans a_all a_lostWith x_size) sz) := by
  refine Met.ofW (cc := cX0_hasBits) (maxL := 2) (ret := (some .boolean)) (by decide) rfl ?_
  intro p e s m args below meth cd s₁ B hml hv
  obtain ⟨rfl, hsz, hP, hK, hD0, hV⟩ := hv
  subst hsz
  have hl := lv_entry [.ref a_this, .int v1] (n := 2) (Nat.le_of_ble_eq_true rfl)
  rw [lg_entry_eq]
  exact kX0_hasBits_0 (A := va_A (wX0_hasBits c a_this a_leans a_all a_lostWith x_size) s.heap.size) ⟨B.exec, B.bytes, hml, B.returns, findClass_of_methodNamed B.named, atoms_spec (ws := wsX0_hasBits) B.pre, B.notSynchronized, fun q h => Or.inr h, hK⟩ a_this a_leans a_all a_lostWith x_size n r_ret v1 h s.heap [] _ hP hD0.self va_S.rf hl

abbrev wX7_hasBit (c : Nat → ClassId) : va_W := []
def GX7_hasBit (p : Program) (l : Launch) (e : Env) (s : State) (m : MethodId) (args : Array Value) (below : List Frame) (meth : Method) (cd : Code) (D : va_G) (c : Nat → ClassId) (A : Nat → Prop) (r_ret : Int32) (pc : Nat) (st : List Value) (loc : List (Nat × Value)) : Prop :=
  ∀ (H : Heap) (locs : List Loc) (ls : Array Slot), va_P D vwCl (wX7_hasBit c) H → va_D A (wX7_hasBit c) → va_S A s.heap H locs → lv_has ls 2 loc → W p l e ({ frames := 0, cells := 0, slots := 0, locals := 0 } : Room) s m args below meth cd H locs 0 0 (MQ below (xQi D (xT c) A r_ret (wX7_hasBit c)) args s 0 0 A) (F0 m pc ls st)
set_option maxHeartbeats 4000000 in
set_option maxRecDepth 100000 in
theorem kX7_hasBit_14 {p : Program} {l : Launch} {e : Env} {s : State} {m : MethodId} {args : Array Value} {below : List Frame} {meth : Method} {cd : Code} {D : va_G} {c : Nat → ClassId} {A : Nat → Prop} (E0 : xE p s m args meth cd D (xT c) A RX7 cX7_hasBit 2 (some .boolean) wsX7_hasBit) (n : Nat) (r_ret : Int32) (t0 : Int32) (hr : fX7_hasBit_14 n t0 = some (r_ret)) : GX7_hasBit p l e s m args below meth cd D c A r_ret 14 [.int t0] [] := by
  have E1 := E0
  obtain ⟨hx, hb, hml, hret, hown, hts, hlocks, hA, hK⟩ := E1
  intro H locs ls hP hD hS hl
  unfold fX7_hasBit_14 at hr
  obtain ⟨hz, hr⟩ := x_need hr
  have e0 := x_some hr
  subst e0
  exact x_retz hx hb hret (x_nz hz) hlocks hP hD hK hS dX7_hasBit_14
set_option maxHeartbeats 4000000 in
set_option maxRecDepth 100000 in
theorem kX7_hasBit_0 {p : Program} {l : Launch} {e : Env} {s : State} {m : MethodId} {args : Array Value} {below : List Frame} {meth : Method} {cd : Code} {D : va_G} {c : Nat → ClassId} {A : Nat → Prop} (E0 : xE p s m args meth cd D (xT c) A RX7 cX7_hasBit 2 (some .boolean) wsX7_hasBit) (n : Nat) (r_ret : Int32) (v0 : Int32) (v1 : Int32) (hr : fX7_hasBit n v0 v1 = some (r_ret)) : GX7_hasBit p l e s m args below meth cd D c A r_ret 0 [] [(0, .int v0), (1, .int v1)] := by
  have E1 := E0
  obtain ⟨hx, hb, hml, hret, hown, hts, hlocks, hA, hK⟩ := E1
  intro H locs ls hP hD hS hl
  unfold fX7_hasBit at hr
  refine lv_iload_n hx hb dX7_hasBit_0 rfl (lv_at hl 0 rfl) ?_
  refine lv_iload_n hx hb dX7_hasBit_1 rfl (lv_at hl 1 rfl) ?_
  refine lv_ishr hx hb dX7_hasBit_2 ?_
  refine lv_iconst (v := 1) hx hb dX7_hasBit_3 (by decide) ?_
  refine lv_iand hx hb dX7_hasBit_4 ?_
  refine lv_iconst (v := 1) hx hb dX7_hasBit_5 (by decide) ?_
  refine lv_icmp_ne (tgt := 13) hx hb dX7_hasBit_6 (by decide) (fun c_1 => ?_) (fun c_1 => ?_)
  · have hr := x_iff hr c_1
    refine lv_iconst (v := 0) hx hb dX7_hasBit_13 (by decide) ?_
    exact kX7_hasBit_14 E0 n r_ret 0 hr H locs ls hP hD hS (lv_sub hl [] rfl)
  · have hr := x_ift hr c_1
    refine lv_iconst (v := 1) hx hb dX7_hasBit_9 (by decide) ?_
    refine lv_goto (tgt := 14) hx hb dX7_hasBit_10 (by decide) ?_
    exact kX7_hasBit_14 E0 n r_ret 1 hr H locs ls hP hD hS (lv_sub hl [] rfl)
set_option maxHeartbeats 4000000 in
set_option maxRecDepth 100000 in
theorem mX7_hasBit (l : Launch) (D : va_G) (c : Nat → ClassId) (sz : Nat) (v0 : Int32) (v1 : Int32) (n : Nat) (r_ret : Int32) (h : fX7_hasBit n v0 v1 = some (r_ret)) : Met l yX7_hasBit wsX7_hasBit ({ frames := 0, cells := 0, slots := 0, locals := 0 } : Room) (xPc D (xT c) sz [.int v0, .int v1] (wX7_hasBit c) (fun _ => True)) (xQi D (xT c) (va_A (wX7_hasBit c) sz) r_ret (wX7_hasBit c)) 0 0 (va_A (wX7_hasBit c) sz) := by
  refine Met.ofW (cc := cX7_hasBit) (maxL := 2) (ret := (some .boolean)) (by decide) rfl ?_
  intro p e s m args below meth cd s₁ B hml hv
  obtain ⟨rfl, hsz, hP, hK, hD0, hV⟩ := hv
  subst hsz
  have hl := lv_entry [.int v0, .int v1] (n := 2) (Nat.le_of_ble_eq_true rfl)
  rw [lg_entry_eq]
  exact kX7_hasBit_0 (A := va_A (wX7_hasBit c) s.heap.size) ⟨B.exec, B.bytes, hml, B.returns, findClass_of_methodNamed B.named, atoms_spec (ws := wsX7_hasBit) B.pre, B.notSynchronized, fun q h => Or.inr h, hK⟩ n r_ret v0 v1 h s.heap [] _ hP hD0.self va_S.rf hl

abbrev wX0_allOf (c : Nat → ClassId) (a_this : Nat) (a_leans : Nat) (a_all : Nat) (a_lostWith : Nat) (ev : Nat → Nat) (x_size : Int32) (x_all : Nat → Int32) : va_W := [(a_this, .inr (0, [.int x_size, .ref a_leans, .ref a_all, .ref a_lostWith])), (a_all, .inl (c 0, 12, .inl x_all))]
def GX0_allOf (p : Program) (l : Launch) (e : Env) (s : State) (m : MethodId) (args : Array Value) (below : List Frame) (meth : Method) (cd : Code) (D : va_G) (c : Nat → ClassId) (A : Nat → Prop) (a_this : Nat) (a_leans : Nat) (a_all : Nat) (a_lostWith : Nat) (ev : Nat → Nat) (x_size : Int32) (x_all : Nat → Int32) (r_ret : Int32) (pc : Nat) (st : List Value) (loc : List (Nat × Value)) : Prop :=
  ∀ (H : Heap) (locs : List Loc) (ls : Array Slot), va_P D vwCl (wX0_allOf c a_this a_leans a_all a_lostWith ev x_size x_all) H → va_D A (wX0_allOf c a_this a_leans a_all a_lostWith ev x_size x_all) → va_S A s.heap H locs → lv_has ls 4 loc → W p l e ({ frames := 1, cells := 0, slots := 0, locals := 21 } : Room) s m args below meth cd H locs 0 0 (MQ below (xQi D (xT c) A r_ret (wX0_allOf c a_this a_leans a_all a_lostWith ev x_size x_all)) args s 0 0 A) (F0 m pc ls st)
theorem lkX0_allOf_f15 : Cond.fieldLink RX0 15 "LeechClub$Facts" "all" "[I" ∈ wsX0_allOf := by decide +kernel
theorem lkX0_allOf_f21 : Cond.fieldLink RX0 21 "LeechClub$Facts" "size" "I" ∈ wsX0_allOf := by decide +kernel
theorem lkX0_allOf_iRX7 : Cond.initialized RX7 ∈ wsX0_allOf := by decide +kernel
theorem lkX0_allOf_sX7_hasBit : Cond.static yX7_hasBit ∈ wsX0_allOf := by decide +kernel
theorem inX0_allOf_X0 : ∀ w ∈ wsX00, w ∈ wsX0_allOf := by decide +kernel
set_option maxHeartbeats 4000000 in
set_option maxRecDepth 100000 in
theorem kX0_allOf_29 {p : Program} {l : Launch} {e : Env} {s : State} {m : MethodId} {args : Array Value} {below : List Frame} {meth : Method} {cd : Code} {D : va_G} {c : Nat → ClassId} {A : Nat → Prop} (E0 : xE p s m args meth cd D (xT c) A RX0 cX0_allOf 4 (some .int) wsX0_allOf) (a_this : Nat) (a_leans : Nat) (a_all : Nat) (a_lostWith : Nat) (ev : Nat → Nat) (x_size : Int32) (x_all : Nat → Int32) (n : Nat) (r_ret : Int32) (hV : xV ev A s) (r_4 : Int32 → Int32 → Int32 → Option (Int32)) (h_4 : ∀ (v1 : Int32) (v2 : Int32) (v3 : Int32), r_4 v1 v2 v3 = some (r_ret) → GX0_allOf p l e s m args below meth cd D c A a_this a_leans a_all a_lostWith ev x_size x_all r_ret 4 [] [(0, .ref a_this), (1, .int v1), (2, .int v2), (3, .int v3)]) (v1 : Int32) (v2 : Int32) (v3 : Int32) (hr : fX0_allOf_29 n r_4 x_size x_all v1 v2 v3 = some (r_ret)) : GX0_allOf p l e s m args below meth cd D c A a_this a_leans a_all a_lostWith ev x_size x_all r_ret 29 [] [(0, .ref a_this), (1, .int v1), (2, .int v2), (3, .int v3)] := by
  have E1 := E0
  obtain ⟨hx, hb, hml, hret, hown, hts, hlocks, hA, hK⟩ := E1
  have hVV := hV
  obtain ⟨hn_RX7_9, hn_RX6_17, hn_RX6_24, hn_RX7_18, hn_RX7_25, hn_RX7_45, hn_RX7_52, hn_RX7_65, hn_RX7_70, hn_RX0_31, hn_RX3_53, hn_RX2_57, hn_RX3_65, hn_RX3_86, hz_TAKES, ht_TAKES, hz_HAS_ROOM, ht_HAS_ROOM, hz_SUCH, ht_SUCH, hz_FIRST_FIGURE, ht_FIRST_FIGURE, hz_compact, hz_sioobe, ho_Room, ho_Slate, ho_grid, hstr, hs_0, hs_1, hs_2, hs_3, hs_4, hs_5, hs_6, hs_7, hs_8⟩ := hVV
  intro H locs ls hP hD hS hl
  unfold fX0_allOf_29 at hr
  refine lv_iinc (v := v3 + 1) (lv' := [(3, .int (v3 + 1)), (0, .ref a_this), (1, .int v1), (2, .int v2)]) hx hb dX0_allOf_29 hl (k := 3) rfl rfl (by decide) rfl (fun ls hl => ?_)
  refine lv_goto (tgt := 4) hx hb dX0_allOf_32 (by decide) ?_
  exact h_4 v1 v2 (v3 + 1) hr H locs ls hP hD hS (lv_sub hl [1, 2, 3, 0] rfl)
set_option maxHeartbeats 4000000 in
set_option maxRecDepth 100000 in
theorem kX0_allOf_4 {p : Program} {l : Launch} {e : Env} {s : State} {m : MethodId} {args : Array Value} {below : List Frame} {meth : Method} {cd : Code} {D : va_G} {c : Nat → ClassId} {A : Nat → Prop} (E0 : xE p s m args meth cd D (xT c) A RX0 cX0_allOf 4 (some .int) wsX0_allOf) (a_this : Nat) (a_leans : Nat) (a_all : Nat) (a_lostWith : Nat) (ev : Nat → Nat) (x_size : Int32) (x_all : Nat → Int32) (n : Nat) (r_ret : Int32) (hV : xV ev A s) : ∀ (k : Nat) (v1 : Int32) (v2 : Int32) (v3 : Int32), fX0_allOf_4 n x_size x_all k v1 v2 v3 = some (r_ret) → GX0_allOf p l e s m args below meth cd D c A a_this a_leans a_all a_lostWith ev x_size x_all r_ret 4 [] [(0, .ref a_this), (1, .int v1), (2, .int v2), (3, .int v3)] := by
  have E1 := E0
  obtain ⟨hx, hb, hml, hret, hown, hts, hlocks, hA, hK⟩ := E1
  have hVV := hV
  obtain ⟨hn_RX7_9, hn_RX6_17, hn_RX6_24, hn_RX7_18, hn_RX7_25, hn_RX7_45, hn_RX7_52, hn_RX7_65, hn_RX7_70, hn_RX0_31, hn_RX3_53, hn_RX2_57, hn_RX3_65, hn_RX3_86, hz_TAKES, ht_TAKES, hz_HAS_ROOM, ht_HAS_ROOM, hz_SUCH, ht_SUCH, hz_FIRST_FIGURE, ht_FIRST_FIGURE, hz_compact, hz_sioobe, ho_Room, ho_Slate, ho_grid, hstr, hs_0, hs_1, hs_2, hs_3, hs_4, hs_5, hs_6, hs_7, hs_8⟩ := hVV
  intro k
  induction k with
  | zero => intro v1 v2 v3 hr; cases hr
  | succ k h_4 =>
    intro v1 v2 v3 hr H locs ls hP hD hS hl
    unfold fX0_allOf_4 at hr
    refine lv_iload_n hx hb dX0_allOf_4 rfl (lv_at hl 3 rfl) ?_
    refine lv_aload_n hx hb dX0_allOf_5 rfl (lv_at hl 0 rfl) ?_
    refine va_get (D := D) (ci := 0) (v := .int x_size) (C := RX0) (T := TX0) (N := 4) hx hb hts inX0_allOf_X0 hown hK hP 0 rfl rfl 0 (by decide) (hts _ lkX0_allOf_f21) (fun _ h9 => h9) rfl dX0_allOf_6 ?_
    refine lv_icmp_ge (tgt := 35) hx hb dX0_allOf_9 (by decide) (fun c_1 => ?_) (fun c_1 => ?_)
    · have hr := x_ift hr c_1
      refine lv_iload_n hx hb dX0_allOf_35 rfl (lv_at hl 2 rfl) ?_
      have e0 := x_some hr
      subst e0
      exact x_reti hx hb hret hlocks hP hD hK hS dX0_allOf_36
    · have hr := x_iff hr c_1
      refine lv_iload_n hx hb dX0_allOf_12 rfl (lv_at hl 1 rfl) ?_
      refine lv_iload_n hx hb dX0_allOf_13 rfl (lv_at hl 3 rfl) ?_
      obtain ⟨q2_0, hc2, hr⟩ := x_bind hr
      refine x_runi (wr := [(a_this, .inr (0, [.int x_size, .ref a_leans, .ref a_all, .ref a_lostWith])), (a_all, .inl (c 0, 12, .inl x_all))]) (wf := [(a_this, .inr (0, [.int x_size, .ref a_leans, .ref a_all, .ref a_lostWith])), (a_all, .inl (c 0, 12, .inl x_all))]) (x_goSN (As := [.int v1, .int v3]) (rest := []) ⟨hx, hb, hml, hown, hts⟩ (mX7_hasBit l D c H.size v1 v3 n _ hc2) ⟨va_cnB 2 hts gX0_allOf_X7_hasBit_n31 rfl rfl rfl hn_RX0_31 (hts _ lkX0_allOf_iRX7) (by decide +kernel) ⟨Nat.le_of_ble_eq_true rfl, Nat.le_of_ble_eq_true rfl⟩, hts _ lkX0_allOf_sX7_hasBit, trivial⟩ xB_t hP hD hK [] rfl (by decide) (fun _ _ _ => trivial) rfl hl.1 rfl (Nat.le_of_ble_eq_true rfl) dX0_allOf_14) hP hD hS hA [] [0, 1] [0, 1] rfl rfl rfl ⟨by decide, by decide, by decide⟩ (fun H locs hP hD hS => ?_)
      refine lv_if_eq (tgt := 29) hx hb dX0_allOf_17 (by decide) (fun c_3 => ?_) (fun c_3 => ?_)
      · have hr := x_ift hr c_3
        exact kX0_allOf_29 E0 a_this a_leans a_all a_lostWith ev x_size x_all n r_ret hV (fX0_allOf_4 n x_size x_all k) h_4 v1 v2 v3 hr H locs ls hP hD hS (lv_sub hl [0, 1, 2, 3] rfl)
      · have hr := x_iff hr c_3
        refine lv_iload_n hx hb dX0_allOf_20 rfl (lv_at hl 2 rfl) ?_
        refine lv_aload_n hx hb dX0_allOf_21 rfl (lv_at hl 0 rfl) ?_
        refine va_get (D := D) (ci := 0) (v := .ref a_all) (C := RX0) (T := TX0) (N := 4) hx hb hts inX0_allOf_X0 hown hK hP 0 rfl rfl 2 (by decide) (hts _ lkX0_allOf_f15) (fun _ h9 => h9) rfl dX0_allOf_22 ?_
        refine lv_iload_n hx hb dX0_allOf_25 rfl (lv_at hl 3 rfl) ?_
        obtain ⟨b_4, hr⟩ := x_chk hr
        refine va_iald hx hb hK hP 1 0 rfl rfl b_4 dX0_allOf_26 ?_
        refine lv_ior hx hb dX0_allOf_27 ?_
        refine lv_istore_n (lv' := [(2, .int (v2 ||| (x_all v3.toNatClampNeg))), (0, .ref a_this), (1, .int v1), (3, .int v3)]) hx hb dX0_allOf_28 rfl hl (by decide) rfl (fun ls hl => ?_)
        exact kX0_allOf_29 E0 a_this a_leans a_all a_lostWith ev x_size x_all n r_ret hV (fX0_allOf_4 n x_size x_all k) h_4 v1 (v2 ||| (x_all v3.toNatClampNeg)) v3 hr H locs ls hP hD hS (lv_sub hl [1, 2, 0, 3] rfl)
set_option maxHeartbeats 4000000 in
set_option maxRecDepth 100000 in
theorem kX0_allOf_0 {p : Program} {l : Launch} {e : Env} {s : State} {m : MethodId} {args : Array Value} {below : List Frame} {meth : Method} {cd : Code} {D : va_G} {c : Nat → ClassId} {A : Nat → Prop} (E0 : xE p s m args meth cd D (xT c) A RX0 cX0_allOf 4 (some .int) wsX0_allOf) (a_this : Nat) (a_leans : Nat) (a_all : Nat) (a_lostWith : Nat) (ev : Nat → Nat) (x_size : Int32) (x_all : Nat → Int32) (n : Nat) (r_ret : Int32) (hV : xV ev A s) (v1 : Int32) (hr : fX0_allOf n x_size x_all v1 = some (r_ret)) : GX0_allOf p l e s m args below meth cd D c A a_this a_leans a_all a_lostWith ev x_size x_all r_ret 0 [] [(0, .ref a_this), (1, .int v1)] := by
  have E1 := E0
  obtain ⟨hx, hb, hml, hret, hown, hts, hlocks, hA, hK⟩ := E1
  have hVV := hV
  obtain ⟨hn_RX7_9, hn_RX6_17, hn_RX6_24, hn_RX7_18, hn_RX7_25, hn_RX7_45, hn_RX7_52, hn_RX7_65, hn_RX7_70, hn_RX0_31, hn_RX3_53, hn_RX2_57, hn_RX3_65, hn_RX3_86, hz_TAKES, ht_TAKES, hz_HAS_ROOM, ht_HAS_ROOM, hz_SUCH, ht_SUCH, hz_FIRST_FIGURE, ht_FIRST_FIGURE, hz_compact, hz_sioobe, ho_Room, ho_Slate, ho_grid, hstr, hs_0, hs_1, hs_2, hs_3, hs_4, hs_5, hs_6, hs_7, hs_8⟩ := hVV
  intro H locs ls hP hD hS hl
  unfold fX0_allOf at hr
  refine lv_iconst (v := 0) hx hb dX0_allOf_0 (by decide) ?_
  refine lv_istore_n (lv' := [(2, .int 0), (0, .ref a_this), (1, .int v1)]) hx hb dX0_allOf_1 rfl hl (by decide) rfl (fun ls hl => ?_)
  refine lv_iconst (v := 0) hx hb dX0_allOf_2 (by decide) ?_
  refine lv_istore_n (lv' := [(3, .int 0), (2, .int 0), (0, .ref a_this), (1, .int v1)]) hx hb dX0_allOf_3 rfl hl (by decide) rfl (fun ls hl => ?_)
  exact kX0_allOf_4 E0 a_this a_leans a_all a_lostWith ev x_size x_all n r_ret hV n v1 0 0 hr H locs ls hP hD hS (lv_sub hl [2, 3, 1, 0] rfl)
set_option maxHeartbeats 4000000 in
set_option maxRecDepth 100000 in
theorem mX0_allOf (l : Launch) (D : va_G) (c : Nat → ClassId) (a_this : Nat) (a_leans : Nat) (a_all : Nat) (a_lostWith : Nat) (ev : Nat → Nat) (sz : Nat) (x_size : Int32) (x_all : Nat → Int32) (v1 : Int32) (n : Nat) (r_ret : Int32) (h : fX0_allOf n x_size x_all v1 = some (r_ret)) : Met l yX0_allOf wsX0_allOf ({ frames := 1, cells := 0, slots := 0, locals := 21 } : Room) (xPc D (xT c) sz [.ref a_this, .int v1] (wX0_allOf c a_this a_leans a_all a_lostWith ev x_size x_all) (xV ev (va_A (wX0_allOf c a_this a_leans a_all a_lostWith ev x_size x_all) sz))) (xQi D (xT c) (va_A (wX0_allOf c a_this a_leans a_all a_lostWith ev x_size x_all) sz) r_ret (wX0_allOf c a_this a_leans a_all a_lostWith ev x_size x_all)) 0 0 (va_A (wX0_allOf c a_this a_leans a_all a_lostWith ev x_size x_all) sz) := by
  refine Met.ofW (cc := cX0_allOf) (maxL := 4) (ret := (some .int)) (by decide) rfl ?_
  intro p e s m args below meth cd s₁ B hml hv
  obtain ⟨rfl, hsz, hP, hK, hD0, hV⟩ := hv
  subst hsz
  have hl := lv_entry [.ref a_this, .int v1] (n := 4) (Nat.le_of_ble_eq_true rfl)
  rw [lg_entry_eq]
  exact kX0_allOf_0 (A := va_A (wX0_allOf c a_this a_leans a_all a_lostWith ev x_size x_all) s.heap.size) ⟨B.exec, B.bytes, hml, B.returns, findClass_of_methodNamed B.named, atoms_spec (ws := wsX0_allOf) B.pre, B.notSynchronized, fun q h => Or.inr h, hK⟩ a_this a_leans a_all a_lostWith ev x_size x_all n r_ret hV v1 h s.heap [] _ hP hD0.self va_S.rf hl

