abbrev wX5_setPlace (c : Nat → ClassId) (a_this : Nat) (a_p3 : Nat) (a_value : Nat) (a_below : Nat) (x_size : Int32) (x_sort : Int32) (x_p3_above : Int64) (x_p3_below : Int64) (x_value : Nat → Int64) (x_below : Nat → Int64) : va_W := [(a_this, .inr (5, [.int x_sort, .int x_size, .ref a_value, .ref a_below])), (a_p3, .inr (1, [.long x_p3_above, .long x_p3_below])), (a_value, .inl (c 1, 10, .inr (.inl x_value))), (a_below, .inl (c 1, 10, .inr (.inl x_below)))]
def GX5_setPlace (p : Program) (l : Launch) (e : Env) (s : State) (m : MethodId) (args : Array Value) (below : List Frame) (meth : Method) (cd : Code) (D : va_G) (c : Nat → ClassId) (A : Nat → Prop) (a_this : Nat) (a_p3 : Nat) (a_value : Nat) (a_below : Nat) (x_size : Int32) (x_sort : Int32) (rm_p3_above : Int64) (rm_p3_below : Int64) (rm_value : Nat → Int64) (rm_below : Nat → Int64) (pc : Nat) (st : List Value) (loc : List (Nat × Value)) (x_p3_above : Int64) (x_p3_below : Int64) (x_value : Nat → Int64) (x_below : Nat → Int64) : Prop :=
  ∀ (H : Heap) (locs : List Loc) (ls : Array Slot), va_P D vwCl (wX5_setPlace c a_this a_p3 a_value a_below x_size x_sort x_p3_above x_p3_below x_value x_below) H → va_D A (wX5_setPlace c a_this a_p3 a_value a_below x_size x_sort x_p3_above x_p3_below x_value x_below) → va_S A s.heap H locs → lv_has ls 5 loc → W p l e ({ frames := 2, cells := 0, slots := 0, locals := 126 } : Room) s m args below meth cd H locs 0 0 (MQ below (xQv D (xT c) A (wX5_setPlace c a_this a_p3 a_value a_below x_size x_sort rm_p3_above rm_p3_below rm_value rm_below)) args s 0 0 A) (F0 m pc ls st)
theorem lkX5_setPlace_J50 : Cond.constantLong RX5 50 1000000000 ∈ wsX5_setPlace := by decide +kernel
theorem lkX5_setPlace_f11 : Cond.fieldLink RX5 11 "LeechClub$Slate" "sort" "I" ∈ wsX5_setPlace := by decide +kernel
theorem lkX5_setPlace_f15 : Cond.fieldLink RX5 15 "LeechClub$Slate" "value" "[J" ∈ wsX5_setPlace := by decide +kernel
theorem inX5_setPlace_X5 : ∀ w ∈ wsX50, w ∈ wsX5_setPlace := by decide +kernel
set_option maxHeartbeats 4000000 in
set_option maxRecDepth 100000 in
theorem kX5_setPlace_54 {p : Program} {l : Launch} {e : Env} {s : State} {m : MethodId} {args : Array Value} {below : List Frame} {meth : Method} {cd : Code} {D : va_G} {c : Nat → ClassId} {A : Nat → Prop} (E0 : xE p s m args meth cd D (xT c) A RX5 cX5_setPlace 5 none wsX5_setPlace) (a_this : Nat) (a_p3 : Nat) (a_value : Nat) (a_below : Nat) (x_size : Int32) (x_sort : Int32) (n : Nat) (rm_p3_above : Int64) (rm_p3_below : Int64) (rm_value : Nat → Int64) (rm_below : Nat → Int64) (x_p3_above : Int64) (x_p3_below : Int64) (x_value : Nat → Int64) (x_below : Nat → Int64) (hr : fX5_setPlace_54 n x_sort x_p3_above x_p3_below x_value x_below = some (rm_p3_above, rm_p3_below, rm_value, rm_below)) : GX5_setPlace p l e s m args below meth cd D c A a_this a_p3 a_value a_below x_size x_sort rm_p3_above rm_p3_below rm_value rm_below 54 [] [] x_p3_above x_p3_below x_value x_below := by
  have E1 := E0
  obtain ⟨hx, hb, hml, hret, hown, hts, hlocks, hA, hK⟩ := E1
  intro H locs ls hP hD hS hl
  unfold fX5_setPlace_54 at hr
  have g0 := x_some hr
  have e0 := x_p1 g0
  have g1 := x_p2 g0
  have e1 := x_p1 g1
  have g2 := x_p2 g1
  have e2 := x_p1 g2
  have e3 := x_p2 g2
  subst e0
  subst e1
  subst e2
  subst e3
  exact x_retv hx hb hret hlocks hP hD hK hS dX5_setPlace_54
set_option maxHeartbeats 4000000 in
set_option maxRecDepth 100000 in
theorem kX5_setPlace_53 {p : Program} {l : Launch} {e : Env} {s : State} {m : MethodId} {args : Array Value} {below : List Frame} {meth : Method} {cd : Code} {D : va_G} {c : Nat → ClassId} {A : Nat → Prop} (E0 : xE p s m args meth cd D (xT c) A RX5 cX5_setPlace 5 none wsX5_setPlace) (a_this : Nat) (a_p3 : Nat) (a_value : Nat) (a_below : Nat) (x_size : Int32) (x_sort : Int32) (n : Nat) (rm_p3_above : Int64) (rm_p3_below : Int64) (rm_value : Nat → Int64) (rm_below : Nat → Int64) (x_p3_above : Int64) (x_p3_below : Int64) (x_value : Nat → Int64) (x_below : Nat → Int64) (t1 : Int32) (t2 : Int64) (hr : fX5_setPlace_53 n x_sort x_p3_above x_p3_below x_value x_below t1 t2 = some (rm_p3_above, rm_p3_below, rm_value, rm_below)) : GX5_setPlace p l e s m args below meth cd D c A a_this a_p3 a_value a_below x_size x_sort rm_p3_above rm_p3_below rm_value rm_below 53 [.long t2, .int t1, .ref a_value] [] x_p3_above x_p3_below x_value x_below := by
  have E1 := E0
  obtain ⟨hx, hb, hml, hret, hown, hts, hlocks, hA, hK⟩ := E1
  intro H locs ls hP hD hS hl
  unfold fX5_setPlace_53 at hr
  obtain ⟨b_1, hr⟩ := x_chk hr
  refine va_last hx hb hK hP hD hS 2 1 rfl rfl b_1 dX5_setPlace_53 (fun H locs hP hD hS => ?_)
  have hP : va_P D vwCl [(a_this, .inr (5, [.int x_sort, .int x_size, .ref a_value, .ref a_below])), (a_p3, .inr (1, [.long x_p3_above, .long x_p3_below])), (a_value, .inl (c 1, 10, .inr (.inl (vp_updL x_value t1.toNatClampNeg t2)))), (a_below, .inl (c 1, 10, .inr (.inl x_below)))] H := hP
  have hD : va_D A [(a_this, .inr (5, [.int x_sort, .int x_size, .ref a_value, .ref a_below])), (a_p3, .inr (1, [.long x_p3_above, .long x_p3_below])), (a_value, .inl (c 1, 10, .inr (.inl (vp_updL x_value t1.toNatClampNeg t2)))), (a_below, .inl (c 1, 10, .inr (.inl x_below)))] := hD
  exact kX5_setPlace_54 E0 a_this a_p3 a_value a_below x_size x_sort n rm_p3_above rm_p3_below rm_value rm_below x_p3_above x_p3_below (vp_updL x_value t1.toNatClampNeg t2) x_below hr H locs ls hP hD hS (lv_sub hl [] rfl)
set_option maxHeartbeats 4000000 in
set_option maxRecDepth 100000 in
theorem kX5_setPlace_0 {p : Program} {l : Launch} {e : Env} {s : State} {m : MethodId} {args : Array Value} {below : List Frame} {meth : Method} {cd : Code} {D : va_G} {c : Nat → ClassId} {A : Nat → Prop} (E0 : xE p s m args meth cd D (xT c) A RX5 cX5_setPlace 5 none wsX5_setPlace) (a_this : Nat) (a_p3 : Nat) (a_value : Nat) (a_below : Nat) (x_size : Int32) (x_sort : Int32) (n : Nat) (rm_p3_above : Int64) (rm_p3_below : Int64) (rm_value : Nat → Int64) (rm_below : Nat → Int64) (x_p3_above : Int64) (x_p3_below : Int64) (x_value : Nat → Int64) (x_below : Nat → Int64) (v1 : Int32) (v2 : Int32) (v3 : Int32) (hr : fX5_setPlace n x_sort x_p3_above x_p3_below x_value x_below v1 v2 v3 = some (rm_p3_above, rm_p3_below, rm_value, rm_below)) : GX5_setPlace p l e s m args below meth cd D c A a_this a_p3 a_value a_below x_size x_sort rm_p3_above rm_p3_below rm_value rm_below 0 [] [(0, .ref a_this), (1, .int v1), (2, .int v2), (3, .int v3), (4, .ref a_p3)] x_p3_above x_p3_below x_value x_below := by
  have E1 := E0
  obtain ⟨hx, hb, hml, hret, hown, hts, hlocks, hA, hK⟩ := E1
  intro H locs ls hP hD hS hl
  unfold fX5_setPlace at hr
  refine lv_aload_n hx hb dX5_setPlace_0 rfl (lv_at hl 0 rfl) ?_
  refine va_get (D := D) (ci := 5) (v := .int x_sort) (C := RX5) (T := TX5) (N := 4) hx hb hts inX5_setPlace_X5 hown hK hP 0 rfl rfl 0 (by decide) (hts _ lkX5_setPlace_f11) (fun _ h9 => h9) rfl dX5_setPlace_1 ?_
  refine lv_iconst (v := 2) hx hb dX5_setPlace_4 (by decide) ?_
  refine lv_icmp_ne (tgt := 27) hx hb dX5_setPlace_5 (by decide) (fun c_1 => ?_) (fun c_1 => ?_)
  · have hr := x_iff hr c_1
    refine lv_aload_n hx hb dX5_setPlace_27 rfl (lv_at hl 0 rfl) ?_
    refine va_get (D := D) (ci := 5) (v := .ref a_value) (C := RX5) (T := TX5) (N := 4) hx hb hts inX5_setPlace_X5 hown hK hP 0 rfl rfl 2 (by decide) (hts _ lkX5_setPlace_f15) (fun _ h9 => h9) rfl dX5_setPlace_28 ?_
    refine lv_iload_n hx hb dX5_setPlace_31 rfl (lv_at hl 1 rfl) ?_
    refine lv_aload_n hx hb dX5_setPlace_32 rfl (lv_at hl 0 rfl) ?_
    refine va_get (D := D) (ci := 5) (v := .int x_sort) (C := RX5) (T := TX5) (N := 4) hx hb hts inX5_setPlace_X5 hown hK hP 0 rfl rfl 0 (by decide) (hts _ lkX5_setPlace_f11) (fun _ h9 => h9) rfl dX5_setPlace_33 ?_
    refine lv_if_ne (tgt := 44) hx hb dX5_setPlace_36 (by decide) (fun c_2 => ?_) (fun c_2 => ?_)
    · have hr := x_iff hr c_2
      refine lv_iload_n hx hb dX5_setPlace_44 rfl (lv_at hl 2 rfl) ?_
      refine lv_i2l hx hb dX5_setPlace_45 rfl ?_
      refine lv_ldc2 hx hb hown (hts _ lkX5_setPlace_J50) dX5_setPlace_46 ?_
      refine lv_lmul hx hb dX5_setPlace_49 ?_
      refine lv_iload_n hx hb dX5_setPlace_50 rfl (lv_at hl 3 rfl) ?_
      refine lv_i2l hx hb dX5_setPlace_51 rfl ?_
      refine lv_ladd hx hb dX5_setPlace_52 ?_
      exact kX5_setPlace_53 E0 a_this a_p3 a_value a_below x_size x_sort n rm_p3_above rm_p3_below rm_value rm_below x_p3_above x_p3_below x_value x_below v1 ((v2.toInt64 * 1000000000) + v3.toInt64) hr H locs ls hP hD hS (lv_sub hl [] rfl)
    · have hr := x_ift hr c_2
      refine lv_iload_n hx hb dX5_setPlace_39 rfl (lv_at hl 2 rfl) ?_
      refine lv_i2l hx hb dX5_setPlace_40 rfl ?_
      refine lv_goto (tgt := 53) hx hb dX5_setPlace_41 (by decide) ?_
      exact kX5_setPlace_53 E0 a_this a_p3 a_value a_below x_size x_sort n rm_p3_above rm_p3_below rm_value rm_below x_p3_above x_p3_below x_value x_below v1 v2.toInt64 hr H locs ls hP hD hS (lv_sub hl [] rfl)
  · have hr := x_ift hr c_1
    refine lv_aload hx hb dX5_setPlace_8 (lv_at hl 4 rfl) ?_
    refine lv_iload_n hx hb dX5_setPlace_10 rfl (lv_at hl 2 rfl) ?_
    refine lv_i2l hx hb dX5_setPlace_11 rfl ?_
    refine lv_iload_n hx hb dX5_setPlace_12 rfl (lv_at hl 3 rfl) ?_
    refine lv_i2l hx hb dX5_setPlace_13 rfl ?_
    obtain ⟨⟨q3_0, q3_1⟩, hc3, hr⟩ := x_bind hr
    try dsimp only at hr
    refine x_runv (wr := [(a_this, .inr (5, [.int x_sort, .int x_size, .ref a_value, .ref a_below])), (a_value, .inl (c 1, 10, .inr (.inl x_value))), (a_below, .inl (c 1, 10, .inr (.inl x_below)))]) (wf := [(a_this, .inr (5, [.int x_sort, .int x_size, .ref a_value, .ref a_below])), (a_p3, .inr (1, [.long q3_0, .long q3_1])), (a_value, .inl (c 1, 10, .inr (.inl x_value))), (a_below, .inl (c 1, 10, .inr (.inl x_below)))]) (x_goV (As := [.long v2.toInt64, .long v3.toInt64]) (rest := []) ⟨hx, hb, hml, hown, hts⟩ (mX1_setLowest l D c a_p3 H.size x_p3_above x_p3_below v2.toInt64 v3.toInt64 n _ _ hc3) (cwV 2 hts gX5_setPlace_X1_setLowest rfl rfl rfl (by decide +kernel) ⟨Nat.le_of_ble_eq_true rfl, Nat.le_of_ble_eq_true rfl⟩) xB_t hP hD hK [1] rfl (by decide) (fun _ _ _ => trivial) 1 1 rfl rfl rfl rfl hl.1 rfl (Nat.le_of_ble_eq_true rfl) dX5_setPlace_14) hP hD hS hA [1] [0, 2, 3] [0, 3, 1, 2] rfl rfl rfl ⟨by decide, by decide, by decide⟩ (fun H locs hP hD hS => ?_)
    refine lv_aload_n hx hb dX5_setPlace_17 rfl (lv_at hl 0 rfl) ?_
    refine lv_iload_n hx hb dX5_setPlace_18 rfl (lv_at hl 1 rfl) ?_
    refine lv_aload hx hb dX5_setPlace_19 (lv_at hl 4 rfl) ?_
    obtain ⟨⟨q4_0, q4_1⟩, hc4, hr⟩ := x_bind hr
    try dsimp only at hr
    refine x_runv (wr := []) (wf := [(a_this, .inr (5, [.int x_sort, .int x_size, .ref a_value, .ref a_below])), (a_p3, .inr (1, [.long q3_0, .long q3_1])), (a_value, .inl (c 1, 10, .inr (.inl q4_0))), (a_below, .inl (c 1, 10, .inr (.inl q4_1)))]) (x_goV (As := [.int v1, .ref a_p3]) (rest := []) ⟨hx, hb, hml, hown, hts⟩ (mX5_setPart l D c a_this a_p3 a_value a_below H.size x_sort x_size q3_0 q3_1 x_value x_below v1 n _ _ hc4) (cwV 2 hts gX5_setPlace_X5_setPart rfl rfl rfl (by decide +kernel) ⟨Nat.le_of_ble_eq_true rfl, Nat.le_of_ble_eq_true rfl⟩) xB_t hP hD hK [0, 1, 2, 3] rfl (by decide) (fun _ _ _ => trivial) 0 5 rfl rfl rfl rfl hl.1 rfl (Nat.le_of_ble_eq_true rfl) dX5_setPlace_21) hP hD hS hA [0, 1, 2, 3] [] [0, 1, 2, 3] rfl rfl rfl ⟨by decide, by decide, by decide⟩ (fun H locs hP hD hS => ?_)
    refine lv_goto (tgt := 54) hx hb dX5_setPlace_24 (by decide) ?_
    exact kX5_setPlace_54 E0 a_this a_p3 a_value a_below x_size x_sort n rm_p3_above rm_p3_below rm_value rm_below q3_0 q3_1 q4_0 q4_1 hr H locs ls hP hD hS (lv_sub hl [] rfl)
set_option maxHeartbeats 4000000 in
set_option maxRecDepth 100000 in
theorem mX5_setPlace (l : Launch) (D : va_G) (c : Nat → ClassId) (a_this : Nat) (a_p3 : Nat) (a_value : Nat) (a_below : Nat) (sz : Nat) (x_size : Int32) (x_sort : Int32) (x_p3_above : Int64) (x_p3_below : Int64) (x_value : Nat → Int64) (x_below : Nat → Int64) (v1 : Int32) (v2 : Int32) (v3 : Int32) (n : Nat) (rm_p3_above : Int64) (rm_p3_below : Int64) (rm_value : Nat → Int64) (rm_below : Nat → Int64) (h : fX5_setPlace n x_sort x_p3_above x_p3_below x_value x_below v1 v2 v3 = some (rm_p3_above, rm_p3_below, rm_value, rm_below)) : Met l yX5_setPlace wsX5_setPlace ({ frames := 2, cells := 0, slots := 0, locals := 126 } : Room) (xPc D (xT c) sz [.ref a_this, .int v1, .int v2, .int v3, .ref a_p3] (wX5_setPlace c a_this a_p3 a_value a_below x_size x_sort x_p3_above x_p3_below x_value x_below) (fun _ => True)) (xQv D (xT c) (va_A (wX5_setPlace c a_this a_p3 a_value a_below x_size x_sort x_p3_above x_p3_below x_value x_below) sz) (wX5_setPlace c a_this a_p3 a_value a_below x_size x_sort rm_p3_above rm_p3_below rm_value rm_below)) 0 0 (va_A (wX5_setPlace c a_this a_p3 a_value a_below x_size x_sort x_p3_above x_p3_below x_value x_below) sz) := by
  refine Met.ofW (cc := cX5_setPlace) (maxL := 5) (ret := none) (by decide) rfl ?_
  intro p e s m args below meth cd s₁ B hml hv
  obtain ⟨rfl, hsz, hP, hK, hD0, hV⟩ := hv
  subst hsz
  have hl := lv_entry [.ref a_this, .int v1, .int v2, .int v3, .ref a_p3] (n := 5) (Nat.le_of_ble_eq_true rfl)
  rw [lg_entry_eq]
  exact kX5_setPlace_0 (A := va_A (wX5_setPlace c a_this a_p3 a_value a_below x_size x_sort x_p3_above x_p3_below x_value x_below) s.heap.size) ⟨B.exec, B.bytes, hml, B.returns, findClass_of_methodNamed B.named, atoms_spec (ws := wsX5_setPlace) B.pre, B.notSynchronized, fun q h => Or.inr h, hK⟩ a_this a_p3 a_value a_below x_size x_sort n rm_p3_above rm_p3_below rm_value rm_below x_p3_above x_p3_below x_value x_below v1 v2 v3 h s.heap [] _ hP hD0.self va_S.rf hl

abbrev wX5_shown (c : Nat → ClassId) (a_this : Nat) (a_value : Nat) (a_below : Nat) (x_size : Int32) (x_sort : Int32) (x_value : Nat → Int64) (x_below : Nat → Int64) : va_W := [(a_this, .inr (5, [.int x_sort, .int x_size, .ref a_value, .ref a_below])), (a_value, .inl (c 1, 10, .inr (.inl x_value))), (a_below, .inl (c 1, 10, .inr (.inl x_below)))]
def GX5_shown (p : Program) (l : Launch) (e : Env) (s : State) (m : MethodId) (args : Array Value) (below : List Frame) (meth : Method) (cd : Code) (D : va_G) (c : Nat → ClassId) (A : Nat → Prop) (a_this : Nat) (a_value : Nat) (a_below : Nat) (x_size : Int32) (x_sort : Int32) (x_value : Nat → Int64) (x_below : Nat → Int64) (r_ret : Int32) (pc : Nat) (st : List Value) (loc : List (Nat × Value)) : Prop :=
  ∀ (H : Heap) (locs : List Loc) (ls : Array Slot), va_P D vwCl (wX5_shown c a_this a_value a_below x_size x_sort x_value x_below) H → va_D A (wX5_shown c a_this a_value a_below x_size x_sort x_value x_below) → va_S A s.heap H locs → lv_has ls 4 loc → W p l e ({ frames := 1, cells := 0, slots := 0, locals := 100 } : Room) s m args below meth cd H locs 0 0 (MQ below (xQi D (xT c) A r_ret (wX5_shown c a_this a_value a_below x_size x_sort x_value x_below)) args s 0 0 A) (F0 m pc ls st)
theorem lkX5_shown_J58 : Cond.constantLong RX5 58 3000000 ∈ wsX5_shown := by decide +kernel
theorem lkX5_shown_J66 : Cond.constantLong RX5 66 1000003 ∈ wsX5_shown := by decide +kernel
theorem lkX5_shown_c68 : Cond.constant RX5 68 2000000 ∈ wsX5_shown := by decide +kernel
theorem lkX5_shown_f11 : Cond.fieldLink RX5 11 "LeechClub$Slate" "sort" "I" ∈ wsX5_shown := by decide +kernel
theorem lkX5_shown_f15 : Cond.fieldLink RX5 15 "LeechClub$Slate" "value" "[J" ∈ wsX5_shown := by decide +kernel
theorem lkX5_shown_f19 : Cond.fieldLink RX5 19 "LeechClub$Slate" "below" "[J" ∈ wsX5_shown := by decide +kernel
theorem lkX5_shown_ma60 : Cond.methodLink RX5 60 Lib.MathLoose.abs_long.x ∈ wsX5_shown := by decide +kernel
theorem lkX5_shown_mas : Cond.static Lib.MathLoose.abs_long.x ∈ wsX5_shown := by decide +kernel
theorem lkX5_shown_mi : Cond.initialized "java/lang/Math" ∈ wsX5_shown := by decide +kernel
theorem lkX5_shown_mac : Cond.code Lib.MathLoose.abs_long.x Lib.MathLoose.abs_long.code 2 (some .long) ∈ wsX5_shown := by decide +kernel
theorem inX5_shown_X5 : ∀ w ∈ wsX50, w ∈ wsX5_shown := by decide +kernel
set_option maxHeartbeats 4000000 in
set_option maxRecDepth 100000 in
theorem kX5_shown_31 {p : Program} {l : Launch} {e : Env} {s : State} {m : MethodId} {args : Array Value} {below : List Frame} {meth : Method} {cd : Code} {D : va_G} {c : Nat → ClassId} {A : Nat → Prop} (E0 : xE p s m args meth cd D (xT c) A RX5 cX5_shown 4 (some .int) wsX5_shown) (a_this : Nat) (a_value : Nat) (a_below : Nat) (x_size : Int32) (x_sort : Int32) (x_value : Nat → Int64) (x_below : Nat → Int64) (n : Nat) (r_ret : Int32) (t0 : Int64) (hr : fX5_shown_31 n x_sort x_value x_below t0 = some (r_ret)) : GX5_shown p l e s m args below meth cd D c A a_this a_value a_below x_size x_sort x_value x_below r_ret 31 [.long t0] [] := by
  have E1 := E0
  obtain ⟨hx, hb, hml, hret, hown, hts, hlocks, hA, hK⟩ := E1
  intro H locs ls hP hD hS hl
  unfold fX5_shown_31 at hr
  refine lv_l2i hx hb dX5_shown_31 rfl ?_
  have e0 := x_some hr
  subst e0
  exact x_reti hx hb hret hlocks hP hD hK hS dX5_shown_32
set_option maxHeartbeats 4000000 in
set_option maxRecDepth 100000 in
theorem kX5_shown_67 {p : Program} {l : Launch} {e : Env} {s : State} {m : MethodId} {args : Array Value} {below : List Frame} {meth : Method} {cd : Code} {D : va_G} {c : Nat → ClassId} {A : Nat → Prop} (E0 : xE p s m args meth cd D (xT c) A RX5 cX5_shown 4 (some .int) wsX5_shown) (a_this : Nat) (a_value : Nat) (a_below : Nat) (x_size : Int32) (x_sort : Int32) (x_value : Nat → Int64) (x_below : Nat → Int64) (n : Nat) (r_ret : Int32) (t0 : Int32) (hr : fX5_shown_67 n x_sort x_value x_below t0 = some (r_ret)) : GX5_shown p l e s m args below meth cd D c A a_this a_value a_below x_size x_sort x_value x_below r_ret 67 [.int t0] [] := by
  have E1 := E0
  obtain ⟨hx, hb, hml, hret, hown, hts, hlocks, hA, hK⟩ := E1
  intro H locs ls hP hD hS hl
  unfold fX5_shown_67 at hr
  have e0 := x_some hr
  subst e0
  exact x_reti hx hb hret hlocks hP hD hK hS dX5_shown_67
set_option maxHeartbeats 4000000 in
set_option maxRecDepth 100000 in
theorem kX5_shown_48 {p : Program} {l : Launch} {e : Env} {s : State} {m : MethodId} {args : Array Value} {below : List Frame} {meth : Method} {cd : Code} {D : va_G} {c : Nat → ClassId} {A : Nat → Prop} (E0 : xE p s m args meth cd D (xT c) A RX5 cX5_shown 4 (some .int) wsX5_shown) (a_this : Nat) (a_value : Nat) (a_below : Nat) (x_size : Int32) (x_sort : Int32) (x_value : Nat → Int64) (x_below : Nat → Int64) (n : Nat) (r_ret : Int32) (v1 : Int32) (v3 : Int32) (hr : fX5_shown_48 n x_sort x_value x_below v1 v3 = some (r_ret)) : GX5_shown p l e s m args below meth cd D c A a_this a_value a_below x_size x_sort x_value x_below r_ret 48 [] [(0, .ref a_this), (1, .int v1), (3, .int v3)] := by
  have E1 := E0
  obtain ⟨hx, hb, hml, hret, hown, hts, hlocks, hA, hK⟩ := E1
  intro H locs ls hP hD hS hl
  unfold fX5_shown_48 at hr
  refine lv_aload_n hx hb dX5_shown_48 rfl (lv_at hl 0 rfl) ?_
  refine va_get (D := D) (ci := 5) (v := .ref a_value) (C := RX5) (T := TX5) (N := 4) hx hb hts inX5_shown_X5 hown hK hP 0 rfl rfl 2 (by decide) (hts _ lkX5_shown_f15) (fun _ h9 => h9) rfl dX5_shown_49 ?_
  refine lv_iload_n hx hb dX5_shown_52 rfl (lv_at hl 1 rfl) ?_
  obtain ⟨b_1, hr⟩ := x_chk hr
  refine va_lald hx hb hK hP 1 1 rfl rfl b_1 dX5_shown_53 ?_
  refine lv_lconst (v := 0) hx hb dX5_shown_54 (by decide) ?_
  refine W.lcmp hx hb dX5_shown_55 ?_
  refine lv_if_ge (tgt := 66) hx hb dX5_shown_56 (by decide) (fun c_2 => ?_) (fun c_2 => ?_)
  · have hr := x_ift hr c_2
    refine lv_iload_n hx hb dX5_shown_66 rfl (lv_at hl 2 rfl) ?_
    exact kX5_shown_67 E0 a_this a_value a_below x_size x_sort x_value x_below n r_ret v3 hr H locs ls hP hD hS (lv_sub hl [] rfl)
  · have hr := x_iff hr c_2
    refine lv_iload_n hx hb dX5_shown_59 rfl (lv_at hl 2 rfl) ?_
    refine lv_ldc hx hb hown (hts _ lkX5_shown_c68) dX5_shown_60 ?_
    refine lv_iadd hx hb dX5_shown_62 ?_
    refine lv_goto (tgt := 67) hx hb dX5_shown_63 (by decide) ?_
    exact kX5_shown_67 E0 a_this a_value a_below x_size x_sort x_value x_below n r_ret (v3 + 2000000) hr H locs ls hP hD hS (lv_sub hl [] rfl)
set_option maxHeartbeats 4000000 in
set_option maxRecDepth 100000 in
theorem kX5_shown_0 {p : Program} {l : Launch} {e : Env} {s : State} {m : MethodId} {args : Array Value} {below : List Frame} {meth : Method} {cd : Code} {D : va_G} {c : Nat → ClassId} {A : Nat → Prop} (E0 : xE p s m args meth cd D (xT c) A RX5 cX5_shown 4 (some .int) wsX5_shown) (a_this : Nat) (a_value : Nat) (a_below : Nat) (x_size : Int32) (x_sort : Int32) (x_value : Nat → Int64) (x_below : Nat → Int64) (n : Nat) (r_ret : Int32) (v1 : Int32) (v2 : Int32) (hr : fX5_shown n x_sort x_value x_below v1 v2 = some (r_ret)) : GX5_shown p l e s m args below meth cd D c A a_this a_value a_below x_size x_sort x_value x_below r_ret 0 [] [(0, .ref a_this), (1, .int v1), (2, .int v2)] := by
  have E1 := E0
  obtain ⟨hx, hb, hml, hret, hown, hts, hlocks, hA, hK⟩ := E1
  intro H locs ls hP hD hS hl
  unfold fX5_shown at hr
  refine lv_aload_n hx hb dX5_shown_0 rfl (lv_at hl 0 rfl) ?_
  refine va_get (D := D) (ci := 5) (v := .int x_sort) (C := RX5) (T := TX5) (N := 4) hx hb hts inX5_shown_X5 hown hK hP 0 rfl rfl 0 (by decide) (hts _ lkX5_shown_f11) (fun _ h9 => h9) rfl dX5_shown_1 ?_
  refine lv_iconst (v := 2) hx hb dX5_shown_4 (by decide) ?_
  refine lv_icmp_ne (tgt := 33) hx hb dX5_shown_5 (by decide) (fun c_1 => ?_) (fun c_1 => ?_)
  · have hr := x_iff hr c_1
    refine lv_aload_n hx hb dX5_shown_33 rfl (lv_at hl 0 rfl) ?_
    refine va_get (D := D) (ci := 5) (v := .ref a_value) (C := RX5) (T := TX5) (N := 4) hx hb hts inX5_shown_X5 hown hK hP 0 rfl rfl 2 (by decide) (hts _ lkX5_shown_f15) (fun _ h9 => h9) rfl dX5_shown_34 ?_
    refine lv_iload_n hx hb dX5_shown_37 rfl (lv_at hl 1 rfl) ?_
    obtain ⟨b_2, hr⟩ := x_chk hr
    refine va_lald hx hb hK hP 1 1 rfl rfl b_2 dX5_shown_38 ?_
    refine va_mabs_long hx hb (hml.trans hl.1.symm) hown (hts _ lkX5_shown_ma60) (hts _ lkX5_shown_mas) (hts _ lkX5_shown_mi) (hts _ lkX5_shown_mac) (Nat.le_of_ble_eq_true rfl) (Nat.le_of_ble_eq_true rfl) (Nat.zero_le _) (Nat.zero_le _) dX5_shown_39 ?_
    refine lv_ldc2 hx hb hown (hts _ lkX5_shown_J66) dX5_shown_42 ?_
    refine lv_lrem hx hb dX5_shown_45 (by decide) ?_
    refine lv_l2i hx hb dX5_shown_46 rfl ?_
    refine lv_istore_n (lv' := [(3, .int (((if 0 < (x_value v1.toNatClampNeg) then (x_value v1.toNatClampNeg) else -(x_value v1.toNatClampNeg)) - (if 0 < (x_value v1.toNatClampNeg) then (x_value v1.toNatClampNeg) else -(x_value v1.toNatClampNeg)) / 1000003 * 1000003).toInt32)), (0, .ref a_this), (1, .int v1), (2, .int v2)]) hx hb dX5_shown_47 rfl hl (by decide) rfl (fun ls hl => ?_)
    exact kX5_shown_48 E0 a_this a_value a_below x_size x_sort x_value x_below n r_ret v1 (((if 0 < (x_value v1.toNatClampNeg) then (x_value v1.toNatClampNeg) else -(x_value v1.toNatClampNeg)) - (if 0 < (x_value v1.toNatClampNeg) then (x_value v1.toNatClampNeg) else -(x_value v1.toNatClampNeg)) / 1000003 * 1000003).toInt32) hr H locs ls hP hD hS (lv_sub hl [1, 2, 0] rfl)
  · have hr := x_ift hr c_1
    refine lv_iload_n hx hb dX5_shown_8 rfl (lv_at hl 2 rfl) ?_
    refine lv_if_ne (tgt := 25) hx hb dX5_shown_9 (by decide) (fun c_3 => ?_) (fun c_3 => ?_)
    · have hr := x_iff hr c_3
      refine lv_aload_n hx hb dX5_shown_25 rfl (lv_at hl 0 rfl) ?_
      refine va_get (D := D) (ci := 5) (v := .ref a_below) (C := RX5) (T := TX5) (N := 4) hx hb hts inX5_shown_X5 hown hK hP 0 rfl rfl 3 (by decide) (hts _ lkX5_shown_f19) (fun _ h9 => h9) rfl dX5_shown_26 ?_
      refine lv_iload_n hx hb dX5_shown_29 rfl (lv_at hl 1 rfl) ?_
      obtain ⟨b_4, hr⟩ := x_chk hr
      refine va_lald hx hb hK hP 2 1 rfl rfl b_4 dX5_shown_30 ?_
      exact kX5_shown_31 E0 a_this a_value a_below x_size x_sort x_value x_below n r_ret (x_below v1.toNatClampNeg) hr H locs ls hP hD hS (lv_sub hl [] rfl)
    · have hr := x_ift hr c_3
      refine lv_aload_n hx hb dX5_shown_12 rfl (lv_at hl 0 rfl) ?_
      refine va_get (D := D) (ci := 5) (v := .ref a_value) (C := RX5) (T := TX5) (N := 4) hx hb hts inX5_shown_X5 hown hK hP 0 rfl rfl 2 (by decide) (hts _ lkX5_shown_f15) (fun _ h9 => h9) rfl dX5_shown_13 ?_
      refine lv_iload_n hx hb dX5_shown_16 rfl (lv_at hl 1 rfl) ?_
      obtain ⟨b_5, hr⟩ := x_chk hr
      refine va_lald hx hb hK hP 1 1 rfl rfl b_5 dX5_shown_17 ?_
      refine lv_ldc2 hx hb hown (hts _ lkX5_shown_J58) dX5_shown_18 ?_
      refine lv_ladd hx hb dX5_shown_21 ?_
      refine lv_goto (tgt := 31) hx hb dX5_shown_22 (by decide) ?_
      exact kX5_shown_31 E0 a_this a_value a_below x_size x_sort x_value x_below n r_ret ((x_value v1.toNatClampNeg) + 3000000) hr H locs ls hP hD hS (lv_sub hl [] rfl)
set_option maxHeartbeats 4000000 in
set_option maxRecDepth 100000 in
theorem mX5_shown (l : Launch) (D : va_G) (c : Nat → ClassId) (a_this : Nat) (a_value : Nat) (a_below : Nat) (sz : Nat) (x_size : Int32) (x_sort : Int32) (x_value : Nat → Int64) (x_below : Nat → Int64) (v1 : Int32) (v2 : Int32) (n : Nat) (r_ret : Int32) (h : fX5_shown n x_sort x_value x_below v1 v2 = some (r_ret)) : Met l yX5_shown wsX5_shown ({ frames := 1, cells := 0, slots := 0, locals := 100 } : Room) (xPc D (xT c) sz [.ref a_this, .int v1, .int v2] (wX5_shown c a_this a_value a_below x_size x_sort x_value x_below) (fun _ => True)) (xQi D (xT c) (va_A (wX5_shown c a_this a_value a_below x_size x_sort x_value x_below) sz) r_ret (wX5_shown c a_this a_value a_below x_size x_sort x_value x_below)) 0 0 (va_A (wX5_shown c a_this a_value a_below x_size x_sort x_value x_below) sz) := by
  refine Met.ofW (cc := cX5_shown) (maxL := 4) (ret := (some .int)) (by decide) rfl ?_
  intro p e s m args below meth cd s₁ B hml hv
  obtain ⟨rfl, hsz, hP, hK, hD0, hV⟩ := hv
  subst hsz
  have hl := lv_entry [.ref a_this, .int v1, .int v2] (n := 4) (Nat.le_of_ble_eq_true rfl)
  rw [lg_entry_eq]
  exact kX5_shown_0 (A := va_A (wX5_shown c a_this a_value a_below x_size x_sort x_value x_below) s.heap.size) ⟨B.exec, B.bytes, hml, B.returns, findClass_of_methodNamed B.named, atoms_spec (ws := wsX5_shown) B.pre, B.notSynchronized, fun q h => Or.inr h, hK⟩ a_this a_value a_below x_size x_sort x_value x_below n r_ret v1 v2 h s.heap [] _ hP hD0.self va_S.rf hl

abbrev wX5_copyTo (c : Nat → ClassId) (a_this : Nat) (a_p0 : Nat) (a_value : Nat) (a_below : Nat) (a_p0_value : Nat) (a_p0_below : Nat) (x_sort : Int32) (x_size : Int32) (x_p0_sort : Int32) (x_p0_size : Int32) (x_value : Nat → Int64) (x_below : Nat → Int64) (x_p0_value : Nat → Int64) (x_p0_below : Nat → Int64) : va_W := [(a_this, .inr (5, [.int x_sort, .int x_size, .ref a_value, .ref a_below])), (a_p0, .inr (5, [.int x_p0_sort, .int x_p0_size, .ref a_p0_value, .ref a_p0_below])), (a_value, .inl (c 1, 10, .inr (.inl x_value))), (a_p0_value, .inl (c 1, 10, .inr (.inl x_p0_value))), (a_below, .inl (c 1, 10, .inr (.inl x_below))), (a_p0_below, .inl (c 1, 10, .inr (.inl x_p0_below)))]
def GX5_copyTo (p : Program) (l : Launch) (e : Env) (s : State) (m : MethodId) (args : Array Value) (below : List Frame) (meth : Method) (cd : Code) (D : va_G) (c : Nat → ClassId) (A : Nat → Prop) (a_this : Nat) (a_p0 : Nat) (a_value : Nat) (a_below : Nat) (a_p0_value : Nat) (a_p0_below : Nat) (x_sort : Int32) (x_size : Int32) (x_p0_sort : Int32) (x_p0_size : Int32) (x_value : Nat → Int64) (x_below : Nat → Int64) (rm_p0_value : Nat → Int64) (rm_p0_below : Nat → Int64) (pc : Nat) (st : List Value) (loc : List (Nat × Value)) (x_p0_value : Nat → Int64) (x_p0_below : Nat → Int64) : Prop :=
  ∀ (H : Heap) (locs : List Loc) (ls : Array Slot), va_P D vwCl (wX5_copyTo c a_this a_p0 a_value a_below a_p0_value a_p0_below x_sort x_size x_p0_sort x_p0_size x_value x_below x_p0_value x_p0_below) H → va_D A (wX5_copyTo c a_this a_p0 a_value a_below a_p0_value a_p0_below x_sort x_size x_p0_sort x_p0_size x_value x_below x_p0_value x_p0_below) → va_S A s.heap H locs → lv_has ls 5 loc → W p l e ({ frames := 1, cells := 0, slots := 0, locals := 100 } : Room) s m args below meth cd H locs 0 0 (MQ below (xQv D (xT c) A (wX5_copyTo c a_this a_p0 a_value a_below a_p0_value a_p0_below x_sort x_size x_p0_sort x_p0_size x_value x_below rm_p0_value rm_p0_below)) args s 0 0 A) (F0 m pc ls st)
theorem lkX5_copyTo_a69 : Cond.methodLink RX5 69 arraycopyName ∈ wsX5_copyTo := by decide +kernel
theorem lkX5_copyTo_an69 : Cond.native arraycopyName ∈ wsX5_copyTo := by decide +kernel
theorem lkX5_copyTo_as69 : Cond.static arraycopyName ∈ wsX5_copyTo := by decide +kernel
theorem lkX5_copyTo_ai69 : Cond.initialized "java/lang/System" ∈ wsX5_copyTo := by decide +kernel
theorem lkX5_copyTo_f15 : Cond.fieldLink RX5 15 "LeechClub$Slate" "value" "[J" ∈ wsX5_copyTo := by decide +kernel
theorem lkX5_copyTo_f19 : Cond.fieldLink RX5 19 "LeechClub$Slate" "below" "[J" ∈ wsX5_copyTo := by decide +kernel
theorem inX5_copyTo_X5 : ∀ w ∈ wsX50, w ∈ wsX5_copyTo := by decide +kernel
set_option maxHeartbeats 4000000 in
set_option maxRecDepth 100000 in
theorem kX5_copyTo_0 {p : Program} {l : Launch} {e : Env} {s : State} {m : MethodId} {args : Array Value} {below : List Frame} {meth : Method} {cd : Code} {D : va_G} {c : Nat → ClassId} {A : Nat → Prop} (E0 : xE p s m args meth cd D (xT c) A RX5 cX5_copyTo 5 none wsX5_copyTo) (a_this : Nat) (a_p0 : Nat) (a_value : Nat) (a_below : Nat) (a_p0_value : Nat) (a_p0_below : Nat) (x_sort : Int32) (x_size : Int32) (x_p0_sort : Int32) (x_p0_size : Int32) (x_value : Nat → Int64) (x_below : Nat → Int64) (n : Nat) (rm_p0_value : Nat → Int64) (rm_p0_below : Nat → Int64) (x_p0_value : Nat → Int64) (x_p0_below : Nat → Int64) (v2 : Int32) (v3 : Int32) (v4 : Int32) (hr : fX5_copyTo n x_value x_below x_p0_value x_p0_below v2 v3 v4 = some (rm_p0_value, rm_p0_below)) : GX5_copyTo p l e s m args below meth cd D c A a_this a_p0 a_value a_below a_p0_value a_p0_below x_sort x_size x_p0_sort x_p0_size x_value x_below rm_p0_value rm_p0_below 0 [] [(0, .ref a_this), (1, .ref a_p0), (2, .int v2), (3, .int v3), (4, .int v4)] x_p0_value x_p0_below := by
  have E1 := E0
  obtain ⟨hx, hb, hml, hret, hown, hts, hlocks, hA, hK⟩ := E1
  intro H locs ls hP hD hS hl
  unfold fX5_copyTo at hr
  refine lv_aload_n hx hb dX5_copyTo_0 rfl (lv_at hl 0 rfl) ?_
  refine va_get (D := D) (ci := 5) (v := .ref a_value) (C := RX5) (T := TX5) (N := 4) hx hb hts inX5_copyTo_X5 hown hK hP 0 rfl rfl 2 (by decide) (hts _ lkX5_copyTo_f15) (fun _ h9 => h9) rfl dX5_copyTo_1 ?_
  refine lv_iload_n hx hb dX5_copyTo_4 rfl (lv_at hl 2 rfl) ?_
  refine lv_aload_n hx hb dX5_copyTo_5 rfl (lv_at hl 1 rfl) ?_
  refine va_get (D := D) (ci := 5) (v := .ref a_p0_value) (C := RX5) (T := TX5) (N := 4) hx hb hts inX5_copyTo_X5 hown hK hP 1 rfl rfl 2 (by decide) (hts _ lkX5_copyTo_f15) (fun _ h9 => h9) rfl dX5_copyTo_6 ?_
  refine lv_iload_n hx hb dX5_copyTo_9 rfl (lv_at hl 3 rfl) ?_
  refine lv_iload hx hb dX5_copyTo_10 (lv_at hl 4 rfl) ?_
  obtain ⟨b_1, hr⟩ := x_chk hr
  refine va_copyl hx hb (hml.trans hl.1.symm) hown (hts _ lkX5_copyTo_a69) (hts _ lkX5_copyTo_an69) (hts _ lkX5_copyTo_as69) (hts _ lkX5_copyTo_ai69) hK hP hD hS 2 3 1 1 rfl rfl rfl rfl rfl (x_cp1 b_1) (x_cp2 b_1) (x_cp3 b_1) (x_cp4 b_1) (x_cp5 b_1) (fun _ _ => rfl) (Nat.le_of_ble_eq_true rfl) (Nat.le_of_ble_eq_true rfl) dX5_copyTo_12 (fun H locs hP hD hS => ?_)
  have hP : va_P D vwCl [(a_this, .inr (5, [.int x_sort, .int x_size, .ref a_value, .ref a_below])), (a_p0, .inr (5, [.int x_p0_sort, .int x_p0_size, .ref a_p0_value, .ref a_p0_below])), (a_value, .inl (c 1, 10, .inr (.inl x_value))), (a_p0_value, .inl (c 1, 10, .inr (.inl (va_cpy x_value x_p0_value v2.toNatClampNeg v3.toNatClampNeg v4.toNatClampNeg)))), (a_below, .inl (c 1, 10, .inr (.inl x_below))), (a_p0_below, .inl (c 1, 10, .inr (.inl x_p0_below)))] H := hP
  have hD : va_D A [(a_this, .inr (5, [.int x_sort, .int x_size, .ref a_value, .ref a_below])), (a_p0, .inr (5, [.int x_p0_sort, .int x_p0_size, .ref a_p0_value, .ref a_p0_below])), (a_value, .inl (c 1, 10, .inr (.inl x_value))), (a_p0_value, .inl (c 1, 10, .inr (.inl (va_cpy x_value x_p0_value v2.toNatClampNeg v3.toNatClampNeg v4.toNatClampNeg)))), (a_below, .inl (c 1, 10, .inr (.inl x_below))), (a_p0_below, .inl (c 1, 10, .inr (.inl x_p0_below)))] := hD
  refine lv_aload_n hx hb dX5_copyTo_15 rfl (lv_at hl 0 rfl) ?_
  refine va_get (D := D) (ci := 5) (v := .ref a_below) (C := RX5) (T := TX5) (N := 4) hx hb hts inX5_copyTo_X5 hown hK hP 0 rfl rfl 3 (by decide) (hts _ lkX5_copyTo_f19) (fun _ h9 => h9) rfl dX5_copyTo_16 ?_
  refine lv_iload_n hx hb dX5_copyTo_19 rfl (lv_at hl 2 rfl) ?_
  refine lv_aload_n hx hb dX5_copyTo_20 rfl (lv_at hl 1 rfl) ?_
  refine va_get (D := D) (ci := 5) (v := .ref a_p0_below) (C := RX5) (T := TX5) (N := 4) hx hb hts inX5_copyTo_X5 hown hK hP 1 rfl rfl 3 (by decide) (hts _ lkX5_copyTo_f19) (fun _ h9 => h9) rfl dX5_copyTo_21 ?_
  refine lv_iload_n hx hb dX5_copyTo_24 rfl (lv_at hl 3 rfl) ?_
  refine lv_iload hx hb dX5_copyTo_25 (lv_at hl 4 rfl) ?_
  obtain ⟨b_2, hr⟩ := x_chk hr
  refine va_copyl hx hb (hml.trans hl.1.symm) hown (hts _ lkX5_copyTo_a69) (hts _ lkX5_copyTo_an69) (hts _ lkX5_copyTo_as69) (hts _ lkX5_copyTo_ai69) hK hP hD hS 4 5 1 1 rfl rfl rfl rfl rfl (x_cp1 b_2) (x_cp2 b_2) (x_cp3 b_2) (x_cp4 b_2) (x_cp5 b_2) (fun _ _ => rfl) (Nat.le_of_ble_eq_true rfl) (Nat.le_of_ble_eq_true rfl) dX5_copyTo_27 (fun H locs hP hD hS => ?_)
  have hP : va_P D vwCl [(a_this, .inr (5, [.int x_sort, .int x_size, .ref a_value, .ref a_below])), (a_p0, .inr (5, [.int x_p0_sort, .int x_p0_size, .ref a_p0_value, .ref a_p0_below])), (a_value, .inl (c 1, 10, .inr (.inl x_value))), (a_p0_value, .inl (c 1, 10, .inr (.inl (va_cpy x_value x_p0_value v2.toNatClampNeg v3.toNatClampNeg v4.toNatClampNeg)))), (a_below, .inl (c 1, 10, .inr (.inl x_below))), (a_p0_below, .inl (c 1, 10, .inr (.inl (va_cpy x_below x_p0_below v2.toNatClampNeg v3.toNatClampNeg v4.toNatClampNeg))))] H := hP
  have hD : va_D A [(a_this, .inr (5, [.int x_sort, .int x_size, .ref a_value, .ref a_below])), (a_p0, .inr (5, [.int x_p0_sort, .int x_p0_size, .ref a_p0_value, .ref a_p0_below])), (a_value, .inl (c 1, 10, .inr (.inl x_value))), (a_p0_value, .inl (c 1, 10, .inr (.inl (va_cpy x_value x_p0_value v2.toNatClampNeg v3.toNatClampNeg v4.toNatClampNeg)))), (a_below, .inl (c 1, 10, .inr (.inl x_below))), (a_p0_below, .inl (c 1, 10, .inr (.inl (va_cpy x_below x_p0_below v2.toNatClampNeg v3.toNatClampNeg v4.toNatClampNeg))))] := hD
  have g0 := x_some hr
  have e0 := x_p1 g0
  have e1 := x_p2 g0
  subst e0
  subst e1
  exact x_retv hx hb hret hlocks hP hD hK hS dX5_copyTo_30
set_option maxHeartbeats 4000000 in
set_option maxRecDepth 100000 in
theorem mX5_copyTo (l : Launch) (D : va_G) (c : Nat → ClassId) (a_this : Nat) (a_p0 : Nat) (a_value : Nat) (a_below : Nat) (a_p0_value : Nat) (a_p0_below : Nat) (sz : Nat) (x_sort : Int32) (x_size : Int32) (x_p0_sort : Int32) (x_p0_size : Int32) (x_value : Nat → Int64) (x_below : Nat → Int64) (x_p0_value : Nat → Int64) (x_p0_below : Nat → Int64) (v2 : Int32) (v3 : Int32) (v4 : Int32) (n : Nat) (rm_p0_value : Nat → Int64) (rm_p0_below : Nat → Int64) (h : fX5_copyTo n x_value x_below x_p0_value x_p0_below v2 v3 v4 = some (rm_p0_value, rm_p0_below)) : Met l yX5_copyTo wsX5_copyTo ({ frames := 1, cells := 0, slots := 0, locals := 100 } : Room) (xPc D (xT c) sz [.ref a_this, .ref a_p0, .int v2, .int v3, .int v4] (wX5_copyTo c a_this a_p0 a_value a_below a_p0_value a_p0_below x_sort x_size x_p0_sort x_p0_size x_value x_below x_p0_value x_p0_below) (fun _ => True)) (xQv D (xT c) (va_A (wX5_copyTo c a_this a_p0 a_value a_below a_p0_value a_p0_below x_sort x_size x_p0_sort x_p0_size x_value x_below x_p0_value x_p0_below) sz) (wX5_copyTo c a_this a_p0 a_value a_below a_p0_value a_p0_below x_sort x_size x_p0_sort x_p0_size x_value x_below rm_p0_value rm_p0_below)) 0 0 (va_A (wX5_copyTo c a_this a_p0 a_value a_below a_p0_value a_p0_below x_sort x_size x_p0_sort x_p0_size x_value x_below x_p0_value x_p0_below) sz) := by
  refine Met.ofW (cc := cX5_copyTo) (maxL := 5) (ret := none) (by decide) rfl ?_
  intro p e s m args below meth cd s₁ B hml hv
  obtain ⟨rfl, hsz, hP, hK, hD0, hV⟩ := hv
  subst hsz
  have hl := lv_entry [.ref a_this, .ref a_p0, .int v2, .int v3, .int v4] (n := 5) (Nat.le_of_ble_eq_true rfl)
  rw [lg_entry_eq]
  exact kX5_copyTo_0 (A := va_A (wX5_copyTo c a_this a_p0 a_value a_below a_p0_value a_p0_below x_sort x_size x_p0_sort x_p0_size x_value x_below x_p0_value x_p0_below) s.heap.size) ⟨B.exec, B.bytes, hml, B.returns, findClass_of_methodNamed B.named, atoms_spec (ws := wsX5_copyTo) B.pre, B.notSynchronized, fun q h => Or.inr h, hK⟩ a_this a_p0 a_value a_below a_p0_value a_p0_below x_sort x_size x_p0_sort x_p0_size x_value x_below n rm_p0_value rm_p0_below x_p0_value x_p0_below v2 v3 v4 h s.heap [] _ hP hD0.self va_S.rf hl

abbrev wX6_isDigit (c : Nat → ClassId) (a_this : Nat) (a_letters : Nat) (a_facts : Nat) (a_room : Nat) (x_start : Int32) (x_end : Int32) (x_clauses : Int32) (x_length : Int32) (x_letters : Nat → Int32) : va_W := [(a_this, .inr (6, [.ref a_letters, .int x_length, .int x_start, .int x_end, .int x_clauses, .ref a_facts, .ref a_room])), (a_letters, .inl (c 0, 200, .inl x_letters))]
def GX6_isDigit (p : Program) (l : Launch) (e : Env) (s : State) (m : MethodId) (args : Array Value) (below : List Frame) (meth : Method) (cd : Code) (D : va_G) (c : Nat → ClassId) (A : Nat → Prop) (a_this : Nat) (a_letters : Nat) (a_facts : Nat) (a_room : Nat) (x_start : Int32) (x_end : Int32) (x_clauses : Int32) (x_length : Int32) (x_letters : Nat → Int32) (r_ret : Int32) (pc : Nat) (st : List Value) (loc : List (Nat × Value)) : Prop :=
  ∀ (H : Heap) (locs : List Loc) (ls : Array Slot), va_P D vwCl (wX6_isDigit c a_this a_letters a_facts a_room x_start x_end x_clauses x_length x_letters) H → va_D A (wX6_isDigit c a_this a_letters a_facts a_room x_start x_end x_clauses x_length x_letters) → va_S A s.heap H locs → lv_has ls 2 loc → W p l e ({ frames := 0, cells := 0, slots := 0, locals := 0 } : Room) s m args below meth cd H locs 0 0 (MQ below (xQi D (xT c) A r_ret (wX6_isDigit c a_this a_letters a_facts a_room x_start x_end x_clauses x_length x_letters)) args s 0 0 A) (F0 m pc ls st)
theorem lkX6_isDigit_f53 : Cond.fieldLink RX6 53 "LeechClub$Text" "length" "I" ∈ wsX6_isDigit := by decide +kernel
theorem lkX6_isDigit_f9 : Cond.fieldLink RX6 9 "LeechClub$Text" "letters" "[I" ∈ wsX6_isDigit := by decide +kernel
theorem inX6_isDigit_X6 : ∀ w ∈ wsX60, w ∈ wsX6_isDigit := by decide +kernel
set_option maxHeartbeats 4000000 in
set_option maxRecDepth 100000 in
theorem kX6_isDigit_35 {p : Program} {l : Launch} {e : Env} {s : State} {m : MethodId} {args : Array Value} {below : List Frame} {meth : Method} {cd : Code} {D : va_G} {c : Nat → ClassId} {A : Nat → Prop} (E0 : xE p s m args meth cd D (xT c) A RX6 cX6_isDigit 2 (some .boolean) wsX6_isDigit) (a_this : Nat) (a_letters : Nat) (a_facts : Nat) (a_room : Nat) (x_start : Int32) (x_end : Int32) (x_clauses : Int32) (x_length : Int32) (x_letters : Nat → Int32) (n : Nat) (r_ret : Int32) (t0 : Int32) (hr : fX6_isDigit_35 n x_length x_letters t0 = some (r_ret)) : GX6_isDigit p l e s m args below meth cd D c A a_this a_letters a_facts a_room x_start x_end x_clauses x_length x_letters r_ret 35 [.int t0] [] := by
  have E1 := E0
  obtain ⟨hx, hb, hml, hret, hown, hts, hlocks, hA, hK⟩ := E1
  intro H locs ls hP hD hS hl
  unfold fX6_isDigit_35 at hr
  obtain ⟨hz, hr⟩ := x_need hr
  have e0 := x_some hr
  subst e0
  exact x_retz hx hb hret (x_nz hz) hlocks hP hD hK hS dX6_isDigit_35
set_option maxHeartbeats 4000000 in
set_option maxRecDepth 100000 in
theorem kX6_isDigit_34 {p : Program} {l : Launch} {e : Env} {s : State} {m : MethodId} {args : Array Value} {below : List Frame} {meth : Method} {cd : Code} {D : va_G} {c : Nat → ClassId} {A : Nat → Prop} (E0 : xE p s m args meth cd D (xT c) A RX6 cX6_isDigit 2 (some .boolean) wsX6_isDigit) (a_this : Nat) (a_letters : Nat) (a_facts : Nat) (a_room : Nat) (x_start : Int32) (x_end : Int32) (x_clauses : Int32) (x_length : Int32) (x_letters : Nat → Int32) (n : Nat) (r_ret : Int32) (hr : fX6_isDigit_34 n x_length x_letters = some (r_ret)) : GX6_isDigit p l e s m args below meth cd D c A a_this a_letters a_facts a_room x_start x_end x_clauses x_length x_letters r_ret 34 [] [] := by
  have E1 := E0
  obtain ⟨hx, hb, hml, hret, hown, hts, hlocks, hA, hK⟩ := E1
  intro H locs ls hP hD hS hl
  unfold fX6_isDigit_34 at hr
  refine lv_iconst (v := 0) hx hb dX6_isDigit_34 (by decide) ?_
  exact kX6_isDigit_35 E0 a_this a_letters a_facts a_room x_start x_end x_clauses x_length x_letters n r_ret 0 hr H locs ls hP hD hS (lv_sub hl [] rfl)
set_option maxHeartbeats 4000000 in
set_option maxRecDepth 100000 in
theorem kX6_isDigit_0 {p : Program} {l : Launch} {e : Env} {s : State} {m : MethodId} {args : Array Value} {below : List Frame} {meth : Method} {cd : Code} {D : va_G} {c : Nat → ClassId} {A : Nat → Prop} (E0 : xE p s m args meth cd D (xT c) A RX6 cX6_isDigit 2 (some .boolean) wsX6_isDigit) (a_this : Nat) (a_letters : Nat) (a_facts : Nat) (a_room : Nat) (x_start : Int32) (x_end : Int32) (x_clauses : Int32) (x_length : Int32) (x_letters : Nat → Int32) (n : Nat) (r_ret : Int32) (v1 : Int32) (hr : fX6_isDigit n x_length x_letters v1 = some (r_ret)) : GX6_isDigit p l e s m args below meth cd D c A a_this a_letters a_facts a_room x_start x_end x_clauses x_length x_letters r_ret 0 [] [(0, .ref a_this), (1, .int v1)] := by
  have E1 := E0
  obtain ⟨hx, hb, hml, hret, hown, hts, hlocks, hA, hK⟩ := E1
  intro H locs ls hP hD hS hl
  unfold fX6_isDigit at hr
  refine lv_iload_n hx hb dX6_isDigit_0 rfl (lv_at hl 1 rfl) ?_
  refine lv_aload_n hx hb dX6_isDigit_1 rfl (lv_at hl 0 rfl) ?_
  refine va_get (D := D) (ci := 6) (v := .int x_length) (C := RX6) (T := TX6) (N := 7) hx hb hts inX6_isDigit_X6 hown hK hP 0 rfl rfl 1 (by decide) (hts _ lkX6_isDigit_f53) (fun _ h9 => h9) rfl dX6_isDigit_2 ?_
  refine lv_icmp_ge (tgt := 34) hx hb dX6_isDigit_5 (by decide) (fun c_1 => ?_) (fun c_1 => ?_)
  · have hr := x_ift hr c_1
    exact kX6_isDigit_34 E0 a_this a_letters a_facts a_room x_start x_end x_clauses x_length x_letters n r_ret hr H locs ls hP hD hS (lv_sub hl [] rfl)
  · have hr := x_iff hr c_1
    refine lv_aload_n hx hb dX6_isDigit_8 rfl (lv_at hl 0 rfl) ?_
    refine va_get (D := D) (ci := 6) (v := .ref a_letters) (C := RX6) (T := TX6) (N := 7) hx hb hts inX6_isDigit_X6 hown hK hP 0 rfl rfl 0 (by decide) (hts _ lkX6_isDigit_f9) (fun _ h9 => h9) rfl dX6_isDigit_9 ?_
    refine lv_iload_n hx hb dX6_isDigit_12 rfl (lv_at hl 1 rfl) ?_
    obtain ⟨b_2, hr⟩ := x_chk hr
    refine va_iald hx hb hK hP 1 0 rfl rfl b_2 dX6_isDigit_13 ?_
    refine lv_bipush (v := 48) hx hb dX6_isDigit_14 (by decide) ?_
    refine lv_icmp_lt (tgt := 34) hx hb dX6_isDigit_16 (by decide) (fun c_3 => ?_) (fun c_3 => ?_)
    · have hr := x_ift hr c_3
      exact kX6_isDigit_34 E0 a_this a_letters a_facts a_room x_start x_end x_clauses x_length x_letters n r_ret hr H locs ls hP hD hS (lv_sub hl [] rfl)
    · have hr := x_iff hr c_3
      refine lv_aload_n hx hb dX6_isDigit_19 rfl (lv_at hl 0 rfl) ?_
      refine va_get (D := D) (ci := 6) (v := .ref a_letters) (C := RX6) (T := TX6) (N := 7) hx hb hts inX6_isDigit_X6 hown hK hP 0 rfl rfl 0 (by decide) (hts _ lkX6_isDigit_f9) (fun _ h9 => h9) rfl dX6_isDigit_20 ?_
      refine lv_iload_n hx hb dX6_isDigit_23 rfl (lv_at hl 1 rfl) ?_
      obtain ⟨b_4, hr⟩ := x_chk hr
      refine va_iald hx hb hK hP 1 0 rfl rfl b_4 dX6_isDigit_24 ?_
      refine lv_bipush (v := 57) hx hb dX6_isDigit_25 (by decide) ?_
      refine lv_icmp_gt (tgt := 34) hx hb dX6_isDigit_27 (by decide) (fun c_5 => ?_) (fun c_5 => ?_)
      · have hr := x_ift hr c_5
        exact kX6_isDigit_34 E0 a_this a_letters a_facts a_room x_start x_end x_clauses x_length x_letters n r_ret hr H locs ls hP hD hS (lv_sub hl [] rfl)
      · have hr := x_iff hr c_5
        refine lv_iconst (v := 1) hx hb dX6_isDigit_30 (by decide) ?_
        refine lv_goto (tgt := 35) hx hb dX6_isDigit_31 (by decide) ?_
        exact kX6_isDigit_35 E0 a_this a_letters a_facts a_room x_start x_end x_clauses x_length x_letters n r_ret 1 hr H locs ls hP hD hS (lv_sub hl [] rfl)
set_option maxHeartbeats 4000000 in
set_option maxRecDepth 100000 in
theorem mX6_isDigit (l : Launch) (D : va_G) (c : Nat → ClassId) (a_this : Nat) (a_letters : Nat) (a_facts : Nat) (a_room : Nat) (sz : Nat) (x_start : Int32) (x_end : Int32) (x_clauses : Int32) (x_length : Int32) (x_letters : Nat → Int32) (v1 : Int32) (n : Nat) (r_ret : Int32) (h : fX6_isDigit n x_length x_letters v1 = some (r_ret)) : Met l yX6_isDigit wsX6_isDigit ({ frames := 0, cells := 0, slots := 0, locals := 0 } : Room) (xPc D (xT c) sz [.ref a_this, .int v1] (wX6_isDigit c a_this a_letters a_facts a_room x_start x_end x_clauses x_length x_letters) (fun _ => True)) (xQi D (xT c) (va_A (wX6_isDigit c a_this a_letters a_facts a_room x_start x_end x_clauses x_length x_letters) sz) r_ret (wX6_isDigit c a_this a_letters a_facts a_room x_start x_end x_clauses x_length x_letters)) 0 0 (va_A (wX6_isDigit c a_this a_letters a_facts a_room x_start x_end x_clauses x_length x_letters) sz) := by
  refine Met.ofW (cc := cX6_isDigit) (maxL := 2) (ret := (some .boolean)) (by decide) rfl ?_
  intro p e s m args below meth cd s₁ B hml hv
  obtain ⟨rfl, hsz, hP, hK, hD0, hV⟩ := hv
  subst hsz
  have hl := lv_entry [.ref a_this, .int v1] (n := 2) (Nat.le_of_ble_eq_true rfl)
  rw [lg_entry_eq]
  exact kX6_isDigit_0 (A := va_A (wX6_isDigit c a_this a_letters a_facts a_room x_start x_end x_clauses x_length x_letters) s.heap.size) ⟨B.exec, B.bytes, hml, B.returns, findClass_of_methodNamed B.named, atoms_spec (ws := wsX6_isDigit) B.pre, B.notSynchronized, fun q h => Or.inr h, hK⟩ a_this a_letters a_facts a_room x_start x_end x_clauses x_length x_letters n r_ret v1 h s.heap [] _ hP hD0.self va_S.rf hl

abbrev wX6_isSmall (c : Nat → ClassId) (a_this : Nat) (a_letters : Nat) (a_facts : Nat) (a_room : Nat) (x_start : Int32) (x_end : Int32) (x_clauses : Int32) (x_length : Int32) (x_letters : Nat → Int32) : va_W := [(a_this, .inr (6, [.ref a_letters, .int x_length, .int x_start, .int x_end, .int x_clauses, .ref a_facts, .ref a_room])), (a_letters, .inl (c 0, 200, .inl x_letters))]
def GX6_isSmall (p : Program) (l : Launch) (e : Env) (s : State) (m : MethodId) (args : Array Value) (below : List Frame) (meth : Method) (cd : Code) (D : va_G) (c : Nat → ClassId) (A : Nat → Prop) (a_this : Nat) (a_letters : Nat) (a_facts : Nat) (a_room : Nat) (x_start : Int32) (x_end : Int32) (x_clauses : Int32) (x_length : Int32) (x_letters : Nat → Int32) (r_ret : Int32) (pc : Nat) (st : List Value) (loc : List (Nat × Value)) : Prop :=
  ∀ (H : Heap) (locs : List Loc) (ls : Array Slot), va_P D vwCl (wX6_isSmall c a_this a_letters a_facts a_room x_start x_end x_clauses x_length x_letters) H → va_D A (wX6_isSmall c a_this a_letters a_facts a_room x_start x_end x_clauses x_length x_letters) → va_S A s.heap H locs → lv_has ls 2 loc → W p l e ({ frames := 0, cells := 0, slots := 0, locals := 0 } : Room) s m args below meth cd H locs 0 0 (MQ below (xQi D (xT c) A r_ret (wX6_isSmall c a_this a_letters a_facts a_room x_start x_end x_clauses x_length x_letters)) args s 0 0 A) (F0 m pc ls st)
theorem lkX6_isSmall_f53 : Cond.fieldLink RX6 53 "LeechClub$Text" "length" "I" ∈ wsX6_isSmall := by decide +kernel
theorem lkX6_isSmall_f9 : Cond.fieldLink RX6 9 "LeechClub$Text" "letters" "[I" ∈ wsX6_isSmall := by decide +kernel
theorem inX6_isSmall_X6 : ∀ w ∈ wsX60, w ∈ wsX6_isSmall := by decide +kernel
set_option maxHeartbeats 4000000 in
set_option maxRecDepth 100000 in
theorem kX6_isSmall_35 {p : Program} {l : Launch} {e : Env} {s : State} {m : MethodId} {args : Array Value} {below : List Frame} {meth : Method} {cd : Code} {D : va_G} {c : Nat → ClassId} {A : Nat → Prop} (E0 : xE p s m args meth cd D (xT c) A RX6 cX6_isSmall 2 (some .boolean) wsX6_isSmall) (a_this : Nat) (a_letters : Nat) (a_facts : Nat) (a_room : Nat) (x_start : Int32) (x_end : Int32) (x_clauses : Int32) (x_length : Int32) (x_letters : Nat → Int32) (n : Nat) (r_ret : Int32) (t0 : Int32) (hr : fX6_isSmall_35 n x_length x_letters t0 = some (r_ret)) : GX6_isSmall p l e s m args below meth cd D c A a_this a_letters a_facts a_room x_start x_end x_clauses x_length x_letters r_ret 35 [.int t0] [] := by
  have E1 := E0
  obtain ⟨hx, hb, hml, hret, hown, hts, hlocks, hA, hK⟩ := E1
  intro H locs ls hP hD hS hl
  unfold fX6_isSmall_35 at hr
  obtain ⟨hz, hr⟩ := x_need hr
  have e0 := x_some hr
  subst e0
  exact x_retz hx hb hret (x_nz hz) hlocks hP hD hK hS dX6_isSmall_35
set_option maxHeartbeats 4000000 in
set_option maxRecDepth 100000 in
theorem kX6_isSmall_34 {p : Program} {l : Launch} {e : Env} {s : State} {m : MethodId} {args : Array Value} {below : List Frame} {meth : Method} {cd : Code} {D : va_G} {c : Nat → ClassId} {A : Nat → Prop} (E0 : xE p s m args meth cd D (xT c) A RX6 cX6_isSmall 2 (some .boolean) wsX6_isSmall) (a_this : Nat) (a_letters : Nat) (a_facts : Nat) (a_room : Nat) (x_start : Int32) (x_end : Int32) (x_clauses : Int32) (x_length : Int32) (x_letters : Nat → Int32) (n : Nat) (r_ret : Int32) (hr : fX6_isSmall_34 n x_length x_letters = some (r_ret)) : GX6_isSmall p l e s m args below meth cd D c A a_this a_letters a_facts a_room x_start x_end x_clauses x_length x_letters r_ret 34 [] [] := by
  have E1 := E0
  obtain ⟨hx, hb, hml, hret, hown, hts, hlocks, hA, hK⟩ := E1
  intro H locs ls hP hD hS hl
  unfold fX6_isSmall_34 at hr
  refine lv_iconst (v := 0) hx hb dX6_isSmall_34 (by decide) ?_
  exact kX6_isSmall_35 E0 a_this a_letters a_facts a_room x_start x_end x_clauses x_length x_letters n r_ret 0 hr H locs ls hP hD hS (lv_sub hl [] rfl)
set_option maxHeartbeats 4000000 in
set_option maxRecDepth 100000 in
theorem kX6_isSmall_0 {p : Program} {l : Launch} {e : Env} {s : State} {m : MethodId} {args : Array Value} {below : List Frame} {meth : Method} {cd : Code} {D : va_G} {c : Nat → ClassId} {A : Nat → Prop} (E0 : xE p s m args meth cd D (xT c) A RX6 cX6_isSmall 2 (some .boolean) wsX6_isSmall) (a_this : Nat) (a_letters : Nat) (a_facts : Nat) (a_room : Nat) (x_start : Int32) (x_end : Int32) (x_clauses : Int32) (x_length : Int32) (x_letters : Nat → Int32) (n : Nat) (r_ret : Int32) (v1 : Int32) (hr : fX6_isSmall n x_length x_letters v1 = some (r_ret)) : GX6_isSmall p l e s m args below meth cd D c A a_this a_letters a_facts a_room x_start x_end x_clauses x_length x_letters r_ret 0 [] [(0, .ref a_this), (1, .int v1)] := by
  have E1 := E0
  obtain ⟨hx, hb, hml, hret, hown, hts, hlocks, hA, hK⟩ := E1
  intro H locs ls hP hD hS hl
  unfold fX6_isSmall at hr
  refine lv_iload_n hx hb dX6_isSmall_0 rfl (lv_at hl 1 rfl) ?_
  refine lv_aload_n hx hb dX6_isSmall_1 rfl (lv_at hl 0 rfl) ?_
  refine va_get (D := D) (ci := 6) (v := .int x_length) (C := RX6) (T := TX6) (N := 7) hx hb hts inX6_isSmall_X6 hown hK hP 0 rfl rfl 1 (by decide) (hts _ lkX6_isSmall_f53) (fun _ h9 => h9) rfl dX6_isSmall_2 ?_
  refine lv_icmp_ge (tgt := 34) hx hb dX6_isSmall_5 (by decide) (fun c_1 => ?_) (fun c_1 => ?_)
  · have hr := x_ift hr c_1
    exact kX6_isSmall_34 E0 a_this a_letters a_facts a_room x_start x_end x_clauses x_length x_letters n r_ret hr H locs ls hP hD hS (lv_sub hl [] rfl)
  · have hr := x_iff hr c_1
    refine lv_aload_n hx hb dX6_isSmall_8 rfl (lv_at hl 0 rfl) ?_
    refine va_get (D := D) (ci := 6) (v := .ref a_letters) (C := RX6) (T := TX6) (N := 7) hx hb hts inX6_isSmall_X6 hown hK hP 0 rfl rfl 0 (by decide) (hts _ lkX6_isSmall_f9) (fun _ h9 => h9) rfl dX6_isSmall_9 ?_
    refine lv_iload_n hx hb dX6_isSmall_12 rfl (lv_at hl 1 rfl) ?_
    obtain ⟨b_2, hr⟩ := x_chk hr
    refine va_iald hx hb hK hP 1 0 rfl rfl b_2 dX6_isSmall_13 ?_
    refine lv_bipush (v := 97) hx hb dX6_isSmall_14 (by decide) ?_
    refine lv_icmp_lt (tgt := 34) hx hb dX6_isSmall_16 (by decide) (fun c_3 => ?_) (fun c_3 => ?_)
    · have hr := x_ift hr c_3
      exact kX6_isSmall_34 E0 a_this a_letters a_facts a_room x_start x_end x_clauses x_length x_letters n r_ret hr H locs ls hP hD hS (lv_sub hl [] rfl)
    · have hr := x_iff hr c_3
      refine lv_aload_n hx hb dX6_isSmall_19 rfl (lv_at hl 0 rfl) ?_
      refine va_get (D := D) (ci := 6) (v := .ref a_letters) (C := RX6) (T := TX6) (N := 7) hx hb hts inX6_isSmall_X6 hown hK hP 0 rfl rfl 0 (by decide) (hts _ lkX6_isSmall_f9) (fun _ h9 => h9) rfl dX6_isSmall_20 ?_
      refine lv_iload_n hx hb dX6_isSmall_23 rfl (lv_at hl 1 rfl) ?_
      obtain ⟨b_4, hr⟩ := x_chk hr
      refine va_iald hx hb hK hP 1 0 rfl rfl b_4 dX6_isSmall_24 ?_
      refine lv_bipush (v := 122) hx hb dX6_isSmall_25 (by decide) ?_
      refine lv_icmp_gt (tgt := 34) hx hb dX6_isSmall_27 (by decide) (fun c_5 => ?_) (fun c_5 => ?_)
      · have hr := x_ift hr c_5
        exact kX6_isSmall_34 E0 a_this a_letters a_facts a_room x_start x_end x_clauses x_length x_letters n r_ret hr H locs ls hP hD hS (lv_sub hl [] rfl)
      · have hr := x_iff hr c_5
        refine lv_iconst (v := 1) hx hb dX6_isSmall_30 (by decide) ?_
        refine lv_goto (tgt := 35) hx hb dX6_isSmall_31 (by decide) ?_
        exact kX6_isSmall_35 E0 a_this a_letters a_facts a_room x_start x_end x_clauses x_length x_letters n r_ret 1 hr H locs ls hP hD hS (lv_sub hl [] rfl)
set_option maxHeartbeats 4000000 in
set_option maxRecDepth 100000 in
theorem mX6_isSmall (l : Launch) (D : va_G) (c : Nat → ClassId) (a_this : Nat) (a_letters : Nat) (a_facts : Nat) (a_room : Nat) (sz : Nat) (x_start : Int32) (x_end : Int32) (x_clauses : Int32) (x_length : Int32) (x_letters : Nat → Int32) (v1 : Int32) (n : Nat) (r_ret : Int32) (h : fX6_isSmall n x_length x_letters v1 = some (r_ret)) : Met l yX6_isSmall wsX6_isSmall ({ frames := 0, cells := 0, slots := 0, locals := 0 } : Room) (xPc D (xT c) sz [.ref a_this, .int v1] (wX6_isSmall c a_this a_letters a_facts a_room x_start x_end x_clauses x_length x_letters) (fun _ => True)) (xQi D (xT c) (va_A (wX6_isSmall c a_this a_letters a_facts a_room x_start x_end x_clauses x_length x_letters) sz) r_ret (wX6_isSmall c a_this a_letters a_facts a_room x_start x_end x_clauses x_length x_letters)) 0 0 (va_A (wX6_isSmall c a_this a_letters a_facts a_room x_start x_end x_clauses x_length x_letters) sz) := by
  refine Met.ofW (cc := cX6_isSmall) (maxL := 2) (ret := (some .boolean)) (by decide) rfl ?_
  intro p e s m args below meth cd s₁ B hml hv
  obtain ⟨rfl, hsz, hP, hK, hD0, hV⟩ := hv
  subst hsz
  have hl := lv_entry [.ref a_this, .int v1] (n := 2) (Nat.le_of_ble_eq_true rfl)
  rw [lg_entry_eq]
  exact kX6_isSmall_0 (A := va_A (wX6_isSmall c a_this a_letters a_facts a_room x_start x_end x_clauses x_length x_letters) s.heap.size) ⟨B.exec, B.bytes, hml, B.returns, findClass_of_methodNamed B.named, atoms_spec (ws := wsX6_isSmall) B.pre, B.notSynchronized, fun q h => Or.inr h, hK⟩ a_this a_letters a_facts a_room x_start x_end x_clauses x_length x_letters n r_ret v1 h s.heap [] _ hP hD0.self va_S.rf hl

abbrev wX6_step (c : Nat → ClassId) (a_this : Nat) (a_letters : Nat) (a_facts : Nat) (a_room : Nat) (x_clauses : Int32) (x_length : Int32) (x_letters : Nat → Int32) (x_start : Int32) (x_end : Int32) : va_W := [(a_this, .inr (6, [.ref a_letters, .int x_length, .int x_start, .int x_end, .int x_clauses, .ref a_facts, .ref a_room])), (a_letters, .inl (c 0, 200, .inl x_letters))]
def GX6_step (p : Program) (l : Launch) (e : Env) (s : State) (m : MethodId) (args : Array Value) (below : List Frame) (meth : Method) (cd : Code) (D : va_G) (c : Nat → ClassId) (A : Nat → Prop) (a_this : Nat) (a_letters : Nat) (a_facts : Nat) (a_room : Nat) (x_clauses : Int32) (x_length : Int32) (x_letters : Nat → Int32) (rm_start : Int32) (rm_end : Int32) (pc : Nat) (st : List Value) (loc : List (Nat × Value)) (x_start : Int32) (x_end : Int32) : Prop :=
  ∀ (H : Heap) (locs : List Loc) (ls : Array Slot), va_P D vwCl (wX6_step c a_this a_letters a_facts a_room x_clauses x_length x_letters x_start x_end) H → va_D A (wX6_step c a_this a_letters a_facts a_room x_clauses x_length x_letters x_start x_end) → va_S A s.heap H locs → lv_has ls 1 loc → W p l e ({ frames := 1, cells := 0, slots := 0, locals := 21 } : Room) s m args below meth cd H locs 0 0 (MQ below (xQv D (xT c) A (wX6_step c a_this a_letters a_facts a_room x_clauses x_length x_letters rm_start rm_end)) args s 0 0 A) (F0 m pc ls st)
theorem lkX6_step_f40 : Cond.fieldLink RX6 40 "LeechClub$Text" "end" "I" ∈ wsX6_step := by decide +kernel
theorem lkX6_step_f50 : Cond.fieldLink RX6 50 "LeechClub$Text" "start" "I" ∈ wsX6_step := by decide +kernel
theorem lkX6_step_f53 : Cond.fieldLink RX6 53 "LeechClub$Text" "length" "I" ∈ wsX6_step := by decide +kernel
theorem lkX6_step_f9 : Cond.fieldLink RX6 9 "LeechClub$Text" "letters" "[I" ∈ wsX6_step := by decide +kernel
theorem inX6_step_X6 : ∀ w ∈ wsX60, w ∈ wsX6_step := by decide +kernel
set_option maxHeartbeats 4000000 in
set_option maxRecDepth 100000 in
theorem kX6_step_167 {p : Program} {l : Launch} {e : Env} {s : State} {m : MethodId} {args : Array Value} {below : List Frame} {meth : Method} {cd : Code} {D : va_G} {c : Nat → ClassId} {A : Nat → Prop} (E0 : xE p s m args meth cd D (xT c) A RX6 cX6_step 1 none wsX6_step) (a_this : Nat) (a_letters : Nat) (a_facts : Nat) (a_room : Nat) (x_clauses : Int32) (x_length : Int32) (x_letters : Nat → Int32) (n : Nat) (rm_start : Int32) (rm_end : Int32) (x_start : Int32) (x_end : Int32) (hr : fX6_step_167 n x_length x_letters x_start x_end = some (rm_start, rm_end)) : GX6_step p l e s m args below meth cd D c A a_this a_letters a_facts a_room x_clauses x_length x_letters rm_start rm_end 167 [] [] x_start x_end := by
  have E1 := E0
  obtain ⟨hx, hb, hml, hret, hown, hts, hlocks, hA, hK⟩ := E1
  intro H locs ls hP hD hS hl
  unfold fX6_step_167 at hr
  have g0 := x_some hr
  have e0 := x_p1 g0
  have e1 := x_p2 g0
  subst e0
  subst e1
  exact x_retv hx hb hret hlocks hP hD hK hS dX6_step_167
set_option maxHeartbeats 4000000 in
set_option maxRecDepth 100000 in
theorem kX6_step_65 {p : Program} {l : Launch} {e : Env} {s : State} {m : MethodId} {args : Array Value} {below : List Frame} {meth : Method} {cd : Code} {D : va_G} {c : Nat → ClassId} {A : Nat → Prop} (E0 : xE p s m args meth cd D (xT c) A RX6 cX6_step 1 none wsX6_step) (a_this : Nat) (a_letters : Nat) (a_facts : Nat) (a_room : Nat) (x_clauses : Int32) (x_length : Int32) (x_letters : Nat → Int32) (n : Nat) (rm_start : Int32) (rm_end : Int32) : ∀ (k : Nat) (x_start : Int32) (x_end : Int32), fX6_step_65 n x_length x_letters k x_start x_end = some (rm_start, rm_end) → GX6_step p l e s m args below meth cd D c A a_this a_letters a_facts a_room x_clauses x_length x_letters rm_start rm_end 65 [] [(0, .ref a_this)] x_start x_end := by
  have E1 := E0
  obtain ⟨hx, hb, hml, hret, hown, hts, hlocks, hA, hK⟩ := E1
  intro k
  induction k with
  | zero => intro x_start x_end hr; cases hr
  | succ k h_65 =>
    intro x_start x_end hr H locs ls hP hD hS hl
    unfold fX6_step_65 at hr
    refine lv_aload_n hx hb dX6_step_65 rfl (lv_at hl 0 rfl) ?_
    refine va_get (D := D) (ci := 6) (v := .int x_end) (C := RX6) (T := TX6) (N := 7) hx hb hts inX6_step_X6 hown hK hP 0 rfl rfl 3 (by decide) (hts _ lkX6_step_f40) (fun _ h9 => h9) rfl dX6_step_66 ?_
    refine lv_aload_n hx hb dX6_step_69 rfl (lv_at hl 0 rfl) ?_
    refine va_get (D := D) (ci := 6) (v := .int x_length) (C := RX6) (T := TX6) (N := 7) hx hb hts inX6_step_X6 hown hK hP 0 rfl rfl 1 (by decide) (hts _ lkX6_step_f53) (fun _ h9 => h9) rfl dX6_step_70 ?_
    refine lv_icmp_ge (tgt := 167) hx hb dX6_step_73 (by decide) (fun c_1 => ?_) (fun c_1 => ?_)
    · have hr := x_ift hr c_1
      exact kX6_step_167 E0 a_this a_letters a_facts a_room x_clauses x_length x_letters n rm_start rm_end x_start x_end hr H locs ls hP hD hS (lv_sub hl [] rfl)
    · have hr := x_iff hr c_1
      refine lv_aload_n hx hb dX6_step_76 rfl (lv_at hl 0 rfl) ?_
      refine lv_aload_n hx hb dX6_step_77 rfl (lv_at hl 0 rfl) ?_
      refine va_get (D := D) (ci := 6) (v := .int x_end) (C := RX6) (T := TX6) (N := 7) hx hb hts inX6_step_X6 hown hK hP 0 rfl rfl 3 (by decide) (hts _ lkX6_step_f40) (fun _ h9 => h9) rfl dX6_step_78 ?_
      obtain ⟨q2_0, hc2, hr⟩ := x_bind hr
      refine x_runi (wr := []) (wf := [(a_this, .inr (6, [.ref a_letters, .int x_length, .int x_start, .int x_end, .int x_clauses, .ref a_facts, .ref a_room])), (a_letters, .inl (c 0, 200, .inl x_letters))]) (x_goV (As := [.int x_end]) (rest := []) ⟨hx, hb, hml, hown, hts⟩ (mX6_isSmall l D c a_this a_letters a_facts a_room H.size x_start x_end x_clauses x_length x_letters x_end n _ hc2) (cwV 1 hts gX6_step_X6_isSmall rfl rfl rfl (by decide +kernel) ⟨Nat.le_of_ble_eq_true rfl, Nat.le_of_ble_eq_true rfl⟩) xB_t hP hD hK [0, 1] rfl (by decide) (fun _ _ _ => trivial) 0 6 rfl rfl rfl rfl hl.1 rfl (Nat.le_of_ble_eq_true rfl) dX6_step_81) hP hD hS hA [0, 1] [] [0, 1] rfl rfl rfl ⟨by decide, by decide, by decide⟩ (fun H locs hP hD hS => ?_)
      refine lv_if_eq (tgt := 167) hx hb dX6_step_84 (by decide) (fun c_3 => ?_) (fun c_3 => ?_)
      · have hr := x_ift hr c_3
        exact kX6_step_167 E0 a_this a_letters a_facts a_room x_clauses x_length x_letters n rm_start rm_end x_start x_end hr H locs ls hP hD hS (lv_sub hl [] rfl)
      · have hr := x_iff hr c_3
        refine lv_aload_n hx hb dX6_step_87 rfl (lv_at hl 0 rfl) ?_
        refine lv_dup hx hb dX6_step_88 rfl ?_
        refine va_get (D := D) (ci := 6) (v := .int x_end) (C := RX6) (T := TX6) (N := 7) hx hb hts inX6_step_X6 hown hK hP 0 rfl rfl 3 (by decide) (hts _ lkX6_step_f40) (fun _ h9 => h9) rfl dX6_step_89 ?_
        refine lv_iconst (v := 1) hx hb dX6_step_92 (by decide) ?_
        refine lv_iadd hx hb dX6_step_93 ?_
        refine va_put (D := D) (ci := 6) (v := .int (x_end + 1)) (ty := .int) (C := RX6) (T := TX6) (N := 7) hx hb hts inX6_step_X6 tyX6 tyX6_ok nmX6 hown hK hP hD hS 0 rfl rfl 3 (by decide) (hts _ lkX6_step_f40) (fun _ h9 => h9) rfl (by decide +kernel) rfl rfl (Nat.le_of_ble_eq_true rfl) dX6_step_94 (fun H locs hP hD hS => ?_)
        have hP : va_P D vwCl [(a_this, .inr (6, [.ref a_letters, .int x_length, .int x_start, .int (x_end + 1), .int x_clauses, .ref a_facts, .ref a_room])), (a_letters, .inl (c 0, 200, .inl x_letters))] H := hP
        have hD : va_D A [(a_this, .inr (6, [.ref a_letters, .int x_length, .int x_start, .int (x_end + 1), .int x_clauses, .ref a_facts, .ref a_room])), (a_letters, .inl (c 0, 200, .inl x_letters))] := hD
        refine lv_goto (tgt := 65) hx hb dX6_step_97 (by decide) ?_
        exact h_65 x_start (x_end + 1) hr H locs ls hP hD hS (lv_sub hl [0] rfl)
set_option maxHeartbeats 4000000 in
set_option maxRecDepth 100000 in
theorem kX6_step_111 {p : Program} {l : Launch} {e : Env} {s : State} {m : MethodId} {args : Array Value} {below : List Frame} {meth : Method} {cd : Code} {D : va_G} {c : Nat → ClassId} {A : Nat → Prop} (E0 : xE p s m args meth cd D (xT c) A RX6 cX6_step 1 none wsX6_step) (a_this : Nat) (a_letters : Nat) (a_facts : Nat) (a_room : Nat) (x_clauses : Int32) (x_length : Int32) (x_letters : Nat → Int32) (n : Nat) (rm_start : Int32) (rm_end : Int32) : ∀ (k : Nat) (x_start : Int32) (x_end : Int32), fX6_step_111 n x_length x_letters k x_start x_end = some (rm_start, rm_end) → GX6_step p l e s m args below meth cd D c A a_this a_letters a_facts a_room x_clauses x_length x_letters rm_start rm_end 111 [] [(0, .ref a_this)] x_start x_end := by
  have E1 := E0
  obtain ⟨hx, hb, hml, hret, hown, hts, hlocks, hA, hK⟩ := E1
  intro k
  induction k with
  | zero => intro x_start x_end hr; cases hr
  | succ k h_111 =>
    intro x_start x_end hr H locs ls hP hD hS hl
    unfold fX6_step_111 at hr
    refine lv_aload_n hx hb dX6_step_111 rfl (lv_at hl 0 rfl) ?_
    refine va_get (D := D) (ci := 6) (v := .int x_end) (C := RX6) (T := TX6) (N := 7) hx hb hts inX6_step_X6 hown hK hP 0 rfl rfl 3 (by decide) (hts _ lkX6_step_f40) (fun _ h9 => h9) rfl dX6_step_112 ?_
    refine lv_aload_n hx hb dX6_step_115 rfl (lv_at hl 0 rfl) ?_
    refine va_get (D := D) (ci := 6) (v := .int x_length) (C := RX6) (T := TX6) (N := 7) hx hb hts inX6_step_X6 hown hK hP 0 rfl rfl 1 (by decide) (hts _ lkX6_step_f53) (fun _ h9 => h9) rfl dX6_step_116 ?_
    refine lv_icmp_ge (tgt := 167) hx hb dX6_step_119 (by decide) (fun c_1 => ?_) (fun c_1 => ?_)
    · have hr := x_ift hr c_1
      exact kX6_step_167 E0 a_this a_letters a_facts a_room x_clauses x_length x_letters n rm_start rm_end x_start x_end hr H locs ls hP hD hS (lv_sub hl [] rfl)
    · have hr := x_iff hr c_1
      refine lv_aload_n hx hb dX6_step_122 rfl (lv_at hl 0 rfl) ?_
      refine lv_aload_n hx hb dX6_step_123 rfl (lv_at hl 0 rfl) ?_
      refine va_get (D := D) (ci := 6) (v := .int x_end) (C := RX6) (T := TX6) (N := 7) hx hb hts inX6_step_X6 hown hK hP 0 rfl rfl 3 (by decide) (hts _ lkX6_step_f40) (fun _ h9 => h9) rfl dX6_step_124 ?_
      obtain ⟨q2_0, hc2, hr⟩ := x_bind hr
      refine x_runi (wr := []) (wf := [(a_this, .inr (6, [.ref a_letters, .int x_length, .int x_start, .int x_end, .int x_clauses, .ref a_facts, .ref a_room])), (a_letters, .inl (c 0, 200, .inl x_letters))]) (x_goV (As := [.int x_end]) (rest := []) ⟨hx, hb, hml, hown, hts⟩ (mX6_isDigit l D c a_this a_letters a_facts a_room H.size x_start x_end x_clauses x_length x_letters x_end n _ hc2) (cwV 1 hts gX6_step_X6_isDigit rfl rfl rfl (by decide +kernel) ⟨Nat.le_of_ble_eq_true rfl, Nat.le_of_ble_eq_true rfl⟩) xB_t hP hD hK [0, 1] rfl (by decide) (fun _ _ _ => trivial) 0 6 rfl rfl rfl rfl hl.1 rfl (Nat.le_of_ble_eq_true rfl) dX6_step_127) hP hD hS hA [0, 1] [] [0, 1] rfl rfl rfl ⟨by decide, by decide, by decide⟩ (fun H locs hP hD hS => ?_)
      refine lv_if_eq (tgt := 167) hx hb dX6_step_130 (by decide) (fun c_3 => ?_) (fun c_3 => ?_)
      · have hr := x_ift hr c_3
        exact kX6_step_167 E0 a_this a_letters a_facts a_room x_clauses x_length x_letters n rm_start rm_end x_start x_end hr H locs ls hP hD hS (lv_sub hl [] rfl)
      · have hr := x_iff hr c_3
        refine lv_aload_n hx hb dX6_step_133 rfl (lv_at hl 0 rfl) ?_
        refine lv_dup hx hb dX6_step_134 rfl ?_
        refine va_get (D := D) (ci := 6) (v := .int x_end) (C := RX6) (T := TX6) (N := 7) hx hb hts inX6_step_X6 hown hK hP 0 rfl rfl 3 (by decide) (hts _ lkX6_step_f40) (fun _ h9 => h9) rfl dX6_step_135 ?_
        refine lv_iconst (v := 1) hx hb dX6_step_138 (by decide) ?_
        refine lv_iadd hx hb dX6_step_139 ?_
        refine va_put (D := D) (ci := 6) (v := .int (x_end + 1)) (ty := .int) (C := RX6) (T := TX6) (N := 7) hx hb hts inX6_step_X6 tyX6 tyX6_ok nmX6 hown hK hP hD hS 0 rfl rfl 3 (by decide) (hts _ lkX6_step_f40) (fun _ h9 => h9) rfl (by decide +kernel) rfl rfl (Nat.le_of_ble_eq_true rfl) dX6_step_140 (fun H locs hP hD hS => ?_)
        have hP : va_P D vwCl [(a_this, .inr (6, [.ref a_letters, .int x_length, .int x_start, .int (x_end + 1), .int x_clauses, .ref a_facts, .ref a_room])), (a_letters, .inl (c 0, 200, .inl x_letters))] H := hP
        have hD : va_D A [(a_this, .inr (6, [.ref a_letters, .int x_length, .int x_start, .int (x_end + 1), .int x_clauses, .ref a_facts, .ref a_room])), (a_letters, .inl (c 0, 200, .inl x_letters))] := hD
        refine lv_goto (tgt := 111) hx hb dX6_step_143 (by decide) ?_
        exact h_111 x_start (x_end + 1) hr H locs ls hP hD hS (lv_sub hl [0] rfl)
set_option maxHeartbeats 4000000 in
set_option maxRecDepth 100000 in
theorem kX6_step_46 {p : Program} {l : Launch} {e : Env} {s : State} {m : MethodId} {args : Array Value} {below : List Frame} {meth : Method} {cd : Code} {D : va_G} {c : Nat → ClassId} {A : Nat → Prop} (E0 : xE p s m args meth cd D (xT c) A RX6 cX6_step 1 none wsX6_step) (a_this : Nat) (a_letters : Nat) (a_facts : Nat) (a_room : Nat) (x_clauses : Int32) (x_length : Int32) (x_letters : Nat → Int32) (n : Nat) (rm_start : Int32) (rm_end : Int32) (x_start : Int32) (x_end : Int32) (hr : fX6_step_46 n x_length x_letters x_start x_end = some (rm_start, rm_end)) : GX6_step p l e s m args below meth cd D c A a_this a_letters a_facts a_room x_clauses x_length x_letters rm_start rm_end 46 [] [(0, .ref a_this)] x_start x_end := by
  have E1 := E0
  obtain ⟨hx, hb, hml, hret, hown, hts, hlocks, hA, hK⟩ := E1
  intro H locs ls hP hD hS hl
  unfold fX6_step_46 at hr
  refine lv_aload_n hx hb dX6_step_46 rfl (lv_at hl 0 rfl) ?_
  refine lv_aload_n hx hb dX6_step_47 rfl (lv_at hl 0 rfl) ?_
  refine va_get (D := D) (ci := 6) (v := .int x_start) (C := RX6) (T := TX6) (N := 7) hx hb hts inX6_step_X6 hown hK hP 0 rfl rfl 2 (by decide) (hts _ lkX6_step_f50) (fun _ h9 => h9) rfl dX6_step_48 ?_
  refine va_put (D := D) (ci := 6) (v := .int x_start) (ty := .int) (C := RX6) (T := TX6) (N := 7) hx hb hts inX6_step_X6 tyX6 tyX6_ok nmX6 hown hK hP hD hS 0 rfl rfl 3 (by decide) (hts _ lkX6_step_f40) (fun _ h9 => h9) rfl (by decide +kernel) rfl rfl (Nat.le_of_ble_eq_true rfl) dX6_step_51 (fun H locs hP hD hS => ?_)
  have hP : va_P D vwCl [(a_this, .inr (6, [.ref a_letters, .int x_length, .int x_start, .int x_start, .int x_clauses, .ref a_facts, .ref a_room])), (a_letters, .inl (c 0, 200, .inl x_letters))] H := hP
  have hD : va_D A [(a_this, .inr (6, [.ref a_letters, .int x_length, .int x_start, .int x_start, .int x_clauses, .ref a_facts, .ref a_room])), (a_letters, .inl (c 0, 200, .inl x_letters))] := hD
  refine lv_aload_n hx hb dX6_step_54 rfl (lv_at hl 0 rfl) ?_
  refine lv_aload_n hx hb dX6_step_55 rfl (lv_at hl 0 rfl) ?_
  refine va_get (D := D) (ci := 6) (v := .int x_start) (C := RX6) (T := TX6) (N := 7) hx hb hts inX6_step_X6 hown hK hP 0 rfl rfl 2 (by decide) (hts _ lkX6_step_f50) (fun _ h9 => h9) rfl dX6_step_56 ?_
  obtain ⟨q1_0, hc1, hr⟩ := x_bind hr
  refine x_runi (wr := []) (wf := [(a_this, .inr (6, [.ref a_letters, .int x_length, .int x_start, .int x_start, .int x_clauses, .ref a_facts, .ref a_room])), (a_letters, .inl (c 0, 200, .inl x_letters))]) (x_goV (As := [.int x_start]) (rest := []) ⟨hx, hb, hml, hown, hts⟩ (mX6_isSmall l D c a_this a_letters a_facts a_room H.size x_start x_start x_clauses x_length x_letters x_start n _ hc1) (cwV 1 hts gX6_step_X6_isSmall rfl rfl rfl (by decide +kernel) ⟨Nat.le_of_ble_eq_true rfl, Nat.le_of_ble_eq_true rfl⟩) xB_t hP hD hK [0, 1] rfl (by decide) (fun _ _ _ => trivial) 0 6 rfl rfl rfl rfl hl.1 rfl (Nat.le_of_ble_eq_true rfl) dX6_step_59) hP hD hS hA [0, 1] [] [0, 1] rfl rfl rfl ⟨by decide, by decide, by decide⟩ (fun H locs hP hD hS => ?_)
  refine lv_if_eq (tgt := 100) hx hb dX6_step_62 (by decide) (fun c_2 => ?_) (fun c_2 => ?_)
  · have hr := x_ift hr c_2
    refine lv_aload_n hx hb dX6_step_100 rfl (lv_at hl 0 rfl) ?_
    refine lv_aload_n hx hb dX6_step_101 rfl (lv_at hl 0 rfl) ?_
    refine va_get (D := D) (ci := 6) (v := .int x_start) (C := RX6) (T := TX6) (N := 7) hx hb hts inX6_step_X6 hown hK hP 0 rfl rfl 2 (by decide) (hts _ lkX6_step_f50) (fun _ h9 => h9) rfl dX6_step_102 ?_
    obtain ⟨q3_0, hc3, hr⟩ := x_bind hr
    refine x_runi (wr := []) (wf := [(a_this, .inr (6, [.ref a_letters, .int x_length, .int x_start, .int x_start, .int x_clauses, .ref a_facts, .ref a_room])), (a_letters, .inl (c 0, 200, .inl x_letters))]) (x_goV (As := [.int x_start]) (rest := []) ⟨hx, hb, hml, hown, hts⟩ (mX6_isDigit l D c a_this a_letters a_facts a_room H.size x_start x_start x_clauses x_length x_letters x_start n _ hc3) (cwV 1 hts gX6_step_X6_isDigit rfl rfl rfl (by decide +kernel) ⟨Nat.le_of_ble_eq_true rfl, Nat.le_of_ble_eq_true rfl⟩) xB_t hP hD hK [0, 1] rfl (by decide) (fun _ _ _ => trivial) 0 6 rfl rfl rfl rfl hl.1 rfl (Nat.le_of_ble_eq_true rfl) dX6_step_105) hP hD hS hA [0, 1] [] [0, 1] rfl rfl rfl ⟨by decide, by decide, by decide⟩ (fun H locs hP hD hS => ?_)
    refine lv_if_eq (tgt := 146) hx hb dX6_step_108 (by decide) (fun c_4 => ?_) (fun c_4 => ?_)
    · have hr := x_ift hr c_4
      refine lv_aload_n hx hb dX6_step_146 rfl (lv_at hl 0 rfl) ?_
      refine va_get (D := D) (ci := 6) (v := .int x_start) (C := RX6) (T := TX6) (N := 7) hx hb hts inX6_step_X6 hown hK hP 0 rfl rfl 2 (by decide) (hts _ lkX6_step_f50) (fun _ h9 => h9) rfl dX6_step_147 ?_
      refine lv_aload_n hx hb dX6_step_150 rfl (lv_at hl 0 rfl) ?_
      refine va_get (D := D) (ci := 6) (v := .int x_length) (C := RX6) (T := TX6) (N := 7) hx hb hts inX6_step_X6 hown hK hP 0 rfl rfl 1 (by decide) (hts _ lkX6_step_f53) (fun _ h9 => h9) rfl dX6_step_151 ?_
      refine lv_icmp_ge (tgt := 167) hx hb dX6_step_154 (by decide) (fun c_5 => ?_) (fun c_5 => ?_)
      · have hr := x_ift hr c_5
        exact kX6_step_167 E0 a_this a_letters a_facts a_room x_clauses x_length x_letters n rm_start rm_end x_start x_start hr H locs ls hP hD hS (lv_sub hl [] rfl)
      · have hr := x_iff hr c_5
        refine lv_aload_n hx hb dX6_step_157 rfl (lv_at hl 0 rfl) ?_
        refine lv_dup hx hb dX6_step_158 rfl ?_
        refine va_get (D := D) (ci := 6) (v := .int x_start) (C := RX6) (T := TX6) (N := 7) hx hb hts inX6_step_X6 hown hK hP 0 rfl rfl 3 (by decide) (hts _ lkX6_step_f40) (fun _ h9 => h9) rfl dX6_step_159 ?_
        refine lv_iconst (v := 1) hx hb dX6_step_162 (by decide) ?_
        refine lv_iadd hx hb dX6_step_163 ?_
        refine va_put (D := D) (ci := 6) (v := .int (x_start + 1)) (ty := .int) (C := RX6) (T := TX6) (N := 7) hx hb hts inX6_step_X6 tyX6 tyX6_ok nmX6 hown hK hP hD hS 0 rfl rfl 3 (by decide) (hts _ lkX6_step_f40) (fun _ h9 => h9) rfl (by decide +kernel) rfl rfl (Nat.le_of_ble_eq_true rfl) dX6_step_164 (fun H locs hP hD hS => ?_)
        have hP : va_P D vwCl [(a_this, .inr (6, [.ref a_letters, .int x_length, .int x_start, .int (x_start + 1), .int x_clauses, .ref a_facts, .ref a_room])), (a_letters, .inl (c 0, 200, .inl x_letters))] H := hP
        have hD : va_D A [(a_this, .inr (6, [.ref a_letters, .int x_length, .int x_start, .int (x_start + 1), .int x_clauses, .ref a_facts, .ref a_room])), (a_letters, .inl (c 0, 200, .inl x_letters))] := hD
        exact kX6_step_167 E0 a_this a_letters a_facts a_room x_clauses x_length x_letters n rm_start rm_end x_start (x_start + 1) hr H locs ls hP hD hS (lv_sub hl [] rfl)
    · have hr := x_iff hr c_4
      exact kX6_step_111 E0 a_this a_letters a_facts a_room x_clauses x_length x_letters n rm_start rm_end n x_start x_start hr H locs ls hP hD hS (lv_sub hl [0] rfl)
  · have hr := x_iff hr c_2
    exact kX6_step_65 E0 a_this a_letters a_facts a_room x_clauses x_length x_letters n rm_start rm_end n x_start x_start hr H locs ls hP hD hS (lv_sub hl [0] rfl)
set_option maxHeartbeats 4000000 in
set_option maxRecDepth 100000 in
theorem kX6_step_8 {p : Program} {l : Launch} {e : Env} {s : State} {m : MethodId} {args : Array Value} {below : List Frame} {meth : Method} {cd : Code} {D : va_G} {c : Nat → ClassId} {A : Nat → Prop} (E0 : xE p s m args meth cd D (xT c) A RX6 cX6_step 1 none wsX6_step) (a_this : Nat) (a_letters : Nat) (a_facts : Nat) (a_room : Nat) (x_clauses : Int32) (x_length : Int32) (x_letters : Nat → Int32) (n : Nat) (rm_start : Int32) (rm_end : Int32) : ∀ (k : Nat) (x_start : Int32) (x_end : Int32), fX6_step_8 n x_length x_letters k x_start x_end = some (rm_start, rm_end) → GX6_step p l e s m args below meth cd D c A a_this a_letters a_facts a_room x_clauses x_length x_letters rm_start rm_end 8 [] [(0, .ref a_this)] x_start x_end := by
  have E1 := E0
  obtain ⟨hx, hb, hml, hret, hown, hts, hlocks, hA, hK⟩ := E1
  intro k
  induction k with
  | zero => intro x_start x_end hr; cases hr
  | succ k h_8 =>
    intro x_start x_end hr H locs ls hP hD hS hl
    unfold fX6_step_8 at hr
    refine lv_aload_n hx hb dX6_step_8 rfl (lv_at hl 0 rfl) ?_
    refine va_get (D := D) (ci := 6) (v := .int x_start) (C := RX6) (T := TX6) (N := 7) hx hb hts inX6_step_X6 hown hK hP 0 rfl rfl 2 (by decide) (hts _ lkX6_step_f50) (fun _ h9 => h9) rfl dX6_step_9 ?_
    refine lv_aload_n hx hb dX6_step_12 rfl (lv_at hl 0 rfl) ?_
    refine va_get (D := D) (ci := 6) (v := .int x_length) (C := RX6) (T := TX6) (N := 7) hx hb hts inX6_step_X6 hown hK hP 0 rfl rfl 1 (by decide) (hts _ lkX6_step_f53) (fun _ h9 => h9) rfl dX6_step_13 ?_
    refine lv_icmp_ge (tgt := 46) hx hb dX6_step_16 (by decide) (fun c_1 => ?_) (fun c_1 => ?_)
    · have hr := x_ift hr c_1
      exact kX6_step_46 E0 a_this a_letters a_facts a_room x_clauses x_length x_letters n rm_start rm_end x_start x_end hr H locs ls hP hD hS (lv_sub hl [0] rfl)
    · have hr := x_iff hr c_1
      refine lv_aload_n hx hb dX6_step_19 rfl (lv_at hl 0 rfl) ?_
      refine va_get (D := D) (ci := 6) (v := .ref a_letters) (C := RX6) (T := TX6) (N := 7) hx hb hts inX6_step_X6 hown hK hP 0 rfl rfl 0 (by decide) (hts _ lkX6_step_f9) (fun _ h9 => h9) rfl dX6_step_20 ?_
      refine lv_aload_n hx hb dX6_step_23 rfl (lv_at hl 0 rfl) ?_
      refine va_get (D := D) (ci := 6) (v := .int x_start) (C := RX6) (T := TX6) (N := 7) hx hb hts inX6_step_X6 hown hK hP 0 rfl rfl 2 (by decide) (hts _ lkX6_step_f50) (fun _ h9 => h9) rfl dX6_step_24 ?_
      obtain ⟨b_2, hr⟩ := x_chk hr
      refine va_iald hx hb hK hP 1 0 rfl rfl b_2 dX6_step_27 ?_
      refine lv_bipush (v := 32) hx hb dX6_step_28 (by decide) ?_
      refine lv_icmp_ne (tgt := 46) hx hb dX6_step_30 (by decide) (fun c_3 => ?_) (fun c_3 => ?_)
      · have hr := x_iff hr c_3
        exact kX6_step_46 E0 a_this a_letters a_facts a_room x_clauses x_length x_letters n rm_start rm_end x_start x_end hr H locs ls hP hD hS (lv_sub hl [0] rfl)
      · have hr := x_ift hr c_3
        refine lv_aload_n hx hb dX6_step_33 rfl (lv_at hl 0 rfl) ?_
        refine lv_dup hx hb dX6_step_34 rfl ?_
        refine va_get (D := D) (ci := 6) (v := .int x_start) (C := RX6) (T := TX6) (N := 7) hx hb hts inX6_step_X6 hown hK hP 0 rfl rfl 2 (by decide) (hts _ lkX6_step_f50) (fun _ h9 => h9) rfl dX6_step_35 ?_
        refine lv_iconst (v := 1) hx hb dX6_step_38 (by decide) ?_
        refine lv_iadd hx hb dX6_step_39 ?_
        refine va_put (D := D) (ci := 6) (v := .int (x_start + 1)) (ty := .int) (C := RX6) (T := TX6) (N := 7) hx hb hts inX6_step_X6 tyX6 tyX6_ok nmX6 hown hK hP hD hS 0 rfl rfl 2 (by decide) (hts _ lkX6_step_f50) (fun _ h9 => h9) rfl (by decide +kernel) rfl rfl (Nat.le_of_ble_eq_true rfl) dX6_step_40 (fun H locs hP hD hS => ?_)
        have hP : va_P D vwCl [(a_this, .inr (6, [.ref a_letters, .int x_length, .int (x_start + 1), .int x_end, .int x_clauses, .ref a_facts, .ref a_room])), (a_letters, .inl (c 0, 200, .inl x_letters))] H := hP
        have hD : va_D A [(a_this, .inr (6, [.ref a_letters, .int x_length, .int (x_start + 1), .int x_end, .int x_clauses, .ref a_facts, .ref a_room])), (a_letters, .inl (c 0, 200, .inl x_letters))] := hD
        refine lv_goto (tgt := 8) hx hb dX6_step_43 (by decide) ?_
        exact h_8 (x_start + 1) x_end hr H locs ls hP hD hS (lv_sub hl [0] rfl)
set_option maxHeartbeats 4000000 in
set_option maxRecDepth 100000 in
theorem kX6_step_0 {p : Program} {l : Launch} {e : Env} {s : State} {m : MethodId} {args : Array Value} {below : List Frame} {meth : Method} {cd : Code} {D : va_G} {c : Nat → ClassId} {A : Nat → Prop} (E0 : xE p s m args meth cd D (xT c) A RX6 cX6_step 1 none wsX6_step) (a_this : Nat) (a_letters : Nat) (a_facts : Nat) (a_room : Nat) (x_clauses : Int32) (x_length : Int32) (x_letters : Nat → Int32) (n : Nat) (rm_start : Int32) (rm_end : Int32) (x_start : Int32) (x_end : Int32) (hr : fX6_step n x_length x_letters x_start x_end = some (rm_start, rm_end)) : GX6_step p l e s m args below meth cd D c A a_this a_letters a_facts a_room x_clauses x_length x_letters rm_start rm_end 0 [] [(0, .ref a_this)] x_start x_end := by
  have E1 := E0
  obtain ⟨hx, hb, hml, hret, hown, hts, hlocks, hA, hK⟩ := E1
  intro H locs ls hP hD hS hl
  unfold fX6_step at hr
  refine lv_aload_n hx hb dX6_step_0 rfl (lv_at hl 0 rfl) ?_
  refine lv_aload_n hx hb dX6_step_1 rfl (lv_at hl 0 rfl) ?_
  refine va_get (D := D) (ci := 6) (v := .int x_end) (C := RX6) (T := TX6) (N := 7) hx hb hts inX6_step_X6 hown hK hP 0 rfl rfl 3 (by decide) (hts _ lkX6_step_f40) (fun _ h9 => h9) rfl dX6_step_2 ?_
  refine va_put (D := D) (ci := 6) (v := .int x_end) (ty := .int) (C := RX6) (T := TX6) (N := 7) hx hb hts inX6_step_X6 tyX6 tyX6_ok nmX6 hown hK hP hD hS 0 rfl rfl 2 (by decide) (hts _ lkX6_step_f50) (fun _ h9 => h9) rfl (by decide +kernel) rfl rfl (Nat.le_of_ble_eq_true rfl) dX6_step_5 (fun H locs hP hD hS => ?_)
  have hP : va_P D vwCl [(a_this, .inr (6, [.ref a_letters, .int x_length, .int x_end, .int x_end, .int x_clauses, .ref a_facts, .ref a_room])), (a_letters, .inl (c 0, 200, .inl x_letters))] H := hP
  have hD : va_D A [(a_this, .inr (6, [.ref a_letters, .int x_length, .int x_end, .int x_end, .int x_clauses, .ref a_facts, .ref a_room])), (a_letters, .inl (c 0, 200, .inl x_letters))] := hD
  exact kX6_step_8 E0 a_this a_letters a_facts a_room x_clauses x_length x_letters n rm_start rm_end n x_end x_end hr H locs ls hP hD hS (lv_sub hl [0] rfl)
set_option maxHeartbeats 4000000 in
set_option maxRecDepth 100000 in
theorem mX6_step (l : Launch) (D : va_G) (c : Nat → ClassId) (a_this : Nat) (a_letters : Nat) (a_facts : Nat) (a_room : Nat) (sz : Nat) (x_clauses : Int32) (x_length : Int32) (x_letters : Nat → Int32) (x_start : Int32) (x_end : Int32) (n : Nat) (rm_start : Int32) (rm_end : Int32) (h : fX6_step n x_length x_letters x_start x_end = some (rm_start, rm_end)) : Met l yX6_step wsX6_step ({ frames := 1, cells := 0, slots := 0, locals := 21 } : Room) (xPc D (xT c) sz [.ref a_this] (wX6_step c a_this a_letters a_facts a_room x_clauses x_length x_letters x_start x_end) (fun _ => True)) (xQv D (xT c) (va_A (wX6_step c a_this a_letters a_facts a_room x_clauses x_length x_letters x_start x_end) sz) (wX6_step c a_this a_letters a_facts a_room x_clauses x_length x_letters rm_start rm_end)) 0 0 (va_A (wX6_step c a_this a_letters a_facts a_room x_clauses x_length x_letters x_start x_end) sz) := by
  refine Met.ofW (cc := cX6_step) (maxL := 1) (ret := none) (by decide) rfl ?_
  intro p e s m args below meth cd s₁ B hml hv
  obtain ⟨rfl, hsz, hP, hK, hD0, hV⟩ := hv
  subst hsz
  have hl := lv_entry [.ref a_this] (n := 1) (Nat.le_of_ble_eq_true rfl)
  rw [lg_entry_eq]
  exact kX6_step_0 (A := va_A (wX6_step c a_this a_letters a_facts a_room x_clauses x_length x_letters x_start x_end) s.heap.size) ⟨B.exec, B.bytes, hml, B.returns, findClass_of_methodNamed B.named, atoms_spec (ws := wsX6_step) B.pre, B.notSynchronized, fun q h => Or.inr h, hK⟩ a_this a_letters a_facts a_room x_clauses x_length x_letters n rm_start rm_end x_start x_end h s.heap [] _ hP hD0.self va_S.rf hl

