abbrev wX5_copyTo_ap0this (c : Nat → ClassId) (a_this : Nat) (a_value : Nat) (a_below : Nat) (x_sort : Int32) (x_size : Int32) (x_value : Nat → Int64) (x_below : Nat → Int64) : va_W := [(a_this, .inr (5, [.int x_sort, .int x_size, .ref a_value, .ref a_below])), (a_value, .inl (c 1, 10, .inr (.inl x_value))), (a_below, .inl (c 1, 10, .inr (.inl x_below)))]
def GX5_copyTo_ap0this (p : Program) (l : Launch) (e : Env) (s : State) (m : MethodId) (args : Array Value) (below : List Frame) (meth : Method) (cd : Code) (D : va_G) (c : Nat → ClassId) (A : Nat → Prop) (a_this : Nat) (a_value : Nat) (a_below : Nat) (x_sort : Int32) (x_size : Int32) (rm_value : Nat → Int64) (rm_below : Nat → Int64) (pc : Nat) (st : List Value) (loc : List (Nat × Value)) (x_value : Nat → Int64) (x_below : Nat → Int64) : Prop :=
  ∀ (H : Heap) (locs : List Loc) (ls : Array Slot), va_P D vwCl (wX5_copyTo_ap0this c a_this a_value a_below x_sort x_size x_value x_below) H → va_D A (wX5_copyTo_ap0this c a_this a_value a_below x_sort x_size x_value x_below) → va_S A s.heap H locs → lv_has ls 5 loc → W p l e ({ frames := 1, cells := 0, slots := 0, locals := 100 } : Room) s m args below meth cd H locs 0 0 (MQ below (xQv D (xT c) A (wX5_copyTo_ap0this c a_this a_value a_below x_sort x_size rm_value rm_below)) args s 0 0 A) (F0 m pc ls st)
set_option maxHeartbeats 4000000 in
set_option maxRecDepth 100000 in
theorem kX5_copyTo_ap0this_0 {p : Program} {l : Launch} {e : Env} {s : State} {m : MethodId} {args : Array Value} {below : List Frame} {meth : Method} {cd : Code} {D : va_G} {c : Nat → ClassId} {A : Nat → Prop} (E0 : xE p s m args meth cd D (xT c) A RX5 cX5_copyTo 5 none wsX5_copyTo) (a_this : Nat) (a_value : Nat) (a_below : Nat) (x_sort : Int32) (x_size : Int32) (n : Nat) (rm_value : Nat → Int64) (rm_below : Nat → Int64) (x_value : Nat → Int64) (x_below : Nat → Int64) (v2 : Int32) (v3 : Int32) (v4 : Int32) (hr : fX5_copyTo_ap0this n x_value x_below v2 v3 v4 = some (rm_value, rm_below)) : GX5_copyTo_ap0this p l e s m args below meth cd D c A a_this a_value a_below x_sort x_size rm_value rm_below 0 [] [(0, .ref a_this), (1, .ref a_this), (2, .int v2), (3, .int v3), (4, .int v4)] x_value x_below := by
  have E1 := E0
  obtain ⟨hx, hb, hml, hret, hown, hts, hlocks, hA, hK⟩ := E1
  intro H locs ls hP hD hS hl
  unfold fX5_copyTo_ap0this at hr
  refine lv_aload_n hx hb dX5_copyTo_0 rfl (lv_at hl 0 rfl) ?_
  refine va_get (D := D) (ci := 5) (v := .ref a_value) (C := RX5) (T := TX5) (N := 4) hx hb hts inX5_copyTo_X5 hown hK hP 0 rfl rfl 2 (by decide) (hts _ lkX5_copyTo_f15) (fun _ h9 => h9) rfl dX5_copyTo_1 ?_
  refine lv_iload_n hx hb dX5_copyTo_4 rfl (lv_at hl 2 rfl) ?_
  refine lv_aload_n hx hb dX5_copyTo_5 rfl (lv_at hl 1 rfl) ?_
  refine va_get (D := D) (ci := 5) (v := .ref a_value) (C := RX5) (T := TX5) (N := 4) hx hb hts inX5_copyTo_X5 hown hK hP 0 rfl rfl 2 (by decide) (hts _ lkX5_copyTo_f15) (fun _ h9 => h9) rfl dX5_copyTo_6 ?_
  refine lv_iload_n hx hb dX5_copyTo_9 rfl (lv_at hl 3 rfl) ?_
  refine lv_iload hx hb dX5_copyTo_10 (lv_at hl 4 rfl) ?_
  obtain ⟨b_1, hr⟩ := x_chk hr
  refine va_copyl hx hb (hml.trans hl.1.symm) hown (hts _ lkX5_copyTo_a69) (hts _ lkX5_copyTo_an69) (hts _ lkX5_copyTo_as69) (hts _ lkX5_copyTo_ai69) hK hP hD hS 1 1 1 1 rfl rfl rfl rfl rfl (x_cp1 b_1) (x_cp2 b_1) (x_cp3 b_1) (x_cp4 b_1) (x_cp5 b_1) (fun _ _ => rfl) (Nat.le_of_ble_eq_true rfl) (Nat.le_of_ble_eq_true rfl) dX5_copyTo_12 (fun H locs hP hD hS => ?_)
  have hP : va_P D vwCl [(a_this, .inr (5, [.int x_sort, .int x_size, .ref a_value, .ref a_below])), (a_value, .inl (c 1, 10, .inr (.inl (va_cpy x_value x_value v2.toNatClampNeg v3.toNatClampNeg v4.toNatClampNeg)))), (a_below, .inl (c 1, 10, .inr (.inl x_below)))] H := hP
  have hD : va_D A [(a_this, .inr (5, [.int x_sort, .int x_size, .ref a_value, .ref a_below])), (a_value, .inl (c 1, 10, .inr (.inl (va_cpy x_value x_value v2.toNatClampNeg v3.toNatClampNeg v4.toNatClampNeg)))), (a_below, .inl (c 1, 10, .inr (.inl x_below)))] := hD
  refine lv_aload_n hx hb dX5_copyTo_15 rfl (lv_at hl 0 rfl) ?_
  refine va_get (D := D) (ci := 5) (v := .ref a_below) (C := RX5) (T := TX5) (N := 4) hx hb hts inX5_copyTo_X5 hown hK hP 0 rfl rfl 3 (by decide) (hts _ lkX5_copyTo_f19) (fun _ h9 => h9) rfl dX5_copyTo_16 ?_
  refine lv_iload_n hx hb dX5_copyTo_19 rfl (lv_at hl 2 rfl) ?_
  refine lv_aload_n hx hb dX5_copyTo_20 rfl (lv_at hl 1 rfl) ?_
  refine va_get (D := D) (ci := 5) (v := .ref a_below) (C := RX5) (T := TX5) (N := 4) hx hb hts inX5_copyTo_X5 hown hK hP 0 rfl rfl 3 (by decide) (hts _ lkX5_copyTo_f19) (fun _ h9 => h9) rfl dX5_copyTo_21 ?_
  refine lv_iload_n hx hb dX5_copyTo_24 rfl (lv_at hl 3 rfl) ?_
  refine lv_iload hx hb dX5_copyTo_25 (lv_at hl 4 rfl) ?_
  obtain ⟨b_2, hr⟩ := x_chk hr
  refine va_copyl hx hb (hml.trans hl.1.symm) hown (hts _ lkX5_copyTo_a69) (hts _ lkX5_copyTo_an69) (hts _ lkX5_copyTo_as69) (hts _ lkX5_copyTo_ai69) hK hP hD hS 2 2 1 1 rfl rfl rfl rfl rfl (x_cp1 b_2) (x_cp2 b_2) (x_cp3 b_2) (x_cp4 b_2) (x_cp5 b_2) (fun _ _ => rfl) (Nat.le_of_ble_eq_true rfl) (Nat.le_of_ble_eq_true rfl) dX5_copyTo_27 (fun H locs hP hD hS => ?_)
  have hP : va_P D vwCl [(a_this, .inr (5, [.int x_sort, .int x_size, .ref a_value, .ref a_below])), (a_value, .inl (c 1, 10, .inr (.inl (va_cpy x_value x_value v2.toNatClampNeg v3.toNatClampNeg v4.toNatClampNeg)))), (a_below, .inl (c 1, 10, .inr (.inl (va_cpy x_below x_below v2.toNatClampNeg v3.toNatClampNeg v4.toNatClampNeg))))] H := hP
  have hD : va_D A [(a_this, .inr (5, [.int x_sort, .int x_size, .ref a_value, .ref a_below])), (a_value, .inl (c 1, 10, .inr (.inl (va_cpy x_value x_value v2.toNatClampNeg v3.toNatClampNeg v4.toNatClampNeg)))), (a_below, .inl (c 1, 10, .inr (.inl (va_cpy x_below x_below v2.toNatClampNeg v3.toNatClampNeg v4.toNatClampNeg))))] := hD
  have g0 := x_some hr
  have e0 := x_p1 g0
  have e1 := x_p2 g0
  subst e0
  subst e1
  exact x_retv hx hb hret hlocks hP hD hK hS dX5_copyTo_30
set_option maxHeartbeats 4000000 in
set_option maxRecDepth 100000 in
theorem mX5_copyTo_ap0this (l : Launch) (D : va_G) (c : Nat → ClassId) (a_this : Nat) (a_value : Nat) (a_below : Nat) (sz : Nat) (x_sort : Int32) (x_size : Int32) (x_value : Nat → Int64) (x_below : Nat → Int64) (v2 : Int32) (v3 : Int32) (v4 : Int32) (n : Nat) (rm_value : Nat → Int64) (rm_below : Nat → Int64) (h : fX5_copyTo_ap0this n x_value x_below v2 v3 v4 = some (rm_value, rm_below)) : Met l yX5_copyTo wsX5_copyTo ({ frames := 1, cells := 0, slots := 0, locals := 100 } : Room) (xPc D (xT c) sz [.ref a_this, .ref a_this, .int v2, .int v3, .int v4] (wX5_copyTo_ap0this c a_this a_value a_below x_sort x_size x_value x_below) (fun _ => True)) (xQv D (xT c) (va_A (wX5_copyTo_ap0this c a_this a_value a_below x_sort x_size x_value x_below) sz) (wX5_copyTo_ap0this c a_this a_value a_below x_sort x_size rm_value rm_below)) 0 0 (va_A (wX5_copyTo_ap0this c a_this a_value a_below x_sort x_size x_value x_below) sz) := by
  refine Met.ofW (cc := cX5_copyTo) (maxL := 5) (ret := none) (by decide) rfl ?_
  intro p e s m args below meth cd s₁ B hml hv
  obtain ⟨rfl, hsz, hP, hK, hD0, hV⟩ := hv
  subst hsz
  have hl := lv_entry [.ref a_this, .ref a_this, .int v2, .int v3, .int v4] (n := 5) (Nat.le_of_ble_eq_true rfl)
  rw [lg_entry_eq]
  exact kX5_copyTo_ap0this_0 (A := va_A (wX5_copyTo_ap0this c a_this a_value a_below x_sort x_size x_value x_below) s.heap.size) ⟨B.exec, B.bytes, hml, B.returns, findClass_of_methodNamed B.named, atoms_spec (ws := wsX5_copyTo) B.pre, B.notSynchronized, fun q h => Or.inr h, hK⟩ a_this a_value a_below x_sort x_size n rm_value rm_below x_value x_below v2 v3 v4 h s.heap [] _ hP hD0.self va_S.rf hl

