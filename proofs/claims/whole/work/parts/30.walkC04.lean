abbrev wX3_setAs (c : Nat → ClassId) (a_this : Nat) (a_p0 : Nat) (a_p0_knows : Nat) (a_p0_kind : Nat) (a_p0_on : Nat) (a_p0_has : Nat) (a_knows : Nat) (a_kind : Nat) (a_on : Nat) (a_has : Nat) (x_p0_members : Int32) (x_p0_leeches : Int32) (x_p0_basin : Int32) (x_p0_minute : Int32) (x_p0_knows : Nat → Int32) (x_p0_kind : Nat → Int32) (x_p0_on : Nat → Int32) (x_p0_has : Nat → Int32) (x_members : Int32) (x_leeches : Int32) (x_basin : Int32) (x_minute : Int32) (x_knows : Nat → Int32) (x_kind : Nat → Int32) (x_on : Nat → Int32) (x_has : Nat → Int32) : va_W := [(a_p0, .inr (3, [.int x_p0_members, .int x_p0_leeches, .int x_p0_basin, .int x_p0_minute, .ref a_p0_knows, .ref a_p0_kind, .ref a_p0_on, .ref a_p0_has])), (a_this, .inr (3, [.int x_members, .int x_leeches, .int x_basin, .int x_minute, .ref a_knows, .ref a_kind, .ref a_on, .ref a_has])), (a_p0_knows, .inl (c 0, 4, .inl x_p0_knows)), (a_knows, .inl (c 0, 4, .inl x_knows)), (a_p0_kind, .inl (c 0, 5, .inl x_p0_kind)), (a_kind, .inl (c 0, 5, .inl x_kind)), (a_p0_on, .inl (c 0, 5, .inl x_p0_on)), (a_on, .inl (c 0, 5, .inl x_on)), (a_p0_has, .inl (c 0, 5, .inl x_p0_has)), (a_has, .inl (c 0, 5, .inl x_has))]
def GX3_setAs (p : Program) (l : Launch) (e : Env) (s : State) (m : MethodId) (args : Array Value) (below : List Frame) (meth : Method) (cd : Code) (D : va_G) (c : Nat → ClassId) (A : Nat → Prop) (a_this : Nat) (a_p0 : Nat) (a_p0_knows : Nat) (a_p0_kind : Nat) (a_p0_on : Nat) (a_p0_has : Nat) (a_knows : Nat) (a_kind : Nat) (a_on : Nat) (a_has : Nat) (x_p0_members : Int32) (x_p0_leeches : Int32) (x_p0_basin : Int32) (x_p0_minute : Int32) (x_p0_knows : Nat → Int32) (x_p0_kind : Nat → Int32) (x_p0_on : Nat → Int32) (x_p0_has : Nat → Int32) (rm_members : Int32) (rm_leeches : Int32) (rm_basin : Int32) (rm_minute : Int32) (rm_knows : Nat → Int32) (rm_kind : Nat → Int32) (rm_on : Nat → Int32) (rm_has : Nat → Int32) (pc : Nat) (st : List Value) (loc : List (Nat × Value)) (x_members : Int32) (x_leeches : Int32) (x_basin : Int32) (x_minute : Int32) (x_knows : Nat → Int32) (x_kind : Nat → Int32) (x_on : Nat → Int32) (x_has : Nat → Int32) : Prop :=
  ∀ (H : Heap) (locs : List Loc) (ls : Array Slot), va_P D vwCl (wX3_setAs c a_this a_p0 a_p0_knows a_p0_kind a_p0_on a_p0_has a_knows a_kind a_on a_has x_p0_members x_p0_leeches x_p0_basin x_p0_minute x_p0_knows x_p0_kind x_p0_on x_p0_has x_members x_leeches x_basin x_minute x_knows x_kind x_on x_has) H → va_D A (wX3_setAs c a_this a_p0 a_p0_knows a_p0_kind a_p0_on a_p0_has a_knows a_kind a_on a_has x_p0_members x_p0_leeches x_p0_basin x_p0_minute x_p0_knows x_p0_kind x_p0_on x_p0_has x_members x_leeches x_basin x_minute x_knows x_kind x_on x_has) → va_S A s.heap H locs → lv_has ls 2 loc → W p l e ({ frames := 1, cells := 0, slots := 0, locals := 100 } : Room) s m args below meth cd H locs 0 0 (MQ below (xQv D (xT c) A (wX3_setAs c a_this a_p0 a_p0_knows a_p0_kind a_p0_on a_p0_has a_knows a_kind a_on a_has x_p0_members x_p0_leeches x_p0_basin x_p0_minute x_p0_knows x_p0_kind x_p0_on x_p0_has rm_members rm_leeches rm_basin rm_minute rm_knows rm_kind rm_on rm_has)) args s 0 0 A) (F0 m pc ls st)
theorem lkX3_setAs_a37 : Cond.methodLink RX3 37 arraycopyName ∈ wsX3_setAs := by decide +kernel
theorem lkX3_setAs_an37 : Cond.native arraycopyName ∈ wsX3_setAs := by decide +kernel
theorem lkX3_setAs_as37 : Cond.static arraycopyName ∈ wsX3_setAs := by decide +kernel
theorem lkX3_setAs_ai37 : Cond.initialized "java/lang/System" ∈ wsX3_setAs := by decide +kernel
theorem lkX3_setAs_f15 : Cond.fieldLink RX3 15 "LeechClub$Room" "kind" "[I" ∈ wsX3_setAs := by decide +kernel
theorem lkX3_setAs_f18 : Cond.fieldLink RX3 18 "LeechClub$Room" "on" "[I" ∈ wsX3_setAs := by decide +kernel
theorem lkX3_setAs_f21 : Cond.fieldLink RX3 21 "LeechClub$Room" "has" "[I" ∈ wsX3_setAs := by decide +kernel
theorem lkX3_setAs_f24 : Cond.fieldLink RX3 24 "LeechClub$Room" "members" "I" ∈ wsX3_setAs := by decide +kernel
theorem lkX3_setAs_f28 : Cond.fieldLink RX3 28 "LeechClub$Room" "leeches" "I" ∈ wsX3_setAs := by decide +kernel
theorem lkX3_setAs_f31 : Cond.fieldLink RX3 31 "LeechClub$Room" "basin" "I" ∈ wsX3_setAs := by decide +kernel
theorem lkX3_setAs_f34 : Cond.fieldLink RX3 34 "LeechClub$Room" "minute" "I" ∈ wsX3_setAs := by decide +kernel
theorem lkX3_setAs_f9 : Cond.fieldLink RX3 9 "LeechClub$Room" "knows" "[I" ∈ wsX3_setAs := by decide +kernel
theorem inX3_setAs_X3 : ∀ w ∈ wsX30, w ∈ wsX3_setAs := by decide +kernel
set_option maxHeartbeats 4000000 in
set_option maxRecDepth 100000 in
theorem kX3_setAs_0 {p : Program} {l : Launch} {e : Env} {s : State} {m : MethodId} {args : Array Value} {below : List Frame} {meth : Method} {cd : Code} {D : va_G} {c : Nat → ClassId} {A : Nat → Prop} (E0 : xE p s m args meth cd D (xT c) A RX3 cX3_setAs 2 none wsX3_setAs) (a_this : Nat) (a_p0 : Nat) (a_p0_knows : Nat) (a_p0_kind : Nat) (a_p0_on : Nat) (a_p0_has : Nat) (a_knows : Nat) (a_kind : Nat) (a_on : Nat) (a_has : Nat) (x_p0_members : Int32) (x_p0_leeches : Int32) (x_p0_basin : Int32) (x_p0_minute : Int32) (x_p0_knows : Nat → Int32) (x_p0_kind : Nat → Int32) (x_p0_on : Nat → Int32) (x_p0_has : Nat → Int32) (n : Nat) (rm_members : Int32) (rm_leeches : Int32) (rm_basin : Int32) (rm_minute : Int32) (rm_knows : Nat → Int32) (rm_kind : Nat → Int32) (rm_on : Nat → Int32) (rm_has : Nat → Int32) (x_members : Int32) (x_leeches : Int32) (x_basin : Int32) (x_minute : Int32) (x_knows : Nat → Int32) (x_kind : Nat → Int32) (x_on : Nat → Int32) (x_has : Nat → Int32) (hr : fX3_setAs n x_p0_members x_p0_leeches x_p0_basin x_p0_minute x_p0_knows x_p0_kind x_p0_on x_p0_has x_members x_leeches x_basin x_minute x_knows x_kind x_on x_has = some (rm_members, rm_leeches, rm_basin, rm_minute, rm_knows, rm_kind, rm_on, rm_has)) : GX3_setAs p l e s m args below meth cd D c A a_this a_p0 a_p0_knows a_p0_kind a_p0_on a_p0_has a_knows a_kind a_on a_has x_p0_members x_p0_leeches x_p0_basin x_p0_minute x_p0_knows x_p0_kind x_p0_on x_p0_has rm_members rm_leeches rm_basin rm_minute rm_knows rm_kind rm_on rm_has 0 [] [(0, .ref a_this), (1, .ref a_p0)] x_members x_leeches x_basin x_minute x_knows x_kind x_on x_has := by
  have E1 := E0
  obtain ⟨hx, hb, hml, hret, hown, hts, hlocks, hA, hK⟩ := E1
  intro H locs ls hP hD hS hl
  unfold fX3_setAs at hr
  refine lv_aload_n hx hb dX3_setAs_0 rfl (lv_at hl 0 rfl) ?_
  refine lv_aload_n hx hb dX3_setAs_1 rfl (lv_at hl 1 rfl) ?_
  refine va_get (D := D) (ci := 3) (v := .int x_p0_members) (C := RX3) (T := TX3) (N := 8) hx hb hts inX3_setAs_X3 hown hK hP 0 rfl rfl 0 (by decide) (hts _ lkX3_setAs_f24) (fun _ h9 => h9) rfl dX3_setAs_2 ?_
  refine va_put (D := D) (ci := 3) (v := .int x_p0_members) (ty := .int) (C := RX3) (T := TX3) (N := 8) hx hb hts inX3_setAs_X3 tyX3 tyX3_ok nmX3 hown hK hP hD hS 1 rfl rfl 0 (by decide) (hts _ lkX3_setAs_f24) (fun _ h9 => h9) rfl (by decide +kernel) rfl rfl (Nat.le_of_ble_eq_true rfl) dX3_setAs_5 (fun H locs hP hD hS => ?_)
  have hP : va_P D vwCl [(a_p0, .inr (3, [.int x_p0_members, .int x_p0_leeches, .int x_p0_basin, .int x_p0_minute, .ref a_p0_knows, .ref a_p0_kind, .ref a_p0_on, .ref a_p0_has])), (a_this, .inr (3, [.int x_p0_members, .int x_leeches, .int x_basin, .int x_minute, .ref a_knows, .ref a_kind, .ref a_on, .ref a_has])), (a_p0_knows, .inl (c 0, 4, .inl x_p0_knows)), (a_knows, .inl (c 0, 4, .inl x_knows)), (a_p0_kind, .inl (c 0, 5, .inl x_p0_kind)), (a_kind, .inl (c 0, 5, .inl x_kind)), (a_p0_on, .inl (c 0, 5, .inl x_p0_on)), (a_on, .inl (c 0, 5, .inl x_on)), (a_p0_has, .inl (c 0, 5, .inl x_p0_has)), (a_has, .inl (c 0, 5, .inl x_has))] H := hP
  have hD : va_D A [(a_p0, .inr (3, [.int x_p0_members, .int x_p0_leeches, .int x_p0_basin, .int x_p0_minute, .ref a_p0_knows, .ref a_p0_kind, .ref a_p0_on, .ref a_p0_has])), (a_this, .inr (3, [.int x_p0_members, .int x_leeches, .int x_basin, .int x_minute, .ref a_knows, .ref a_kind, .ref a_on, .ref a_has])), (a_p0_knows, .inl (c 0, 4, .inl x_p0_knows)), (a_knows, .inl (c 0, 4, .inl x_knows)), (a_p0_kind, .inl (c 0, 5, .inl x_p0_kind)), (a_kind, .inl (c 0, 5, .inl x_kind)), (a_p0_on, .inl (c 0, 5, .inl x_p0_on)), (a_on, .inl (c 0, 5, .inl x_on)), (a_p0_has, .inl (c 0, 5, .inl x_p0_has)), (a_has, .inl (c 0, 5, .inl x_has))] := hD
  refine lv_aload_n hx hb dX3_setAs_8 rfl (lv_at hl 0 rfl) ?_
  refine lv_aload_n hx hb dX3_setAs_9 rfl (lv_at hl 1 rfl) ?_
  refine va_get (D := D) (ci := 3) (v := .int x_p0_leeches) (C := RX3) (T := TX3) (N := 8) hx hb hts inX3_setAs_X3 hown hK hP 0 rfl rfl 1 (by decide) (hts _ lkX3_setAs_f28) (fun _ h9 => h9) rfl dX3_setAs_10 ?_
  refine va_put (D := D) (ci := 3) (v := .int x_p0_leeches) (ty := .int) (C := RX3) (T := TX3) (N := 8) hx hb hts inX3_setAs_X3 tyX3 tyX3_ok nmX3 hown hK hP hD hS 1 rfl rfl 1 (by decide) (hts _ lkX3_setAs_f28) (fun _ h9 => h9) rfl (by decide +kernel) rfl rfl (Nat.le_of_ble_eq_true rfl) dX3_setAs_13 (fun H locs hP hD hS => ?_)
  have hP : va_P D vwCl [(a_p0, .inr (3, [.int x_p0_members, .int x_p0_leeches, .int x_p0_basin, .int x_p0_minute, .ref a_p0_knows, .ref a_p0_kind, .ref a_p0_on, .ref a_p0_has])), (a_this, .inr (3, [.int x_p0_members, .int x_p0_leeches, .int x_basin, .int x_minute, .ref a_knows, .ref a_kind, .ref a_on, .ref a_has])), (a_p0_knows, .inl (c 0, 4, .inl x_p0_knows)), (a_knows, .inl (c 0, 4, .inl x_knows)), (a_p0_kind, .inl (c 0, 5, .inl x_p0_kind)), (a_kind, .inl (c 0, 5, .inl x_kind)), (a_p0_on, .inl (c 0, 5, .inl x_p0_on)), (a_on, .inl (c 0, 5, .inl x_on)), (a_p0_has, .inl (c 0, 5, .inl x_p0_has)), (a_has, .inl (c 0, 5, .inl x_has))] H := hP
  have hD : va_D A [(a_p0, .inr (3, [.int x_p0_members, .int x_p0_leeches, .int x_p0_basin, .int x_p0_minute, .ref a_p0_knows, .ref a_p0_kind, .ref a_p0_on, .ref a_p0_has])), (a_this, .inr (3, [.int x_p0_members, .int x_p0_leeches, .int x_basin, .int x_minute, .ref a_knows, .ref a_kind, .ref a_on, .ref a_has])), (a_p0_knows, .inl (c 0, 4, .inl x_p0_knows)), (a_knows, .inl (c 0, 4, .inl x_knows)), (a_p0_kind, .inl (c 0, 5, .inl x_p0_kind)), (a_kind, .inl (c 0, 5, .inl x_kind)), (a_p0_on, .inl (c 0, 5, .inl x_p0_on)), (a_on, .inl (c 0, 5, .inl x_on)), (a_p0_has, .inl (c 0, 5, .inl x_p0_has)), (a_has, .inl (c 0, 5, .inl x_has))] := hD
  refine lv_aload_n hx hb dX3_setAs_16 rfl (lv_at hl 0 rfl) ?_
  refine lv_aload_n hx hb dX3_setAs_17 rfl (lv_at hl 1 rfl) ?_
  refine va_get (D := D) (ci := 3) (v := .int x_p0_basin) (C := RX3) (T := TX3) (N := 8) hx hb hts inX3_setAs_X3 hown hK hP 0 rfl rfl 2 (by decide) (hts _ lkX3_setAs_f31) (fun _ h9 => h9) rfl dX3_setAs_18 ?_
  refine va_put (D := D) (ci := 3) (v := .int x_p0_basin) (ty := .int) (C := RX3) (T := TX3) (N := 8) hx hb hts inX3_setAs_X3 tyX3 tyX3_ok nmX3 hown hK hP hD hS 1 rfl rfl 2 (by decide) (hts _ lkX3_setAs_f31) (fun _ h9 => h9) rfl (by decide +kernel) rfl rfl (Nat.le_of_ble_eq_true rfl) dX3_setAs_21 (fun H locs hP hD hS => ?_)
  have hP : va_P D vwCl [(a_p0, .inr (3, [.int x_p0_members, .int x_p0_leeches, .int x_p0_basin, .int x_p0_minute, .ref a_p0_knows, .ref a_p0_kind, .ref a_p0_on, .ref a_p0_has])), (a_this, .inr (3, [.int x_p0_members, .int x_p0_leeches, .int x_p0_basin, .int x_minute, .ref a_knows, .ref a_kind, .ref a_on, .ref a_has])), (a_p0_knows, .inl (c 0, 4, .inl x_p0_knows)), (a_knows, .inl (c 0, 4, .inl x_knows)), (a_p0_kind, .inl (c 0, 5, .inl x_p0_kind)), (a_kind, .inl (c 0, 5, .inl x_kind)), (a_p0_on, .inl (c 0, 5, .inl x_p0_on)), (a_on, .inl (c 0, 5, .inl x_on)), (a_p0_has, .inl (c 0, 5, .inl x_p0_has)), (a_has, .inl (c 0, 5, .inl x_has))] H := hP
  have hD : va_D A [(a_p0, .inr (3, [.int x_p0_members, .int x_p0_leeches, .int x_p0_basin, .int x_p0_minute, .ref a_p0_knows, .ref a_p0_kind, .ref a_p0_on, .ref a_p0_has])), (a_this, .inr (3, [.int x_p0_members, .int x_p0_leeches, .int x_p0_basin, .int x_minute, .ref a_knows, .ref a_kind, .ref a_on, .ref a_has])), (a_p0_knows, .inl (c 0, 4, .inl x_p0_knows)), (a_knows, .inl (c 0, 4, .inl x_knows)), (a_p0_kind, .inl (c 0, 5, .inl x_p0_kind)), (a_kind, .inl (c 0, 5, .inl x_kind)), (a_p0_on, .inl (c 0, 5, .inl x_p0_on)), (a_on, .inl (c 0, 5, .inl x_on)), (a_p0_has, .inl (c 0, 5, .inl x_p0_has)), (a_has, .inl (c 0, 5, .inl x_has))] := hD
  refine lv_aload_n hx hb dX3_setAs_24 rfl (lv_at hl 0 rfl) ?_
  refine lv_aload_n hx hb dX3_setAs_25 rfl (lv_at hl 1 rfl) ?_
  refine va_get (D := D) (ci := 3) (v := .int x_p0_minute) (C := RX3) (T := TX3) (N := 8) hx hb hts inX3_setAs_X3 hown hK hP 0 rfl rfl 3 (by decide) (hts _ lkX3_setAs_f34) (fun _ h9 => h9) rfl dX3_setAs_26 ?_
  refine va_put (D := D) (ci := 3) (v := .int x_p0_minute) (ty := .int) (C := RX3) (T := TX3) (N := 8) hx hb hts inX3_setAs_X3 tyX3 tyX3_ok nmX3 hown hK hP hD hS 1 rfl rfl 3 (by decide) (hts _ lkX3_setAs_f34) (fun _ h9 => h9) rfl (by decide +kernel) rfl rfl (Nat.le_of_ble_eq_true rfl) dX3_setAs_29 (fun H locs hP hD hS => ?_)
  have hP : va_P D vwCl [(a_p0, .inr (3, [.int x_p0_members, .int x_p0_leeches, .int x_p0_basin, .int x_p0_minute, .ref a_p0_knows, .ref a_p0_kind, .ref a_p0_on, .ref a_p0_has])), (a_this, .inr (3, [.int x_p0_members, .int x_p0_leeches, .int x_p0_basin, .int x_p0_minute, .ref a_knows, .ref a_kind, .ref a_on, .ref a_has])), (a_p0_knows, .inl (c 0, 4, .inl x_p0_knows)), (a_knows, .inl (c 0, 4, .inl x_knows)), (a_p0_kind, .inl (c 0, 5, .inl x_p0_kind)), (a_kind, .inl (c 0, 5, .inl x_kind)), (a_p0_on, .inl (c 0, 5, .inl x_p0_on)), (a_on, .inl (c 0, 5, .inl x_on)), (a_p0_has, .inl (c 0, 5, .inl x_p0_has)), (a_has, .inl (c 0, 5, .inl x_has))] H := hP
  have hD : va_D A [(a_p0, .inr (3, [.int x_p0_members, .int x_p0_leeches, .int x_p0_basin, .int x_p0_minute, .ref a_p0_knows, .ref a_p0_kind, .ref a_p0_on, .ref a_p0_has])), (a_this, .inr (3, [.int x_p0_members, .int x_p0_leeches, .int x_p0_basin, .int x_p0_minute, .ref a_knows, .ref a_kind, .ref a_on, .ref a_has])), (a_p0_knows, .inl (c 0, 4, .inl x_p0_knows)), (a_knows, .inl (c 0, 4, .inl x_knows)), (a_p0_kind, .inl (c 0, 5, .inl x_p0_kind)), (a_kind, .inl (c 0, 5, .inl x_kind)), (a_p0_on, .inl (c 0, 5, .inl x_p0_on)), (a_on, .inl (c 0, 5, .inl x_on)), (a_p0_has, .inl (c 0, 5, .inl x_p0_has)), (a_has, .inl (c 0, 5, .inl x_has))] := hD
  refine lv_aload_n hx hb dX3_setAs_32 rfl (lv_at hl 1 rfl) ?_
  refine va_get (D := D) (ci := 3) (v := .ref a_p0_knows) (C := RX3) (T := TX3) (N := 8) hx hb hts inX3_setAs_X3 hown hK hP 0 rfl rfl 4 (by decide) (hts _ lkX3_setAs_f9) (fun _ h9 => h9) rfl dX3_setAs_33 ?_
  refine lv_iconst (v := 0) hx hb dX3_setAs_36 (by decide) ?_
  refine lv_aload_n hx hb dX3_setAs_37 rfl (lv_at hl 0 rfl) ?_
  refine va_get (D := D) (ci := 3) (v := .ref a_knows) (C := RX3) (T := TX3) (N := 8) hx hb hts inX3_setAs_X3 hown hK hP 1 rfl rfl 4 (by decide) (hts _ lkX3_setAs_f9) (fun _ h9 => h9) rfl dX3_setAs_38 ?_
  refine lv_iconst (v := 0) hx hb dX3_setAs_41 (by decide) ?_
  refine lv_iconst (v := 4) hx hb dX3_setAs_42 (by decide) ?_
  refine va_copyi hx hb (hml.trans hl.1.symm) hown (hts _ lkX3_setAs_a37) (hts _ lkX3_setAs_an37) (hts _ lkX3_setAs_as37) (hts _ lkX3_setAs_ai37) hK hP hD hS 2 3 0 0 rfl rfl rfl rfl rfl (by decide) (by decide) (by decide) (by decide) (by decide) (fun _ _ => rfl) (Nat.le_of_ble_eq_true rfl) (Nat.le_of_ble_eq_true rfl) dX3_setAs_43 (fun H locs hP hD hS => ?_)
  have hP : va_P D vwCl [(a_p0, .inr (3, [.int x_p0_members, .int x_p0_leeches, .int x_p0_basin, .int x_p0_minute, .ref a_p0_knows, .ref a_p0_kind, .ref a_p0_on, .ref a_p0_has])), (a_this, .inr (3, [.int x_p0_members, .int x_p0_leeches, .int x_p0_basin, .int x_p0_minute, .ref a_knows, .ref a_kind, .ref a_on, .ref a_has])), (a_p0_knows, .inl (c 0, 4, .inl x_p0_knows)), (a_knows, .inl (c 0, 4, .inl (va_cpy x_p0_knows x_knows 0 0 4))), (a_p0_kind, .inl (c 0, 5, .inl x_p0_kind)), (a_kind, .inl (c 0, 5, .inl x_kind)), (a_p0_on, .inl (c 0, 5, .inl x_p0_on)), (a_on, .inl (c 0, 5, .inl x_on)), (a_p0_has, .inl (c 0, 5, .inl x_p0_has)), (a_has, .inl (c 0, 5, .inl x_has))] H := hP
  have hD : va_D A [(a_p0, .inr (3, [.int x_p0_members, .int x_p0_leeches, .int x_p0_basin, .int x_p0_minute, .ref a_p0_knows, .ref a_p0_kind, .ref a_p0_on, .ref a_p0_has])), (a_this, .inr (3, [.int x_p0_members, .int x_p0_leeches, .int x_p0_basin, .int x_p0_minute, .ref a_knows, .ref a_kind, .ref a_on, .ref a_has])), (a_p0_knows, .inl (c 0, 4, .inl x_p0_knows)), (a_knows, .inl (c 0, 4, .inl (va_cpy x_p0_knows x_knows 0 0 4))), (a_p0_kind, .inl (c 0, 5, .inl x_p0_kind)), (a_kind, .inl (c 0, 5, .inl x_kind)), (a_p0_on, .inl (c 0, 5, .inl x_p0_on)), (a_on, .inl (c 0, 5, .inl x_on)), (a_p0_has, .inl (c 0, 5, .inl x_p0_has)), (a_has, .inl (c 0, 5, .inl x_has))] := hD
  refine lv_aload_n hx hb dX3_setAs_46 rfl (lv_at hl 1 rfl) ?_
  refine va_get (D := D) (ci := 3) (v := .ref a_p0_kind) (C := RX3) (T := TX3) (N := 8) hx hb hts inX3_setAs_X3 hown hK hP 0 rfl rfl 5 (by decide) (hts _ lkX3_setAs_f15) (fun _ h9 => h9) rfl dX3_setAs_47 ?_
  refine lv_iconst (v := 0) hx hb dX3_setAs_50 (by decide) ?_
  refine lv_aload_n hx hb dX3_setAs_51 rfl (lv_at hl 0 rfl) ?_
  refine va_get (D := D) (ci := 3) (v := .ref a_kind) (C := RX3) (T := TX3) (N := 8) hx hb hts inX3_setAs_X3 hown hK hP 1 rfl rfl 5 (by decide) (hts _ lkX3_setAs_f15) (fun _ h9 => h9) rfl dX3_setAs_52 ?_
  refine lv_iconst (v := 0) hx hb dX3_setAs_55 (by decide) ?_
  refine lv_iconst (v := 5) hx hb dX3_setAs_56 (by decide) ?_
  refine va_copyi hx hb (hml.trans hl.1.symm) hown (hts _ lkX3_setAs_a37) (hts _ lkX3_setAs_an37) (hts _ lkX3_setAs_as37) (hts _ lkX3_setAs_ai37) hK hP hD hS 4 5 0 0 rfl rfl rfl rfl rfl (by decide) (by decide) (by decide) (by decide) (by decide) (fun _ _ => rfl) (Nat.le_of_ble_eq_true rfl) (Nat.le_of_ble_eq_true rfl) dX3_setAs_57 (fun H locs hP hD hS => ?_)
  have hP : va_P D vwCl [(a_p0, .inr (3, [.int x_p0_members, .int x_p0_leeches, .int x_p0_basin, .int x_p0_minute, .ref a_p0_knows, .ref a_p0_kind, .ref a_p0_on, .ref a_p0_has])), (a_this, .inr (3, [.int x_p0_members, .int x_p0_leeches, .int x_p0_basin, .int x_p0_minute, .ref a_knows, .ref a_kind, .ref a_on, .ref a_has])), (a_p0_knows, .inl (c 0, 4, .inl x_p0_knows)), (a_knows, .inl (c 0, 4, .inl (va_cpy x_p0_knows x_knows 0 0 4))), (a_p0_kind, .inl (c 0, 5, .inl x_p0_kind)), (a_kind, .inl (c 0, 5, .inl (va_cpy x_p0_kind x_kind 0 0 5))), (a_p0_on, .inl (c 0, 5, .inl x_p0_on)), (a_on, .inl (c 0, 5, .inl x_on)), (a_p0_has, .inl (c 0, 5, .inl x_p0_has)), (a_has, .inl (c 0, 5, .inl x_has))] H := hP
  have hD : va_D A [(a_p0, .inr (3, [.int x_p0_members, .int x_p0_leeches, .int x_p0_basin, .int x_p0_minute, .ref a_p0_knows, .ref a_p0_kind, .ref a_p0_on, .ref a_p0_has])), (a_this, .inr (3, [.int x_p0_members, .int x_p0_leeches, .int x_p0_basin, .int x_p0_minute, .ref a_knows, .ref a_kind, .ref a_on, .ref a_has])), (a_p0_knows, .inl (c 0, 4, .inl x_p0_knows)), (a_knows, .inl (c 0, 4, .inl (va_cpy x_p0_knows x_knows 0 0 4))), (a_p0_kind, .inl (c 0, 5, .inl x_p0_kind)), (a_kind, .inl (c 0, 5, .inl (va_cpy x_p0_kind x_kind 0 0 5))), (a_p0_on, .inl (c 0, 5, .inl x_p0_on)), (a_on, .inl (c 0, 5, .inl x_on)), (a_p0_has, .inl (c 0, 5, .inl x_p0_has)), (a_has, .inl (c 0, 5, .inl x_has))] := hD
  refine lv_aload_n hx hb dX3_setAs_60 rfl (lv_at hl 1 rfl) ?_
  refine va_get (D := D) (ci := 3) (v := .ref a_p0_on) (C := RX3) (T := TX3) (N := 8) hx hb hts inX3_setAs_X3 hown hK hP 0 rfl rfl 6 (by decide) (hts _ lkX3_setAs_f18) (fun _ h9 => h9) rfl dX3_setAs_61 ?_
  refine lv_iconst (v := 0) hx hb dX3_setAs_64 (by decide) ?_
  refine lv_aload_n hx hb dX3_setAs_65 rfl (lv_at hl 0 rfl) ?_
  refine va_get (D := D) (ci := 3) (v := .ref a_on) (C := RX3) (T := TX3) (N := 8) hx hb hts inX3_setAs_X3 hown hK hP 1 rfl rfl 6 (by decide) (hts _ lkX3_setAs_f18) (fun _ h9 => h9) rfl dX3_setAs_66 ?_
  refine lv_iconst (v := 0) hx hb dX3_setAs_69 (by decide) ?_
  refine lv_iconst (v := 5) hx hb dX3_setAs_70 (by decide) ?_
  refine va_copyi hx hb (hml.trans hl.1.symm) hown (hts _ lkX3_setAs_a37) (hts _ lkX3_setAs_an37) (hts _ lkX3_setAs_as37) (hts _ lkX3_setAs_ai37) hK hP hD hS 6 7 0 0 rfl rfl rfl rfl rfl (by decide) (by decide) (by decide) (by decide) (by decide) (fun _ _ => rfl) (Nat.le_of_ble_eq_true rfl) (Nat.le_of_ble_eq_true rfl) dX3_setAs_71 (fun H locs hP hD hS => ?_)
  have hP : va_P D vwCl [(a_p0, .inr (3, [.int x_p0_members, .int x_p0_leeches, .int x_p0_basin, .int x_p0_minute, .ref a_p0_knows, .ref a_p0_kind, .ref a_p0_on, .ref a_p0_has])), (a_this, .inr (3, [.int x_p0_members, .int x_p0_leeches, .int x_p0_basin, .int x_p0_minute, .ref a_knows, .ref a_kind, .ref a_on, .ref a_has])), (a_p0_knows, .inl (c 0, 4, .inl x_p0_knows)), (a_knows, .inl (c 0, 4, .inl (va_cpy x_p0_knows x_knows 0 0 4))), (a_p0_kind, .inl (c 0, 5, .inl x_p0_kind)), (a_kind, .inl (c 0, 5, .inl (va_cpy x_p0_kind x_kind 0 0 5))), (a_p0_on, .inl (c 0, 5, .inl x_p0_on)), (a_on, .inl (c 0, 5, .inl (va_cpy x_p0_on x_on 0 0 5))), (a_p0_has, .inl (c 0, 5, .inl x_p0_has)), (a_has, .inl (c 0, 5, .inl x_has))] H := hP
  have hD : va_D A [(a_p0, .inr (3, [.int x_p0_members, .int x_p0_leeches, .int x_p0_basin, .int x_p0_minute, .ref a_p0_knows, .ref a_p0_kind, .ref a_p0_on, .ref a_p0_has])), (a_this, .inr (3, [.int x_p0_members, .int x_p0_leeches, .int x_p0_basin, .int x_p0_minute, .ref a_knows, .ref a_kind, .ref a_on, .ref a_has])), (a_p0_knows, .inl (c 0, 4, .inl x_p0_knows)), (a_knows, .inl (c 0, 4, .inl (va_cpy x_p0_knows x_knows 0 0 4))), (a_p0_kind, .inl (c 0, 5, .inl x_p0_kind)), (a_kind, .inl (c 0, 5, .inl (va_cpy x_p0_kind x_kind 0 0 5))), (a_p0_on, .inl (c 0, 5, .inl x_p0_on)), (a_on, .inl (c 0, 5, .inl (va_cpy x_p0_on x_on 0 0 5))), (a_p0_has, .inl (c 0, 5, .inl x_p0_has)), (a_has, .inl (c 0, 5, .inl x_has))] := hD
  refine lv_aload_n hx hb dX3_setAs_74 rfl (lv_at hl 1 rfl) ?_
  refine va_get (D := D) (ci := 3) (v := .ref a_p0_has) (C := RX3) (T := TX3) (N := 8) hx hb hts inX3_setAs_X3 hown hK hP 0 rfl rfl 7 (by decide) (hts _ lkX3_setAs_f21) (fun _ h9 => h9) rfl dX3_setAs_75 ?_
  refine lv_iconst (v := 0) hx hb dX3_setAs_78 (by decide) ?_
  refine lv_aload_n hx hb dX3_setAs_79 rfl (lv_at hl 0 rfl) ?_
  refine va_get (D := D) (ci := 3) (v := .ref a_has) (C := RX3) (T := TX3) (N := 8) hx hb hts inX3_setAs_X3 hown hK hP 1 rfl rfl 7 (by decide) (hts _ lkX3_setAs_f21) (fun _ h9 => h9) rfl dX3_setAs_80 ?_
  refine lv_iconst (v := 0) hx hb dX3_setAs_83 (by decide) ?_
  refine lv_iconst (v := 5) hx hb dX3_setAs_84 (by decide) ?_
  refine va_copyi hx hb (hml.trans hl.1.symm) hown (hts _ lkX3_setAs_a37) (hts _ lkX3_setAs_an37) (hts _ lkX3_setAs_as37) (hts _ lkX3_setAs_ai37) hK hP hD hS 8 9 0 0 rfl rfl rfl rfl rfl (by decide) (by decide) (by decide) (by decide) (by decide) (fun _ _ => rfl) (Nat.le_of_ble_eq_true rfl) (Nat.le_of_ble_eq_true rfl) dX3_setAs_85 (fun H locs hP hD hS => ?_)
  have hP : va_P D vwCl [(a_p0, .inr (3, [.int x_p0_members, .int x_p0_leeches, .int x_p0_basin, .int x_p0_minute, .ref a_p0_knows, .ref a_p0_kind, .ref a_p0_on, .ref a_p0_has])), (a_this, .inr (3, [.int x_p0_members, .int x_p0_leeches, .int x_p0_basin, .int x_p0_minute, .ref a_knows, .ref a_kind, .ref a_on, .ref a_has])), (a_p0_knows, .inl (c 0, 4, .inl x_p0_knows)), (a_knows, .inl (c 0, 4, .inl (va_cpy x_p0_knows x_knows 0 0 4))), (a_p0_kind, .inl (c 0, 5, .inl x_p0_kind)), (a_kind, .inl (c 0, 5, .inl (va_cpy x_p0_kind x_kind 0 0 5))), (a_p0_on, .inl (c 0, 5, .inl x_p0_on)), (a_on, .inl (c 0, 5, .inl (va_cpy x_p0_on x_on 0 0 5))), (a_p0_has, .inl (c 0, 5, .inl x_p0_has)), (a_has, .inl (c 0, 5, .inl (va_cpy x_p0_has x_has 0 0 5)))] H := hP
  have hD : va_D A [(a_p0, .inr (3, [.int x_p0_members, .int x_p0_leeches, .int x_p0_basin, .int x_p0_minute, .ref a_p0_knows, .ref a_p0_kind, .ref a_p0_on, .ref a_p0_has])), (a_this, .inr (3, [.int x_p0_members, .int x_p0_leeches, .int x_p0_basin, .int x_p0_minute, .ref a_knows, .ref a_kind, .ref a_on, .ref a_has])), (a_p0_knows, .inl (c 0, 4, .inl x_p0_knows)), (a_knows, .inl (c 0, 4, .inl (va_cpy x_p0_knows x_knows 0 0 4))), (a_p0_kind, .inl (c 0, 5, .inl x_p0_kind)), (a_kind, .inl (c 0, 5, .inl (va_cpy x_p0_kind x_kind 0 0 5))), (a_p0_on, .inl (c 0, 5, .inl x_p0_on)), (a_on, .inl (c 0, 5, .inl (va_cpy x_p0_on x_on 0 0 5))), (a_p0_has, .inl (c 0, 5, .inl x_p0_has)), (a_has, .inl (c 0, 5, .inl (va_cpy x_p0_has x_has 0 0 5)))] := hD
  have g0 := x_some hr
  have e0 := x_p1 g0
  have g1 := x_p2 g0
  have e1 := x_p1 g1
  have g2 := x_p2 g1
  have e2 := x_p1 g2
  have g3 := x_p2 g2
  have e3 := x_p1 g3
  have g4 := x_p2 g3
  have e4 := x_p1 g4
  have g5 := x_p2 g4
  have e5 := x_p1 g5
  have g6 := x_p2 g5
  have e6 := x_p1 g6
  have e7 := x_p2 g6
  subst e0
  subst e1
  subst e2
  subst e3
  subst e4
  subst e5
  subst e6
  subst e7
  exact x_retv hx hb hret hlocks hP hD hK hS dX3_setAs_88
set_option maxHeartbeats 4000000 in
set_option maxRecDepth 100000 in
theorem mX3_setAs (l : Launch) (D : va_G) (c : Nat → ClassId) (a_this : Nat) (a_p0 : Nat) (a_p0_knows : Nat) (a_p0_kind : Nat) (a_p0_on : Nat) (a_p0_has : Nat) (a_knows : Nat) (a_kind : Nat) (a_on : Nat) (a_has : Nat) (sz : Nat) (x_p0_members : Int32) (x_p0_leeches : Int32) (x_p0_basin : Int32) (x_p0_minute : Int32) (x_p0_knows : Nat → Int32) (x_p0_kind : Nat → Int32) (x_p0_on : Nat → Int32) (x_p0_has : Nat → Int32) (x_members : Int32) (x_leeches : Int32) (x_basin : Int32) (x_minute : Int32) (x_knows : Nat → Int32) (x_kind : Nat → Int32) (x_on : Nat → Int32) (x_has : Nat → Int32) (n : Nat) (rm_members : Int32) (rm_leeches : Int32) (rm_basin : Int32) (rm_minute : Int32) (rm_knows : Nat → Int32) (rm_kind : Nat → Int32) (rm_on : Nat → Int32) (rm_has : Nat → Int32) (h : fX3_setAs n x_p0_members x_p0_leeches x_p0_basin x_p0_minute x_p0_knows x_p0_kind x_p0_on x_p0_has x_members x_leeches x_basin x_minute x_knows x_kind x_on x_has = some (rm_members, rm_leeches, rm_basin, rm_minute, rm_knows, rm_kind, rm_on, rm_has)) : Met l yX3_setAs wsX3_setAs ({ frames := 1, cells := 0, slots := 0, locals := 100 } : Room) (xPc D (xT c) sz [.ref a_this, .ref a_p0] (wX3_setAs c a_this a_p0 a_p0_knows a_p0_kind a_p0_on a_p0_has a_knows a_kind a_on a_has x_p0_members x_p0_leeches x_p0_basin x_p0_minute x_p0_knows x_p0_kind x_p0_on x_p0_has x_members x_leeches x_basin x_minute x_knows x_kind x_on x_has) (fun _ => True)) (xQv D (xT c) (va_A (wX3_setAs c a_this a_p0 a_p0_knows a_p0_kind a_p0_on a_p0_has a_knows a_kind a_on a_has x_p0_members x_p0_leeches x_p0_basin x_p0_minute x_p0_knows x_p0_kind x_p0_on x_p0_has x_members x_leeches x_basin x_minute x_knows x_kind x_on x_has) sz) (wX3_setAs c a_this a_p0 a_p0_knows a_p0_kind a_p0_on a_p0_has a_knows a_kind a_on a_has x_p0_members x_p0_leeches x_p0_basin x_p0_minute x_p0_knows x_p0_kind x_p0_on x_p0_has rm_members rm_leeches rm_basin rm_minute rm_knows rm_kind rm_on rm_has)) 0 0 (va_A (wX3_setAs c a_this a_p0 a_p0_knows a_p0_kind a_p0_on a_p0_has a_knows a_kind a_on a_has x_p0_members x_p0_leeches x_p0_basin x_p0_minute x_p0_knows x_p0_kind x_p0_on x_p0_has x_members x_leeches x_basin x_minute x_knows x_kind x_on x_has) sz) := by
  refine Met.ofW (cc := cX3_setAs) (maxL := 2) (ret := none) (by decide) rfl ?_
  intro p e s m args below meth cd s₁ B hml hv
  obtain ⟨rfl, hsz, hP, hK, hD0, hV⟩ := hv
  subst hsz
  have hl := lv_entry [.ref a_this, .ref a_p0] (n := 2) (Nat.le_of_ble_eq_true rfl)
  rw [lg_entry_eq]
  exact kX3_setAs_0 (A := va_A (wX3_setAs c a_this a_p0 a_p0_knows a_p0_kind a_p0_on a_p0_has a_knows a_kind a_on a_has x_p0_members x_p0_leeches x_p0_basin x_p0_minute x_p0_knows x_p0_kind x_p0_on x_p0_has x_members x_leeches x_basin x_minute x_knows x_kind x_on x_has) s.heap.size) ⟨B.exec, B.bytes, hml, B.returns, findClass_of_methodNamed B.named, atoms_spec (ws := wsX3_setAs) B.pre, B.notSynchronized, fun q h => Or.inr h, hK⟩ a_this a_p0 a_p0_knows a_p0_kind a_p0_on a_p0_has a_knows a_kind a_on a_has x_p0_members x_p0_leeches x_p0_basin x_p0_minute x_p0_knows x_p0_kind x_p0_on x_p0_has n rm_members rm_leeches rm_basin rm_minute rm_knows rm_kind rm_on rm_has x_members x_leeches x_basin x_minute x_knows x_kind x_on x_has h s.heap [] _ hP hD0.self va_S.rf hl

abbrev wX3_addLeech (c : Nat → ClassId) (a_this : Nat) (a_knows : Nat) (a_kind : Nat) (a_on : Nat) (a_has : Nat) (x_members : Int32) (x_basin : Int32) (x_minute : Int32) (x_kind : Nat → Int32) (x_on : Nat → Int32) (x_has : Nat → Int32) (x_leeches : Int32) : va_W := [(a_this, .inr (3, [.int x_members, .int x_leeches, .int x_basin, .int x_minute, .ref a_knows, .ref a_kind, .ref a_on, .ref a_has])), (a_kind, .inl (c 0, 5, .inl x_kind)), (a_on, .inl (c 0, 5, .inl x_on)), (a_has, .inl (c 0, 5, .inl x_has))]
def GX3_addLeech (p : Program) (l : Launch) (e : Env) (s : State) (m : MethodId) (args : Array Value) (below : List Frame) (meth : Method) (cd : Code) (D : va_G) (c : Nat → ClassId) (A : Nat → Prop) (a_this : Nat) (a_knows : Nat) (a_kind : Nat) (a_on : Nat) (a_has : Nat) (x_members : Int32) (x_basin : Int32) (x_minute : Int32) (rm_kind : Nat → Int32) (rm_on : Nat → Int32) (rm_has : Nat → Int32) (rm_leeches : Int32) (pc : Nat) (st : List Value) (loc : List (Nat × Value)) (x_kind : Nat → Int32) (x_on : Nat → Int32) (x_has : Nat → Int32) (x_leeches : Int32) : Prop :=
  ∀ (H : Heap) (locs : List Loc) (ls : Array Slot), va_P D vwCl (wX3_addLeech c a_this a_knows a_kind a_on a_has x_members x_basin x_minute x_kind x_on x_has x_leeches) H → va_D A (wX3_addLeech c a_this a_knows a_kind a_on a_has x_members x_basin x_minute x_kind x_on x_has x_leeches) → va_S A s.heap H locs → lv_has ls 2 loc → W p l e ({ frames := 0, cells := 0, slots := 0, locals := 0 } : Room) s m args below meth cd H locs 0 0 (MQ below (xQv D (xT c) A (wX3_addLeech c a_this a_knows a_kind a_on a_has x_members x_basin x_minute rm_kind rm_on rm_has rm_leeches)) args s 0 0 A) (F0 m pc ls st)
theorem lkX3_addLeech_f15 : Cond.fieldLink RX3 15 "LeechClub$Room" "kind" "[I" ∈ wsX3_addLeech := by decide +kernel
theorem lkX3_addLeech_f18 : Cond.fieldLink RX3 18 "LeechClub$Room" "on" "[I" ∈ wsX3_addLeech := by decide +kernel
theorem lkX3_addLeech_f21 : Cond.fieldLink RX3 21 "LeechClub$Room" "has" "[I" ∈ wsX3_addLeech := by decide +kernel
theorem lkX3_addLeech_f28 : Cond.fieldLink RX3 28 "LeechClub$Room" "leeches" "I" ∈ wsX3_addLeech := by decide +kernel
theorem inX3_addLeech_X3 : ∀ w ∈ wsX30, w ∈ wsX3_addLeech := by decide +kernel
set_option maxHeartbeats 4000000 in
set_option maxRecDepth 100000 in
theorem kX3_addLeech_48 {p : Program} {l : Launch} {e : Env} {s : State} {m : MethodId} {args : Array Value} {below : List Frame} {meth : Method} {cd : Code} {D : va_G} {c : Nat → ClassId} {A : Nat → Prop} (E0 : xE p s m args meth cd D (xT c) A RX3 cX3_addLeech 2 none wsX3_addLeech) (a_this : Nat) (a_knows : Nat) (a_kind : Nat) (a_on : Nat) (a_has : Nat) (x_members : Int32) (x_basin : Int32) (x_minute : Int32) (n : Nat) (rm_kind : Nat → Int32) (rm_on : Nat → Int32) (rm_has : Nat → Int32) (rm_leeches : Int32) (x_kind : Nat → Int32) (x_on : Nat → Int32) (x_has : Nat → Int32) (x_leeches : Int32) (hr : fX3_addLeech_48 n x_kind x_on x_has x_leeches = some (rm_kind, rm_on, rm_has, rm_leeches)) : GX3_addLeech p l e s m args below meth cd D c A a_this a_knows a_kind a_on a_has x_members x_basin x_minute rm_kind rm_on rm_has rm_leeches 48 [] [] x_kind x_on x_has x_leeches := by
  have E1 := E0
  obtain ⟨hx, hb, hml, hret, hown, hts, hlocks, hA, hK⟩ := E1
  intro H locs ls hP hD hS hl
  unfold fX3_addLeech_48 at hr
  have g0 := x_some hr
  have e0 := x_p1 g0
  have g1 := x_p2 g0
  have e1 := x_p1 g1
  have g2 := x_p2 g1
  have e2 := x_p1 g2
  have e3 := x_p2 g2
  subst e0
  subst e1
  subst e2
  subst e3
  exact x_retv hx hb hret hlocks hP hD hK hS dX3_addLeech_48
set_option maxHeartbeats 4000000 in
set_option maxRecDepth 100000 in
theorem kX3_addLeech_0 {p : Program} {l : Launch} {e : Env} {s : State} {m : MethodId} {args : Array Value} {below : List Frame} {meth : Method} {cd : Code} {D : va_G} {c : Nat → ClassId} {A : Nat → Prop} (E0 : xE p s m args meth cd D (xT c) A RX3 cX3_addLeech 2 none wsX3_addLeech) (a_this : Nat) (a_knows : Nat) (a_kind : Nat) (a_on : Nat) (a_has : Nat) (x_members : Int32) (x_basin : Int32) (x_minute : Int32) (n : Nat) (rm_kind : Nat → Int32) (rm_on : Nat → Int32) (rm_has : Nat → Int32) (rm_leeches : Int32) (x_kind : Nat → Int32) (x_on : Nat → Int32) (x_has : Nat → Int32) (x_leeches : Int32) (v1 : Int32) (hr : fX3_addLeech n x_kind x_on x_has x_leeches v1 = some (rm_kind, rm_on, rm_has, rm_leeches)) : GX3_addLeech p l e s m args below meth cd D c A a_this a_knows a_kind a_on a_has x_members x_basin x_minute rm_kind rm_on rm_has rm_leeches 0 [] [(0, .ref a_this), (1, .int v1)] x_kind x_on x_has x_leeches := by
  have E1 := E0
  obtain ⟨hx, hb, hml, hret, hown, hts, hlocks, hA, hK⟩ := E1
  intro H locs ls hP hD hS hl
  unfold fX3_addLeech at hr
  refine lv_aload_n hx hb dX3_addLeech_0 rfl (lv_at hl 0 rfl) ?_
  refine va_get (D := D) (ci := 3) (v := .int x_leeches) (C := RX3) (T := TX3) (N := 8) hx hb hts inX3_addLeech_X3 hown hK hP 0 rfl rfl 1 (by decide) (hts _ lkX3_addLeech_f28) (fun _ h9 => h9) rfl dX3_addLeech_1 ?_
  refine lv_iconst (v := 5) hx hb dX3_addLeech_4 (by decide) ?_
  refine lv_icmp_ge (tgt := 48) hx hb dX3_addLeech_5 (by decide) (fun c_1 => ?_) (fun c_1 => ?_)
  · have hr := x_ift hr c_1
    exact kX3_addLeech_48 E0 a_this a_knows a_kind a_on a_has x_members x_basin x_minute n rm_kind rm_on rm_has rm_leeches x_kind x_on x_has x_leeches hr H locs ls hP hD hS (lv_sub hl [] rfl)
  · have hr := x_iff hr c_1
    refine lv_aload_n hx hb dX3_addLeech_8 rfl (lv_at hl 0 rfl) ?_
    refine va_get (D := D) (ci := 3) (v := .ref a_kind) (C := RX3) (T := TX3) (N := 8) hx hb hts inX3_addLeech_X3 hown hK hP 0 rfl rfl 5 (by decide) (hts _ lkX3_addLeech_f15) (fun _ h9 => h9) rfl dX3_addLeech_9 ?_
    refine lv_aload_n hx hb dX3_addLeech_12 rfl (lv_at hl 0 rfl) ?_
    refine va_get (D := D) (ci := 3) (v := .int x_leeches) (C := RX3) (T := TX3) (N := 8) hx hb hts inX3_addLeech_X3 hown hK hP 0 rfl rfl 1 (by decide) (hts _ lkX3_addLeech_f28) (fun _ h9 => h9) rfl dX3_addLeech_13 ?_
    refine lv_iload_n hx hb dX3_addLeech_16 rfl (lv_at hl 1 rfl) ?_
    obtain ⟨b_2, hr⟩ := x_chk hr
    refine va_iast hx hb hK hP hD hS 1 0 rfl rfl b_2 dX3_addLeech_17 (fun H locs hP hD hS => ?_)
    have hP : va_P D vwCl [(a_this, .inr (3, [.int x_members, .int x_leeches, .int x_basin, .int x_minute, .ref a_knows, .ref a_kind, .ref a_on, .ref a_has])), (a_kind, .inl (c 0, 5, .inl (upd x_kind x_leeches.toNatClampNeg v1))), (a_on, .inl (c 0, 5, .inl x_on)), (a_has, .inl (c 0, 5, .inl x_has))] H := hP
    have hD : va_D A [(a_this, .inr (3, [.int x_members, .int x_leeches, .int x_basin, .int x_minute, .ref a_knows, .ref a_kind, .ref a_on, .ref a_has])), (a_kind, .inl (c 0, 5, .inl (upd x_kind x_leeches.toNatClampNeg v1))), (a_on, .inl (c 0, 5, .inl x_on)), (a_has, .inl (c 0, 5, .inl x_has))] := hD
    refine lv_aload_n hx hb dX3_addLeech_18 rfl (lv_at hl 0 rfl) ?_
    refine va_get (D := D) (ci := 3) (v := .ref a_on) (C := RX3) (T := TX3) (N := 8) hx hb hts inX3_addLeech_X3 hown hK hP 0 rfl rfl 6 (by decide) (hts _ lkX3_addLeech_f18) (fun _ h9 => h9) rfl dX3_addLeech_19 ?_
    refine lv_aload_n hx hb dX3_addLeech_22 rfl (lv_at hl 0 rfl) ?_
    refine va_get (D := D) (ci := 3) (v := .int x_leeches) (C := RX3) (T := TX3) (N := 8) hx hb hts inX3_addLeech_X3 hown hK hP 0 rfl rfl 1 (by decide) (hts _ lkX3_addLeech_f28) (fun _ h9 => h9) rfl dX3_addLeech_23 ?_
    refine lv_iconst (v := (-1)) hx hb dX3_addLeech_26 (by decide) ?_
    obtain ⟨b_3, hr⟩ := x_chk hr
    refine va_iast hx hb hK hP hD hS 2 0 rfl rfl b_3 dX3_addLeech_27 (fun H locs hP hD hS => ?_)
    have hP : va_P D vwCl [(a_this, .inr (3, [.int x_members, .int x_leeches, .int x_basin, .int x_minute, .ref a_knows, .ref a_kind, .ref a_on, .ref a_has])), (a_kind, .inl (c 0, 5, .inl (upd x_kind x_leeches.toNatClampNeg v1))), (a_on, .inl (c 0, 5, .inl (upd x_on x_leeches.toNatClampNeg (-1)))), (a_has, .inl (c 0, 5, .inl x_has))] H := hP
    have hD : va_D A [(a_this, .inr (3, [.int x_members, .int x_leeches, .int x_basin, .int x_minute, .ref a_knows, .ref a_kind, .ref a_on, .ref a_has])), (a_kind, .inl (c 0, 5, .inl (upd x_kind x_leeches.toNatClampNeg v1))), (a_on, .inl (c 0, 5, .inl (upd x_on x_leeches.toNatClampNeg (-1)))), (a_has, .inl (c 0, 5, .inl x_has))] := hD
    refine lv_aload_n hx hb dX3_addLeech_28 rfl (lv_at hl 0 rfl) ?_
    refine va_get (D := D) (ci := 3) (v := .ref a_has) (C := RX3) (T := TX3) (N := 8) hx hb hts inX3_addLeech_X3 hown hK hP 0 rfl rfl 7 (by decide) (hts _ lkX3_addLeech_f21) (fun _ h9 => h9) rfl dX3_addLeech_29 ?_
    refine lv_aload_n hx hb dX3_addLeech_32 rfl (lv_at hl 0 rfl) ?_
    refine va_get (D := D) (ci := 3) (v := .int x_leeches) (C := RX3) (T := TX3) (N := 8) hx hb hts inX3_addLeech_X3 hown hK hP 0 rfl rfl 1 (by decide) (hts _ lkX3_addLeech_f28) (fun _ h9 => h9) rfl dX3_addLeech_33 ?_
    refine lv_iconst (v := 0) hx hb dX3_addLeech_36 (by decide) ?_
    obtain ⟨b_4, hr⟩ := x_chk hr
    refine va_iast hx hb hK hP hD hS 3 0 rfl rfl b_4 dX3_addLeech_37 (fun H locs hP hD hS => ?_)
    have hP : va_P D vwCl [(a_this, .inr (3, [.int x_members, .int x_leeches, .int x_basin, .int x_minute, .ref a_knows, .ref a_kind, .ref a_on, .ref a_has])), (a_kind, .inl (c 0, 5, .inl (upd x_kind x_leeches.toNatClampNeg v1))), (a_on, .inl (c 0, 5, .inl (upd x_on x_leeches.toNatClampNeg (-1)))), (a_has, .inl (c 0, 5, .inl (upd x_has x_leeches.toNatClampNeg 0)))] H := hP
    have hD : va_D A [(a_this, .inr (3, [.int x_members, .int x_leeches, .int x_basin, .int x_minute, .ref a_knows, .ref a_kind, .ref a_on, .ref a_has])), (a_kind, .inl (c 0, 5, .inl (upd x_kind x_leeches.toNatClampNeg v1))), (a_on, .inl (c 0, 5, .inl (upd x_on x_leeches.toNatClampNeg (-1)))), (a_has, .inl (c 0, 5, .inl (upd x_has x_leeches.toNatClampNeg 0)))] := hD
    refine lv_aload_n hx hb dX3_addLeech_38 rfl (lv_at hl 0 rfl) ?_
    refine lv_dup hx hb dX3_addLeech_39 rfl ?_
    refine va_get (D := D) (ci := 3) (v := .int x_leeches) (C := RX3) (T := TX3) (N := 8) hx hb hts inX3_addLeech_X3 hown hK hP 0 rfl rfl 1 (by decide) (hts _ lkX3_addLeech_f28) (fun _ h9 => h9) rfl dX3_addLeech_40 ?_
    refine lv_iconst (v := 1) hx hb dX3_addLeech_43 (by decide) ?_
    refine lv_iadd hx hb dX3_addLeech_44 ?_
    refine va_put (D := D) (ci := 3) (v := .int (x_leeches + 1)) (ty := .int) (C := RX3) (T := TX3) (N := 8) hx hb hts inX3_addLeech_X3 tyX3 tyX3_ok nmX3 hown hK hP hD hS 0 rfl rfl 1 (by decide) (hts _ lkX3_addLeech_f28) (fun _ h9 => h9) rfl (by decide +kernel) rfl rfl (Nat.le_of_ble_eq_true rfl) dX3_addLeech_45 (fun H locs hP hD hS => ?_)
    have hP : va_P D vwCl [(a_this, .inr (3, [.int x_members, .int (x_leeches + 1), .int x_basin, .int x_minute, .ref a_knows, .ref a_kind, .ref a_on, .ref a_has])), (a_kind, .inl (c 0, 5, .inl (upd x_kind x_leeches.toNatClampNeg v1))), (a_on, .inl (c 0, 5, .inl (upd x_on x_leeches.toNatClampNeg (-1)))), (a_has, .inl (c 0, 5, .inl (upd x_has x_leeches.toNatClampNeg 0)))] H := hP
    have hD : va_D A [(a_this, .inr (3, [.int x_members, .int (x_leeches + 1), .int x_basin, .int x_minute, .ref a_knows, .ref a_kind, .ref a_on, .ref a_has])), (a_kind, .inl (c 0, 5, .inl (upd x_kind x_leeches.toNatClampNeg v1))), (a_on, .inl (c 0, 5, .inl (upd x_on x_leeches.toNatClampNeg (-1)))), (a_has, .inl (c 0, 5, .inl (upd x_has x_leeches.toNatClampNeg 0)))] := hD
    exact kX3_addLeech_48 E0 a_this a_knows a_kind a_on a_has x_members x_basin x_minute n rm_kind rm_on rm_has rm_leeches (upd x_kind x_leeches.toNatClampNeg v1) (upd x_on x_leeches.toNatClampNeg (-1)) (upd x_has x_leeches.toNatClampNeg 0) (x_leeches + 1) hr H locs ls hP hD hS (lv_sub hl [] rfl)
set_option maxHeartbeats 4000000 in
set_option maxRecDepth 100000 in
theorem mX3_addLeech (l : Launch) (D : va_G) (c : Nat → ClassId) (a_this : Nat) (a_knows : Nat) (a_kind : Nat) (a_on : Nat) (a_has : Nat) (sz : Nat) (x_members : Int32) (x_basin : Int32) (x_minute : Int32) (x_kind : Nat → Int32) (x_on : Nat → Int32) (x_has : Nat → Int32) (x_leeches : Int32) (v1 : Int32) (n : Nat) (rm_kind : Nat → Int32) (rm_on : Nat → Int32) (rm_has : Nat → Int32) (rm_leeches : Int32) (h : fX3_addLeech n x_kind x_on x_has x_leeches v1 = some (rm_kind, rm_on, rm_has, rm_leeches)) : Met l yX3_addLeech wsX3_addLeech ({ frames := 0, cells := 0, slots := 0, locals := 0 } : Room) (xPc D (xT c) sz [.ref a_this, .int v1] (wX3_addLeech c a_this a_knows a_kind a_on a_has x_members x_basin x_minute x_kind x_on x_has x_leeches) (fun _ => True)) (xQv D (xT c) (va_A (wX3_addLeech c a_this a_knows a_kind a_on a_has x_members x_basin x_minute x_kind x_on x_has x_leeches) sz) (wX3_addLeech c a_this a_knows a_kind a_on a_has x_members x_basin x_minute rm_kind rm_on rm_has rm_leeches)) 0 0 (va_A (wX3_addLeech c a_this a_knows a_kind a_on a_has x_members x_basin x_minute x_kind x_on x_has x_leeches) sz) := by
  refine Met.ofW (cc := cX3_addLeech) (maxL := 2) (ret := none) (by decide) rfl ?_
  intro p e s m args below meth cd s₁ B hml hv
  obtain ⟨rfl, hsz, hP, hK, hD0, hV⟩ := hv
  subst hsz
  have hl := lv_entry [.ref a_this, .int v1] (n := 2) (Nat.le_of_ble_eq_true rfl)
  rw [lg_entry_eq]
  exact kX3_addLeech_0 (A := va_A (wX3_addLeech c a_this a_knows a_kind a_on a_has x_members x_basin x_minute x_kind x_on x_has x_leeches) s.heap.size) ⟨B.exec, B.bytes, hml, B.returns, findClass_of_methodNamed B.named, atoms_spec (ws := wsX3_addLeech) B.pre, B.notSynchronized, fun q h => Or.inr h, hK⟩ a_this a_knows a_kind a_on a_has x_members x_basin x_minute n rm_kind rm_on rm_has rm_leeches x_kind x_on x_has x_leeches v1 h s.heap [] _ hP hD0.self va_S.rf hl

abbrev wX3_addMember (c : Nat → ClassId) (a_this : Nat) (a_knows : Nat) (a_kind : Nat) (a_on : Nat) (a_has : Nat) (x_leeches : Int32) (x_basin : Int32) (x_minute : Int32) (x_knows : Nat → Int32) (x_members : Int32) : va_W := [(a_this, .inr (3, [.int x_members, .int x_leeches, .int x_basin, .int x_minute, .ref a_knows, .ref a_kind, .ref a_on, .ref a_has])), (a_knows, .inl (c 0, 4, .inl x_knows))]
def GX3_addMember (p : Program) (l : Launch) (e : Env) (s : State) (m : MethodId) (args : Array Value) (below : List Frame) (meth : Method) (cd : Code) (D : va_G) (c : Nat → ClassId) (A : Nat → Prop) (a_this : Nat) (a_knows : Nat) (a_kind : Nat) (a_on : Nat) (a_has : Nat) (x_leeches : Int32) (x_basin : Int32) (x_minute : Int32) (rm_knows : Nat → Int32) (rm_members : Int32) (pc : Nat) (st : List Value) (loc : List (Nat × Value)) (x_knows : Nat → Int32) (x_members : Int32) : Prop :=
  ∀ (H : Heap) (locs : List Loc) (ls : Array Slot), va_P D vwCl (wX3_addMember c a_this a_knows a_kind a_on a_has x_leeches x_basin x_minute x_knows x_members) H → va_D A (wX3_addMember c a_this a_knows a_kind a_on a_has x_leeches x_basin x_minute x_knows x_members) → va_S A s.heap H locs → lv_has ls 2 loc → W p l e ({ frames := 0, cells := 0, slots := 0, locals := 0 } : Room) s m args below meth cd H locs 0 0 (MQ below (xQv D (xT c) A (wX3_addMember c a_this a_knows a_kind a_on a_has x_leeches x_basin x_minute rm_knows rm_members)) args s 0 0 A) (F0 m pc ls st)
theorem lkX3_addMember_f24 : Cond.fieldLink RX3 24 "LeechClub$Room" "members" "I" ∈ wsX3_addMember := by decide +kernel
theorem lkX3_addMember_f9 : Cond.fieldLink RX3 9 "LeechClub$Room" "knows" "[I" ∈ wsX3_addMember := by decide +kernel
theorem inX3_addMember_X3 : ∀ w ∈ wsX30, w ∈ wsX3_addMember := by decide +kernel
set_option maxHeartbeats 4000000 in
set_option maxRecDepth 100000 in
theorem kX3_addMember_28 {p : Program} {l : Launch} {e : Env} {s : State} {m : MethodId} {args : Array Value} {below : List Frame} {meth : Method} {cd : Code} {D : va_G} {c : Nat → ClassId} {A : Nat → Prop} (E0 : xE p s m args meth cd D (xT c) A RX3 cX3_addMember 2 none wsX3_addMember) (a_this : Nat) (a_knows : Nat) (a_kind : Nat) (a_on : Nat) (a_has : Nat) (x_leeches : Int32) (x_basin : Int32) (x_minute : Int32) (n : Nat) (rm_knows : Nat → Int32) (rm_members : Int32) (x_knows : Nat → Int32) (x_members : Int32) (hr : fX3_addMember_28 n x_knows x_members = some (rm_knows, rm_members)) : GX3_addMember p l e s m args below meth cd D c A a_this a_knows a_kind a_on a_has x_leeches x_basin x_minute rm_knows rm_members 28 [] [] x_knows x_members := by
  have E1 := E0
  obtain ⟨hx, hb, hml, hret, hown, hts, hlocks, hA, hK⟩ := E1
  intro H locs ls hP hD hS hl
  unfold fX3_addMember_28 at hr
  have g0 := x_some hr
  have e0 := x_p1 g0
  have e1 := x_p2 g0
  subst e0
  subst e1
  exact x_retv hx hb hret hlocks hP hD hK hS dX3_addMember_28
set_option maxHeartbeats 4000000 in
set_option maxRecDepth 100000 in
theorem kX3_addMember_0 {p : Program} {l : Launch} {e : Env} {s : State} {m : MethodId} {args : Array Value} {below : List Frame} {meth : Method} {cd : Code} {D : va_G} {c : Nat → ClassId} {A : Nat → Prop} (E0 : xE p s m args meth cd D (xT c) A RX3 cX3_addMember 2 none wsX3_addMember) (a_this : Nat) (a_knows : Nat) (a_kind : Nat) (a_on : Nat) (a_has : Nat) (x_leeches : Int32) (x_basin : Int32) (x_minute : Int32) (n : Nat) (rm_knows : Nat → Int32) (rm_members : Int32) (x_knows : Nat → Int32) (x_members : Int32) (v1 : Int32) (hr : fX3_addMember n x_knows x_members v1 = some (rm_knows, rm_members)) : GX3_addMember p l e s m args below meth cd D c A a_this a_knows a_kind a_on a_has x_leeches x_basin x_minute rm_knows rm_members 0 [] [(0, .ref a_this), (1, .int v1)] x_knows x_members := by
  have E1 := E0
  obtain ⟨hx, hb, hml, hret, hown, hts, hlocks, hA, hK⟩ := E1
  intro H locs ls hP hD hS hl
  unfold fX3_addMember at hr
  refine lv_aload_n hx hb dX3_addMember_0 rfl (lv_at hl 0 rfl) ?_
  refine va_get (D := D) (ci := 3) (v := .int x_members) (C := RX3) (T := TX3) (N := 8) hx hb hts inX3_addMember_X3 hown hK hP 0 rfl rfl 0 (by decide) (hts _ lkX3_addMember_f24) (fun _ h9 => h9) rfl dX3_addMember_1 ?_
  refine lv_iconst (v := 4) hx hb dX3_addMember_4 (by decide) ?_
  refine lv_icmp_ge (tgt := 28) hx hb dX3_addMember_5 (by decide) (fun c_1 => ?_) (fun c_1 => ?_)
  · have hr := x_ift hr c_1
    exact kX3_addMember_28 E0 a_this a_knows a_kind a_on a_has x_leeches x_basin x_minute n rm_knows rm_members x_knows x_members hr H locs ls hP hD hS (lv_sub hl [] rfl)
  · have hr := x_iff hr c_1
    refine lv_aload_n hx hb dX3_addMember_8 rfl (lv_at hl 0 rfl) ?_
    refine va_get (D := D) (ci := 3) (v := .ref a_knows) (C := RX3) (T := TX3) (N := 8) hx hb hts inX3_addMember_X3 hown hK hP 0 rfl rfl 4 (by decide) (hts _ lkX3_addMember_f9) (fun _ h9 => h9) rfl dX3_addMember_9 ?_
    refine lv_aload_n hx hb dX3_addMember_12 rfl (lv_at hl 0 rfl) ?_
    refine va_get (D := D) (ci := 3) (v := .int x_members) (C := RX3) (T := TX3) (N := 8) hx hb hts inX3_addMember_X3 hown hK hP 0 rfl rfl 0 (by decide) (hts _ lkX3_addMember_f24) (fun _ h9 => h9) rfl dX3_addMember_13 ?_
    refine lv_iload_n hx hb dX3_addMember_16 rfl (lv_at hl 1 rfl) ?_
    obtain ⟨b_2, hr⟩ := x_chk hr
    refine va_iast hx hb hK hP hD hS 1 0 rfl rfl b_2 dX3_addMember_17 (fun H locs hP hD hS => ?_)
    have hP : va_P D vwCl [(a_this, .inr (3, [.int x_members, .int x_leeches, .int x_basin, .int x_minute, .ref a_knows, .ref a_kind, .ref a_on, .ref a_has])), (a_knows, .inl (c 0, 4, .inl (upd x_knows x_members.toNatClampNeg v1)))] H := hP
    have hD : va_D A [(a_this, .inr (3, [.int x_members, .int x_leeches, .int x_basin, .int x_minute, .ref a_knows, .ref a_kind, .ref a_on, .ref a_has])), (a_knows, .inl (c 0, 4, .inl (upd x_knows x_members.toNatClampNeg v1)))] := hD
    refine lv_aload_n hx hb dX3_addMember_18 rfl (lv_at hl 0 rfl) ?_
    refine lv_dup hx hb dX3_addMember_19 rfl ?_
    refine va_get (D := D) (ci := 3) (v := .int x_members) (C := RX3) (T := TX3) (N := 8) hx hb hts inX3_addMember_X3 hown hK hP 0 rfl rfl 0 (by decide) (hts _ lkX3_addMember_f24) (fun _ h9 => h9) rfl dX3_addMember_20 ?_
    refine lv_iconst (v := 1) hx hb dX3_addMember_23 (by decide) ?_
    refine lv_iadd hx hb dX3_addMember_24 ?_
    refine va_put (D := D) (ci := 3) (v := .int (x_members + 1)) (ty := .int) (C := RX3) (T := TX3) (N := 8) hx hb hts inX3_addMember_X3 tyX3 tyX3_ok nmX3 hown hK hP hD hS 0 rfl rfl 0 (by decide) (hts _ lkX3_addMember_f24) (fun _ h9 => h9) rfl (by decide +kernel) rfl rfl (Nat.le_of_ble_eq_true rfl) dX3_addMember_25 (fun H locs hP hD hS => ?_)
    have hP : va_P D vwCl [(a_this, .inr (3, [.int (x_members + 1), .int x_leeches, .int x_basin, .int x_minute, .ref a_knows, .ref a_kind, .ref a_on, .ref a_has])), (a_knows, .inl (c 0, 4, .inl (upd x_knows x_members.toNatClampNeg v1)))] H := hP
    have hD : va_D A [(a_this, .inr (3, [.int (x_members + 1), .int x_leeches, .int x_basin, .int x_minute, .ref a_knows, .ref a_kind, .ref a_on, .ref a_has])), (a_knows, .inl (c 0, 4, .inl (upd x_knows x_members.toNatClampNeg v1)))] := hD
    exact kX3_addMember_28 E0 a_this a_knows a_kind a_on a_has x_leeches x_basin x_minute n rm_knows rm_members (upd x_knows x_members.toNatClampNeg v1) (x_members + 1) hr H locs ls hP hD hS (lv_sub hl [] rfl)
set_option maxHeartbeats 4000000 in
set_option maxRecDepth 100000 in
theorem mX3_addMember (l : Launch) (D : va_G) (c : Nat → ClassId) (a_this : Nat) (a_knows : Nat) (a_kind : Nat) (a_on : Nat) (a_has : Nat) (sz : Nat) (x_leeches : Int32) (x_basin : Int32) (x_minute : Int32) (x_knows : Nat → Int32) (x_members : Int32) (v1 : Int32) (n : Nat) (rm_knows : Nat → Int32) (rm_members : Int32) (h : fX3_addMember n x_knows x_members v1 = some (rm_knows, rm_members)) : Met l yX3_addMember wsX3_addMember ({ frames := 0, cells := 0, slots := 0, locals := 0 } : Room) (xPc D (xT c) sz [.ref a_this, .int v1] (wX3_addMember c a_this a_knows a_kind a_on a_has x_leeches x_basin x_minute x_knows x_members) (fun _ => True)) (xQv D (xT c) (va_A (wX3_addMember c a_this a_knows a_kind a_on a_has x_leeches x_basin x_minute x_knows x_members) sz) (wX3_addMember c a_this a_knows a_kind a_on a_has x_leeches x_basin x_minute rm_knows rm_members)) 0 0 (va_A (wX3_addMember c a_this a_knows a_kind a_on a_has x_leeches x_basin x_minute x_knows x_members) sz) := by
  refine Met.ofW (cc := cX3_addMember) (maxL := 2) (ret := none) (by decide) rfl ?_
  intro p e s m args below meth cd s₁ B hml hv
  obtain ⟨rfl, hsz, hP, hK, hD0, hV⟩ := hv
  subst hsz
  have hl := lv_entry [.ref a_this, .int v1] (n := 2) (Nat.le_of_ble_eq_true rfl)
  rw [lg_entry_eq]
  exact kX3_addMember_0 (A := va_A (wX3_addMember c a_this a_knows a_kind a_on a_has x_leeches x_basin x_minute x_knows x_members) s.heap.size) ⟨B.exec, B.bytes, hml, B.returns, findClass_of_methodNamed B.named, atoms_spec (ws := wsX3_addMember) B.pre, B.notSynchronized, fun q h => Or.inr h, hK⟩ a_this a_knows a_kind a_on a_has x_leeches x_basin x_minute n rm_knows rm_members x_knows x_members v1 h s.heap [] _ hP hD0.self va_S.rf hl

abbrev wX3_setAlone (c : Nat → ClassId) (a_this : Nat) (a_knows : Nat) (a_kind : Nat) (a_on : Nat) (a_has : Nat) (x_members : Int32) (x_leeches : Int32) (x_basin : Int32) (x_minute : Int32) (x_knows : Nat → Int32) (x_kind : Nat → Int32) (x_on : Nat → Int32) (x_has : Nat → Int32) : va_W := [(a_this, .inr (3, [.int x_members, .int x_leeches, .int x_basin, .int x_minute, .ref a_knows, .ref a_kind, .ref a_on, .ref a_has])), (a_knows, .inl (c 0, 4, .inl x_knows)), (a_kind, .inl (c 0, 5, .inl x_kind)), (a_on, .inl (c 0, 5, .inl x_on)), (a_has, .inl (c 0, 5, .inl x_has))]
def GX3_setAlone (p : Program) (l : Launch) (e : Env) (s : State) (m : MethodId) (args : Array Value) (below : List Frame) (meth : Method) (cd : Code) (D : va_G) (c : Nat → ClassId) (A : Nat → Prop) (a_this : Nat) (a_knows : Nat) (a_kind : Nat) (a_on : Nat) (a_has : Nat) (rm_members : Int32) (rm_leeches : Int32) (rm_basin : Int32) (rm_minute : Int32) (rm_knows : Nat → Int32) (rm_kind : Nat → Int32) (rm_on : Nat → Int32) (rm_has : Nat → Int32) (pc : Nat) (st : List Value) (loc : List (Nat × Value)) (x_members : Int32) (x_leeches : Int32) (x_basin : Int32) (x_minute : Int32) (x_knows : Nat → Int32) (x_kind : Nat → Int32) (x_on : Nat → Int32) (x_has : Nat → Int32) : Prop :=
  ∀ (H : Heap) (locs : List Loc) (ls : Array Slot), va_P D vwCl (wX3_setAlone c a_this a_knows a_kind a_on a_has x_members x_leeches x_basin x_minute x_knows x_kind x_on x_has) H → va_D A (wX3_setAlone c a_this a_knows a_kind a_on a_has x_members x_leeches x_basin x_minute x_knows x_kind x_on x_has) → va_S A s.heap H locs → lv_has ls 3 loc → W p l e ({ frames := 1, cells := 0, slots := 0, locals := 21 } : Room) s m args below meth cd H locs 0 0 (MQ below (xQv D (xT c) A (wX3_setAlone c a_this a_knows a_kind a_on a_has rm_members rm_leeches rm_basin rm_minute rm_knows rm_kind rm_on rm_has)) args s 0 0 A) (F0 m pc ls st)
theorem lkX3_setAlone_f18 : Cond.fieldLink RX3 18 "LeechClub$Room" "on" "[I" ∈ wsX3_setAlone := by decide +kernel
theorem inX3_setAlone_X3 : ∀ w ∈ wsX30, w ∈ wsX3_setAlone := by decide +kernel
set_option maxHeartbeats 4000000 in
set_option maxRecDepth 100000 in
theorem kX3_setAlone_0 {p : Program} {l : Launch} {e : Env} {s : State} {m : MethodId} {args : Array Value} {below : List Frame} {meth : Method} {cd : Code} {D : va_G} {c : Nat → ClassId} {A : Nat → Prop} (E0 : xE p s m args meth cd D (xT c) A RX3 cX3_setAlone 3 none wsX3_setAlone) (a_this : Nat) (a_knows : Nat) (a_kind : Nat) (a_on : Nat) (a_has : Nat) (n : Nat) (rm_members : Int32) (rm_leeches : Int32) (rm_basin : Int32) (rm_minute : Int32) (rm_knows : Nat → Int32) (rm_kind : Nat → Int32) (rm_on : Nat → Int32) (rm_has : Nat → Int32) (x_members : Int32) (x_leeches : Int32) (x_basin : Int32) (x_minute : Int32) (x_knows : Nat → Int32) (x_kind : Nat → Int32) (x_on : Nat → Int32) (x_has : Nat → Int32) (v1 : Int32) (v2 : Int32) (hr : fX3_setAlone n x_members x_leeches x_basin x_minute x_knows x_kind x_on x_has v1 v2 = some (rm_members, rm_leeches, rm_basin, rm_minute, rm_knows, rm_kind, rm_on, rm_has)) : GX3_setAlone p l e s m args below meth cd D c A a_this a_knows a_kind a_on a_has rm_members rm_leeches rm_basin rm_minute rm_knows rm_kind rm_on rm_has 0 [] [(0, .ref a_this), (1, .int v1), (2, .int v2)] x_members x_leeches x_basin x_minute x_knows x_kind x_on x_has := by
  have E1 := E0
  obtain ⟨hx, hb, hml, hret, hown, hts, hlocks, hA, hK⟩ := E1
  intro H locs ls hP hD hS hl
  unfold fX3_setAlone at hr
  refine lv_aload_n hx hb dX3_setAlone_0 rfl (lv_at hl 0 rfl) ?_
  obtain ⟨⟨q1_0, q1_1, q1_2, q1_3⟩, hc1, hr⟩ := x_bind hr
  try dsimp only at hr
  refine x_runv (wr := [(a_knows, .inl (c 0, 4, .inl x_knows)), (a_kind, .inl (c 0, 5, .inl x_kind)), (a_on, .inl (c 0, 5, .inl x_on)), (a_has, .inl (c 0, 5, .inl x_has))]) (wf := [(a_this, .inr (3, [.int q1_0, .int q1_1, .int q1_2, .int q1_3, .ref a_knows, .ref a_kind, .ref a_on, .ref a_has])), (a_knows, .inl (c 0, 4, .inl x_knows)), (a_kind, .inl (c 0, 5, .inl x_kind)), (a_on, .inl (c 0, 5, .inl x_on)), (a_has, .inl (c 0, 5, .inl x_has))]) (x_goV (As := []) (rest := []) ⟨hx, hb, hml, hown, hts⟩ (mX3_setEmpty l D c a_this a_knows a_kind a_on a_has H.size x_members x_leeches x_basin x_minute n _ _ _ _ hc1) (cwV 0 hts gX3_setAlone_X3_setEmpty rfl rfl rfl (by decide +kernel) ⟨Nat.le_of_ble_eq_true rfl, Nat.le_of_ble_eq_true rfl⟩) xB_t hP hD hK [0] rfl (by decide) (fun _ _ _ => trivial) 0 3 rfl rfl rfl rfl hl.1 rfl (Nat.le_of_ble_eq_true rfl) dX3_setAlone_1) hP hD hS hA [0] [1, 2, 3, 4] [4, 0, 1, 2, 3] rfl rfl rfl ⟨by decide, by decide, by decide⟩ (fun H locs hP hD hS => ?_)
  refine lv_aload_n hx hb dX3_setAlone_4 rfl (lv_at hl 0 rfl) ?_
  refine lv_iload_n hx hb dX3_setAlone_5 rfl (lv_at hl 1 rfl) ?_
  obtain ⟨⟨q2_0, q2_1⟩, hc2, hr⟩ := x_bind hr
  try dsimp only at hr
  refine x_runv (wr := [(a_kind, .inl (c 0, 5, .inl x_kind)), (a_on, .inl (c 0, 5, .inl x_on)), (a_has, .inl (c 0, 5, .inl x_has))]) (wf := [(a_this, .inr (3, [.int q2_1, .int q1_1, .int q1_2, .int q1_3, .ref a_knows, .ref a_kind, .ref a_on, .ref a_has])), (a_knows, .inl (c 0, 4, .inl q2_0)), (a_kind, .inl (c 0, 5, .inl x_kind)), (a_on, .inl (c 0, 5, .inl x_on)), (a_has, .inl (c 0, 5, .inl x_has))]) (x_goV (As := [.int v1]) (rest := []) ⟨hx, hb, hml, hown, hts⟩ (mX3_addMember l D c a_this a_knows a_kind a_on a_has H.size q1_1 q1_2 q1_3 x_knows q1_0 v1 n _ _ hc2) (cwV 1 hts gX3_setAlone_X3_addMember rfl rfl rfl (by decide +kernel) ⟨Nat.le_of_ble_eq_true rfl, Nat.le_of_ble_eq_true rfl⟩) xB_t hP hD hK [0, 1] rfl (by decide) (fun _ _ _ => trivial) 0 3 rfl rfl rfl rfl hl.1 rfl (Nat.le_of_ble_eq_true rfl) dX3_setAlone_6) hP hD hS hA [0, 1] [2, 3, 4] [3, 4, 0, 1, 2] rfl rfl rfl ⟨by decide, by decide, by decide⟩ (fun H locs hP hD hS => ?_)
  refine lv_aload_n hx hb dX3_setAlone_9 rfl (lv_at hl 0 rfl) ?_
  refine lv_iload_n hx hb dX3_setAlone_10 rfl (lv_at hl 2 rfl) ?_
  obtain ⟨⟨q3_0, q3_1, q3_2, q3_3⟩, hc3, hr⟩ := x_bind hr
  try dsimp only at hr
  refine x_runv (wr := [(a_knows, .inl (c 0, 4, .inl q2_0))]) (wf := [(a_this, .inr (3, [.int q2_1, .int q3_3, .int q1_2, .int q1_3, .ref a_knows, .ref a_kind, .ref a_on, .ref a_has])), (a_knows, .inl (c 0, 4, .inl q2_0)), (a_kind, .inl (c 0, 5, .inl q3_0)), (a_on, .inl (c 0, 5, .inl q3_1)), (a_has, .inl (c 0, 5, .inl q3_2))]) (x_goV (As := [.int v2]) (rest := []) ⟨hx, hb, hml, hown, hts⟩ (mX3_addLeech l D c a_this a_knows a_kind a_on a_has H.size q2_1 q1_2 q1_3 x_kind x_on x_has q1_1 v2 n _ _ _ _ hc3) (cwV 1 hts gX3_setAlone_X3_addLeech rfl rfl rfl (by decide +kernel) ⟨Nat.le_of_ble_eq_true rfl, Nat.le_of_ble_eq_true rfl⟩) xB_t hP hD hK [0, 2, 3, 4] rfl (by decide) (fun _ _ _ => trivial) 0 3 rfl rfl rfl rfl hl.1 rfl (Nat.le_of_ble_eq_true rfl) dX3_setAlone_11) hP hD hS hA [0, 2, 3, 4] [1] [1, 0, 2, 3, 4] rfl rfl rfl ⟨by decide, by decide, by decide⟩ (fun H locs hP hD hS => ?_)
  refine lv_aload_n hx hb dX3_setAlone_14 rfl (lv_at hl 0 rfl) ?_
  refine va_get (D := D) (ci := 3) (v := .ref a_on) (C := RX3) (T := TX3) (N := 8) hx hb hts inX3_setAlone_X3 hown hK hP 0 rfl rfl 6 (by decide) (hts _ lkX3_setAlone_f18) (fun _ h9 => h9) rfl dX3_setAlone_15 ?_
  refine lv_iconst (v := 0) hx hb dX3_setAlone_18 (by decide) ?_
  refine lv_iconst (v := 0) hx hb dX3_setAlone_19 (by decide) ?_
  refine va_iast hx hb hK hP hD hS 3 0 rfl rfl (by unfold vp_in; decide) dX3_setAlone_20 (fun H locs hP hD hS => ?_)
  have hP : va_P D vwCl [(a_this, .inr (3, [.int q2_1, .int q3_3, .int q1_2, .int q1_3, .ref a_knows, .ref a_kind, .ref a_on, .ref a_has])), (a_knows, .inl (c 0, 4, .inl q2_0)), (a_kind, .inl (c 0, 5, .inl q3_0)), (a_on, .inl (c 0, 5, .inl (upd q3_1 0 0))), (a_has, .inl (c 0, 5, .inl q3_2))] H := hP
  have hD : va_D A [(a_this, .inr (3, [.int q2_1, .int q3_3, .int q1_2, .int q1_3, .ref a_knows, .ref a_kind, .ref a_on, .ref a_has])), (a_knows, .inl (c 0, 4, .inl q2_0)), (a_kind, .inl (c 0, 5, .inl q3_0)), (a_on, .inl (c 0, 5, .inl (upd q3_1 0 0))), (a_has, .inl (c 0, 5, .inl q3_2))] := hD
  have g0 := x_some hr
  have e0 := x_p1 g0
  have g1 := x_p2 g0
  have e1 := x_p1 g1
  have g2 := x_p2 g1
  have e2 := x_p1 g2
  have g3 := x_p2 g2
  have e3 := x_p1 g3
  have g4 := x_p2 g3
  have e4 := x_p1 g4
  have g5 := x_p2 g4
  have e5 := x_p1 g5
  have g6 := x_p2 g5
  have e6 := x_p1 g6
  have e7 := x_p2 g6
  subst e0
  subst e1
  subst e2
  subst e3
  subst e4
  subst e5
  subst e6
  subst e7
  exact x_retv hx hb hret hlocks hP hD hK hS dX3_setAlone_21
set_option maxHeartbeats 4000000 in
set_option maxRecDepth 100000 in
theorem mX3_setAlone (l : Launch) (D : va_G) (c : Nat → ClassId) (a_this : Nat) (a_knows : Nat) (a_kind : Nat) (a_on : Nat) (a_has : Nat) (sz : Nat) (x_members : Int32) (x_leeches : Int32) (x_basin : Int32) (x_minute : Int32) (x_knows : Nat → Int32) (x_kind : Nat → Int32) (x_on : Nat → Int32) (x_has : Nat → Int32) (v1 : Int32) (v2 : Int32) (n : Nat) (rm_members : Int32) (rm_leeches : Int32) (rm_basin : Int32) (rm_minute : Int32) (rm_knows : Nat → Int32) (rm_kind : Nat → Int32) (rm_on : Nat → Int32) (rm_has : Nat → Int32) (h : fX3_setAlone n x_members x_leeches x_basin x_minute x_knows x_kind x_on x_has v1 v2 = some (rm_members, rm_leeches, rm_basin, rm_minute, rm_knows, rm_kind, rm_on, rm_has)) : Met l yX3_setAlone wsX3_setAlone ({ frames := 1, cells := 0, slots := 0, locals := 21 } : Room) (xPc D (xT c) sz [.ref a_this, .int v1, .int v2] (wX3_setAlone c a_this a_knows a_kind a_on a_has x_members x_leeches x_basin x_minute x_knows x_kind x_on x_has) (fun _ => True)) (xQv D (xT c) (va_A (wX3_setAlone c a_this a_knows a_kind a_on a_has x_members x_leeches x_basin x_minute x_knows x_kind x_on x_has) sz) (wX3_setAlone c a_this a_knows a_kind a_on a_has rm_members rm_leeches rm_basin rm_minute rm_knows rm_kind rm_on rm_has)) 0 0 (va_A (wX3_setAlone c a_this a_knows a_kind a_on a_has x_members x_leeches x_basin x_minute x_knows x_kind x_on x_has) sz) := by
  refine Met.ofW (cc := cX3_setAlone) (maxL := 3) (ret := none) (by decide) rfl ?_
  intro p e s m args below meth cd s₁ B hml hv
  obtain ⟨rfl, hsz, hP, hK, hD0, hV⟩ := hv
  subst hsz
  have hl := lv_entry [.ref a_this, .int v1, .int v2] (n := 3) (Nat.le_of_ble_eq_true rfl)
  rw [lg_entry_eq]
  exact kX3_setAlone_0 (A := va_A (wX3_setAlone c a_this a_knows a_kind a_on a_has x_members x_leeches x_basin x_minute x_knows x_kind x_on x_has) s.heap.size) ⟨B.exec, B.bytes, hml, B.returns, findClass_of_methodNamed B.named, atoms_spec (ws := wsX3_setAlone) B.pre, B.notSynchronized, fun q h => Or.inr h, hK⟩ a_this a_knows a_kind a_on a_has n rm_members rm_leeches rm_basin rm_minute rm_knows rm_kind rm_on rm_has x_members x_leeches x_basin x_minute x_knows x_kind x_on x_has v1 v2 h s.heap [] _ hP hD0.self va_S.rf hl

abbrev wX3_hasMember (c : Nat → ClassId) (a_this : Nat) (a_knows : Nat) (a_kind : Nat) (a_on : Nat) (a_has : Nat) (x_leeches : Int32) (x_basin : Int32) (x_minute : Int32) (x_members : Int32) : va_W := [(a_this, .inr (3, [.int x_members, .int x_leeches, .int x_basin, .int x_minute, .ref a_knows, .ref a_kind, .ref a_on, .ref a_has]))]
def GX3_hasMember (p : Program) (l : Launch) (e : Env) (s : State) (m : MethodId) (args : Array Value) (below : List Frame) (meth : Method) (cd : Code) (D : va_G) (c : Nat → ClassId) (A : Nat → Prop) (a_this : Nat) (a_knows : Nat) (a_kind : Nat) (a_on : Nat) (a_has : Nat) (x_leeches : Int32) (x_basin : Int32) (x_minute : Int32) (x_members : Int32) (r_ret : Int32) (pc : Nat) (st : List Value) (loc : List (Nat × Value)) : Prop :=
  ∀ (H : Heap) (locs : List Loc) (ls : Array Slot), va_P D vwCl (wX3_hasMember c a_this a_knows a_kind a_on a_has x_leeches x_basin x_minute x_members) H → va_D A (wX3_hasMember c a_this a_knows a_kind a_on a_has x_leeches x_basin x_minute x_members) → va_S A s.heap H locs → lv_has ls 2 loc → W p l e ({ frames := 0, cells := 0, slots := 0, locals := 0 } : Room) s m args below meth cd H locs 0 0 (MQ below (xQi D (xT c) A r_ret (wX3_hasMember c a_this a_knows a_kind a_on a_has x_leeches x_basin x_minute x_members)) args s 0 0 A) (F0 m pc ls st)
theorem lkX3_hasMember_f24 : Cond.fieldLink RX3 24 "LeechClub$Room" "members" "I" ∈ wsX3_hasMember := by decide +kernel
theorem inX3_hasMember_X3 : ∀ w ∈ wsX30, w ∈ wsX3_hasMember := by decide +kernel
set_option maxHeartbeats 4000000 in
set_option maxRecDepth 100000 in
theorem kX3_hasMember_17 {p : Program} {l : Launch} {e : Env} {s : State} {m : MethodId} {args : Array Value} {below : List Frame} {meth : Method} {cd : Code} {D : va_G} {c : Nat → ClassId} {A : Nat → Prop} (E0 : xE p s m args meth cd D (xT c) A RX3 cX3_hasMember 2 (some .boolean) wsX3_hasMember) (a_this : Nat) (a_knows : Nat) (a_kind : Nat) (a_on : Nat) (a_has : Nat) (x_leeches : Int32) (x_basin : Int32) (x_minute : Int32) (x_members : Int32) (n : Nat) (r_ret : Int32) (t0 : Int32) (hr : fX3_hasMember_17 n x_members t0 = some (r_ret)) : GX3_hasMember p l e s m args below meth cd D c A a_this a_knows a_kind a_on a_has x_leeches x_basin x_minute x_members r_ret 17 [.int t0] [] := by
  have E1 := E0
  obtain ⟨hx, hb, hml, hret, hown, hts, hlocks, hA, hK⟩ := E1
  intro H locs ls hP hD hS hl
  unfold fX3_hasMember_17 at hr
  obtain ⟨hz, hr⟩ := x_need hr
  have e0 := x_some hr
  subst e0
  exact x_retz hx hb hret (x_nz hz) hlocks hP hD hK hS dX3_hasMember_17
set_option maxHeartbeats 4000000 in
set_option maxRecDepth 100000 in
theorem kX3_hasMember_16 {p : Program} {l : Launch} {e : Env} {s : State} {m : MethodId} {args : Array Value} {below : List Frame} {meth : Method} {cd : Code} {D : va_G} {c : Nat → ClassId} {A : Nat → Prop} (E0 : xE p s m args meth cd D (xT c) A RX3 cX3_hasMember 2 (some .boolean) wsX3_hasMember) (a_this : Nat) (a_knows : Nat) (a_kind : Nat) (a_on : Nat) (a_has : Nat) (x_leeches : Int32) (x_basin : Int32) (x_minute : Int32) (x_members : Int32) (n : Nat) (r_ret : Int32) (hr : fX3_hasMember_16 n x_members = some (r_ret)) : GX3_hasMember p l e s m args below meth cd D c A a_this a_knows a_kind a_on a_has x_leeches x_basin x_minute x_members r_ret 16 [] [] := by
  have E1 := E0
  obtain ⟨hx, hb, hml, hret, hown, hts, hlocks, hA, hK⟩ := E1
  intro H locs ls hP hD hS hl
  unfold fX3_hasMember_16 at hr
  refine lv_iconst (v := 0) hx hb dX3_hasMember_16 (by decide) ?_
  exact kX3_hasMember_17 E0 a_this a_knows a_kind a_on a_has x_leeches x_basin x_minute x_members n r_ret 0 hr H locs ls hP hD hS (lv_sub hl [] rfl)
set_option maxHeartbeats 4000000 in
set_option maxRecDepth 100000 in
theorem kX3_hasMember_0 {p : Program} {l : Launch} {e : Env} {s : State} {m : MethodId} {args : Array Value} {below : List Frame} {meth : Method} {cd : Code} {D : va_G} {c : Nat → ClassId} {A : Nat → Prop} (E0 : xE p s m args meth cd D (xT c) A RX3 cX3_hasMember 2 (some .boolean) wsX3_hasMember) (a_this : Nat) (a_knows : Nat) (a_kind : Nat) (a_on : Nat) (a_has : Nat) (x_leeches : Int32) (x_basin : Int32) (x_minute : Int32) (x_members : Int32) (n : Nat) (r_ret : Int32) (v1 : Int32) (hr : fX3_hasMember n x_members v1 = some (r_ret)) : GX3_hasMember p l e s m args below meth cd D c A a_this a_knows a_kind a_on a_has x_leeches x_basin x_minute x_members r_ret 0 [] [(0, .ref a_this), (1, .int v1)] := by
  have E1 := E0
  obtain ⟨hx, hb, hml, hret, hown, hts, hlocks, hA, hK⟩ := E1
  intro H locs ls hP hD hS hl
  unfold fX3_hasMember at hr
  refine lv_iload_n hx hb dX3_hasMember_0 rfl (lv_at hl 1 rfl) ?_
  refine lv_if_lt (tgt := 16) hx hb dX3_hasMember_1 (by decide) (fun c_1 => ?_) (fun c_1 => ?_)
  · have hr := x_ift hr c_1
    exact kX3_hasMember_16 E0 a_this a_knows a_kind a_on a_has x_leeches x_basin x_minute x_members n r_ret hr H locs ls hP hD hS (lv_sub hl [] rfl)
  · have hr := x_iff hr c_1
    refine lv_iload_n hx hb dX3_hasMember_4 rfl (lv_at hl 1 rfl) ?_
    refine lv_aload_n hx hb dX3_hasMember_5 rfl (lv_at hl 0 rfl) ?_
    refine va_get (D := D) (ci := 3) (v := .int x_members) (C := RX3) (T := TX3) (N := 8) hx hb hts inX3_hasMember_X3 hown hK hP 0 rfl rfl 0 (by decide) (hts _ lkX3_hasMember_f24) (fun _ h9 => h9) rfl dX3_hasMember_6 ?_
    refine lv_icmp_ge (tgt := 16) hx hb dX3_hasMember_9 (by decide) (fun c_2 => ?_) (fun c_2 => ?_)
    · have hr := x_ift hr c_2
      exact kX3_hasMember_16 E0 a_this a_knows a_kind a_on a_has x_leeches x_basin x_minute x_members n r_ret hr H locs ls hP hD hS (lv_sub hl [] rfl)
    · have hr := x_iff hr c_2
      refine lv_iconst (v := 1) hx hb dX3_hasMember_12 (by decide) ?_
      refine lv_goto (tgt := 17) hx hb dX3_hasMember_13 (by decide) ?_
      exact kX3_hasMember_17 E0 a_this a_knows a_kind a_on a_has x_leeches x_basin x_minute x_members n r_ret 1 hr H locs ls hP hD hS (lv_sub hl [] rfl)
set_option maxHeartbeats 4000000 in
set_option maxRecDepth 100000 in
theorem mX3_hasMember (l : Launch) (D : va_G) (c : Nat → ClassId) (a_this : Nat) (a_knows : Nat) (a_kind : Nat) (a_on : Nat) (a_has : Nat) (sz : Nat) (x_leeches : Int32) (x_basin : Int32) (x_minute : Int32) (x_members : Int32) (v1 : Int32) (n : Nat) (r_ret : Int32) (h : fX3_hasMember n x_members v1 = some (r_ret)) : Met l yX3_hasMember wsX3_hasMember ({ frames := 0, cells := 0, slots := 0, locals := 0 } : Room) (xPc D (xT c) sz [.ref a_this, .int v1] (wX3_hasMember c a_this a_knows a_kind a_on a_has x_leeches x_basin x_minute x_members) (fun _ => True)) (xQi D (xT c) (va_A (wX3_hasMember c a_this a_knows a_kind a_on a_has x_leeches x_basin x_minute x_members) sz) r_ret (wX3_hasMember c a_this a_knows a_kind a_on a_has x_leeches x_basin x_minute x_members)) 0 0 (va_A (wX3_hasMember c a_this a_knows a_kind a_on a_has x_leeches x_basin x_minute x_members) sz) := by
  refine Met.ofW (cc := cX3_hasMember) (maxL := 2) (ret := (some .boolean)) (by decide) rfl ?_
  intro p e s m args below meth cd s₁ B hml hv
  obtain ⟨rfl, hsz, hP, hK, hD0, hV⟩ := hv
  subst hsz
  have hl := lv_entry [.ref a_this, .int v1] (n := 2) (Nat.le_of_ble_eq_true rfl)
  rw [lg_entry_eq]
  exact kX3_hasMember_0 (A := va_A (wX3_hasMember c a_this a_knows a_kind a_on a_has x_leeches x_basin x_minute x_members) s.heap.size) ⟨B.exec, B.bytes, hml, B.returns, findClass_of_methodNamed B.named, atoms_spec (ws := wsX3_hasMember) B.pre, B.notSynchronized, fun q h => Or.inr h, hK⟩ a_this a_knows a_kind a_on a_has x_leeches x_basin x_minute x_members n r_ret v1 h s.heap [] _ hP hD0.self va_S.rf hl

abbrev wX3_hasLeech (c : Nat → ClassId) (a_this : Nat) (a_knows : Nat) (a_kind : Nat) (a_on : Nat) (a_has : Nat) (x_members : Int32) (x_basin : Int32) (x_minute : Int32) (x_leeches : Int32) : va_W := [(a_this, .inr (3, [.int x_members, .int x_leeches, .int x_basin, .int x_minute, .ref a_knows, .ref a_kind, .ref a_on, .ref a_has]))]
def GX3_hasLeech (p : Program) (l : Launch) (e : Env) (s : State) (m : MethodId) (args : Array Value) (below : List Frame) (meth : Method) (cd : Code) (D : va_G) (c : Nat → ClassId) (A : Nat → Prop) (a_this : Nat) (a_knows : Nat) (a_kind : Nat) (a_on : Nat) (a_has : Nat) (x_members : Int32) (x_basin : Int32) (x_minute : Int32) (x_leeches : Int32) (r_ret : Int32) (pc : Nat) (st : List Value) (loc : List (Nat × Value)) : Prop :=
  ∀ (H : Heap) (locs : List Loc) (ls : Array Slot), va_P D vwCl (wX3_hasLeech c a_this a_knows a_kind a_on a_has x_members x_basin x_minute x_leeches) H → va_D A (wX3_hasLeech c a_this a_knows a_kind a_on a_has x_members x_basin x_minute x_leeches) → va_S A s.heap H locs → lv_has ls 2 loc → W p l e ({ frames := 0, cells := 0, slots := 0, locals := 0 } : Room) s m args below meth cd H locs 0 0 (MQ below (xQi D (xT c) A r_ret (wX3_hasLeech c a_this a_knows a_kind a_on a_has x_members x_basin x_minute x_leeches)) args s 0 0 A) (F0 m pc ls st)
theorem lkX3_hasLeech_f28 : Cond.fieldLink RX3 28 "LeechClub$Room" "leeches" "I" ∈ wsX3_hasLeech := by decide +kernel
theorem inX3_hasLeech_X3 : ∀ w ∈ wsX30, w ∈ wsX3_hasLeech := by decide +kernel
set_option maxHeartbeats 4000000 in
set_option maxRecDepth 100000 in
theorem kX3_hasLeech_17 {p : Program} {l : Launch} {e : Env} {s : State} {m : MethodId} {args : Array Value} {below : List Frame} {meth : Method} {cd : Code} {D : va_G} {c : Nat → ClassId} {A : Nat → Prop} (E0 : xE p s m args meth cd D (xT c) A RX3 cX3_hasLeech 2 (some .boolean) wsX3_hasLeech) (a_this : Nat) (a_knows : Nat) (a_kind : Nat) (a_on : Nat) (a_has : Nat) (x_members : Int32) (x_basin : Int32) (x_minute : Int32) (x_leeches : Int32) (n : Nat) (r_ret : Int32) (t0 : Int32) (hr : fX3_hasLeech_17 n x_leeches t0 = some (r_ret)) : GX3_hasLeech p l e s m args below meth cd D c A a_this a_knows a_kind a_on a_has x_members x_basin x_minute x_leeches r_ret 17 [.int t0] [] := by
  have E1 := E0
  obtain ⟨hx, hb, hml, hret, hown, hts, hlocks, hA, hK⟩ := E1
  intro H locs ls hP hD hS hl
  unfold fX3_hasLeech_17 at hr
  obtain ⟨hz, hr⟩ := x_need hr
  have e0 := x_some hr
  subst e0
  exact x_retz hx hb hret (x_nz hz) hlocks hP hD hK hS dX3_hasLeech_17
set_option maxHeartbeats 4000000 in
set_option maxRecDepth 100000 in
theorem kX3_hasLeech_16 {p : Program} {l : Launch} {e : Env} {s : State} {m : MethodId} {args : Array Value} {below : List Frame} {meth : Method} {cd : Code} {D : va_G} {c : Nat → ClassId} {A : Nat → Prop} (E0 : xE p s m args meth cd D (xT c) A RX3 cX3_hasLeech 2 (some .boolean) wsX3_hasLeech) (a_this : Nat) (a_knows : Nat) (a_kind : Nat) (a_on : Nat) (a_has : Nat) (x_members : Int32) (x_basin : Int32) (x_minute : Int32) (x_leeches : Int32) (n : Nat) (r_ret : Int32) (hr : fX3_hasLeech_16 n x_leeches = some (r_ret)) : GX3_hasLeech p l e s m args below meth cd D c A a_this a_knows a_kind a_on a_has x_members x_basin x_minute x_leeches r_ret 16 [] [] := by
  have E1 := E0
  obtain ⟨hx, hb, hml, hret, hown, hts, hlocks, hA, hK⟩ := E1
  intro H locs ls hP hD hS hl
  unfold fX3_hasLeech_16 at hr
  refine lv_iconst (v := 0) hx hb dX3_hasLeech_16 (by decide) ?_
  exact kX3_hasLeech_17 E0 a_this a_knows a_kind a_on a_has x_members x_basin x_minute x_leeches n r_ret 0 hr H locs ls hP hD hS (lv_sub hl [] rfl)
set_option maxHeartbeats 4000000 in
set_option maxRecDepth 100000 in
theorem kX3_hasLeech_0 {p : Program} {l : Launch} {e : Env} {s : State} {m : MethodId} {args : Array Value} {below : List Frame} {meth : Method} {cd : Code} {D : va_G} {c : Nat → ClassId} {A : Nat → Prop} (E0 : xE p s m args meth cd D (xT c) A RX3 cX3_hasLeech 2 (some .boolean) wsX3_hasLeech) (a_this : Nat) (a_knows : Nat) (a_kind : Nat) (a_on : Nat) (a_has : Nat) (x_members : Int32) (x_basin : Int32) (x_minute : Int32) (x_leeches : Int32) (n : Nat) (r_ret : Int32) (v1 : Int32) (hr : fX3_hasLeech n x_leeches v1 = some (r_ret)) : GX3_hasLeech p l e s m args below meth cd D c A a_this a_knows a_kind a_on a_has x_members x_basin x_minute x_leeches r_ret 0 [] [(0, .ref a_this), (1, .int v1)] := by
  have E1 := E0
  obtain ⟨hx, hb, hml, hret, hown, hts, hlocks, hA, hK⟩ := E1
  intro H locs ls hP hD hS hl
  unfold fX3_hasLeech at hr
  refine lv_iload_n hx hb dX3_hasLeech_0 rfl (lv_at hl 1 rfl) ?_
  refine lv_if_lt (tgt := 16) hx hb dX3_hasLeech_1 (by decide) (fun c_1 => ?_) (fun c_1 => ?_)
  · have hr := x_ift hr c_1
    exact kX3_hasLeech_16 E0 a_this a_knows a_kind a_on a_has x_members x_basin x_minute x_leeches n r_ret hr H locs ls hP hD hS (lv_sub hl [] rfl)
  · have hr := x_iff hr c_1
    refine lv_iload_n hx hb dX3_hasLeech_4 rfl (lv_at hl 1 rfl) ?_
    refine lv_aload_n hx hb dX3_hasLeech_5 rfl (lv_at hl 0 rfl) ?_
    refine va_get (D := D) (ci := 3) (v := .int x_leeches) (C := RX3) (T := TX3) (N := 8) hx hb hts inX3_hasLeech_X3 hown hK hP 0 rfl rfl 1 (by decide) (hts _ lkX3_hasLeech_f28) (fun _ h9 => h9) rfl dX3_hasLeech_6 ?_
    refine lv_icmp_ge (tgt := 16) hx hb dX3_hasLeech_9 (by decide) (fun c_2 => ?_) (fun c_2 => ?_)
    · have hr := x_ift hr c_2
      exact kX3_hasLeech_16 E0 a_this a_knows a_kind a_on a_has x_members x_basin x_minute x_leeches n r_ret hr H locs ls hP hD hS (lv_sub hl [] rfl)
    · have hr := x_iff hr c_2
      refine lv_iconst (v := 1) hx hb dX3_hasLeech_12 (by decide) ?_
      refine lv_goto (tgt := 17) hx hb dX3_hasLeech_13 (by decide) ?_
      exact kX3_hasLeech_17 E0 a_this a_knows a_kind a_on a_has x_members x_basin x_minute x_leeches n r_ret 1 hr H locs ls hP hD hS (lv_sub hl [] rfl)
set_option maxHeartbeats 4000000 in
set_option maxRecDepth 100000 in
theorem mX3_hasLeech (l : Launch) (D : va_G) (c : Nat → ClassId) (a_this : Nat) (a_knows : Nat) (a_kind : Nat) (a_on : Nat) (a_has : Nat) (sz : Nat) (x_members : Int32) (x_basin : Int32) (x_minute : Int32) (x_leeches : Int32) (v1 : Int32) (n : Nat) (r_ret : Int32) (h : fX3_hasLeech n x_leeches v1 = some (r_ret)) : Met l yX3_hasLeech wsX3_hasLeech ({ frames := 0, cells := 0, slots := 0, locals := 0 } : Room) (xPc D (xT c) sz [.ref a_this, .int v1] (wX3_hasLeech c a_this a_knows a_kind a_on a_has x_members x_basin x_minute x_leeches) (fun _ => True)) (xQi D (xT c) (va_A (wX3_hasLeech c a_this a_knows a_kind a_on a_has x_members x_basin x_minute x_leeches) sz) r_ret (wX3_hasLeech c a_this a_knows a_kind a_on a_has x_members x_basin x_minute x_leeches)) 0 0 (va_A (wX3_hasLeech c a_this a_knows a_kind a_on a_has x_members x_basin x_minute x_leeches) sz) := by
  refine Met.ofW (cc := cX3_hasLeech) (maxL := 2) (ret := (some .boolean)) (by decide) rfl ?_
  intro p e s m args below meth cd s₁ B hml hv
  obtain ⟨rfl, hsz, hP, hK, hD0, hV⟩ := hv
  subst hsz
  have hl := lv_entry [.ref a_this, .int v1] (n := 2) (Nat.le_of_ble_eq_true rfl)
  rw [lg_entry_eq]
  exact kX3_hasLeech_0 (A := va_A (wX3_hasLeech c a_this a_knows a_kind a_on a_has x_members x_basin x_minute x_leeches) s.heap.size) ⟨B.exec, B.bytes, hml, B.returns, findClass_of_methodNamed B.named, atoms_spec (ws := wsX3_hasLeech) B.pre, B.notSynchronized, fun q h => Or.inr h, hK⟩ a_this a_knows a_kind a_on a_has x_members x_basin x_minute x_leeches n r_ret v1 h s.heap [] _ hP hD0.self va_S.rf hl

abbrev wX3_putAll (c : Nat → ClassId) (a_this : Nat) (a_knows : Nat) (a_kind : Nat) (a_on : Nat) (a_has : Nat) (ev : Nat → Nat) (x_members : Int32) (x_basin : Int32) (x_minute : Int32) (x_leeches : Int32) (x_on : Nat → Int32) : va_W := [(a_this, .inr (3, [.int x_members, .int x_leeches, .int x_basin, .int x_minute, .ref a_knows, .ref a_kind, .ref a_on, .ref a_has])), (a_on, .inl (c 0, 5, .inl x_on))]
def GX3_putAll (p : Program) (l : Launch) (e : Env) (s : State) (m : MethodId) (args : Array Value) (below : List Frame) (meth : Method) (cd : Code) (D : va_G) (c : Nat → ClassId) (A : Nat → Prop) (a_this : Nat) (a_knows : Nat) (a_kind : Nat) (a_on : Nat) (a_has : Nat) (ev : Nat → Nat) (x_members : Int32) (x_basin : Int32) (x_minute : Int32) (x_leeches : Int32) (rm_on : Nat → Int32) (pc : Nat) (st : List Value) (loc : List (Nat × Value)) (x_on : Nat → Int32) : Prop :=
  ∀ (H : Heap) (locs : List Loc) (ls : Array Slot), va_P D vwCl (wX3_putAll c a_this a_knows a_kind a_on a_has ev x_members x_basin x_minute x_leeches x_on) H → va_D A (wX3_putAll c a_this a_knows a_kind a_on a_has ev x_members x_basin x_minute x_leeches x_on) → va_S A s.heap H locs → lv_has ls 4 loc → W p l e ({ frames := 1, cells := 0, slots := 0, locals := 21 } : Room) s m args below meth cd H locs 0 0 (MQ below (xQv D (xT c) A (wX3_putAll c a_this a_knows a_kind a_on a_has ev x_members x_basin x_minute x_leeches rm_on)) args s 0 0 A) (F0 m pc ls st)
theorem lkX3_putAll_f18 : Cond.fieldLink RX3 18 "LeechClub$Room" "on" "[I" ∈ wsX3_putAll := by decide +kernel
theorem lkX3_putAll_f28 : Cond.fieldLink RX3 28 "LeechClub$Room" "leeches" "I" ∈ wsX3_putAll := by decide +kernel
theorem lkX3_putAll_iRX7 : Cond.initialized RX7 ∈ wsX3_putAll := by decide +kernel
theorem lkX3_putAll_sX7_hasBit : Cond.static yX7_hasBit ∈ wsX3_putAll := by decide +kernel
theorem inX3_putAll_X3 : ∀ w ∈ wsX30, w ∈ wsX3_putAll := by decide +kernel
set_option maxHeartbeats 4000000 in
set_option maxRecDepth 100000 in
theorem kX3_putAll_25 {p : Program} {l : Launch} {e : Env} {s : State} {m : MethodId} {args : Array Value} {below : List Frame} {meth : Method} {cd : Code} {D : va_G} {c : Nat → ClassId} {A : Nat → Prop} (E0 : xE p s m args meth cd D (xT c) A RX3 cX3_putAll 4 none wsX3_putAll) (a_this : Nat) (a_knows : Nat) (a_kind : Nat) (a_on : Nat) (a_has : Nat) (ev : Nat → Nat) (x_members : Int32) (x_basin : Int32) (x_minute : Int32) (x_leeches : Int32) (n : Nat) (rm_on : Nat → Int32) (hV : xV ev A s) (r_2 : (Nat → Int32) → Int32 → Int32 → Int32 → Option ((Nat → Int32))) (h_2 : ∀ (x_on : Nat → Int32) (v1 : Int32) (v2 : Int32) (v3 : Int32), r_2 x_on v1 v2 v3 = some (rm_on) → GX3_putAll p l e s m args below meth cd D c A a_this a_knows a_kind a_on a_has ev x_members x_basin x_minute x_leeches rm_on 2 [] [(0, .ref a_this), (1, .int v1), (2, .int v2), (3, .int v3)] x_on) (x_on : Nat → Int32) (v1 : Int32) (v2 : Int32) (v3 : Int32) (hr : fX3_putAll_25 n r_2 x_leeches x_on v1 v2 v3 = some (rm_on)) : GX3_putAll p l e s m args below meth cd D c A a_this a_knows a_kind a_on a_has ev x_members x_basin x_minute x_leeches rm_on 25 [] [(0, .ref a_this), (1, .int v1), (2, .int v2), (3, .int v3)] x_on := by
  have E1 := E0
  obtain ⟨hx, hb, hml, hret, hown, hts, hlocks, hA, hK⟩ := E1
  have hVV := hV
  obtain ⟨hn_RX7_9, hn_RX6_17, hn_RX6_24, hn_RX7_18, hn_RX7_25, hn_RX7_45, hn_RX7_52, hn_RX7_65, hn_RX7_70, hn_RX0_31, hn_RX3_53, hn_RX2_57, hn_RX3_65, hn_RX3_86, hz_TAKES, ht_TAKES, hz_HAS_ROOM, ht_HAS_ROOM, hz_SUCH, ht_SUCH, hz_FIRST_FIGURE, ht_FIRST_FIGURE, hz_compact, hz_sioobe, ho_Room, ho_Slate, ho_grid, hstr, hs_0, hs_1, hs_2, hs_3, hs_4, hs_5, hs_6, hs_7, hs_8⟩ := hVV
  intro H locs ls hP hD hS hl
  unfold fX3_putAll_25 at hr
  refine lv_iinc (v := v3 + 1) (lv' := [(3, .int (v3 + 1)), (0, .ref a_this), (1, .int v1), (2, .int v2)]) hx hb dX3_putAll_25 hl (k := 3) rfl rfl (by decide) rfl (fun ls hl => ?_)
  refine lv_goto (tgt := 2) hx hb dX3_putAll_28 (by decide) ?_
  exact h_2 x_on v1 v2 (v3 + 1) hr H locs ls hP hD hS (lv_sub hl [1, 2, 3, 0] rfl)
set_option maxHeartbeats 4000000 in
set_option maxRecDepth 100000 in
theorem kX3_putAll_2 {p : Program} {l : Launch} {e : Env} {s : State} {m : MethodId} {args : Array Value} {below : List Frame} {meth : Method} {cd : Code} {D : va_G} {c : Nat → ClassId} {A : Nat → Prop} (E0 : xE p s m args meth cd D (xT c) A RX3 cX3_putAll 4 none wsX3_putAll) (a_this : Nat) (a_knows : Nat) (a_kind : Nat) (a_on : Nat) (a_has : Nat) (ev : Nat → Nat) (x_members : Int32) (x_basin : Int32) (x_minute : Int32) (x_leeches : Int32) (n : Nat) (rm_on : Nat → Int32) (hV : xV ev A s) : ∀ (k : Nat) (x_on : Nat → Int32) (v1 : Int32) (v2 : Int32) (v3 : Int32), fX3_putAll_2 n x_leeches k x_on v1 v2 v3 = some (rm_on) → GX3_putAll p l e s m args below meth cd D c A a_this a_knows a_kind a_on a_has ev x_members x_basin x_minute x_leeches rm_on 2 [] [(0, .ref a_this), (1, .int v1), (2, .int v2), (3, .int v3)] x_on := by
  have E1 := E0
  obtain ⟨hx, hb, hml, hret, hown, hts, hlocks, hA, hK⟩ := E1
  have hVV := hV
  obtain ⟨hn_RX7_9, hn_RX6_17, hn_RX6_24, hn_RX7_18, hn_RX7_25, hn_RX7_45, hn_RX7_52, hn_RX7_65, hn_RX7_70, hn_RX0_31, hn_RX3_53, hn_RX2_57, hn_RX3_65, hn_RX3_86, hz_TAKES, ht_TAKES, hz_HAS_ROOM, ht_HAS_ROOM, hz_SUCH, ht_SUCH, hz_FIRST_FIGURE, ht_FIRST_FIGURE, hz_compact, hz_sioobe, ho_Room, ho_Slate, ho_grid, hstr, hs_0, hs_1, hs_2, hs_3, hs_4, hs_5, hs_6, hs_7, hs_8⟩ := hVV
  intro k
  induction k with
  | zero => intro x_on v1 v2 v3 hr; cases hr
  | succ k h_2 =>
    intro x_on v1 v2 v3 hr H locs ls hP hD hS hl
    unfold fX3_putAll_2 at hr
    refine lv_iload_n hx hb dX3_putAll_2 rfl (lv_at hl 3 rfl) ?_
    refine lv_aload_n hx hb dX3_putAll_3 rfl (lv_at hl 0 rfl) ?_
    refine va_get (D := D) (ci := 3) (v := .int x_leeches) (C := RX3) (T := TX3) (N := 8) hx hb hts inX3_putAll_X3 hown hK hP 0 rfl rfl 1 (by decide) (hts _ lkX3_putAll_f28) (fun _ h9 => h9) rfl dX3_putAll_4 ?_
    refine lv_icmp_ge (tgt := 31) hx hb dX3_putAll_7 (by decide) (fun c_1 => ?_) (fun c_1 => ?_)
    · have hr := x_ift hr c_1
      have e0 := x_some hr
      subst e0
      exact x_retv hx hb hret hlocks hP hD hK hS dX3_putAll_31
    · have hr := x_iff hr c_1
      refine lv_iload_n hx hb dX3_putAll_10 rfl (lv_at hl 1 rfl) ?_
      refine lv_iload_n hx hb dX3_putAll_11 rfl (lv_at hl 3 rfl) ?_
      obtain ⟨q2_0, hc2, hr⟩ := x_bind hr
      refine x_runi (wr := [(a_this, .inr (3, [.int x_members, .int x_leeches, .int x_basin, .int x_minute, .ref a_knows, .ref a_kind, .ref a_on, .ref a_has])), (a_on, .inl (c 0, 5, .inl x_on))]) (wf := [(a_this, .inr (3, [.int x_members, .int x_leeches, .int x_basin, .int x_minute, .ref a_knows, .ref a_kind, .ref a_on, .ref a_has])), (a_on, .inl (c 0, 5, .inl x_on))]) (x_goSN (As := [.int v1, .int v3]) (rest := []) ⟨hx, hb, hml, hown, hts⟩ (mX7_hasBit l D c H.size v1 v3 n _ hc2) ⟨va_cnB 2 hts gX3_putAll_X7_hasBit_n53 rfl rfl rfl hn_RX3_53 (hts _ lkX3_putAll_iRX7) (by decide +kernel) ⟨Nat.le_of_ble_eq_true rfl, Nat.le_of_ble_eq_true rfl⟩, hts _ lkX3_putAll_sX7_hasBit, trivial⟩ xB_t hP hD hK [] rfl (by decide) (fun _ _ _ => trivial) rfl hl.1 rfl (Nat.le_of_ble_eq_true rfl) dX3_putAll_12) hP hD hS hA [] [0, 1] [0, 1] rfl rfl rfl ⟨by decide, by decide, by decide⟩ (fun H locs hP hD hS => ?_)
      refine lv_if_eq (tgt := 25) hx hb dX3_putAll_15 (by decide) (fun c_3 => ?_) (fun c_3 => ?_)
      · have hr := x_ift hr c_3
        exact kX3_putAll_25 E0 a_this a_knows a_kind a_on a_has ev x_members x_basin x_minute x_leeches n rm_on hV (fX3_putAll_2 n x_leeches k) h_2 x_on v1 v2 v3 hr H locs ls hP hD hS (lv_sub hl [0, 1, 2, 3] rfl)
      · have hr := x_iff hr c_3
        refine lv_aload_n hx hb dX3_putAll_18 rfl (lv_at hl 0 rfl) ?_
        refine va_get (D := D) (ci := 3) (v := .ref a_on) (C := RX3) (T := TX3) (N := 8) hx hb hts inX3_putAll_X3 hown hK hP 0 rfl rfl 6 (by decide) (hts _ lkX3_putAll_f18) (fun _ h9 => h9) rfl dX3_putAll_19 ?_
        refine lv_iload_n hx hb dX3_putAll_22 rfl (lv_at hl 3 rfl) ?_
        refine lv_iload_n hx hb dX3_putAll_23 rfl (lv_at hl 2 rfl) ?_
        obtain ⟨b_4, hr⟩ := x_chk hr
        refine va_iast hx hb hK hP hD hS 1 0 rfl rfl b_4 dX3_putAll_24 (fun H locs hP hD hS => ?_)
        have hP : va_P D vwCl [(a_this, .inr (3, [.int x_members, .int x_leeches, .int x_basin, .int x_minute, .ref a_knows, .ref a_kind, .ref a_on, .ref a_has])), (a_on, .inl (c 0, 5, .inl (upd x_on v3.toNatClampNeg v2)))] H := hP
        have hD : va_D A [(a_this, .inr (3, [.int x_members, .int x_leeches, .int x_basin, .int x_minute, .ref a_knows, .ref a_kind, .ref a_on, .ref a_has])), (a_on, .inl (c 0, 5, .inl (upd x_on v3.toNatClampNeg v2)))] := hD
        exact kX3_putAll_25 E0 a_this a_knows a_kind a_on a_has ev x_members x_basin x_minute x_leeches n rm_on hV (fX3_putAll_2 n x_leeches k) h_2 (upd x_on v3.toNatClampNeg v2) v1 v2 v3 hr H locs ls hP hD hS (lv_sub hl [0, 1, 2, 3] rfl)
set_option maxHeartbeats 4000000 in
set_option maxRecDepth 100000 in
theorem kX3_putAll_0 {p : Program} {l : Launch} {e : Env} {s : State} {m : MethodId} {args : Array Value} {below : List Frame} {meth : Method} {cd : Code} {D : va_G} {c : Nat → ClassId} {A : Nat → Prop} (E0 : xE p s m args meth cd D (xT c) A RX3 cX3_putAll 4 none wsX3_putAll) (a_this : Nat) (a_knows : Nat) (a_kind : Nat) (a_on : Nat) (a_has : Nat) (ev : Nat → Nat) (x_members : Int32) (x_basin : Int32) (x_minute : Int32) (x_leeches : Int32) (n : Nat) (rm_on : Nat → Int32) (hV : xV ev A s) (x_on : Nat → Int32) (v1 : Int32) (v2 : Int32) (hr : fX3_putAll n x_leeches x_on v1 v2 = some (rm_on)) : GX3_putAll p l e s m args below meth cd D c A a_this a_knows a_kind a_on a_has ev x_members x_basin x_minute x_leeches rm_on 0 [] [(0, .ref a_this), (1, .int v1), (2, .int v2)] x_on := by
  have E1 := E0
  obtain ⟨hx, hb, hml, hret, hown, hts, hlocks, hA, hK⟩ := E1
  have hVV := hV
  obtain ⟨hn_RX7_9, hn_RX6_17, hn_RX6_24, hn_RX7_18, hn_RX7_25, hn_RX7_45, hn_RX7_52, hn_RX7_65, hn_RX7_70, hn_RX0_31, hn_RX3_53, hn_RX2_57, hn_RX3_65, hn_RX3_86, hz_TAKES, ht_TAKES, hz_HAS_ROOM, ht_HAS_ROOM, hz_SUCH, ht_SUCH, hz_FIRST_FIGURE, ht_FIRST_FIGURE, hz_compact, hz_sioobe, ho_Room, ho_Slate, ho_grid, hstr, hs_0, hs_1, hs_2, hs_3, hs_4, hs_5, hs_6, hs_7, hs_8⟩ := hVV
  intro H locs ls hP hD hS hl
  unfold fX3_putAll at hr
  refine lv_iconst (v := 0) hx hb dX3_putAll_0 (by decide) ?_
  refine lv_istore_n (lv' := [(3, .int 0), (0, .ref a_this), (1, .int v1), (2, .int v2)]) hx hb dX3_putAll_1 rfl hl (by decide) rfl (fun ls hl => ?_)
  exact kX3_putAll_2 E0 a_this a_knows a_kind a_on a_has ev x_members x_basin x_minute x_leeches n rm_on hV n x_on v1 v2 0 hr H locs ls hP hD hS (lv_sub hl [1, 2, 3, 0] rfl)
set_option maxHeartbeats 4000000 in
set_option maxRecDepth 100000 in
theorem mX3_putAll (l : Launch) (D : va_G) (c : Nat → ClassId) (a_this : Nat) (a_knows : Nat) (a_kind : Nat) (a_on : Nat) (a_has : Nat) (ev : Nat → Nat) (sz : Nat) (x_members : Int32) (x_basin : Int32) (x_minute : Int32) (x_leeches : Int32) (x_on : Nat → Int32) (v1 : Int32) (v2 : Int32) (n : Nat) (rm_on : Nat → Int32) (h : fX3_putAll n x_leeches x_on v1 v2 = some (rm_on)) : Met l yX3_putAll wsX3_putAll ({ frames := 1, cells := 0, slots := 0, locals := 21 } : Room) (xPc D (xT c) sz [.ref a_this, .int v1, .int v2] (wX3_putAll c a_this a_knows a_kind a_on a_has ev x_members x_basin x_minute x_leeches x_on) (xV ev (va_A (wX3_putAll c a_this a_knows a_kind a_on a_has ev x_members x_basin x_minute x_leeches x_on) sz))) (xQv D (xT c) (va_A (wX3_putAll c a_this a_knows a_kind a_on a_has ev x_members x_basin x_minute x_leeches x_on) sz) (wX3_putAll c a_this a_knows a_kind a_on a_has ev x_members x_basin x_minute x_leeches rm_on)) 0 0 (va_A (wX3_putAll c a_this a_knows a_kind a_on a_has ev x_members x_basin x_minute x_leeches x_on) sz) := by
  refine Met.ofW (cc := cX3_putAll) (maxL := 4) (ret := none) (by decide) rfl ?_
  intro p e s m args below meth cd s₁ B hml hv
  obtain ⟨rfl, hsz, hP, hK, hD0, hV⟩ := hv
  subst hsz
  have hl := lv_entry [.ref a_this, .int v1, .int v2] (n := 4) (Nat.le_of_ble_eq_true rfl)
  rw [lg_entry_eq]
  exact kX3_putAll_0 (A := va_A (wX3_putAll c a_this a_knows a_kind a_on a_has ev x_members x_basin x_minute x_leeches x_on) s.heap.size) ⟨B.exec, B.bytes, hml, B.returns, findClass_of_methodNamed B.named, atoms_spec (ws := wsX3_putAll) B.pre, B.notSynchronized, fun q h => Or.inr h, hK⟩ a_this a_knows a_kind a_on a_has ev x_members x_basin x_minute x_leeches n rm_on hV x_on v1 v2 h s.heap [] _ hP hD0.self va_S.rf hl

