abbrev wX4_add (c : Nat → ClassId) (a_this : Nat) (a_member : Nat) (a_minutes : Nat) (a_fact : Nat) (a_knew : Nat) (x_member : Nat → Int32) (x_minutes : Nat → Int32) (x_fact : Nat → Int32) (x_knew : Nat → Int32) (x_size : Int32) : va_W := [(a_this, .inr (4, [.int x_size, .ref a_member, .ref a_minutes, .ref a_fact, .ref a_knew])), (a_member, .inl (c 0, 6, .inl x_member)), (a_minutes, .inl (c 0, 6, .inl x_minutes)), (a_fact, .inl (c 0, 6, .inl x_fact)), (a_knew, .inl (c 0, 6, .inl x_knew))]
def GX4_add (p : Program) (l : Launch) (e : Env) (s : State) (m : MethodId) (args : Array Value) (below : List Frame) (meth : Method) (cd : Code) (D : va_G) (c : Nat → ClassId) (A : Nat → Prop) (a_this : Nat) (a_member : Nat) (a_minutes : Nat) (a_fact : Nat) (a_knew : Nat) (rm_member : Nat → Int32) (rm_minutes : Nat → Int32) (rm_fact : Nat → Int32) (rm_knew : Nat → Int32) (rm_size : Int32) (pc : Nat) (st : List Value) (loc : List (Nat × Value)) (x_member : Nat → Int32) (x_minutes : Nat → Int32) (x_fact : Nat → Int32) (x_knew : Nat → Int32) (x_size : Int32) : Prop :=
  ∀ (H : Heap) (locs : List Loc) (ls : Array Slot), va_P D vwCl (wX4_add c a_this a_member a_minutes a_fact a_knew x_member x_minutes x_fact x_knew x_size) H → va_D A (wX4_add c a_this a_member a_minutes a_fact a_knew x_member x_minutes x_fact x_knew x_size) → va_S A s.heap H locs → lv_has ls 5 loc → W p l e ({ frames := 0, cells := 0, slots := 0, locals := 0 } : Room) s m args below meth cd H locs 0 0 (MQ below (xQv D (xT c) A (wX4_add c a_this a_member a_minutes a_fact a_knew rm_member rm_minutes rm_fact rm_knew rm_size)) args s 0 0 A) (F0 m pc ls st)
theorem lkX4_add_f15 : Cond.fieldLink RX4 15 "LeechClub$Sightings" "minutes" "[I" ∈ wsX4_add := by decide +kernel
theorem lkX4_add_f18 : Cond.fieldLink RX4 18 "LeechClub$Sightings" "fact" "[I" ∈ wsX4_add := by decide +kernel
theorem lkX4_add_f21 : Cond.fieldLink RX4 21 "LeechClub$Sightings" "knew" "[I" ∈ wsX4_add := by decide +kernel
theorem lkX4_add_f24 : Cond.fieldLink RX4 24 "LeechClub$Sightings" "size" "I" ∈ wsX4_add := by decide +kernel
theorem lkX4_add_f9 : Cond.fieldLink RX4 9 "LeechClub$Sightings" "member" "[I" ∈ wsX4_add := by decide +kernel
theorem inX4_add_X4 : ∀ w ∈ wsX40, w ∈ wsX4_add := by decide +kernel
set_option maxHeartbeats 4000000 in
set_option maxRecDepth 100000 in
theorem kX4_add_60 {p : Program} {l : Launch} {e : Env} {s : State} {m : MethodId} {args : Array Value} {below : List Frame} {meth : Method} {cd : Code} {D : va_G} {c : Nat → ClassId} {A : Nat → Prop} (E0 : xE p s m args meth cd D (xT c) A RX4 cX4_add 5 none wsX4_add) (a_this : Nat) (a_member : Nat) (a_minutes : Nat) (a_fact : Nat) (a_knew : Nat) (n : Nat) (rm_member : Nat → Int32) (rm_minutes : Nat → Int32) (rm_fact : Nat → Int32) (rm_knew : Nat → Int32) (rm_size : Int32) (x_member : Nat → Int32) (x_minutes : Nat → Int32) (x_fact : Nat → Int32) (x_knew : Nat → Int32) (x_size : Int32) (hr : fX4_add_60 n x_member x_minutes x_fact x_knew x_size = some (rm_member, rm_minutes, rm_fact, rm_knew, rm_size)) : GX4_add p l e s m args below meth cd D c A a_this a_member a_minutes a_fact a_knew rm_member rm_minutes rm_fact rm_knew rm_size 60 [] [] x_member x_minutes x_fact x_knew x_size := by
  have E1 := E0
  obtain ⟨hx, hb, hml, hret, hown, hts, hlocks, hA, hK⟩ := E1
  intro H locs ls hP hD hS hl
  unfold fX4_add_60 at hr
  have g0 := x_some hr
  have e0 := x_p1 g0
  have g1 := x_p2 g0
  have e1 := x_p1 g1
  have g2 := x_p2 g1
  have e2 := x_p1 g2
  have g3 := x_p2 g2
  have e3 := x_p1 g3
  have e4 := x_p2 g3
  subst e0
  subst e1
  subst e2
  subst e3
  subst e4
  exact x_retv hx hb hret hlocks hP hD hK hS dX4_add_60
set_option maxHeartbeats 4000000 in
set_option maxRecDepth 100000 in
theorem kX4_add_0 {p : Program} {l : Launch} {e : Env} {s : State} {m : MethodId} {args : Array Value} {below : List Frame} {meth : Method} {cd : Code} {D : va_G} {c : Nat → ClassId} {A : Nat → Prop} (E0 : xE p s m args meth cd D (xT c) A RX4 cX4_add 5 none wsX4_add) (a_this : Nat) (a_member : Nat) (a_minutes : Nat) (a_fact : Nat) (a_knew : Nat) (n : Nat) (rm_member : Nat → Int32) (rm_minutes : Nat → Int32) (rm_fact : Nat → Int32) (rm_knew : Nat → Int32) (rm_size : Int32) (x_member : Nat → Int32) (x_minutes : Nat → Int32) (x_fact : Nat → Int32) (x_knew : Nat → Int32) (x_size : Int32) (v1 : Int32) (v2 : Int32) (v3 : Int32) (v4 : Int32) (hr : fX4_add n x_member x_minutes x_fact x_knew x_size v1 v2 v3 v4 = some (rm_member, rm_minutes, rm_fact, rm_knew, rm_size)) : GX4_add p l e s m args below meth cd D c A a_this a_member a_minutes a_fact a_knew rm_member rm_minutes rm_fact rm_knew rm_size 0 [] [(0, .ref a_this), (1, .int v1), (2, .int v2), (3, .int v3), (4, .int v4)] x_member x_minutes x_fact x_knew x_size := by
  have E1 := E0
  obtain ⟨hx, hb, hml, hret, hown, hts, hlocks, hA, hK⟩ := E1
  intro H locs ls hP hD hS hl
  unfold fX4_add at hr
  refine lv_aload_n hx hb dX4_add_0 rfl (lv_at hl 0 rfl) ?_
  refine va_get (D := D) (ci := 4) (v := .int x_size) (C := RX4) (T := TX4) (N := 5) hx hb hts inX4_add_X4 hown hK hP 0 rfl rfl 0 (by decide) (hts _ lkX4_add_f24) (fun _ h9 => h9) rfl dX4_add_1 ?_
  refine lv_bipush (v := 6) hx hb dX4_add_4 (by decide) ?_
  refine lv_icmp_ge (tgt := 60) hx hb dX4_add_6 (by decide) (fun c_1 => ?_) (fun c_1 => ?_)
  · have hr := x_ift hr c_1
    exact kX4_add_60 E0 a_this a_member a_minutes a_fact a_knew n rm_member rm_minutes rm_fact rm_knew rm_size x_member x_minutes x_fact x_knew x_size hr H locs ls hP hD hS (lv_sub hl [] rfl)
  · have hr := x_iff hr c_1
    refine lv_aload_n hx hb dX4_add_9 rfl (lv_at hl 0 rfl) ?_
    refine va_get (D := D) (ci := 4) (v := .ref a_member) (C := RX4) (T := TX4) (N := 5) hx hb hts inX4_add_X4 hown hK hP 0 rfl rfl 1 (by decide) (hts _ lkX4_add_f9) (fun _ h9 => h9) rfl dX4_add_10 ?_
    refine lv_aload_n hx hb dX4_add_13 rfl (lv_at hl 0 rfl) ?_
    refine va_get (D := D) (ci := 4) (v := .int x_size) (C := RX4) (T := TX4) (N := 5) hx hb hts inX4_add_X4 hown hK hP 0 rfl rfl 0 (by decide) (hts _ lkX4_add_f24) (fun _ h9 => h9) rfl dX4_add_14 ?_
    refine lv_iload_n hx hb dX4_add_17 rfl (lv_at hl 1 rfl) ?_
    obtain ⟨b_2, hr⟩ := x_chk hr
    refine va_iast hx hb hK hP hD hS 1 0 rfl rfl b_2 dX4_add_18 (fun H locs hP hD hS => ?_)
    have hP : va_P D vwCl [(a_this, .inr (4, [.int x_size, .ref a_member, .ref a_minutes, .ref a_fact, .ref a_knew])), (a_member, .inl (c 0, 6, .inl (upd x_member x_size.toNatClampNeg v1))), (a_minutes, .inl (c 0, 6, .inl x_minutes)), (a_fact, .inl (c 0, 6, .inl x_fact)), (a_knew, .inl (c 0, 6, .inl x_knew))] H := hP
    have hD : va_D A [(a_this, .inr (4, [.int x_size, .ref a_member, .ref a_minutes, .ref a_fact, .ref a_knew])), (a_member, .inl (c 0, 6, .inl (upd x_member x_size.toNatClampNeg v1))), (a_minutes, .inl (c 0, 6, .inl x_minutes)), (a_fact, .inl (c 0, 6, .inl x_fact)), (a_knew, .inl (c 0, 6, .inl x_knew))] := hD
    refine lv_aload_n hx hb dX4_add_19 rfl (lv_at hl 0 rfl) ?_
    refine va_get (D := D) (ci := 4) (v := .ref a_minutes) (C := RX4) (T := TX4) (N := 5) hx hb hts inX4_add_X4 hown hK hP 0 rfl rfl 2 (by decide) (hts _ lkX4_add_f15) (fun _ h9 => h9) rfl dX4_add_20 ?_
    refine lv_aload_n hx hb dX4_add_23 rfl (lv_at hl 0 rfl) ?_
    refine va_get (D := D) (ci := 4) (v := .int x_size) (C := RX4) (T := TX4) (N := 5) hx hb hts inX4_add_X4 hown hK hP 0 rfl rfl 0 (by decide) (hts _ lkX4_add_f24) (fun _ h9 => h9) rfl dX4_add_24 ?_
    refine lv_iload_n hx hb dX4_add_27 rfl (lv_at hl 2 rfl) ?_
    obtain ⟨b_3, hr⟩ := x_chk hr
    refine va_iast hx hb hK hP hD hS 2 0 rfl rfl b_3 dX4_add_28 (fun H locs hP hD hS => ?_)
    have hP : va_P D vwCl [(a_this, .inr (4, [.int x_size, .ref a_member, .ref a_minutes, .ref a_fact, .ref a_knew])), (a_member, .inl (c 0, 6, .inl (upd x_member x_size.toNatClampNeg v1))), (a_minutes, .inl (c 0, 6, .inl (upd x_minutes x_size.toNatClampNeg v2))), (a_fact, .inl (c 0, 6, .inl x_fact)), (a_knew, .inl (c 0, 6, .inl x_knew))] H := hP
    have hD : va_D A [(a_this, .inr (4, [.int x_size, .ref a_member, .ref a_minutes, .ref a_fact, .ref a_knew])), (a_member, .inl (c 0, 6, .inl (upd x_member x_size.toNatClampNeg v1))), (a_minutes, .inl (c 0, 6, .inl (upd x_minutes x_size.toNatClampNeg v2))), (a_fact, .inl (c 0, 6, .inl x_fact)), (a_knew, .inl (c 0, 6, .inl x_knew))] := hD
    refine lv_aload_n hx hb dX4_add_29 rfl (lv_at hl 0 rfl) ?_
    refine va_get (D := D) (ci := 4) (v := .ref a_fact) (C := RX4) (T := TX4) (N := 5) hx hb hts inX4_add_X4 hown hK hP 0 rfl rfl 3 (by decide) (hts _ lkX4_add_f18) (fun _ h9 => h9) rfl dX4_add_30 ?_
    refine lv_aload_n hx hb dX4_add_33 rfl (lv_at hl 0 rfl) ?_
    refine va_get (D := D) (ci := 4) (v := .int x_size) (C := RX4) (T := TX4) (N := 5) hx hb hts inX4_add_X4 hown hK hP 0 rfl rfl 0 (by decide) (hts _ lkX4_add_f24) (fun _ h9 => h9) rfl dX4_add_34 ?_
    refine lv_iload_n hx hb dX4_add_37 rfl (lv_at hl 3 rfl) ?_
    obtain ⟨b_4, hr⟩ := x_chk hr
    refine va_iast hx hb hK hP hD hS 3 0 rfl rfl b_4 dX4_add_38 (fun H locs hP hD hS => ?_)
    have hP : va_P D vwCl [(a_this, .inr (4, [.int x_size, .ref a_member, .ref a_minutes, .ref a_fact, .ref a_knew])), (a_member, .inl (c 0, 6, .inl (upd x_member x_size.toNatClampNeg v1))), (a_minutes, .inl (c 0, 6, .inl (upd x_minutes x_size.toNatClampNeg v2))), (a_fact, .inl (c 0, 6, .inl (upd x_fact x_size.toNatClampNeg v3))), (a_knew, .inl (c 0, 6, .inl x_knew))] H := hP
    have hD : va_D A [(a_this, .inr (4, [.int x_size, .ref a_member, .ref a_minutes, .ref a_fact, .ref a_knew])), (a_member, .inl (c 0, 6, .inl (upd x_member x_size.toNatClampNeg v1))), (a_minutes, .inl (c 0, 6, .inl (upd x_minutes x_size.toNatClampNeg v2))), (a_fact, .inl (c 0, 6, .inl (upd x_fact x_size.toNatClampNeg v3))), (a_knew, .inl (c 0, 6, .inl x_knew))] := hD
    refine lv_aload_n hx hb dX4_add_39 rfl (lv_at hl 0 rfl) ?_
    refine va_get (D := D) (ci := 4) (v := .ref a_knew) (C := RX4) (T := TX4) (N := 5) hx hb hts inX4_add_X4 hown hK hP 0 rfl rfl 4 (by decide) (hts _ lkX4_add_f21) (fun _ h9 => h9) rfl dX4_add_40 ?_
    refine lv_aload_n hx hb dX4_add_43 rfl (lv_at hl 0 rfl) ?_
    refine va_get (D := D) (ci := 4) (v := .int x_size) (C := RX4) (T := TX4) (N := 5) hx hb hts inX4_add_X4 hown hK hP 0 rfl rfl 0 (by decide) (hts _ lkX4_add_f24) (fun _ h9 => h9) rfl dX4_add_44 ?_
    refine lv_iload hx hb dX4_add_47 (lv_at hl 4 rfl) ?_
    obtain ⟨b_5, hr⟩ := x_chk hr
    refine va_iast hx hb hK hP hD hS 4 0 rfl rfl b_5 dX4_add_49 (fun H locs hP hD hS => ?_)
    have hP : va_P D vwCl [(a_this, .inr (4, [.int x_size, .ref a_member, .ref a_minutes, .ref a_fact, .ref a_knew])), (a_member, .inl (c 0, 6, .inl (upd x_member x_size.toNatClampNeg v1))), (a_minutes, .inl (c 0, 6, .inl (upd x_minutes x_size.toNatClampNeg v2))), (a_fact, .inl (c 0, 6, .inl (upd x_fact x_size.toNatClampNeg v3))), (a_knew, .inl (c 0, 6, .inl (upd x_knew x_size.toNatClampNeg v4)))] H := hP
    have hD : va_D A [(a_this, .inr (4, [.int x_size, .ref a_member, .ref a_minutes, .ref a_fact, .ref a_knew])), (a_member, .inl (c 0, 6, .inl (upd x_member x_size.toNatClampNeg v1))), (a_minutes, .inl (c 0, 6, .inl (upd x_minutes x_size.toNatClampNeg v2))), (a_fact, .inl (c 0, 6, .inl (upd x_fact x_size.toNatClampNeg v3))), (a_knew, .inl (c 0, 6, .inl (upd x_knew x_size.toNatClampNeg v4)))] := hD
    refine lv_aload_n hx hb dX4_add_50 rfl (lv_at hl 0 rfl) ?_
    refine lv_dup hx hb dX4_add_51 rfl ?_
    refine va_get (D := D) (ci := 4) (v := .int x_size) (C := RX4) (T := TX4) (N := 5) hx hb hts inX4_add_X4 hown hK hP 0 rfl rfl 0 (by decide) (hts _ lkX4_add_f24) (fun _ h9 => h9) rfl dX4_add_52 ?_
    refine lv_iconst (v := 1) hx hb dX4_add_55 (by decide) ?_
    refine lv_iadd hx hb dX4_add_56 ?_
    refine va_put (D := D) (ci := 4) (v := .int (x_size + 1)) (ty := .int) (C := RX4) (T := TX4) (N := 5) hx hb hts inX4_add_X4 tyX4 tyX4_ok nmX4 hown hK hP hD hS 0 rfl rfl 0 (by decide) (hts _ lkX4_add_f24) (fun _ h9 => h9) rfl (by decide +kernel) rfl rfl (Nat.le_of_ble_eq_true rfl) dX4_add_57 (fun H locs hP hD hS => ?_)
    have hP : va_P D vwCl [(a_this, .inr (4, [.int (x_size + 1), .ref a_member, .ref a_minutes, .ref a_fact, .ref a_knew])), (a_member, .inl (c 0, 6, .inl (upd x_member x_size.toNatClampNeg v1))), (a_minutes, .inl (c 0, 6, .inl (upd x_minutes x_size.toNatClampNeg v2))), (a_fact, .inl (c 0, 6, .inl (upd x_fact x_size.toNatClampNeg v3))), (a_knew, .inl (c 0, 6, .inl (upd x_knew x_size.toNatClampNeg v4)))] H := hP
    have hD : va_D A [(a_this, .inr (4, [.int (x_size + 1), .ref a_member, .ref a_minutes, .ref a_fact, .ref a_knew])), (a_member, .inl (c 0, 6, .inl (upd x_member x_size.toNatClampNeg v1))), (a_minutes, .inl (c 0, 6, .inl (upd x_minutes x_size.toNatClampNeg v2))), (a_fact, .inl (c 0, 6, .inl (upd x_fact x_size.toNatClampNeg v3))), (a_knew, .inl (c 0, 6, .inl (upd x_knew x_size.toNatClampNeg v4)))] := hD
    exact kX4_add_60 E0 a_this a_member a_minutes a_fact a_knew n rm_member rm_minutes rm_fact rm_knew rm_size (upd x_member x_size.toNatClampNeg v1) (upd x_minutes x_size.toNatClampNeg v2) (upd x_fact x_size.toNatClampNeg v3) (upd x_knew x_size.toNatClampNeg v4) (x_size + 1) hr H locs ls hP hD hS (lv_sub hl [] rfl)
set_option maxHeartbeats 4000000 in
set_option maxRecDepth 100000 in
theorem mX4_add (l : Launch) (D : va_G) (c : Nat → ClassId) (a_this : Nat) (a_member : Nat) (a_minutes : Nat) (a_fact : Nat) (a_knew : Nat) (sz : Nat) (x_member : Nat → Int32) (x_minutes : Nat → Int32) (x_fact : Nat → Int32) (x_knew : Nat → Int32) (x_size : Int32) (v1 : Int32) (v2 : Int32) (v3 : Int32) (v4 : Int32) (n : Nat) (rm_member : Nat → Int32) (rm_minutes : Nat → Int32) (rm_fact : Nat → Int32) (rm_knew : Nat → Int32) (rm_size : Int32) (h : fX4_add n x_member x_minutes x_fact x_knew x_size v1 v2 v3 v4 = some (rm_member, rm_minutes, rm_fact, rm_knew, rm_size)) : Met l yX4_add wsX4_add ({ frames := 0, cells := 0, slots := 0, locals := 0 } : Room) (xPc D (xT c) sz [.ref a_this, .int v1, .int v2, .int v3, .int v4] (wX4_add c a_this a_member a_minutes a_fact a_knew x_member x_minutes x_fact x_knew x_size) (fun _ => True)) (xQv D (xT c) (va_A (wX4_add c a_this a_member a_minutes a_fact a_knew x_member x_minutes x_fact x_knew x_size) sz) (wX4_add c a_this a_member a_minutes a_fact a_knew rm_member rm_minutes rm_fact rm_knew rm_size)) 0 0 (va_A (wX4_add c a_this a_member a_minutes a_fact a_knew x_member x_minutes x_fact x_knew x_size) sz) := by
  refine Met.ofW (cc := cX4_add) (maxL := 5) (ret := none) (by decide) rfl ?_
  intro p e s m args below meth cd s₁ B hml hv
  obtain ⟨rfl, hsz, hP, hK, hD0, hV⟩ := hv
  subst hsz
  have hl := lv_entry [.ref a_this, .int v1, .int v2, .int v3, .int v4] (n := 5) (Nat.le_of_ble_eq_true rfl)
  rw [lg_entry_eq]
  exact kX4_add_0 (A := va_A (wX4_add c a_this a_member a_minutes a_fact a_knew x_member x_minutes x_fact x_knew x_size) s.heap.size) ⟨B.exec, B.bytes, hml, B.returns, findClass_of_methodNamed B.named, atoms_spec (ws := wsX4_add) B.pre, B.notSynchronized, fun q h => Or.inr h, hK⟩ a_this a_member a_minutes a_fact a_knew n rm_member rm_minutes rm_fact rm_knew rm_size x_member x_minutes x_fact x_knew x_size v1 v2 v3 v4 h s.heap [] _ hP hD0.self va_S.rf hl

abbrev wX5_begin (c : Nat → ClassId) (a_this : Nat) (a_value : Nat) (a_below : Nat) (x_sort : Int32) (x_size : Int32) (x_value : Nat → Int64) (x_below : Nat → Int64) : va_W := [(a_this, .inr (5, [.int x_sort, .int x_size, .ref a_value, .ref a_below])), (a_value, .inl (c 1, 10, .inr (.inl x_value))), (a_below, .inl (c 1, 10, .inr (.inl x_below)))]
def GX5_begin (p : Program) (l : Launch) (e : Env) (s : State) (m : MethodId) (args : Array Value) (below : List Frame) (meth : Method) (cd : Code) (D : va_G) (c : Nat → ClassId) (A : Nat → Prop) (a_this : Nat) (a_value : Nat) (a_below : Nat) (rm_sort : Int32) (rm_size : Int32) (rm_value : Nat → Int64) (rm_below : Nat → Int64) (pc : Nat) (st : List Value) (loc : List (Nat × Value)) (x_sort : Int32) (x_size : Int32) (x_value : Nat → Int64) (x_below : Nat → Int64) : Prop :=
  ∀ (H : Heap) (locs : List Loc) (ls : Array Slot), va_P D vwCl (wX5_begin c a_this a_value a_below x_sort x_size x_value x_below) H → va_D A (wX5_begin c a_this a_value a_below x_sort x_size x_value x_below) → va_S A s.heap H locs → lv_has ls 4 loc → W p l e ({ frames := 0, cells := 0, slots := 0, locals := 0 } : Room) s m args below meth cd H locs 0 0 (MQ below (xQv D (xT c) A (wX5_begin c a_this a_value a_below rm_sort rm_size rm_value rm_below)) args s 0 0 A) (F0 m pc ls st)
theorem lkX5_begin_f11 : Cond.fieldLink RX5 11 "LeechClub$Slate" "sort" "I" ∈ wsX5_begin := by decide +kernel
theorem lkX5_begin_f15 : Cond.fieldLink RX5 15 "LeechClub$Slate" "value" "[J" ∈ wsX5_begin := by decide +kernel
theorem lkX5_begin_f19 : Cond.fieldLink RX5 19 "LeechClub$Slate" "below" "[J" ∈ wsX5_begin := by decide +kernel
theorem lkX5_begin_f22 : Cond.fieldLink RX5 22 "LeechClub$Slate" "size" "I" ∈ wsX5_begin := by decide +kernel
theorem inX5_begin_X5 : ∀ w ∈ wsX50, w ∈ wsX5_begin := by decide +kernel
set_option maxHeartbeats 4000000 in
set_option maxRecDepth 100000 in
theorem kX5_begin_12 {p : Program} {l : Launch} {e : Env} {s : State} {m : MethodId} {args : Array Value} {below : List Frame} {meth : Method} {cd : Code} {D : va_G} {c : Nat → ClassId} {A : Nat → Prop} (E0 : xE p s m args meth cd D (xT c) A RX5 cX5_begin 4 none wsX5_begin) (a_this : Nat) (a_value : Nat) (a_below : Nat) (n : Nat) (rm_sort : Int32) (rm_size : Int32) (rm_value : Nat → Int64) (rm_below : Nat → Int64) : ∀ (k : Nat) (x_sort : Int32) (x_size : Int32) (x_value : Nat → Int64) (x_below : Nat → Int64) (v3 : Int32), fX5_begin_12 n k x_sort x_size x_value x_below v3 = some (rm_sort, rm_size, rm_value, rm_below) → GX5_begin p l e s m args below meth cd D c A a_this a_value a_below rm_sort rm_size rm_value rm_below 12 [] [(0, .ref a_this), (3, .int v3)] x_sort x_size x_value x_below := by
  have E1 := E0
  obtain ⟨hx, hb, hml, hret, hown, hts, hlocks, hA, hK⟩ := E1
  intro k
  induction k with
  | zero => intro x_sort x_size x_value x_below v3 hr; cases hr
  | succ k h_12 =>
    intro x_sort x_size x_value x_below v3 hr H locs ls hP hD hS hl
    unfold fX5_begin_12 at hr
    refine lv_iload_n hx hb dX5_begin_12 rfl (lv_at hl 1 rfl) ?_
    refine lv_bipush (v := 10) hx hb dX5_begin_13 (by decide) ?_
    refine lv_icmp_ge (tgt := 38) hx hb dX5_begin_15 (by decide) (fun c_1 => ?_) (fun c_1 => ?_)
    · have hr := x_ift hr c_1
      have g0 := x_some hr
      have e0 := x_p1 g0
      have g1 := x_p2 g0
      have e1 := x_p1 g1
      have g2 := x_p2 g1
      have e2 := x_p1 g2
      have e3 := x_p2 g2
      subst e0
      subst e1
      subst e2
      subst e3
      exact x_retv hx hb hret hlocks hP hD hK hS dX5_begin_38
    · have hr := x_iff hr c_1
      refine lv_aload_n hx hb dX5_begin_18 rfl (lv_at hl 0 rfl) ?_
      refine va_get (D := D) (ci := 5) (v := .ref a_value) (C := RX5) (T := TX5) (N := 4) hx hb hts inX5_begin_X5 hown hK hP 0 rfl rfl 2 (by decide) (hts _ lkX5_begin_f15) (fun _ h9 => h9) rfl dX5_begin_19 ?_
      refine lv_iload_n hx hb dX5_begin_22 rfl (lv_at hl 1 rfl) ?_
      refine lv_lconst (v := 0) hx hb dX5_begin_23 (by decide) ?_
      obtain ⟨b_2, hr⟩ := x_chk hr
      refine va_last hx hb hK hP hD hS 1 1 rfl rfl b_2 dX5_begin_24 (fun H locs hP hD hS => ?_)
      have hP : va_P D vwCl [(a_this, .inr (5, [.int x_sort, .int x_size, .ref a_value, .ref a_below])), (a_value, .inl (c 1, 10, .inr (.inl (vp_updL x_value v3.toNatClampNeg 0)))), (a_below, .inl (c 1, 10, .inr (.inl x_below)))] H := hP
      have hD : va_D A [(a_this, .inr (5, [.int x_sort, .int x_size, .ref a_value, .ref a_below])), (a_value, .inl (c 1, 10, .inr (.inl (vp_updL x_value v3.toNatClampNeg 0)))), (a_below, .inl (c 1, 10, .inr (.inl x_below)))] := hD
      refine lv_aload_n hx hb dX5_begin_25 rfl (lv_at hl 0 rfl) ?_
      refine va_get (D := D) (ci := 5) (v := .ref a_below) (C := RX5) (T := TX5) (N := 4) hx hb hts inX5_begin_X5 hown hK hP 0 rfl rfl 3 (by decide) (hts _ lkX5_begin_f19) (fun _ h9 => h9) rfl dX5_begin_26 ?_
      refine lv_iload_n hx hb dX5_begin_29 rfl (lv_at hl 1 rfl) ?_
      refine lv_lconst (v := 0) hx hb dX5_begin_30 (by decide) ?_
      obtain ⟨b_3, hr⟩ := x_chk hr
      refine va_last hx hb hK hP hD hS 2 1 rfl rfl b_3 dX5_begin_31 (fun H locs hP hD hS => ?_)
      have hP : va_P D vwCl [(a_this, .inr (5, [.int x_sort, .int x_size, .ref a_value, .ref a_below])), (a_value, .inl (c 1, 10, .inr (.inl (vp_updL x_value v3.toNatClampNeg 0)))), (a_below, .inl (c 1, 10, .inr (.inl (vp_updL x_below v3.toNatClampNeg 0))))] H := hP
      have hD : va_D A [(a_this, .inr (5, [.int x_sort, .int x_size, .ref a_value, .ref a_below])), (a_value, .inl (c 1, 10, .inr (.inl (vp_updL x_value v3.toNatClampNeg 0)))), (a_below, .inl (c 1, 10, .inr (.inl (vp_updL x_below v3.toNatClampNeg 0))))] := hD
      refine lv_iinc (v := v3 + 1) (lv' := [(3, .int (v3 + 1)), (0, .ref a_this)]) hx hb dX5_begin_32 hl (k := 1) rfl rfl (by decide) rfl (fun ls hl => ?_)
      refine lv_goto (tgt := 12) hx hb dX5_begin_35 (by decide) ?_
      exact h_12 x_sort x_size (vp_updL x_value v3.toNatClampNeg 0) (vp_updL x_below v3.toNatClampNeg 0) (v3 + 1) hr H locs ls hP hD hS (lv_sub hl [1, 0] rfl)
set_option maxHeartbeats 4000000 in
set_option maxRecDepth 100000 in
theorem kX5_begin_0 {p : Program} {l : Launch} {e : Env} {s : State} {m : MethodId} {args : Array Value} {below : List Frame} {meth : Method} {cd : Code} {D : va_G} {c : Nat → ClassId} {A : Nat → Prop} (E0 : xE p s m args meth cd D (xT c) A RX5 cX5_begin 4 none wsX5_begin) (a_this : Nat) (a_value : Nat) (a_below : Nat) (n : Nat) (rm_sort : Int32) (rm_size : Int32) (rm_value : Nat → Int64) (rm_below : Nat → Int64) (x_sort : Int32) (x_size : Int32) (x_value : Nat → Int64) (x_below : Nat → Int64) (v1 : Int32) (v2 : Int32) (hr : fX5_begin n x_sort x_size x_value x_below v1 v2 = some (rm_sort, rm_size, rm_value, rm_below)) : GX5_begin p l e s m args below meth cd D c A a_this a_value a_below rm_sort rm_size rm_value rm_below 0 [] [(0, .ref a_this), (1, .int v1), (2, .int v2)] x_sort x_size x_value x_below := by
  have E1 := E0
  obtain ⟨hx, hb, hml, hret, hown, hts, hlocks, hA, hK⟩ := E1
  intro H locs ls hP hD hS hl
  unfold fX5_begin at hr
  refine lv_aload_n hx hb dX5_begin_0 rfl (lv_at hl 0 rfl) ?_
  refine lv_iload_n hx hb dX5_begin_1 rfl (lv_at hl 1 rfl) ?_
  refine va_put (D := D) (ci := 5) (v := .int v1) (ty := .int) (C := RX5) (T := TX5) (N := 4) hx hb hts inX5_begin_X5 tyX5 tyX5_ok nmX5 hown hK hP hD hS 0 rfl rfl 0 (by decide) (hts _ lkX5_begin_f11) (fun _ h9 => h9) rfl (by decide +kernel) rfl rfl (Nat.le_of_ble_eq_true rfl) dX5_begin_2 (fun H locs hP hD hS => ?_)
  have hP : va_P D vwCl [(a_this, .inr (5, [.int v1, .int x_size, .ref a_value, .ref a_below])), (a_value, .inl (c 1, 10, .inr (.inl x_value))), (a_below, .inl (c 1, 10, .inr (.inl x_below)))] H := hP
  have hD : va_D A [(a_this, .inr (5, [.int v1, .int x_size, .ref a_value, .ref a_below])), (a_value, .inl (c 1, 10, .inr (.inl x_value))), (a_below, .inl (c 1, 10, .inr (.inl x_below)))] := hD
  refine lv_aload_n hx hb dX5_begin_5 rfl (lv_at hl 0 rfl) ?_
  refine lv_iload_n hx hb dX5_begin_6 rfl (lv_at hl 2 rfl) ?_
  refine va_put (D := D) (ci := 5) (v := .int v2) (ty := .int) (C := RX5) (T := TX5) (N := 4) hx hb hts inX5_begin_X5 tyX5 tyX5_ok nmX5 hown hK hP hD hS 0 rfl rfl 1 (by decide) (hts _ lkX5_begin_f22) (fun _ h9 => h9) rfl (by decide +kernel) rfl rfl (Nat.le_of_ble_eq_true rfl) dX5_begin_7 (fun H locs hP hD hS => ?_)
  have hP : va_P D vwCl [(a_this, .inr (5, [.int v1, .int v2, .ref a_value, .ref a_below])), (a_value, .inl (c 1, 10, .inr (.inl x_value))), (a_below, .inl (c 1, 10, .inr (.inl x_below)))] H := hP
  have hD : va_D A [(a_this, .inr (5, [.int v1, .int v2, .ref a_value, .ref a_below])), (a_value, .inl (c 1, 10, .inr (.inl x_value))), (a_below, .inl (c 1, 10, .inr (.inl x_below)))] := hD
  refine lv_iconst (v := 0) hx hb dX5_begin_10 (by decide) ?_
  refine lv_istore_n (lv' := [(3, .int 0), (0, .ref a_this), (1, .int v1), (2, .int v2)]) hx hb dX5_begin_11 rfl hl (by decide) rfl (fun ls hl => ?_)
  exact kX5_begin_12 E0 a_this a_value a_below n rm_sort rm_size rm_value rm_below n v1 v2 x_value x_below 0 hr H locs ls hP hD hS (lv_sub hl [1, 0] rfl)
set_option maxHeartbeats 4000000 in
set_option maxRecDepth 100000 in
theorem mX5_begin (l : Launch) (D : va_G) (c : Nat → ClassId) (a_this : Nat) (a_value : Nat) (a_below : Nat) (sz : Nat) (x_sort : Int32) (x_size : Int32) (x_value : Nat → Int64) (x_below : Nat → Int64) (v1 : Int32) (v2 : Int32) (n : Nat) (rm_sort : Int32) (rm_size : Int32) (rm_value : Nat → Int64) (rm_below : Nat → Int64) (h : fX5_begin n x_sort x_size x_value x_below v1 v2 = some (rm_sort, rm_size, rm_value, rm_below)) : Met l yX5_begin wsX5_begin ({ frames := 0, cells := 0, slots := 0, locals := 0 } : Room) (xPc D (xT c) sz [.ref a_this, .int v1, .int v2] (wX5_begin c a_this a_value a_below x_sort x_size x_value x_below) (fun _ => True)) (xQv D (xT c) (va_A (wX5_begin c a_this a_value a_below x_sort x_size x_value x_below) sz) (wX5_begin c a_this a_value a_below rm_sort rm_size rm_value rm_below)) 0 0 (va_A (wX5_begin c a_this a_value a_below x_sort x_size x_value x_below) sz) := by
  refine Met.ofW (cc := cX5_begin) (maxL := 4) (ret := none) (by decide) rfl ?_
  intro p e s m args below meth cd s₁ B hml hv
  obtain ⟨rfl, hsz, hP, hK, hD0, hV⟩ := hv
  subst hsz
  have hl := lv_entry [.ref a_this, .int v1, .int v2] (n := 4) (Nat.le_of_ble_eq_true rfl)
  rw [lg_entry_eq]
  exact kX5_begin_0 (A := va_A (wX5_begin c a_this a_value a_below x_sort x_size x_value x_below) s.heap.size) ⟨B.exec, B.bytes, hml, B.returns, findClass_of_methodNamed B.named, atoms_spec (ws := wsX5_begin) B.pre, B.notSynchronized, fun q h => Or.inr h, hK⟩ a_this a_value a_below n rm_sort rm_size rm_value rm_below x_sort x_size x_value x_below v1 v2 h s.heap [] _ hP hD0.self va_S.rf hl

abbrev wX5_setMissing (c : Nat → ClassId) (a_this : Nat) (a_value : Nat) (a_below : Nat) (x_sort : Int32) (x_size : Int32) : va_W := [(a_this, .inr (5, [.int x_sort, .int x_size, .ref a_value, .ref a_below]))]
def GX5_setMissing (p : Program) (l : Launch) (e : Env) (s : State) (m : MethodId) (args : Array Value) (below : List Frame) (meth : Method) (cd : Code) (D : va_G) (c : Nat → ClassId) (A : Nat → Prop) (a_this : Nat) (a_value : Nat) (a_below : Nat) (rm_sort : Int32) (rm_size : Int32) (pc : Nat) (st : List Value) (loc : List (Nat × Value)) (x_sort : Int32) (x_size : Int32) : Prop :=
  ∀ (H : Heap) (locs : List Loc) (ls : Array Slot), va_P D vwCl (wX5_setMissing c a_this a_value a_below x_sort x_size) H → va_D A (wX5_setMissing c a_this a_value a_below x_sort x_size) → va_S A s.heap H locs → lv_has ls 1 loc → W p l e ({ frames := 0, cells := 0, slots := 0, locals := 0 } : Room) s m args below meth cd H locs 0 0 (MQ below (xQv D (xT c) A (wX5_setMissing c a_this a_value a_below rm_sort rm_size)) args s 0 0 A) (F0 m pc ls st)
theorem lkX5_setMissing_f11 : Cond.fieldLink RX5 11 "LeechClub$Slate" "sort" "I" ∈ wsX5_setMissing := by decide +kernel
theorem lkX5_setMissing_f22 : Cond.fieldLink RX5 22 "LeechClub$Slate" "size" "I" ∈ wsX5_setMissing := by decide +kernel
theorem inX5_setMissing_X5 : ∀ w ∈ wsX50, w ∈ wsX5_setMissing := by decide +kernel
set_option maxHeartbeats 4000000 in
set_option maxRecDepth 100000 in
theorem kX5_setMissing_0 {p : Program} {l : Launch} {e : Env} {s : State} {m : MethodId} {args : Array Value} {below : List Frame} {meth : Method} {cd : Code} {D : va_G} {c : Nat → ClassId} {A : Nat → Prop} (E0 : xE p s m args meth cd D (xT c) A RX5 cX5_setMissing 1 none wsX5_setMissing) (a_this : Nat) (a_value : Nat) (a_below : Nat) (n : Nat) (rm_sort : Int32) (rm_size : Int32) (x_sort : Int32) (x_size : Int32) (hr : fX5_setMissing n x_sort x_size = some (rm_sort, rm_size)) : GX5_setMissing p l e s m args below meth cd D c A a_this a_value a_below rm_sort rm_size 0 [] [(0, .ref a_this)] x_sort x_size := by
  have E1 := E0
  obtain ⟨hx, hb, hml, hret, hown, hts, hlocks, hA, hK⟩ := E1
  intro H locs ls hP hD hS hl
  unfold fX5_setMissing at hr
  refine lv_aload_n hx hb dX5_setMissing_0 rfl (lv_at hl 0 rfl) ?_
  refine lv_iconst (v := (-1)) hx hb dX5_setMissing_1 (by decide) ?_
  refine va_put (D := D) (ci := 5) (v := .int (-1)) (ty := .int) (C := RX5) (T := TX5) (N := 4) hx hb hts inX5_setMissing_X5 tyX5 tyX5_ok nmX5 hown hK hP hD hS 0 rfl rfl 0 (by decide) (hts _ lkX5_setMissing_f11) (fun _ h9 => h9) rfl (by decide +kernel) rfl rfl (Nat.le_of_ble_eq_true rfl) dX5_setMissing_2 (fun H locs hP hD hS => ?_)
  have hP : va_P D vwCl [(a_this, .inr (5, [.int (-1), .int x_size, .ref a_value, .ref a_below]))] H := hP
  have hD : va_D A [(a_this, .inr (5, [.int (-1), .int x_size, .ref a_value, .ref a_below]))] := hD
  refine lv_aload_n hx hb dX5_setMissing_5 rfl (lv_at hl 0 rfl) ?_
  refine lv_iconst (v := 0) hx hb dX5_setMissing_6 (by decide) ?_
  refine va_put (D := D) (ci := 5) (v := .int 0) (ty := .int) (C := RX5) (T := TX5) (N := 4) hx hb hts inX5_setMissing_X5 tyX5 tyX5_ok nmX5 hown hK hP hD hS 0 rfl rfl 1 (by decide) (hts _ lkX5_setMissing_f22) (fun _ h9 => h9) rfl (by decide +kernel) rfl rfl (Nat.le_of_ble_eq_true rfl) dX5_setMissing_7 (fun H locs hP hD hS => ?_)
  have hP : va_P D vwCl [(a_this, .inr (5, [.int (-1), .int 0, .ref a_value, .ref a_below]))] H := hP
  have hD : va_D A [(a_this, .inr (5, [.int (-1), .int 0, .ref a_value, .ref a_below]))] := hD
  have g0 := x_some hr
  have e0 := x_p1 g0
  have e1 := x_p2 g0
  subst e0
  subst e1
  exact x_retv hx hb hret hlocks hP hD hK hS dX5_setMissing_10
set_option maxHeartbeats 4000000 in
set_option maxRecDepth 100000 in
theorem mX5_setMissing (l : Launch) (D : va_G) (c : Nat → ClassId) (a_this : Nat) (a_value : Nat) (a_below : Nat) (sz : Nat) (x_sort : Int32) (x_size : Int32) (n : Nat) (rm_sort : Int32) (rm_size : Int32) (h : fX5_setMissing n x_sort x_size = some (rm_sort, rm_size)) : Met l yX5_setMissing wsX5_setMissing ({ frames := 0, cells := 0, slots := 0, locals := 0 } : Room) (xPc D (xT c) sz [.ref a_this] (wX5_setMissing c a_this a_value a_below x_sort x_size) (fun _ => True)) (xQv D (xT c) (va_A (wX5_setMissing c a_this a_value a_below x_sort x_size) sz) (wX5_setMissing c a_this a_value a_below rm_sort rm_size)) 0 0 (va_A (wX5_setMissing c a_this a_value a_below x_sort x_size) sz) := by
  refine Met.ofW (cc := cX5_setMissing) (maxL := 1) (ret := none) (by decide) rfl ?_
  intro p e s m args below meth cd s₁ B hml hv
  obtain ⟨rfl, hsz, hP, hK, hD0, hV⟩ := hv
  subst hsz
  have hl := lv_entry [.ref a_this] (n := 1) (Nat.le_of_ble_eq_true rfl)
  rw [lg_entry_eq]
  exact kX5_setMissing_0 (A := va_A (wX5_setMissing c a_this a_value a_below x_sort x_size) s.heap.size) ⟨B.exec, B.bytes, hml, B.returns, findClass_of_methodNamed B.named, atoms_spec (ws := wsX5_setMissing) B.pre, B.notSynchronized, fun q h => Or.inr h, hK⟩ a_this a_value a_below n rm_sort rm_size x_sort x_size h s.heap [] _ hP hD0.self va_S.rf hl

abbrev wX5_isMissing (c : Nat → ClassId) (a_this : Nat) (a_value : Nat) (a_below : Nat) (x_size : Int32) (x_sort : Int32) : va_W := [(a_this, .inr (5, [.int x_sort, .int x_size, .ref a_value, .ref a_below]))]
def GX5_isMissing (p : Program) (l : Launch) (e : Env) (s : State) (m : MethodId) (args : Array Value) (below : List Frame) (meth : Method) (cd : Code) (D : va_G) (c : Nat → ClassId) (A : Nat → Prop) (a_this : Nat) (a_value : Nat) (a_below : Nat) (x_size : Int32) (x_sort : Int32) (r_ret : Int32) (pc : Nat) (st : List Value) (loc : List (Nat × Value)) : Prop :=
  ∀ (H : Heap) (locs : List Loc) (ls : Array Slot), va_P D vwCl (wX5_isMissing c a_this a_value a_below x_size x_sort) H → va_D A (wX5_isMissing c a_this a_value a_below x_size x_sort) → va_S A s.heap H locs → lv_has ls 1 loc → W p l e ({ frames := 0, cells := 0, slots := 0, locals := 0 } : Room) s m args below meth cd H locs 0 0 (MQ below (xQi D (xT c) A r_ret (wX5_isMissing c a_this a_value a_below x_size x_sort)) args s 0 0 A) (F0 m pc ls st)
theorem lkX5_isMissing_f11 : Cond.fieldLink RX5 11 "LeechClub$Slate" "sort" "I" ∈ wsX5_isMissing := by decide +kernel
theorem inX5_isMissing_X5 : ∀ w ∈ wsX50, w ∈ wsX5_isMissing := by decide +kernel
set_option maxHeartbeats 4000000 in
set_option maxRecDepth 100000 in
theorem kX5_isMissing_13 {p : Program} {l : Launch} {e : Env} {s : State} {m : MethodId} {args : Array Value} {below : List Frame} {meth : Method} {cd : Code} {D : va_G} {c : Nat → ClassId} {A : Nat → Prop} (E0 : xE p s m args meth cd D (xT c) A RX5 cX5_isMissing 1 (some .boolean) wsX5_isMissing) (a_this : Nat) (a_value : Nat) (a_below : Nat) (x_size : Int32) (x_sort : Int32) (n : Nat) (r_ret : Int32) (t0 : Int32) (hr : fX5_isMissing_13 n x_sort t0 = some (r_ret)) : GX5_isMissing p l e s m args below meth cd D c A a_this a_value a_below x_size x_sort r_ret 13 [.int t0] [] := by
  have E1 := E0
  obtain ⟨hx, hb, hml, hret, hown, hts, hlocks, hA, hK⟩ := E1
  intro H locs ls hP hD hS hl
  unfold fX5_isMissing_13 at hr
  obtain ⟨hz, hr⟩ := x_need hr
  have e0 := x_some hr
  subst e0
  exact x_retz hx hb hret (x_nz hz) hlocks hP hD hK hS dX5_isMissing_13
set_option maxHeartbeats 4000000 in
set_option maxRecDepth 100000 in
theorem kX5_isMissing_0 {p : Program} {l : Launch} {e : Env} {s : State} {m : MethodId} {args : Array Value} {below : List Frame} {meth : Method} {cd : Code} {D : va_G} {c : Nat → ClassId} {A : Nat → Prop} (E0 : xE p s m args meth cd D (xT c) A RX5 cX5_isMissing 1 (some .boolean) wsX5_isMissing) (a_this : Nat) (a_value : Nat) (a_below : Nat) (x_size : Int32) (x_sort : Int32) (n : Nat) (r_ret : Int32) (hr : fX5_isMissing n x_sort = some (r_ret)) : GX5_isMissing p l e s m args below meth cd D c A a_this a_value a_below x_size x_sort r_ret 0 [] [(0, .ref a_this)] := by
  have E1 := E0
  obtain ⟨hx, hb, hml, hret, hown, hts, hlocks, hA, hK⟩ := E1
  intro H locs ls hP hD hS hl
  unfold fX5_isMissing at hr
  refine lv_aload_n hx hb dX5_isMissing_0 rfl (lv_at hl 0 rfl) ?_
  refine va_get (D := D) (ci := 5) (v := .int x_sort) (C := RX5) (T := TX5) (N := 4) hx hb hts inX5_isMissing_X5 hown hK hP 0 rfl rfl 0 (by decide) (hts _ lkX5_isMissing_f11) (fun _ h9 => h9) rfl dX5_isMissing_1 ?_
  refine lv_iconst (v := (-1)) hx hb dX5_isMissing_4 (by decide) ?_
  refine lv_icmp_ne (tgt := 12) hx hb dX5_isMissing_5 (by decide) (fun c_1 => ?_) (fun c_1 => ?_)
  · have hr := x_iff hr c_1
    refine lv_iconst (v := 0) hx hb dX5_isMissing_12 (by decide) ?_
    exact kX5_isMissing_13 E0 a_this a_value a_below x_size x_sort n r_ret 0 hr H locs ls hP hD hS (lv_sub hl [] rfl)
  · have hr := x_ift hr c_1
    refine lv_iconst (v := 1) hx hb dX5_isMissing_8 (by decide) ?_
    refine lv_goto (tgt := 13) hx hb dX5_isMissing_9 (by decide) ?_
    exact kX5_isMissing_13 E0 a_this a_value a_below x_size x_sort n r_ret 1 hr H locs ls hP hD hS (lv_sub hl [] rfl)
set_option maxHeartbeats 4000000 in
set_option maxRecDepth 100000 in
theorem mX5_isMissing (l : Launch) (D : va_G) (c : Nat → ClassId) (a_this : Nat) (a_value : Nat) (a_below : Nat) (sz : Nat) (x_size : Int32) (x_sort : Int32) (n : Nat) (r_ret : Int32) (h : fX5_isMissing n x_sort = some (r_ret)) : Met l yX5_isMissing wsX5_isMissing ({ frames := 0, cells := 0, slots := 0, locals := 0 } : Room) (xPc D (xT c) sz [.ref a_this] (wX5_isMissing c a_this a_value a_below x_size x_sort) (fun _ => True)) (xQi D (xT c) (va_A (wX5_isMissing c a_this a_value a_below x_size x_sort) sz) r_ret (wX5_isMissing c a_this a_value a_below x_size x_sort)) 0 0 (va_A (wX5_isMissing c a_this a_value a_below x_size x_sort) sz) := by
  refine Met.ofW (cc := cX5_isMissing) (maxL := 1) (ret := (some .boolean)) (by decide) rfl ?_
  intro p e s m args below meth cd s₁ B hml hv
  obtain ⟨rfl, hsz, hP, hK, hD0, hV⟩ := hv
  subst hsz
  have hl := lv_entry [.ref a_this] (n := 1) (Nat.le_of_ble_eq_true rfl)
  rw [lg_entry_eq]
  exact kX5_isMissing_0 (A := va_A (wX5_isMissing c a_this a_value a_below x_size x_sort) s.heap.size) ⟨B.exec, B.bytes, hml, B.returns, findClass_of_methodNamed B.named, atoms_spec (ws := wsX5_isMissing) B.pre, B.notSynchronized, fun q h => Or.inr h, hK⟩ a_this a_value a_below x_size x_sort n r_ret h s.heap [] _ hP hD0.self va_S.rf hl

abbrev wX5_hasPlace (c : Nat → ClassId) (a_this : Nat) (a_value : Nat) (a_below : Nat) (x_sort : Int32) (x_size : Int32) : va_W := [(a_this, .inr (5, [.int x_sort, .int x_size, .ref a_value, .ref a_below]))]
def GX5_hasPlace (p : Program) (l : Launch) (e : Env) (s : State) (m : MethodId) (args : Array Value) (below : List Frame) (meth : Method) (cd : Code) (D : va_G) (c : Nat → ClassId) (A : Nat → Prop) (a_this : Nat) (a_value : Nat) (a_below : Nat) (x_sort : Int32) (x_size : Int32) (r_ret : Int32) (pc : Nat) (st : List Value) (loc : List (Nat × Value)) : Prop :=
  ∀ (H : Heap) (locs : List Loc) (ls : Array Slot), va_P D vwCl (wX5_hasPlace c a_this a_value a_below x_sort x_size) H → va_D A (wX5_hasPlace c a_this a_value a_below x_sort x_size) → va_S A s.heap H locs → lv_has ls 2 loc → W p l e ({ frames := 0, cells := 0, slots := 0, locals := 0 } : Room) s m args below meth cd H locs 0 0 (MQ below (xQi D (xT c) A r_ret (wX5_hasPlace c a_this a_value a_below x_sort x_size)) args s 0 0 A) (F0 m pc ls st)
theorem lkX5_hasPlace_f22 : Cond.fieldLink RX5 22 "LeechClub$Slate" "size" "I" ∈ wsX5_hasPlace := by decide +kernel
theorem inX5_hasPlace_X5 : ∀ w ∈ wsX50, w ∈ wsX5_hasPlace := by decide +kernel
set_option maxHeartbeats 4000000 in
set_option maxRecDepth 100000 in
theorem kX5_hasPlace_17 {p : Program} {l : Launch} {e : Env} {s : State} {m : MethodId} {args : Array Value} {below : List Frame} {meth : Method} {cd : Code} {D : va_G} {c : Nat → ClassId} {A : Nat → Prop} (E0 : xE p s m args meth cd D (xT c) A RX5 cX5_hasPlace 2 (some .boolean) wsX5_hasPlace) (a_this : Nat) (a_value : Nat) (a_below : Nat) (x_sort : Int32) (x_size : Int32) (n : Nat) (r_ret : Int32) (t0 : Int32) (hr : fX5_hasPlace_17 n x_size t0 = some (r_ret)) : GX5_hasPlace p l e s m args below meth cd D c A a_this a_value a_below x_sort x_size r_ret 17 [.int t0] [] := by
  have E1 := E0
  obtain ⟨hx, hb, hml, hret, hown, hts, hlocks, hA, hK⟩ := E1
  intro H locs ls hP hD hS hl
  unfold fX5_hasPlace_17 at hr
  obtain ⟨hz, hr⟩ := x_need hr
  have e0 := x_some hr
  subst e0
  exact x_retz hx hb hret (x_nz hz) hlocks hP hD hK hS dX5_hasPlace_17
set_option maxHeartbeats 4000000 in
set_option maxRecDepth 100000 in
theorem kX5_hasPlace_16 {p : Program} {l : Launch} {e : Env} {s : State} {m : MethodId} {args : Array Value} {below : List Frame} {meth : Method} {cd : Code} {D : va_G} {c : Nat → ClassId} {A : Nat → Prop} (E0 : xE p s m args meth cd D (xT c) A RX5 cX5_hasPlace 2 (some .boolean) wsX5_hasPlace) (a_this : Nat) (a_value : Nat) (a_below : Nat) (x_sort : Int32) (x_size : Int32) (n : Nat) (r_ret : Int32) (hr : fX5_hasPlace_16 n x_size = some (r_ret)) : GX5_hasPlace p l e s m args below meth cd D c A a_this a_value a_below x_sort x_size r_ret 16 [] [] := by
  have E1 := E0
  obtain ⟨hx, hb, hml, hret, hown, hts, hlocks, hA, hK⟩ := E1
  intro H locs ls hP hD hS hl
  unfold fX5_hasPlace_16 at hr
  refine lv_iconst (v := 0) hx hb dX5_hasPlace_16 (by decide) ?_
  exact kX5_hasPlace_17 E0 a_this a_value a_below x_sort x_size n r_ret 0 hr H locs ls hP hD hS (lv_sub hl [] rfl)
set_option maxHeartbeats 4000000 in
set_option maxRecDepth 100000 in
theorem kX5_hasPlace_0 {p : Program} {l : Launch} {e : Env} {s : State} {m : MethodId} {args : Array Value} {below : List Frame} {meth : Method} {cd : Code} {D : va_G} {c : Nat → ClassId} {A : Nat → Prop} (E0 : xE p s m args meth cd D (xT c) A RX5 cX5_hasPlace 2 (some .boolean) wsX5_hasPlace) (a_this : Nat) (a_value : Nat) (a_below : Nat) (x_sort : Int32) (x_size : Int32) (n : Nat) (r_ret : Int32) (v1 : Int32) (hr : fX5_hasPlace n x_size v1 = some (r_ret)) : GX5_hasPlace p l e s m args below meth cd D c A a_this a_value a_below x_sort x_size r_ret 0 [] [(0, .ref a_this), (1, .int v1)] := by
  have E1 := E0
  obtain ⟨hx, hb, hml, hret, hown, hts, hlocks, hA, hK⟩ := E1
  intro H locs ls hP hD hS hl
  unfold fX5_hasPlace at hr
  refine lv_iload_n hx hb dX5_hasPlace_0 rfl (lv_at hl 1 rfl) ?_
  refine lv_if_lt (tgt := 16) hx hb dX5_hasPlace_1 (by decide) (fun c_1 => ?_) (fun c_1 => ?_)
  · have hr := x_ift hr c_1
    exact kX5_hasPlace_16 E0 a_this a_value a_below x_sort x_size n r_ret hr H locs ls hP hD hS (lv_sub hl [] rfl)
  · have hr := x_iff hr c_1
    refine lv_iload_n hx hb dX5_hasPlace_4 rfl (lv_at hl 1 rfl) ?_
    refine lv_aload_n hx hb dX5_hasPlace_5 rfl (lv_at hl 0 rfl) ?_
    refine va_get (D := D) (ci := 5) (v := .int x_size) (C := RX5) (T := TX5) (N := 4) hx hb hts inX5_hasPlace_X5 hown hK hP 0 rfl rfl 1 (by decide) (hts _ lkX5_hasPlace_f22) (fun _ h9 => h9) rfl dX5_hasPlace_6 ?_
    refine lv_icmp_ge (tgt := 16) hx hb dX5_hasPlace_9 (by decide) (fun c_2 => ?_) (fun c_2 => ?_)
    · have hr := x_ift hr c_2
      exact kX5_hasPlace_16 E0 a_this a_value a_below x_sort x_size n r_ret hr H locs ls hP hD hS (lv_sub hl [] rfl)
    · have hr := x_iff hr c_2
      refine lv_iconst (v := 1) hx hb dX5_hasPlace_12 (by decide) ?_
      refine lv_goto (tgt := 17) hx hb dX5_hasPlace_13 (by decide) ?_
      exact kX5_hasPlace_17 E0 a_this a_value a_below x_sort x_size n r_ret 1 hr H locs ls hP hD hS (lv_sub hl [] rfl)
set_option maxHeartbeats 4000000 in
set_option maxRecDepth 100000 in
theorem mX5_hasPlace (l : Launch) (D : va_G) (c : Nat → ClassId) (a_this : Nat) (a_value : Nat) (a_below : Nat) (sz : Nat) (x_sort : Int32) (x_size : Int32) (v1 : Int32) (n : Nat) (r_ret : Int32) (h : fX5_hasPlace n x_size v1 = some (r_ret)) : Met l yX5_hasPlace wsX5_hasPlace ({ frames := 0, cells := 0, slots := 0, locals := 0 } : Room) (xPc D (xT c) sz [.ref a_this, .int v1] (wX5_hasPlace c a_this a_value a_below x_sort x_size) (fun _ => True)) (xQi D (xT c) (va_A (wX5_hasPlace c a_this a_value a_below x_sort x_size) sz) r_ret (wX5_hasPlace c a_this a_value a_below x_sort x_size)) 0 0 (va_A (wX5_hasPlace c a_this a_value a_below x_sort x_size) sz) := by
  refine Met.ofW (cc := cX5_hasPlace) (maxL := 2) (ret := (some .boolean)) (by decide) rfl ?_
  intro p e s m args below meth cd s₁ B hml hv
  obtain ⟨rfl, hsz, hP, hK, hD0, hV⟩ := hv
  subst hsz
  have hl := lv_entry [.ref a_this, .int v1] (n := 2) (Nat.le_of_ble_eq_true rfl)
  rw [lg_entry_eq]
  exact kX5_hasPlace_0 (A := va_A (wX5_hasPlace c a_this a_value a_below x_sort x_size) s.heap.size) ⟨B.exec, B.bytes, hml, B.returns, findClass_of_methodNamed B.named, atoms_spec (ws := wsX5_hasPlace) B.pre, B.notSynchronized, fun q h => Or.inr h, hK⟩ a_this a_value a_below x_sort x_size n r_ret v1 h s.heap [] _ hP hD0.self va_S.rf hl

abbrev wX5_hasRow (c : Nat → ClassId) (a_this : Nat) (a_value : Nat) (a_below : Nat) (x_sort : Int32) (x_size : Int32) : va_W := [(a_this, .inr (5, [.int x_sort, .int x_size, .ref a_value, .ref a_below]))]
def GX5_hasRow (p : Program) (l : Launch) (e : Env) (s : State) (m : MethodId) (args : Array Value) (below : List Frame) (meth : Method) (cd : Code) (D : va_G) (c : Nat → ClassId) (A : Nat → Prop) (a_this : Nat) (a_value : Nat) (a_below : Nat) (x_sort : Int32) (x_size : Int32) (r_ret : Int32) (pc : Nat) (st : List Value) (loc : List (Nat × Value)) : Prop :=
  ∀ (H : Heap) (locs : List Loc) (ls : Array Slot), va_P D vwCl (wX5_hasRow c a_this a_value a_below x_sort x_size) H → va_D A (wX5_hasRow c a_this a_value a_below x_sort x_size) → va_S A s.heap H locs → lv_has ls 3 loc → W p l e ({ frames := 0, cells := 0, slots := 0, locals := 0 } : Room) s m args below meth cd H locs 0 0 (MQ below (xQi D (xT c) A r_ret (wX5_hasRow c a_this a_value a_below x_sort x_size)) args s 0 0 A) (F0 m pc ls st)
theorem lkX5_hasRow_f22 : Cond.fieldLink RX5 22 "LeechClub$Slate" "size" "I" ∈ wsX5_hasRow := by decide +kernel
theorem inX5_hasRow_X5 : ∀ w ∈ wsX50, w ∈ wsX5_hasRow := by decide +kernel
set_option maxHeartbeats 4000000 in
set_option maxRecDepth 100000 in
theorem kX5_hasRow_27 {p : Program} {l : Launch} {e : Env} {s : State} {m : MethodId} {args : Array Value} {below : List Frame} {meth : Method} {cd : Code} {D : va_G} {c : Nat → ClassId} {A : Nat → Prop} (E0 : xE p s m args meth cd D (xT c) A RX5 cX5_hasRow 3 (some .boolean) wsX5_hasRow) (a_this : Nat) (a_value : Nat) (a_below : Nat) (x_sort : Int32) (x_size : Int32) (n : Nat) (r_ret : Int32) (t0 : Int32) (hr : fX5_hasRow_27 n x_size t0 = some (r_ret)) : GX5_hasRow p l e s m args below meth cd D c A a_this a_value a_below x_sort x_size r_ret 27 [.int t0] [] := by
  have E1 := E0
  obtain ⟨hx, hb, hml, hret, hown, hts, hlocks, hA, hK⟩ := E1
  intro H locs ls hP hD hS hl
  unfold fX5_hasRow_27 at hr
  obtain ⟨hz, hr⟩ := x_need hr
  have e0 := x_some hr
  subst e0
  exact x_retz hx hb hret (x_nz hz) hlocks hP hD hK hS dX5_hasRow_27
set_option maxHeartbeats 4000000 in
set_option maxRecDepth 100000 in
theorem kX5_hasRow_26 {p : Program} {l : Launch} {e : Env} {s : State} {m : MethodId} {args : Array Value} {below : List Frame} {meth : Method} {cd : Code} {D : va_G} {c : Nat → ClassId} {A : Nat → Prop} (E0 : xE p s m args meth cd D (xT c) A RX5 cX5_hasRow 3 (some .boolean) wsX5_hasRow) (a_this : Nat) (a_value : Nat) (a_below : Nat) (x_sort : Int32) (x_size : Int32) (n : Nat) (r_ret : Int32) (hr : fX5_hasRow_26 n x_size = some (r_ret)) : GX5_hasRow p l e s m args below meth cd D c A a_this a_value a_below x_sort x_size r_ret 26 [] [] := by
  have E1 := E0
  obtain ⟨hx, hb, hml, hret, hown, hts, hlocks, hA, hK⟩ := E1
  intro H locs ls hP hD hS hl
  unfold fX5_hasRow_26 at hr
  refine lv_iconst (v := 0) hx hb dX5_hasRow_26 (by decide) ?_
  exact kX5_hasRow_27 E0 a_this a_value a_below x_sort x_size n r_ret 0 hr H locs ls hP hD hS (lv_sub hl [] rfl)
set_option maxHeartbeats 4000000 in
set_option maxRecDepth 100000 in
theorem kX5_hasRow_0 {p : Program} {l : Launch} {e : Env} {s : State} {m : MethodId} {args : Array Value} {below : List Frame} {meth : Method} {cd : Code} {D : va_G} {c : Nat → ClassId} {A : Nat → Prop} (E0 : xE p s m args meth cd D (xT c) A RX5 cX5_hasRow 3 (some .boolean) wsX5_hasRow) (a_this : Nat) (a_value : Nat) (a_below : Nat) (x_sort : Int32) (x_size : Int32) (n : Nat) (r_ret : Int32) (v1 : Int32) (v2 : Int32) (hr : fX5_hasRow n x_size v1 v2 = some (r_ret)) : GX5_hasRow p l e s m args below meth cd D c A a_this a_value a_below x_sort x_size r_ret 0 [] [(0, .ref a_this), (1, .int v1), (2, .int v2)] := by
  have E1 := E0
  obtain ⟨hx, hb, hml, hret, hown, hts, hlocks, hA, hK⟩ := E1
  intro H locs ls hP hD hS hl
  unfold fX5_hasRow at hr
  refine lv_iload_n hx hb dX5_hasRow_0 rfl (lv_at hl 1 rfl) ?_
  refine lv_if_lt (tgt := 26) hx hb dX5_hasRow_1 (by decide) (fun c_1 => ?_) (fun c_1 => ?_)
  · have hr := x_ift hr c_1
    exact kX5_hasRow_26 E0 a_this a_value a_below x_sort x_size n r_ret hr H locs ls hP hD hS (lv_sub hl [] rfl)
  · have hr := x_iff hr c_1
    refine lv_iload_n hx hb dX5_hasRow_4 rfl (lv_at hl 2 rfl) ?_
    refine lv_if_lt (tgt := 26) hx hb dX5_hasRow_5 (by decide) (fun c_2 => ?_) (fun c_2 => ?_)
    · have hr := x_ift hr c_2
      exact kX5_hasRow_26 E0 a_this a_value a_below x_sort x_size n r_ret hr H locs ls hP hD hS (lv_sub hl [] rfl)
    · have hr := x_iff hr c_2
      refine lv_iload_n hx hb dX5_hasRow_8 rfl (lv_at hl 1 rfl) ?_
      refine lv_i2l hx hb dX5_hasRow_9 rfl ?_
      refine lv_iload_n hx hb dX5_hasRow_10 rfl (lv_at hl 2 rfl) ?_
      refine lv_i2l hx hb dX5_hasRow_11 rfl ?_
      refine lv_ladd hx hb dX5_hasRow_12 ?_
      refine lv_aload_n hx hb dX5_hasRow_13 rfl (lv_at hl 0 rfl) ?_
      refine va_get (D := D) (ci := 5) (v := .int x_size) (C := RX5) (T := TX5) (N := 4) hx hb hts inX5_hasRow_X5 hown hK hP 0 rfl rfl 1 (by decide) (hts _ lkX5_hasRow_f22) (fun _ h9 => h9) rfl dX5_hasRow_14 ?_
      refine lv_i2l hx hb dX5_hasRow_17 rfl ?_
      refine W.lcmp hx hb dX5_hasRow_18 ?_
      refine lv_if_gt (tgt := 26) hx hb dX5_hasRow_19 (by decide) (fun c_3 => ?_) (fun c_3 => ?_)
      · have hr := x_ift hr c_3
        exact kX5_hasRow_26 E0 a_this a_value a_below x_sort x_size n r_ret hr H locs ls hP hD hS (lv_sub hl [] rfl)
      · have hr := x_iff hr c_3
        refine lv_iconst (v := 1) hx hb dX5_hasRow_22 (by decide) ?_
        refine lv_goto (tgt := 27) hx hb dX5_hasRow_23 (by decide) ?_
        exact kX5_hasRow_27 E0 a_this a_value a_below x_sort x_size n r_ret 1 hr H locs ls hP hD hS (lv_sub hl [] rfl)
set_option maxHeartbeats 4000000 in
set_option maxRecDepth 100000 in
theorem mX5_hasRow (l : Launch) (D : va_G) (c : Nat → ClassId) (a_this : Nat) (a_value : Nat) (a_below : Nat) (sz : Nat) (x_sort : Int32) (x_size : Int32) (v1 : Int32) (v2 : Int32) (n : Nat) (r_ret : Int32) (h : fX5_hasRow n x_size v1 v2 = some (r_ret)) : Met l yX5_hasRow wsX5_hasRow ({ frames := 0, cells := 0, slots := 0, locals := 0 } : Room) (xPc D (xT c) sz [.ref a_this, .int v1, .int v2] (wX5_hasRow c a_this a_value a_below x_sort x_size) (fun _ => True)) (xQi D (xT c) (va_A (wX5_hasRow c a_this a_value a_below x_sort x_size) sz) r_ret (wX5_hasRow c a_this a_value a_below x_sort x_size)) 0 0 (va_A (wX5_hasRow c a_this a_value a_below x_sort x_size) sz) := by
  refine Met.ofW (cc := cX5_hasRow) (maxL := 3) (ret := (some .boolean)) (by decide) rfl ?_
  intro p e s m args below meth cd s₁ B hml hv
  obtain ⟨rfl, hsz, hP, hK, hD0, hV⟩ := hv
  subst hsz
  have hl := lv_entry [.ref a_this, .int v1, .int v2] (n := 3) (Nat.le_of_ble_eq_true rfl)
  rw [lg_entry_eq]
  exact kX5_hasRow_0 (A := va_A (wX5_hasRow c a_this a_value a_below x_sort x_size) s.heap.size) ⟨B.exec, B.bytes, hml, B.returns, findClass_of_methodNamed B.named, atoms_spec (ws := wsX5_hasRow) B.pre, B.notSynchronized, fun q h => Or.inr h, hK⟩ a_this a_value a_below x_sort x_size n r_ret v1 v2 h s.heap [] _ hP hD0.self va_S.rf hl

abbrev wX5_isNothingAt (c : Nat → ClassId) (a_this : Nat) (a_value : Nat) (a_below : Nat) (x_size : Int32) (x_sort : Int32) (x_below : Nat → Int64) : va_W := [(a_this, .inr (5, [.int x_sort, .int x_size, .ref a_value, .ref a_below])), (a_below, .inl (c 1, 10, .inr (.inl x_below)))]
def GX5_isNothingAt (p : Program) (l : Launch) (e : Env) (s : State) (m : MethodId) (args : Array Value) (below : List Frame) (meth : Method) (cd : Code) (D : va_G) (c : Nat → ClassId) (A : Nat → Prop) (a_this : Nat) (a_value : Nat) (a_below : Nat) (x_size : Int32) (x_sort : Int32) (x_below : Nat → Int64) (r_ret : Int32) (pc : Nat) (st : List Value) (loc : List (Nat × Value)) : Prop :=
  ∀ (H : Heap) (locs : List Loc) (ls : Array Slot), va_P D vwCl (wX5_isNothingAt c a_this a_value a_below x_size x_sort x_below) H → va_D A (wX5_isNothingAt c a_this a_value a_below x_size x_sort x_below) → va_S A s.heap H locs → lv_has ls 2 loc → W p l e ({ frames := 0, cells := 0, slots := 0, locals := 0 } : Room) s m args below meth cd H locs 0 0 (MQ below (xQi D (xT c) A r_ret (wX5_isNothingAt c a_this a_value a_below x_size x_sort x_below)) args s 0 0 A) (F0 m pc ls st)
theorem lkX5_isNothingAt_f11 : Cond.fieldLink RX5 11 "LeechClub$Slate" "sort" "I" ∈ wsX5_isNothingAt := by decide +kernel
theorem lkX5_isNothingAt_f19 : Cond.fieldLink RX5 19 "LeechClub$Slate" "below" "[J" ∈ wsX5_isNothingAt := by decide +kernel
theorem inX5_isNothingAt_X5 : ∀ w ∈ wsX50, w ∈ wsX5_isNothingAt := by decide +kernel
set_option maxHeartbeats 4000000 in
set_option maxRecDepth 100000 in
theorem kX5_isNothingAt_24 {p : Program} {l : Launch} {e : Env} {s : State} {m : MethodId} {args : Array Value} {below : List Frame} {meth : Method} {cd : Code} {D : va_G} {c : Nat → ClassId} {A : Nat → Prop} (E0 : xE p s m args meth cd D (xT c) A RX5 cX5_isNothingAt 2 (some .boolean) wsX5_isNothingAt) (a_this : Nat) (a_value : Nat) (a_below : Nat) (x_size : Int32) (x_sort : Int32) (x_below : Nat → Int64) (n : Nat) (r_ret : Int32) (t0 : Int32) (hr : fX5_isNothingAt_24 n x_sort x_below t0 = some (r_ret)) : GX5_isNothingAt p l e s m args below meth cd D c A a_this a_value a_below x_size x_sort x_below r_ret 24 [.int t0] [] := by
  have E1 := E0
  obtain ⟨hx, hb, hml, hret, hown, hts, hlocks, hA, hK⟩ := E1
  intro H locs ls hP hD hS hl
  unfold fX5_isNothingAt_24 at hr
  obtain ⟨hz, hr⟩ := x_need hr
  have e0 := x_some hr
  subst e0
  exact x_retz hx hb hret (x_nz hz) hlocks hP hD hK hS dX5_isNothingAt_24
set_option maxHeartbeats 4000000 in
set_option maxRecDepth 100000 in
theorem kX5_isNothingAt_23 {p : Program} {l : Launch} {e : Env} {s : State} {m : MethodId} {args : Array Value} {below : List Frame} {meth : Method} {cd : Code} {D : va_G} {c : Nat → ClassId} {A : Nat → Prop} (E0 : xE p s m args meth cd D (xT c) A RX5 cX5_isNothingAt 2 (some .boolean) wsX5_isNothingAt) (a_this : Nat) (a_value : Nat) (a_below : Nat) (x_size : Int32) (x_sort : Int32) (x_below : Nat → Int64) (n : Nat) (r_ret : Int32) (hr : fX5_isNothingAt_23 n x_sort x_below = some (r_ret)) : GX5_isNothingAt p l e s m args below meth cd D c A a_this a_value a_below x_size x_sort x_below r_ret 23 [] [] := by
  have E1 := E0
  obtain ⟨hx, hb, hml, hret, hown, hts, hlocks, hA, hK⟩ := E1
  intro H locs ls hP hD hS hl
  unfold fX5_isNothingAt_23 at hr
  refine lv_iconst (v := 0) hx hb dX5_isNothingAt_23 (by decide) ?_
  exact kX5_isNothingAt_24 E0 a_this a_value a_below x_size x_sort x_below n r_ret 0 hr H locs ls hP hD hS (lv_sub hl [] rfl)
set_option maxHeartbeats 4000000 in
set_option maxRecDepth 100000 in
theorem kX5_isNothingAt_0 {p : Program} {l : Launch} {e : Env} {s : State} {m : MethodId} {args : Array Value} {below : List Frame} {meth : Method} {cd : Code} {D : va_G} {c : Nat → ClassId} {A : Nat → Prop} (E0 : xE p s m args meth cd D (xT c) A RX5 cX5_isNothingAt 2 (some .boolean) wsX5_isNothingAt) (a_this : Nat) (a_value : Nat) (a_below : Nat) (x_size : Int32) (x_sort : Int32) (x_below : Nat → Int64) (n : Nat) (r_ret : Int32) (v1 : Int32) (hr : fX5_isNothingAt n x_sort x_below v1 = some (r_ret)) : GX5_isNothingAt p l e s m args below meth cd D c A a_this a_value a_below x_size x_sort x_below r_ret 0 [] [(0, .ref a_this), (1, .int v1)] := by
  have E1 := E0
  obtain ⟨hx, hb, hml, hret, hown, hts, hlocks, hA, hK⟩ := E1
  intro H locs ls hP hD hS hl
  unfold fX5_isNothingAt at hr
  refine lv_aload_n hx hb dX5_isNothingAt_0 rfl (lv_at hl 0 rfl) ?_
  refine va_get (D := D) (ci := 5) (v := .int x_sort) (C := RX5) (T := TX5) (N := 4) hx hb hts inX5_isNothingAt_X5 hown hK hP 0 rfl rfl 0 (by decide) (hts _ lkX5_isNothingAt_f11) (fun _ h9 => h9) rfl dX5_isNothingAt_1 ?_
  refine lv_iconst (v := 2) hx hb dX5_isNothingAt_4 (by decide) ?_
  refine lv_icmp_ne (tgt := 23) hx hb dX5_isNothingAt_5 (by decide) (fun c_1 => ?_) (fun c_1 => ?_)
  · have hr := x_iff hr c_1
    exact kX5_isNothingAt_23 E0 a_this a_value a_below x_size x_sort x_below n r_ret hr H locs ls hP hD hS (lv_sub hl [] rfl)
  · have hr := x_ift hr c_1
    refine lv_aload_n hx hb dX5_isNothingAt_8 rfl (lv_at hl 0 rfl) ?_
    refine va_get (D := D) (ci := 5) (v := .ref a_below) (C := RX5) (T := TX5) (N := 4) hx hb hts inX5_isNothingAt_X5 hown hK hP 0 rfl rfl 3 (by decide) (hts _ lkX5_isNothingAt_f19) (fun _ h9 => h9) rfl dX5_isNothingAt_9 ?_
    refine lv_iload_n hx hb dX5_isNothingAt_12 rfl (lv_at hl 1 rfl) ?_
    obtain ⟨b_2, hr⟩ := x_chk hr
    refine va_lald hx hb hK hP 1 1 rfl rfl b_2 dX5_isNothingAt_13 ?_
    refine lv_lconst (v := 0) hx hb dX5_isNothingAt_14 (by decide) ?_
    refine W.lcmp hx hb dX5_isNothingAt_15 ?_
    refine lv_if_ne (tgt := 23) hx hb dX5_isNothingAt_16 (by decide) (fun c_3 => ?_) (fun c_3 => ?_)
    · have hr := x_iff hr c_3
      exact kX5_isNothingAt_23 E0 a_this a_value a_below x_size x_sort x_below n r_ret hr H locs ls hP hD hS (lv_sub hl [] rfl)
    · have hr := x_ift hr c_3
      refine lv_iconst (v := 1) hx hb dX5_isNothingAt_19 (by decide) ?_
      refine lv_goto (tgt := 24) hx hb dX5_isNothingAt_20 (by decide) ?_
      exact kX5_isNothingAt_24 E0 a_this a_value a_below x_size x_sort x_below n r_ret 1 hr H locs ls hP hD hS (lv_sub hl [] rfl)
set_option maxHeartbeats 4000000 in
set_option maxRecDepth 100000 in
theorem mX5_isNothingAt (l : Launch) (D : va_G) (c : Nat → ClassId) (a_this : Nat) (a_value : Nat) (a_below : Nat) (sz : Nat) (x_size : Int32) (x_sort : Int32) (x_below : Nat → Int64) (v1 : Int32) (n : Nat) (r_ret : Int32) (h : fX5_isNothingAt n x_sort x_below v1 = some (r_ret)) : Met l yX5_isNothingAt wsX5_isNothingAt ({ frames := 0, cells := 0, slots := 0, locals := 0 } : Room) (xPc D (xT c) sz [.ref a_this, .int v1] (wX5_isNothingAt c a_this a_value a_below x_size x_sort x_below) (fun _ => True)) (xQi D (xT c) (va_A (wX5_isNothingAt c a_this a_value a_below x_size x_sort x_below) sz) r_ret (wX5_isNothingAt c a_this a_value a_below x_size x_sort x_below)) 0 0 (va_A (wX5_isNothingAt c a_this a_value a_below x_size x_sort x_below) sz) := by
  refine Met.ofW (cc := cX5_isNothingAt) (maxL := 2) (ret := (some .boolean)) (by decide) rfl ?_
  intro p e s m args below meth cd s₁ B hml hv
  obtain ⟨rfl, hsz, hP, hK, hD0, hV⟩ := hv
  subst hsz
  have hl := lv_entry [.ref a_this, .int v1] (n := 2) (Nat.le_of_ble_eq_true rfl)
  rw [lg_entry_eq]
  exact kX5_isNothingAt_0 (A := va_A (wX5_isNothingAt c a_this a_value a_below x_size x_sort x_below) s.heap.size) ⟨B.exec, B.bytes, hml, B.returns, findClass_of_methodNamed B.named, atoms_spec (ws := wsX5_isNothingAt) B.pre, B.notSynchronized, fun q h => Or.inr h, hK⟩ a_this a_value a_below x_size x_sort x_below n r_ret v1 h s.heap [] _ hP hD0.self va_S.rf hl

abbrev wX5_findPlace (c : Nat → ClassId) (a_this : Nat) (a_value : Nat) (a_below : Nat) (x_sort : Int32) (x_size : Int32) : va_W := [(a_this, .inr (5, [.int x_sort, .int x_size, .ref a_value, .ref a_below]))]
def GX5_findPlace (p : Program) (l : Launch) (e : Env) (s : State) (m : MethodId) (args : Array Value) (below : List Frame) (meth : Method) (cd : Code) (D : va_G) (c : Nat → ClassId) (A : Nat → Prop) (a_this : Nat) (a_value : Nat) (a_below : Nat) (x_sort : Int32) (x_size : Int32) (r_ret : Int32) (pc : Nat) (st : List Value) (loc : List (Nat × Value)) : Prop :=
  ∀ (H : Heap) (locs : List Loc) (ls : Array Slot), va_P D vwCl (wX5_findPlace c a_this a_value a_below x_sort x_size) H → va_D A (wX5_findPlace c a_this a_value a_below x_sort x_size) → va_S A s.heap H locs → lv_has ls 3 loc → W p l e ({ frames := 1, cells := 0, slots := 0, locals := 21 } : Room) s m args below meth cd H locs 0 0 (MQ below (xQi D (xT c) A r_ret (wX5_findPlace c a_this a_value a_below x_sort x_size)) args s 0 0 A) (F0 m pc ls st)
theorem lkX5_findPlace_f11 : Cond.fieldLink RX5 11 "LeechClub$Slate" "sort" "I" ∈ wsX5_findPlace := by decide +kernel
theorem inX5_findPlace_X5 : ∀ w ∈ wsX50, w ∈ wsX5_findPlace := by decide +kernel
set_option maxHeartbeats 4000000 in
set_option maxRecDepth 100000 in
theorem kX5_findPlace_35 {p : Program} {l : Launch} {e : Env} {s : State} {m : MethodId} {args : Array Value} {below : List Frame} {meth : Method} {cd : Code} {D : va_G} {c : Nat → ClassId} {A : Nat → Prop} (E0 : xE p s m args meth cd D (xT c) A RX5 cX5_findPlace 3 (some .int) wsX5_findPlace) (a_this : Nat) (a_value : Nat) (a_below : Nat) (x_sort : Int32) (x_size : Int32) (n : Nat) (r_ret : Int32) (t0 : Int32) (hr : fX5_findPlace_35 n x_sort x_size t0 = some (r_ret)) : GX5_findPlace p l e s m args below meth cd D c A a_this a_value a_below x_sort x_size r_ret 35 [.int t0] [] := by
  have E1 := E0
  obtain ⟨hx, hb, hml, hret, hown, hts, hlocks, hA, hK⟩ := E1
  intro H locs ls hP hD hS hl
  unfold fX5_findPlace_35 at hr
  have e0 := x_some hr
  subst e0
  exact x_reti hx hb hret hlocks hP hD hK hS dX5_findPlace_35
set_option maxHeartbeats 4000000 in
set_option maxRecDepth 100000 in
theorem kX5_findPlace_0 {p : Program} {l : Launch} {e : Env} {s : State} {m : MethodId} {args : Array Value} {below : List Frame} {meth : Method} {cd : Code} {D : va_G} {c : Nat → ClassId} {A : Nat → Prop} (E0 : xE p s m args meth cd D (xT c) A RX5 cX5_findPlace 3 (some .int) wsX5_findPlace) (a_this : Nat) (a_value : Nat) (a_below : Nat) (x_sort : Int32) (x_size : Int32) (n : Nat) (r_ret : Int32) (v1 : Int32) (v2 : Int32) (hr : fX5_findPlace n x_sort x_size v1 v2 = some (r_ret)) : GX5_findPlace p l e s m args below meth cd D c A a_this a_value a_below x_sort x_size r_ret 0 [] [(0, .ref a_this), (1, .int v1), (2, .int v2)] := by
  have E1 := E0
  obtain ⟨hx, hb, hml, hret, hown, hts, hlocks, hA, hK⟩ := E1
  intro H locs ls hP hD hS hl
  unfold fX5_findPlace at hr
  refine lv_aload_n hx hb dX5_findPlace_0 rfl (lv_at hl 0 rfl) ?_
  obtain ⟨q1_0, hc1, hr⟩ := x_bind hr
  refine x_runi (wr := []) (wf := [(a_this, .inr (5, [.int x_sort, .int x_size, .ref a_value, .ref a_below]))]) (x_goV (As := []) (rest := []) ⟨hx, hb, hml, hown, hts⟩ (mX5_isMissing l D c a_this a_value a_below H.size x_size x_sort n _ hc1) (cwV 0 hts gX5_findPlace_X5_isMissing rfl rfl rfl (by decide +kernel) ⟨Nat.le_of_ble_eq_true rfl, Nat.le_of_ble_eq_true rfl⟩) xB_t hP hD hK [0] rfl (by decide) (fun _ _ _ => trivial) 0 5 rfl rfl rfl rfl hl.1 rfl (Nat.le_of_ble_eq_true rfl) dX5_findPlace_1) hP hD hS hA [0] [] [0] rfl rfl rfl ⟨by decide, by decide, by decide⟩ (fun H locs hP hD hS => ?_)
  refine lv_if_eq (tgt := 10) hx hb dX5_findPlace_4 (by decide) (fun c_2 => ?_) (fun c_2 => ?_)
  · have hr := x_ift hr c_2
    refine lv_aload_n hx hb dX5_findPlace_10 rfl (lv_at hl 0 rfl) ?_
    refine va_get (D := D) (ci := 5) (v := .int x_sort) (C := RX5) (T := TX5) (N := 4) hx hb hts inX5_findPlace_X5 hown hK hP 0 rfl rfl 0 (by decide) (hts _ lkX5_findPlace_f11) (fun _ h9 => h9) rfl dX5_findPlace_11 ?_
    refine lv_iload_n hx hb dX5_findPlace_14 rfl (lv_at hl 1 rfl) ?_
    refine lv_icmp_eq (tgt := 21) hx hb dX5_findPlace_15 (by decide) (fun c_3 => ?_) (fun c_3 => ?_)
    · have hr := x_ift hr c_3
      refine lv_aload_n hx hb dX5_findPlace_21 rfl (lv_at hl 0 rfl) ?_
      refine lv_iload_n hx hb dX5_findPlace_22 rfl (lv_at hl 2 rfl) ?_
      obtain ⟨q4_0, hc4, hr⟩ := x_bind hr
      refine x_runi (wr := []) (wf := [(a_this, .inr (5, [.int x_sort, .int x_size, .ref a_value, .ref a_below]))]) (x_goV (As := [.int v2]) (rest := []) ⟨hx, hb, hml, hown, hts⟩ (mX5_hasPlace l D c a_this a_value a_below H.size x_sort x_size v2 n _ hc4) (cwV 1 hts gX5_findPlace_X5_hasPlace rfl rfl rfl (by decide +kernel) ⟨Nat.le_of_ble_eq_true rfl, Nat.le_of_ble_eq_true rfl⟩) xB_t hP hD hK [0] rfl (by decide) (fun _ _ _ => trivial) 0 5 rfl rfl rfl rfl hl.1 rfl (Nat.le_of_ble_eq_true rfl) dX5_findPlace_23) hP hD hS hA [0] [] [0] rfl rfl rfl ⟨by decide, by decide, by decide⟩ (fun H locs hP hD hS => ?_)
      refine lv_if_eq (tgt := 33) hx hb dX5_findPlace_26 (by decide) (fun c_5 => ?_) (fun c_5 => ?_)
      · have hr := x_ift hr c_5
        refine lv_bipush (v := (-14)) hx hb dX5_findPlace_33 (by decide) ?_
        exact kX5_findPlace_35 E0 a_this a_value a_below x_sort x_size n r_ret (-14) hr H locs ls hP hD hS (lv_sub hl [] rfl)
      · have hr := x_iff hr c_5
        refine lv_iconst (v := 0) hx hb dX5_findPlace_29 (by decide) ?_
        refine lv_goto (tgt := 35) hx hb dX5_findPlace_30 (by decide) ?_
        exact kX5_findPlace_35 E0 a_this a_value a_below x_sort x_size n r_ret 0 hr H locs ls hP hD hS (lv_sub hl [] rfl)
    · have hr := x_iff hr c_3
      refine lv_bipush (v := (-12)) hx hb dX5_findPlace_18 (by decide) ?_
      have e0 := x_some hr
      subst e0
      exact x_reti hx hb hret hlocks hP hD hK hS dX5_findPlace_20
  · have hr := x_iff hr c_2
    refine lv_bipush (v := (-11)) hx hb dX5_findPlace_7 (by decide) ?_
    have e0 := x_some hr
    subst e0
    exact x_reti hx hb hret hlocks hP hD hK hS dX5_findPlace_9
set_option maxHeartbeats 4000000 in
set_option maxRecDepth 100000 in
theorem mX5_findPlace (l : Launch) (D : va_G) (c : Nat → ClassId) (a_this : Nat) (a_value : Nat) (a_below : Nat) (sz : Nat) (x_sort : Int32) (x_size : Int32) (v1 : Int32) (v2 : Int32) (n : Nat) (r_ret : Int32) (h : fX5_findPlace n x_sort x_size v1 v2 = some (r_ret)) : Met l yX5_findPlace wsX5_findPlace ({ frames := 1, cells := 0, slots := 0, locals := 21 } : Room) (xPc D (xT c) sz [.ref a_this, .int v1, .int v2] (wX5_findPlace c a_this a_value a_below x_sort x_size) (fun _ => True)) (xQi D (xT c) (va_A (wX5_findPlace c a_this a_value a_below x_sort x_size) sz) r_ret (wX5_findPlace c a_this a_value a_below x_sort x_size)) 0 0 (va_A (wX5_findPlace c a_this a_value a_below x_sort x_size) sz) := by
  refine Met.ofW (cc := cX5_findPlace) (maxL := 3) (ret := (some .int)) (by decide) rfl ?_
  intro p e s m args below meth cd s₁ B hml hv
  obtain ⟨rfl, hsz, hP, hK, hD0, hV⟩ := hv
  subst hsz
  have hl := lv_entry [.ref a_this, .int v1, .int v2] (n := 3) (Nat.le_of_ble_eq_true rfl)
  rw [lg_entry_eq]
  exact kX5_findPlace_0 (A := va_A (wX5_findPlace c a_this a_value a_below x_sort x_size) s.heap.size) ⟨B.exec, B.bytes, hml, B.returns, findClass_of_methodNamed B.named, atoms_spec (ws := wsX5_findPlace) B.pre, B.notSynchronized, fun q h => Or.inr h, hK⟩ a_this a_value a_below x_sort x_size n r_ret v1 v2 h s.heap [] _ hP hD0.self va_S.rf hl

abbrev wX5_findParts (c : Nat → ClassId) (a_this : Nat) (a_value : Nat) (a_below : Nat) (x_sort : Int32) (x_size : Int32) (x_below : Nat → Int64) : va_W := [(a_this, .inr (5, [.int x_sort, .int x_size, .ref a_value, .ref a_below])), (a_below, .inl (c 1, 10, .inr (.inl x_below)))]
def GX5_findParts (p : Program) (l : Launch) (e : Env) (s : State) (m : MethodId) (args : Array Value) (below : List Frame) (meth : Method) (cd : Code) (D : va_G) (c : Nat → ClassId) (A : Nat → Prop) (a_this : Nat) (a_value : Nat) (a_below : Nat) (x_sort : Int32) (x_size : Int32) (x_below : Nat → Int64) (r_ret : Int32) (pc : Nat) (st : List Value) (loc : List (Nat × Value)) : Prop :=
  ∀ (H : Heap) (locs : List Loc) (ls : Array Slot), va_P D vwCl (wX5_findParts c a_this a_value a_below x_sort x_size x_below) H → va_D A (wX5_findParts c a_this a_value a_below x_sort x_size x_below) → va_S A s.heap H locs → lv_has ls 5 loc → W p l e ({ frames := 2, cells := 0, slots := 0, locals := 43 } : Room) s m args below meth cd H locs 0 0 (MQ below (xQi D (xT c) A r_ret (wX5_findParts c a_this a_value a_below x_sort x_size x_below)) args s 0 0 A) (F0 m pc ls st)
set_option maxHeartbeats 4000000 in
set_option maxRecDepth 100000 in
theorem kX5_findParts_32 {p : Program} {l : Launch} {e : Env} {s : State} {m : MethodId} {args : Array Value} {below : List Frame} {meth : Method} {cd : Code} {D : va_G} {c : Nat → ClassId} {A : Nat → Prop} (E0 : xE p s m args meth cd D (xT c) A RX5 cX5_findParts 5 (some .int) wsX5_findParts) (a_this : Nat) (a_value : Nat) (a_below : Nat) (x_sort : Int32) (x_size : Int32) (x_below : Nat → Int64) (n : Nat) (r_ret : Int32) (hr : fX5_findParts_32 n x_sort x_size x_below = some (r_ret)) : GX5_findParts p l e s m args below meth cd D c A a_this a_value a_below x_sort x_size x_below r_ret 32 [] [] := by
  have E1 := E0
  obtain ⟨hx, hb, hml, hret, hown, hts, hlocks, hA, hK⟩ := E1
  intro H locs ls hP hD hS hl
  unfold fX5_findParts_32 at hr
  refine lv_bipush (v := (-14)) hx hb dX5_findParts_32 (by decide) ?_
  have e0 := x_some hr
  subst e0
  exact x_reti hx hb hret hlocks hP hD hK hS dX5_findParts_34
set_option maxHeartbeats 4000000 in
set_option maxRecDepth 100000 in
theorem kX5_findParts_57 {p : Program} {l : Launch} {e : Env} {s : State} {m : MethodId} {args : Array Value} {below : List Frame} {meth : Method} {cd : Code} {D : va_G} {c : Nat → ClassId} {A : Nat → Prop} (E0 : xE p s m args meth cd D (xT c) A RX5 cX5_findParts 5 (some .int) wsX5_findParts) (a_this : Nat) (a_value : Nat) (a_below : Nat) (x_sort : Int32) (x_size : Int32) (x_below : Nat → Int64) (n : Nat) (r_ret : Int32) (t0 : Int32) (hr : fX5_findParts_57 n x_sort x_size x_below t0 = some (r_ret)) : GX5_findParts p l e s m args below meth cd D c A a_this a_value a_below x_sort x_size x_below r_ret 57 [.int t0] [] := by
  have E1 := E0
  obtain ⟨hx, hb, hml, hret, hown, hts, hlocks, hA, hK⟩ := E1
  intro H locs ls hP hD hS hl
  unfold fX5_findParts_57 at hr
  have e0 := x_some hr
  subst e0
  exact x_reti hx hb hret hlocks hP hD hK hS dX5_findParts_57
set_option maxHeartbeats 4000000 in
set_option maxRecDepth 100000 in
theorem kX5_findParts_51 {p : Program} {l : Launch} {e : Env} {s : State} {m : MethodId} {args : Array Value} {below : List Frame} {meth : Method} {cd : Code} {D : va_G} {c : Nat → ClassId} {A : Nat → Prop} (E0 : xE p s m args meth cd D (xT c) A RX5 cX5_findParts 5 (some .int) wsX5_findParts) (a_this : Nat) (a_value : Nat) (a_below : Nat) (x_sort : Int32) (x_size : Int32) (x_below : Nat → Int64) (n : Nat) (r_ret : Int32) (hr : fX5_findParts_51 n x_sort x_size x_below = some (r_ret)) : GX5_findParts p l e s m args below meth cd D c A a_this a_value a_below x_sort x_size x_below r_ret 51 [] [] := by
  have E1 := E0
  obtain ⟨hx, hb, hml, hret, hown, hts, hlocks, hA, hK⟩ := E1
  intro H locs ls hP hD hS hl
  unfold fX5_findParts_51 at hr
  refine lv_bipush (v := (-15)) hx hb dX5_findParts_51 (by decide) ?_
  refine lv_goto (tgt := 57) hx hb dX5_findParts_53 (by decide) ?_
  exact kX5_findParts_57 E0 a_this a_value a_below x_sort x_size x_below n r_ret (-15) hr H locs ls hP hD hS (lv_sub hl [] rfl)
set_option maxHeartbeats 4000000 in
set_option maxRecDepth 100000 in
theorem kX5_findParts_0 {p : Program} {l : Launch} {e : Env} {s : State} {m : MethodId} {args : Array Value} {below : List Frame} {meth : Method} {cd : Code} {D : va_G} {c : Nat → ClassId} {A : Nat → Prop} (E0 : xE p s m args meth cd D (xT c) A RX5 cX5_findParts 5 (some .int) wsX5_findParts) (a_this : Nat) (a_value : Nat) (a_below : Nat) (x_sort : Int32) (x_size : Int32) (x_below : Nat → Int64) (n : Nat) (r_ret : Int32) (v1 : Int32) (v2 : Int32) (v3 : Int32) (hr : fX5_findParts n x_sort x_size x_below v1 v2 v3 = some (r_ret)) : GX5_findParts p l e s m args below meth cd D c A a_this a_value a_below x_sort x_size x_below r_ret 0 [] [(0, .ref a_this), (1, .int v1), (2, .int v2), (3, .int v3)] := by
  have E1 := E0
  obtain ⟨hx, hb, hml, hret, hown, hts, hlocks, hA, hK⟩ := E1
  intro H locs ls hP hD hS hl
  unfold fX5_findParts at hr
  refine lv_aload_n hx hb dX5_findParts_0 rfl (lv_at hl 0 rfl) ?_
  refine lv_iconst (v := 2) hx hb dX5_findParts_1 (by decide) ?_
  refine lv_iload_n hx hb dX5_findParts_2 rfl (lv_at hl 2 rfl) ?_
  obtain ⟨q1_0, hc1, hr⟩ := x_bind hr
  refine x_runi (wr := [(a_below, .inl (c 1, 10, .inr (.inl x_below)))]) (wf := [(a_this, .inr (5, [.int x_sort, .int x_size, .ref a_value, .ref a_below])), (a_below, .inl (c 1, 10, .inr (.inl x_below)))]) (x_goV (As := [.int 2, .int v2]) (rest := []) ⟨hx, hb, hml, hown, hts⟩ (mX5_findPlace l D c a_this a_value a_below H.size x_sort x_size 2 v2 n _ hc1) (cwV 2 hts gX5_findParts_X5_findPlace rfl rfl rfl (by decide +kernel) ⟨Nat.le_of_ble_eq_true rfl, Nat.le_of_ble_eq_true rfl⟩) xB_t hP hD hK [0] rfl (by decide) (fun _ _ _ => trivial) 0 5 rfl rfl rfl rfl hl.1 rfl (Nat.le_of_ble_eq_true rfl) dX5_findParts_3) hP hD hS hA [0] [1] [1, 0] rfl rfl rfl ⟨by decide, by decide, by decide⟩ (fun H locs hP hD hS => ?_)
  refine lv_istore (lv' := [(4, .int q1_0), (0, .ref a_this), (1, .int v1), (2, .int v2), (3, .int v3)]) hx hb dX5_findParts_6 hl (by decide) rfl (fun ls hl => ?_)
  refine lv_iload hx hb dX5_findParts_8 (lv_at hl 0 rfl) ?_
  refine lv_if_eq (tgt := 16) hx hb dX5_findParts_10 (by decide) (fun c_2 => ?_) (fun c_2 => ?_)
  · have hr := x_ift hr c_2
    refine lv_aload_n hx hb dX5_findParts_16 rfl (lv_at hl 1 rfl) ?_
    refine lv_iload_n hx hb dX5_findParts_17 rfl (lv_at hl 4 rfl) ?_
    obtain ⟨q3_0, hc3, hr⟩ := x_bind hr
    refine x_runi (wr := [(a_below, .inl (c 1, 10, .inr (.inl x_below)))]) (wf := [(a_this, .inr (5, [.int x_sort, .int x_size, .ref a_value, .ref a_below])), (a_below, .inl (c 1, 10, .inr (.inl x_below)))]) (x_goV (As := [.int v3]) (rest := []) ⟨hx, hb, hml, hown, hts⟩ (mX5_hasPlace l D c a_this a_value a_below H.size x_sort x_size v3 n _ hc3) (cwV 1 hts gX5_findParts_X5_hasPlace rfl rfl rfl (by decide +kernel) ⟨Nat.le_of_ble_eq_true rfl, Nat.le_of_ble_eq_true rfl⟩) xB_t hP hD hK [0] rfl (by decide) (fun _ _ _ => trivial) 0 5 rfl rfl rfl rfl hl.1 rfl (Nat.le_of_ble_eq_true rfl) dX5_findParts_18) hP hD hS hA [0] [1] [1, 0] rfl rfl rfl ⟨by decide, by decide, by decide⟩ (fun H locs hP hD hS => ?_)
    refine lv_if_eq (tgt := 32) hx hb dX5_findParts_21 (by decide) (fun c_4 => ?_) (fun c_4 => ?_)
    · have hr := x_ift hr c_4
      exact kX5_findParts_32 E0 a_this a_value a_below x_sort x_size x_below n r_ret hr H locs ls hP hD hS (lv_sub hl [] rfl)
    · have hr := x_iff hr c_4
      refine lv_aload_n hx hb dX5_findParts_24 rfl (lv_at hl 1 rfl) ?_
      refine lv_iload_n hx hb dX5_findParts_25 rfl (lv_at hl 2 rfl) ?_
      obtain ⟨q5_0, hc5, hr⟩ := x_bind hr
      refine x_runi (wr := [(a_below, .inl (c 1, 10, .inr (.inl x_below)))]) (wf := [(a_this, .inr (5, [.int x_sort, .int x_size, .ref a_value, .ref a_below])), (a_below, .inl (c 1, 10, .inr (.inl x_below)))]) (x_goV (As := [.int v1]) (rest := []) ⟨hx, hb, hml, hown, hts⟩ (mX5_hasPlace l D c a_this a_value a_below H.size x_sort x_size v1 n _ hc5) (cwV 1 hts gX5_findParts_X5_hasPlace rfl rfl rfl (by decide +kernel) ⟨Nat.le_of_ble_eq_true rfl, Nat.le_of_ble_eq_true rfl⟩) xB_t hP hD hK [0] rfl (by decide) (fun _ _ _ => trivial) 0 5 rfl rfl rfl rfl hl.1 rfl (Nat.le_of_ble_eq_true rfl) dX5_findParts_26) hP hD hS hA [0] [1] [1, 0] rfl rfl rfl ⟨by decide, by decide, by decide⟩ (fun H locs hP hD hS => ?_)
      refine lv_if_ne (tgt := 35) hx hb dX5_findParts_29 (by decide) (fun c_6 => ?_) (fun c_6 => ?_)
      · have hr := x_iff hr c_6
        refine lv_aload_n hx hb dX5_findParts_35 rfl (lv_at hl 1 rfl) ?_
        refine lv_iload_n hx hb dX5_findParts_36 rfl (lv_at hl 3 rfl) ?_
        obtain ⟨q7_0, hc7, hr⟩ := x_bind hr
        refine x_runi (wr := []) (wf := [(a_this, .inr (5, [.int x_sort, .int x_size, .ref a_value, .ref a_below])), (a_below, .inl (c 1, 10, .inr (.inl x_below)))]) (x_goV (As := [.int v2]) (rest := []) ⟨hx, hb, hml, hown, hts⟩ (mX5_isNothingAt l D c a_this a_value a_below H.size x_size x_sort x_below v2 n _ hc7) (cwV 1 hts gX5_findParts_X5_isNothingAt rfl rfl rfl (by decide +kernel) ⟨Nat.le_of_ble_eq_true rfl, Nat.le_of_ble_eq_true rfl⟩) xB_t hP hD hK [0, 1] rfl (by decide) (fun _ _ _ => trivial) 0 5 rfl rfl rfl rfl hl.1 rfl (Nat.le_of_ble_eq_true rfl) dX5_findParts_37) hP hD hS hA [0, 1] [] [0, 1] rfl rfl rfl ⟨by decide, by decide, by decide⟩ (fun H locs hP hD hS => ?_)
        refine lv_if_ne (tgt := 51) hx hb dX5_findParts_40 (by decide) (fun c_8 => ?_) (fun c_8 => ?_)
        · have hr := x_iff hr c_8
          exact kX5_findParts_51 E0 a_this a_value a_below x_sort x_size x_below n r_ret hr H locs ls hP hD hS (lv_sub hl [] rfl)
        · have hr := x_ift hr c_8
          refine lv_aload_n hx hb dX5_findParts_43 rfl (lv_at hl 1 rfl) ?_
          refine lv_iload_n hx hb dX5_findParts_44 rfl (lv_at hl 4 rfl) ?_
          obtain ⟨q9_0, hc9, hr⟩ := x_bind hr
          refine x_runi (wr := []) (wf := [(a_this, .inr (5, [.int x_sort, .int x_size, .ref a_value, .ref a_below])), (a_below, .inl (c 1, 10, .inr (.inl x_below)))]) (x_goV (As := [.int v3]) (rest := []) ⟨hx, hb, hml, hown, hts⟩ (mX5_isNothingAt l D c a_this a_value a_below H.size x_size x_sort x_below v3 n _ hc9) (cwV 1 hts gX5_findParts_X5_isNothingAt rfl rfl rfl (by decide +kernel) ⟨Nat.le_of_ble_eq_true rfl, Nat.le_of_ble_eq_true rfl⟩) xB_t hP hD hK [0, 1] rfl (by decide) (fun _ _ _ => trivial) 0 5 rfl rfl rfl rfl hl.1 rfl (Nat.le_of_ble_eq_true rfl) dX5_findParts_45) hP hD hS hA [0, 1] [] [0, 1] rfl rfl rfl ⟨by decide, by decide, by decide⟩ (fun H locs hP hD hS => ?_)
          refine lv_if_eq (tgt := 56) hx hb dX5_findParts_48 (by decide) (fun c_10 => ?_) (fun c_10 => ?_)
          · have hr := x_ift hr c_10
            refine lv_iconst (v := 0) hx hb dX5_findParts_56 (by decide) ?_
            exact kX5_findParts_57 E0 a_this a_value a_below x_sort x_size x_below n r_ret 0 hr H locs ls hP hD hS (lv_sub hl [] rfl)
          · have hr := x_iff hr c_10
            exact kX5_findParts_51 E0 a_this a_value a_below x_sort x_size x_below n r_ret hr H locs ls hP hD hS (lv_sub hl [] rfl)
      · have hr := x_ift hr c_6
        exact kX5_findParts_32 E0 a_this a_value a_below x_sort x_size x_below n r_ret hr H locs ls hP hD hS (lv_sub hl [] rfl)
  · have hr := x_iff hr c_2
    refine lv_iload hx hb dX5_findParts_13 (lv_at hl 0 rfl) ?_
    have e0 := x_some hr
    subst e0
    exact x_reti hx hb hret hlocks hP hD hK hS dX5_findParts_15
set_option maxHeartbeats 4000000 in
set_option maxRecDepth 100000 in
theorem mX5_findParts (l : Launch) (D : va_G) (c : Nat → ClassId) (a_this : Nat) (a_value : Nat) (a_below : Nat) (sz : Nat) (x_sort : Int32) (x_size : Int32) (x_below : Nat → Int64) (v1 : Int32) (v2 : Int32) (v3 : Int32) (n : Nat) (r_ret : Int32) (h : fX5_findParts n x_sort x_size x_below v1 v2 v3 = some (r_ret)) : Met l yX5_findParts wsX5_findParts ({ frames := 2, cells := 0, slots := 0, locals := 43 } : Room) (xPc D (xT c) sz [.ref a_this, .int v1, .int v2, .int v3] (wX5_findParts c a_this a_value a_below x_sort x_size x_below) (fun _ => True)) (xQi D (xT c) (va_A (wX5_findParts c a_this a_value a_below x_sort x_size x_below) sz) r_ret (wX5_findParts c a_this a_value a_below x_sort x_size x_below)) 0 0 (va_A (wX5_findParts c a_this a_value a_below x_sort x_size x_below) sz) := by
  refine Met.ofW (cc := cX5_findParts) (maxL := 5) (ret := (some .int)) (by decide) rfl ?_
  intro p e s m args below meth cd s₁ B hml hv
  obtain ⟨rfl, hsz, hP, hK, hD0, hV⟩ := hv
  subst hsz
  have hl := lv_entry [.ref a_this, .int v1, .int v2, .int v3] (n := 5) (Nat.le_of_ble_eq_true rfl)
  rw [lg_entry_eq]
  exact kX5_findParts_0 (A := va_A (wX5_findParts c a_this a_value a_below x_sort x_size x_below) s.heap.size) ⟨B.exec, B.bytes, hml, B.returns, findClass_of_methodNamed B.named, atoms_spec (ws := wsX5_findParts) B.pre, B.notSynchronized, fun q h => Or.inr h, hK⟩ a_this a_value a_below x_sort x_size x_below n r_ret v1 v2 v3 h s.heap [] _ hP hD0.self va_S.rf hl

abbrev wX5_setPart (c : Nat → ClassId) (a_this : Nat) (a_p1 : Nat) (a_value : Nat) (a_below : Nat) (x_sort : Int32) (x_size : Int32) (x_p1_above : Int64) (x_p1_below : Int64) (x_value : Nat → Int64) (x_below : Nat → Int64) : va_W := [(a_this, .inr (5, [.int x_sort, .int x_size, .ref a_value, .ref a_below])), (a_p1, .inr (1, [.long x_p1_above, .long x_p1_below])), (a_value, .inl (c 1, 10, .inr (.inl x_value))), (a_below, .inl (c 1, 10, .inr (.inl x_below)))]
def GX5_setPart (p : Program) (l : Launch) (e : Env) (s : State) (m : MethodId) (args : Array Value) (below : List Frame) (meth : Method) (cd : Code) (D : va_G) (c : Nat → ClassId) (A : Nat → Prop) (a_this : Nat) (a_p1 : Nat) (a_value : Nat) (a_below : Nat) (x_sort : Int32) (x_size : Int32) (x_p1_above : Int64) (x_p1_below : Int64) (rm_value : Nat → Int64) (rm_below : Nat → Int64) (pc : Nat) (st : List Value) (loc : List (Nat × Value)) (x_value : Nat → Int64) (x_below : Nat → Int64) : Prop :=
  ∀ (H : Heap) (locs : List Loc) (ls : Array Slot), va_P D vwCl (wX5_setPart c a_this a_p1 a_value a_below x_sort x_size x_p1_above x_p1_below x_value x_below) H → va_D A (wX5_setPart c a_this a_p1 a_value a_below x_sort x_size x_p1_above x_p1_below x_value x_below) → va_S A s.heap H locs → lv_has ls 3 loc → W p l e ({ frames := 0, cells := 0, slots := 0, locals := 0 } : Room) s m args below meth cd H locs 0 0 (MQ below (xQv D (xT c) A (wX5_setPart c a_this a_p1 a_value a_below x_sort x_size x_p1_above x_p1_below rm_value rm_below)) args s 0 0 A) (F0 m pc ls st)
theorem lkX5_setPart_f15 : Cond.fieldLink RX5 15 "LeechClub$Slate" "value" "[J" ∈ wsX5_setPart := by decide +kernel
theorem lkX5_setPart_f19 : Cond.fieldLink RX5 19 "LeechClub$Slate" "below" "[J" ∈ wsX5_setPart := by decide +kernel
theorem lkX5_setPart_f52 : Cond.fieldLink RX5 52 "LeechClub$Part" "above" "J" ∈ wsX5_setPart := by decide +kernel
theorem lkX5_setPart_f56 : Cond.fieldLink RX5 56 "LeechClub$Part" "below" "J" ∈ wsX5_setPart := by decide +kernel
theorem inX5_setPart_X1 : ∀ w ∈ wsX10, w ∈ wsX5_setPart := by decide +kernel
theorem inX5_setPart_X5 : ∀ w ∈ wsX50, w ∈ wsX5_setPart := by decide +kernel
set_option maxHeartbeats 4000000 in
set_option maxRecDepth 100000 in
theorem kX5_setPart_0 {p : Program} {l : Launch} {e : Env} {s : State} {m : MethodId} {args : Array Value} {below : List Frame} {meth : Method} {cd : Code} {D : va_G} {c : Nat → ClassId} {A : Nat → Prop} (E0 : xE p s m args meth cd D (xT c) A RX5 cX5_setPart 3 none wsX5_setPart) (a_this : Nat) (a_p1 : Nat) (a_value : Nat) (a_below : Nat) (x_sort : Int32) (x_size : Int32) (x_p1_above : Int64) (x_p1_below : Int64) (n : Nat) (rm_value : Nat → Int64) (rm_below : Nat → Int64) (x_value : Nat → Int64) (x_below : Nat → Int64) (v1 : Int32) (hr : fX5_setPart n x_p1_above x_p1_below x_value x_below v1 = some (rm_value, rm_below)) : GX5_setPart p l e s m args below meth cd D c A a_this a_p1 a_value a_below x_sort x_size x_p1_above x_p1_below rm_value rm_below 0 [] [(0, .ref a_this), (1, .int v1), (2, .ref a_p1)] x_value x_below := by
  have E1 := E0
  obtain ⟨hx, hb, hml, hret, hown, hts, hlocks, hA, hK⟩ := E1
  intro H locs ls hP hD hS hl
  unfold fX5_setPart at hr
  refine lv_aload_n hx hb dX5_setPart_0 rfl (lv_at hl 0 rfl) ?_
  refine va_get (D := D) (ci := 5) (v := .ref a_value) (C := RX5) (T := TX5) (N := 4) hx hb hts inX5_setPart_X5 hown hK hP 0 rfl rfl 2 (by decide) (hts _ lkX5_setPart_f15) (fun _ h9 => h9) rfl dX5_setPart_1 ?_
  refine lv_iload_n hx hb dX5_setPart_4 rfl (lv_at hl 1 rfl) ?_
  refine lv_aload_n hx hb dX5_setPart_5 rfl (lv_at hl 2 rfl) ?_
  refine va_get (D := D) (ci := 1) (v := .long x_p1_above) (C := RX1) (T := TX1) (N := 2) hx hb hts inX5_setPart_X1 hown hK hP 1 rfl rfl 0 (by decide) (hts _ lkX5_setPart_f52) (fun _ h9 => h9) rfl dX5_setPart_6 ?_
  obtain ⟨b_1, hr⟩ := x_chk hr
  refine va_last hx hb hK hP hD hS 2 1 rfl rfl b_1 dX5_setPart_9 (fun H locs hP hD hS => ?_)
  have hP : va_P D vwCl [(a_this, .inr (5, [.int x_sort, .int x_size, .ref a_value, .ref a_below])), (a_p1, .inr (1, [.long x_p1_above, .long x_p1_below])), (a_value, .inl (c 1, 10, .inr (.inl (vp_updL x_value v1.toNatClampNeg x_p1_above)))), (a_below, .inl (c 1, 10, .inr (.inl x_below)))] H := hP
  have hD : va_D A [(a_this, .inr (5, [.int x_sort, .int x_size, .ref a_value, .ref a_below])), (a_p1, .inr (1, [.long x_p1_above, .long x_p1_below])), (a_value, .inl (c 1, 10, .inr (.inl (vp_updL x_value v1.toNatClampNeg x_p1_above)))), (a_below, .inl (c 1, 10, .inr (.inl x_below)))] := hD
  refine lv_aload_n hx hb dX5_setPart_10 rfl (lv_at hl 0 rfl) ?_
  refine va_get (D := D) (ci := 5) (v := .ref a_below) (C := RX5) (T := TX5) (N := 4) hx hb hts inX5_setPart_X5 hown hK hP 0 rfl rfl 3 (by decide) (hts _ lkX5_setPart_f19) (fun _ h9 => h9) rfl dX5_setPart_11 ?_
  refine lv_iload_n hx hb dX5_setPart_14 rfl (lv_at hl 1 rfl) ?_
  refine lv_aload_n hx hb dX5_setPart_15 rfl (lv_at hl 2 rfl) ?_
  refine va_get (D := D) (ci := 1) (v := .long x_p1_below) (C := RX1) (T := TX1) (N := 2) hx hb hts inX5_setPart_X1 hown hK hP 1 rfl rfl 1 (by decide) (hts _ lkX5_setPart_f56) (fun _ h9 => h9) rfl dX5_setPart_16 ?_
  obtain ⟨b_2, hr⟩ := x_chk hr
  refine va_last hx hb hK hP hD hS 3 1 rfl rfl b_2 dX5_setPart_19 (fun H locs hP hD hS => ?_)
  have hP : va_P D vwCl [(a_this, .inr (5, [.int x_sort, .int x_size, .ref a_value, .ref a_below])), (a_p1, .inr (1, [.long x_p1_above, .long x_p1_below])), (a_value, .inl (c 1, 10, .inr (.inl (vp_updL x_value v1.toNatClampNeg x_p1_above)))), (a_below, .inl (c 1, 10, .inr (.inl (vp_updL x_below v1.toNatClampNeg x_p1_below))))] H := hP
  have hD : va_D A [(a_this, .inr (5, [.int x_sort, .int x_size, .ref a_value, .ref a_below])), (a_p1, .inr (1, [.long x_p1_above, .long x_p1_below])), (a_value, .inl (c 1, 10, .inr (.inl (vp_updL x_value v1.toNatClampNeg x_p1_above)))), (a_below, .inl (c 1, 10, .inr (.inl (vp_updL x_below v1.toNatClampNeg x_p1_below))))] := hD
  have g0 := x_some hr
  have e0 := x_p1 g0
  have e1 := x_p2 g0
  subst e0
  subst e1
  exact x_retv hx hb hret hlocks hP hD hK hS dX5_setPart_20
set_option maxHeartbeats 4000000 in
set_option maxRecDepth 100000 in
theorem mX5_setPart (l : Launch) (D : va_G) (c : Nat → ClassId) (a_this : Nat) (a_p1 : Nat) (a_value : Nat) (a_below : Nat) (sz : Nat) (x_sort : Int32) (x_size : Int32) (x_p1_above : Int64) (x_p1_below : Int64) (x_value : Nat → Int64) (x_below : Nat → Int64) (v1 : Int32) (n : Nat) (rm_value : Nat → Int64) (rm_below : Nat → Int64) (h : fX5_setPart n x_p1_above x_p1_below x_value x_below v1 = some (rm_value, rm_below)) : Met l yX5_setPart wsX5_setPart ({ frames := 0, cells := 0, slots := 0, locals := 0 } : Room) (xPc D (xT c) sz [.ref a_this, .int v1, .ref a_p1] (wX5_setPart c a_this a_p1 a_value a_below x_sort x_size x_p1_above x_p1_below x_value x_below) (fun _ => True)) (xQv D (xT c) (va_A (wX5_setPart c a_this a_p1 a_value a_below x_sort x_size x_p1_above x_p1_below x_value x_below) sz) (wX5_setPart c a_this a_p1 a_value a_below x_sort x_size x_p1_above x_p1_below rm_value rm_below)) 0 0 (va_A (wX5_setPart c a_this a_p1 a_value a_below x_sort x_size x_p1_above x_p1_below x_value x_below) sz) := by
  refine Met.ofW (cc := cX5_setPart) (maxL := 3) (ret := none) (by decide) rfl ?_
  intro p e s m args below meth cd s₁ B hml hv
  obtain ⟨rfl, hsz, hP, hK, hD0, hV⟩ := hv
  subst hsz
  have hl := lv_entry [.ref a_this, .int v1, .ref a_p1] (n := 3) (Nat.le_of_ble_eq_true rfl)
  rw [lg_entry_eq]
  exact kX5_setPart_0 (A := va_A (wX5_setPart c a_this a_p1 a_value a_below x_sort x_size x_p1_above x_p1_below x_value x_below) s.heap.size) ⟨B.exec, B.bytes, hml, B.returns, findClass_of_methodNamed B.named, atoms_spec (ws := wsX5_setPart) B.pre, B.notSynchronized, fun q h => Or.inr h, hK⟩ a_this a_p1 a_value a_below x_sort x_size x_p1_above x_p1_below n rm_value rm_below x_value x_below v1 h s.heap [] _ hP hD0.self va_S.rf hl

