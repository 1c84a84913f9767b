abbrev wX7_setReckoned (c : Nat → ClassId) (a_this : Nat) (a_p0 : Nat) (a_p0_value : Nat) (a_p0_below : Nat) (a_text : Nat) (a_facts : Nat) (a_told : Nat) (a_now : Nat) (a_trial : Nat) (a_past : Nat) (a_kept : Nat) (a_sightings : Nat) (a_plan : Nat) (a_slates : Nat) (a_reckoned : Nat) (x_p0_sort : Int32) (x_p0_size : Int32) (x_undoable : Int32) (x_keptBits : Int32) (x_p0_value : Nat → Int64) (x_p0_below : Nat → Int64) (x_reckoned_above : Int64) (x_reckoned_below : Int64) : va_W := [(a_p0, .inr (5, [.int x_p0_sort, .int x_p0_size, .ref a_p0_value, .ref a_p0_below])), (a_p0_value, .inl (c 1, 10, .inr (.inl x_p0_value))), (a_p0_below, .inl (c 1, 10, .inr (.inl x_p0_below))), (a_this, .inr (7, [.ref a_text, .ref a_facts, .ref a_told, .ref a_now, .ref a_trial, .ref a_past, .int x_undoable, .ref a_kept, .int x_keptBits, .ref a_sightings, .ref a_plan, .ref a_slates, .ref a_reckoned])), (a_reckoned, .inr (1, [.long x_reckoned_above, .long x_reckoned_below]))]
def GX7_setReckoned (p : Program) (l : Launch) (e : Env) (s : State) (m : MethodId) (args : Array Value) (below : List Frame) (meth : Method) (cd : Code) (D : va_G) (c : Nat → ClassId) (A : Nat → Prop) (a_this : Nat) (a_p0 : Nat) (a_p0_value : Nat) (a_p0_below : Nat) (a_text : Nat) (a_facts : Nat) (a_told : Nat) (a_now : Nat) (a_trial : Nat) (a_past : Nat) (a_kept : Nat) (a_sightings : Nat) (a_plan : Nat) (a_slates : Nat) (a_reckoned : Nat) (x_p0_sort : Int32) (x_p0_size : Int32) (x_undoable : Int32) (x_keptBits : Int32) (x_p0_value : Nat → Int64) (x_p0_below : Nat → Int64) (rm_reckoned_above : Int64) (rm_reckoned_below : Int64) (pc : Nat) (st : List Value) (loc : List (Nat × Value)) (x_reckoned_above : Int64) (x_reckoned_below : Int64) : Prop :=
  ∀ (H : Heap) (locs : List Loc) (ls : Array Slot), va_P D vwCl (wX7_setReckoned c a_this a_p0 a_p0_value a_p0_below a_text a_facts a_told a_now a_trial a_past a_kept a_sightings a_plan a_slates a_reckoned x_p0_sort x_p0_size x_undoable x_keptBits x_p0_value x_p0_below x_reckoned_above x_reckoned_below) H → va_D A (wX7_setReckoned c a_this a_p0 a_p0_value a_p0_below a_text a_facts a_told a_now a_trial a_past a_kept a_sightings a_plan a_slates a_reckoned x_p0_sort x_p0_size x_undoable x_keptBits x_p0_value x_p0_below x_reckoned_above x_reckoned_below) → va_S A s.heap H locs → lv_has ls 13 loc → W p l e ({ frames := 2, cells := 0, slots := 0, locals := 126 } : Room) s m args below meth cd H locs 0 0 (MQ below (xQv D (xT c) A (wX7_setReckoned c a_this a_p0 a_p0_value a_p0_below a_text a_facts a_told a_now a_trial a_past a_kept a_sightings a_plan a_slates a_reckoned x_p0_sort x_p0_size x_undoable x_keptBits x_p0_value x_p0_below rm_reckoned_above rm_reckoned_below)) args s 0 0 A) (F0 m pc ls st)
theorem lkX7_setReckoned_f337 : Cond.fieldLink RX7 337 "LeechClub$Slate" "value" "[J" ∈ wsX7_setReckoned := by decide +kernel
theorem lkX7_setReckoned_f341 : Cond.fieldLink RX7 341 "LeechClub$Slate" "below" "[J" ∈ wsX7_setReckoned := by decide +kernel
theorem lkX7_setReckoned_f66 : Cond.fieldLink RX7 66 "LeechClub" "reckoned" "LLeechClub$Part;" ∈ wsX7_setReckoned := by decide +kernel
theorem inX7_setReckoned_X7 : ∀ w ∈ wsX70, w ∈ wsX7_setReckoned := by decide +kernel
theorem inX7_setReckoned_X5 : ∀ w ∈ wsX50, w ∈ wsX7_setReckoned := by decide +kernel
set_option maxHeartbeats 4000000 in
set_option maxRecDepth 100000 in
theorem kX7_setReckoned_112 {p : Program} {l : Launch} {e : Env} {s : State} {m : MethodId} {args : Array Value} {below : List Frame} {meth : Method} {cd : Code} {D : va_G} {c : Nat → ClassId} {A : Nat → Prop} (E0 : xE p s m args meth cd D (xT c) A RX7 cX7_setReckoned 13 none wsX7_setReckoned) (a_this : Nat) (a_p0 : Nat) (a_p0_value : Nat) (a_p0_below : Nat) (a_text : Nat) (a_facts : Nat) (a_told : Nat) (a_now : Nat) (a_trial : Nat) (a_past : Nat) (a_kept : Nat) (a_sightings : Nat) (a_plan : Nat) (a_slates : Nat) (a_reckoned : Nat) (x_p0_sort : Int32) (x_p0_size : Int32) (x_undoable : Int32) (x_keptBits : Int32) (x_p0_value : Nat → Int64) (x_p0_below : Nat → Int64) (n : Nat) (rm_reckoned_above : Int64) (rm_reckoned_below : Int64) (x_reckoned_above : Int64) (x_reckoned_below : Int64) (hr : fX7_setReckoned_112 n x_p0_value x_p0_below x_reckoned_above x_reckoned_below = some (rm_reckoned_above, rm_reckoned_below)) : GX7_setReckoned p l e s m args below meth cd D c A a_this a_p0 a_p0_value a_p0_below a_text a_facts a_told a_now a_trial a_past a_kept a_sightings a_plan a_slates a_reckoned x_p0_sort x_p0_size x_undoable x_keptBits x_p0_value x_p0_below rm_reckoned_above rm_reckoned_below 112 [] [] x_reckoned_above x_reckoned_below := by
  have E1 := E0
  obtain ⟨hx, hb, hml, hret, hown, hts, hlocks, hA, hK⟩ := E1
  intro H locs ls hP hD hS hl
  unfold fX7_setReckoned_112 at hr
  have g0 := x_some hr
  have e0 := x_p1 g0
  have e1 := x_p2 g0
  subst e0
  subst e1
  exact x_retv hx hb hret hlocks hP hD hK hS dX7_setReckoned_112
set_option maxHeartbeats 4000000 in
set_option maxRecDepth 100000 in
theorem kX7_setReckoned_0 {p : Program} {l : Launch} {e : Env} {s : State} {m : MethodId} {args : Array Value} {below : List Frame} {meth : Method} {cd : Code} {D : va_G} {c : Nat → ClassId} {A : Nat → Prop} (E0 : xE p s m args meth cd D (xT c) A RX7 cX7_setReckoned 13 none wsX7_setReckoned) (a_this : Nat) (a_p0 : Nat) (a_p0_value : Nat) (a_p0_below : Nat) (a_text : Nat) (a_facts : Nat) (a_told : Nat) (a_now : Nat) (a_trial : Nat) (a_past : Nat) (a_kept : Nat) (a_sightings : Nat) (a_plan : Nat) (a_slates : Nat) (a_reckoned : Nat) (x_p0_sort : Int32) (x_p0_size : Int32) (x_undoable : Int32) (x_keptBits : Int32) (x_p0_value : Nat → Int64) (x_p0_below : Nat → Int64) (n : Nat) (rm_reckoned_above : Int64) (rm_reckoned_below : Int64) (x_reckoned_above : Int64) (x_reckoned_below : Int64) (v2 : Int32) (v3 : Int32) (v4 : Int32) (hr : fX7_setReckoned n x_p0_value x_p0_below x_reckoned_above x_reckoned_below v2 v3 v4 = some (rm_reckoned_above, rm_reckoned_below)) : GX7_setReckoned p l e s m args below meth cd D c A a_this a_p0 a_p0_value a_p0_below a_text a_facts a_told a_now a_trial a_past a_kept a_sightings a_plan a_slates a_reckoned x_p0_sort x_p0_size x_undoable x_keptBits x_p0_value x_p0_below rm_reckoned_above rm_reckoned_below 0 [] [(0, .ref a_this), (1, .ref a_p0), (2, .int v2), (3, .int v3), (4, .int v4)] x_reckoned_above x_reckoned_below := by
  have E1 := E0
  obtain ⟨hx, hb, hml, hret, hown, hts, hlocks, hA, hK⟩ := E1
  intro H locs ls hP hD hS hl
  unfold fX7_setReckoned at hr
  refine lv_aload_n hx hb dX7_setReckoned_0 rfl (lv_at hl 1 rfl) ?_
  refine va_get (D := D) (ci := 5) (v := .ref a_p0_value) (C := RX5) (T := TX5) (N := 4) hx hb hts inX7_setReckoned_X5 hown hK hP 0 rfl rfl 2 (by decide) (hts _ lkX7_setReckoned_f337) (fun _ h9 => h9) rfl dX7_setReckoned_1 ?_
  refine lv_iload_n hx hb dX7_setReckoned_4 rfl (lv_at hl 2 rfl) ?_
  obtain ⟨b_1, hr⟩ := x_chk hr
  refine va_lald hx hb hK hP 1 1 rfl rfl b_1 dX7_setReckoned_5 ?_
  refine lv_lstore (lv' := [(5, .long (x_p0_value v2.toNatClampNeg)), (0, .ref a_this), (1, .ref a_p0), (2, .int v2), (3, .int v3), (4, .int v4)]) hx hb dX7_setReckoned_6 hl (by decide) rfl (fun ls hl => ?_)
  refine lv_aload_n hx hb dX7_setReckoned_8 rfl (lv_at hl 2 rfl) ?_
  refine va_get (D := D) (ci := 5) (v := .ref a_p0_below) (C := RX5) (T := TX5) (N := 4) hx hb hts inX7_setReckoned_X5 hown hK hP 0 rfl rfl 3 (by decide) (hts _ lkX7_setReckoned_f341) (fun _ h9 => h9) rfl dX7_setReckoned_9 ?_
  refine lv_iload_n hx hb dX7_setReckoned_12 rfl (lv_at hl 3 rfl) ?_
  obtain ⟨b_2, hr⟩ := x_chk hr
  refine va_lald hx hb hK hP 2 1 rfl rfl b_2 dX7_setReckoned_13 ?_
  refine lv_lstore (lv' := [(7, .long (x_p0_below v2.toNatClampNeg)), (5, .long (x_p0_value v2.toNatClampNeg)), (0, .ref a_this), (1, .ref a_p0), (2, .int v2), (3, .int v3), (4, .int v4)]) hx hb dX7_setReckoned_14 hl (by decide) rfl (fun ls hl => ?_)
  refine lv_aload_n hx hb dX7_setReckoned_16 rfl (lv_at hl 3 rfl) ?_
  refine va_get (D := D) (ci := 5) (v := .ref a_p0_value) (C := RX5) (T := TX5) (N := 4) hx hb hts inX7_setReckoned_X5 hown hK hP 0 rfl rfl 2 (by decide) (hts _ lkX7_setReckoned_f337) (fun _ h9 => h9) rfl dX7_setReckoned_17 ?_
  refine lv_iload_n hx hb dX7_setReckoned_20 rfl (lv_at hl 5 rfl) ?_
  obtain ⟨b_3, hr⟩ := x_chk hr
  refine va_lald hx hb hK hP 1 1 rfl rfl b_3 dX7_setReckoned_21 ?_
  refine lv_lstore (lv' := [(9, .long (x_p0_value v3.toNatClampNeg)), (7, .long (x_p0_below v2.toNatClampNeg)), (5, .long (x_p0_value v2.toNatClampNeg)), (0, .ref a_this), (1, .ref a_p0), (2, .int v2), (3, .int v3), (4, .int v4)]) hx hb dX7_setReckoned_22 hl (by decide) rfl (fun ls hl => ?_)
  refine lv_aload_n hx hb dX7_setReckoned_24 rfl (lv_at hl 4 rfl) ?_
  refine va_get (D := D) (ci := 5) (v := .ref a_p0_below) (C := RX5) (T := TX5) (N := 4) hx hb hts inX7_setReckoned_X5 hown hK hP 0 rfl rfl 3 (by decide) (hts _ lkX7_setReckoned_f341) (fun _ h9 => h9) rfl dX7_setReckoned_25 ?_
  refine lv_iload_n hx hb dX7_setReckoned_28 rfl (lv_at hl 6 rfl) ?_
  obtain ⟨b_4, hr⟩ := x_chk hr
  refine va_lald hx hb hK hP 2 1 rfl rfl b_4 dX7_setReckoned_29 ?_
  refine lv_lstore (lv' := [(11, .long (x_p0_below v3.toNatClampNeg)), (9, .long (x_p0_value v3.toNatClampNeg)), (7, .long (x_p0_below v2.toNatClampNeg)), (5, .long (x_p0_value v2.toNatClampNeg)), (0, .ref a_this), (1, .ref a_p0), (2, .int v2), (3, .int v3), (4, .int v4)]) hx hb dX7_setReckoned_30 hl (by decide) rfl (fun ls hl => ?_)
  refine lv_iload hx hb dX7_setReckoned_32 (lv_at hl 8 rfl) ?_
  refine lv_if_ne (tgt := 63) hx hb dX7_setReckoned_34 (by decide) (fun c_5 => ?_) (fun c_5 => ?_)
  · have hr := x_iff hr c_5
    refine lv_iload hx hb dX7_setReckoned_63 (lv_at hl 8 rfl) ?_
    refine lv_iconst (v := 1) hx hb dX7_setReckoned_65 (by decide) ?_
    refine lv_icmp_ne (tgt := 95) hx hb dX7_setReckoned_66 (by decide) (fun c_6 => ?_) (fun c_6 => ?_)
    · have hr := x_iff hr c_6
      refine lv_aload_n hx hb dX7_setReckoned_95 rfl (lv_at hl 4 rfl) ?_
      refine va_get (D := D) (ci := 7) (v := .ref a_reckoned) (C := RX7) (T := TX7) (N := 13) hx hb hts inX7_setReckoned_X7 hown hK hP 3 rfl rfl 12 (by decide) (hts _ lkX7_setReckoned_f66) (fun _ h9 => h9) rfl dX7_setReckoned_96 ?_
      refine lv_lload hx hb dX7_setReckoned_99 (lv_at hl 3 rfl) ?_
      refine lv_lload hx hb dX7_setReckoned_101 (lv_at hl 1 rfl) ?_
      refine lv_lmul hx hb dX7_setReckoned_103 ?_
      refine lv_lload hx hb dX7_setReckoned_104 (lv_at hl 2 rfl) ?_
      refine lv_lload hx hb dX7_setReckoned_106 (lv_at hl 0 rfl) ?_
      refine lv_lmul hx hb dX7_setReckoned_108 ?_
      obtain ⟨⟨q7_0, q7_1⟩, hc7, hr⟩ := x_bind hr
      try dsimp only at hr
      refine x_runv (wr := [(a_p0, .inr (5, [.int x_p0_sort, .int x_p0_size, .ref a_p0_value, .ref a_p0_below])), (a_p0_value, .inl (c 1, 10, .inr (.inl x_p0_value))), (a_p0_below, .inl (c 1, 10, .inr (.inl x_p0_below))), (a_this, .inr (7, [.ref a_text, .ref a_facts, .ref a_told, .ref a_now, .ref a_trial, .ref a_past, .int x_undoable, .ref a_kept, .int x_keptBits, .ref a_sightings, .ref a_plan, .ref a_slates, .ref a_reckoned]))]) (wf := [(a_p0, .inr (5, [.int x_p0_sort, .int x_p0_size, .ref a_p0_value, .ref a_p0_below])), (a_p0_value, .inl (c 1, 10, .inr (.inl x_p0_value))), (a_p0_below, .inl (c 1, 10, .inr (.inl x_p0_below))), (a_this, .inr (7, [.ref a_text, .ref a_facts, .ref a_told, .ref a_now, .ref a_trial, .ref a_past, .int x_undoable, .ref a_kept, .int x_keptBits, .ref a_sightings, .ref a_plan, .ref a_slates, .ref a_reckoned])), (a_reckoned, .inr (1, [.long q7_0, .long q7_1]))]) (x_goV (As := [.long ((x_p0_value v2.toNatClampNeg) * (x_p0_value v3.toNatClampNeg)), .long ((x_p0_below v2.toNatClampNeg) * (x_p0_below v3.toNatClampNeg))]) (rest := []) ⟨hx, hb, hml, hown, hts⟩ (mX1_setLowest l D c a_reckoned H.size x_reckoned_above x_reckoned_below ((x_p0_value v2.toNatClampNeg) * (x_p0_value v3.toNatClampNeg)) ((x_p0_below v2.toNatClampNeg) * (x_p0_below v3.toNatClampNeg)) n _ _ hc7) (cwV 2 hts gX7_setReckoned_X1_setLowest rfl rfl rfl (by decide +kernel) ⟨Nat.le_of_ble_eq_true rfl, Nat.le_of_ble_eq_true rfl⟩) xB_t hP hD hK [4] rfl (by decide) (fun _ _ _ => trivial) 4 1 rfl rfl rfl rfl hl.1 rfl (Nat.le_of_ble_eq_true rfl) dX7_setReckoned_109) hP hD hS hA [4] [0, 1, 2, 3] [0, 1, 2, 3, 4] rfl rfl rfl ⟨by decide, by decide, by decide⟩ (fun H locs hP hD hS => ?_)
      exact kX7_setReckoned_112 E0 a_this a_p0 a_p0_value a_p0_below a_text a_facts a_told a_now a_trial a_past a_kept a_sightings a_plan a_slates a_reckoned x_p0_sort x_p0_size x_undoable x_keptBits x_p0_value x_p0_below n rm_reckoned_above rm_reckoned_below q7_0 q7_1 hr H locs ls hP hD hS (lv_sub hl [] rfl)
    · have hr := x_ift hr c_6
      refine lv_aload_n hx hb dX7_setReckoned_69 rfl (lv_at hl 4 rfl) ?_
      refine va_get (D := D) (ci := 7) (v := .ref a_reckoned) (C := RX7) (T := TX7) (N := 13) hx hb hts inX7_setReckoned_X7 hown hK hP 3 rfl rfl 12 (by decide) (hts _ lkX7_setReckoned_f66) (fun _ h9 => h9) rfl dX7_setReckoned_70 ?_
      refine lv_lload hx hb dX7_setReckoned_73 (lv_at hl 3 rfl) ?_
      refine lv_lload hx hb dX7_setReckoned_75 (lv_at hl 0 rfl) ?_
      refine lv_lmul hx hb dX7_setReckoned_77 ?_
      refine lv_lload hx hb dX7_setReckoned_78 (lv_at hl 1 rfl) ?_
      refine lv_lload hx hb dX7_setReckoned_80 (lv_at hl 2 rfl) ?_
      refine lv_lmul hx hb dX7_setReckoned_82 ?_
      refine lv_lsub hx hb dX7_setReckoned_83 ?_
      refine lv_lload hx hb dX7_setReckoned_84 (lv_at hl 2 rfl) ?_
      refine lv_lload hx hb dX7_setReckoned_86 (lv_at hl 0 rfl) ?_
      refine lv_lmul hx hb dX7_setReckoned_88 ?_
      obtain ⟨⟨q8_0, q8_1⟩, hc8, hr⟩ := x_bind hr
      try dsimp only at hr
      refine x_runv (wr := [(a_p0, .inr (5, [.int x_p0_sort, .int x_p0_size, .ref a_p0_value, .ref a_p0_below])), (a_p0_value, .inl (c 1, 10, .inr (.inl x_p0_value))), (a_p0_below, .inl (c 1, 10, .inr (.inl x_p0_below))), (a_this, .inr (7, [.ref a_text, .ref a_facts, .ref a_told, .ref a_now, .ref a_trial, .ref a_past, .int x_undoable, .ref a_kept, .int x_keptBits, .ref a_sightings, .ref a_plan, .ref a_slates, .ref a_reckoned]))]) (wf := [(a_p0, .inr (5, [.int x_p0_sort, .int x_p0_size, .ref a_p0_value, .ref a_p0_below])), (a_p0_value, .inl (c 1, 10, .inr (.inl x_p0_value))), (a_p0_below, .inl (c 1, 10, .inr (.inl x_p0_below))), (a_this, .inr (7, [.ref a_text, .ref a_facts, .ref a_told, .ref a_now, .ref a_trial, .ref a_past, .int x_undoable, .ref a_kept, .int x_keptBits, .ref a_sightings, .ref a_plan, .ref a_slates, .ref a_reckoned])), (a_reckoned, .inr (1, [.long q8_0, .long q8_1]))]) (x_goV (As := [.long (((x_p0_value v2.toNatClampNeg) * (x_p0_below v3.toNatClampNeg)) - ((x_p0_value v3.toNatClampNeg) * (x_p0_below v2.toNatClampNeg))), .long ((x_p0_below v2.toNatClampNeg) * (x_p0_below v3.toNatClampNeg))]) (rest := []) ⟨hx, hb, hml, hown, hts⟩ (mX1_setLowest l D c a_reckoned H.size x_reckoned_above x_reckoned_below (((x_p0_value v2.toNatClampNeg) * (x_p0_below v3.toNatClampNeg)) - ((x_p0_value v3.toNatClampNeg) * (x_p0_below v2.toNatClampNeg))) ((x_p0_below v2.toNatClampNeg) * (x_p0_below v3.toNatClampNeg)) n _ _ hc8) (cwV 2 hts gX7_setReckoned_X1_setLowest rfl rfl rfl (by decide +kernel) ⟨Nat.le_of_ble_eq_true rfl, Nat.le_of_ble_eq_true rfl⟩) xB_t hP hD hK [4] rfl (by decide) (fun _ _ _ => trivial) 4 1 rfl rfl rfl rfl hl.1 rfl (Nat.le_of_ble_eq_true rfl) dX7_setReckoned_89) hP hD hS hA [4] [0, 1, 2, 3] [0, 1, 2, 3, 4] rfl rfl rfl ⟨by decide, by decide, by decide⟩ (fun H locs hP hD hS => ?_)
      refine lv_goto (tgt := 112) hx hb dX7_setReckoned_92 (by decide) ?_
      exact kX7_setReckoned_112 E0 a_this a_p0 a_p0_value a_p0_below a_text a_facts a_told a_now a_trial a_past a_kept a_sightings a_plan a_slates a_reckoned x_p0_sort x_p0_size x_undoable x_keptBits x_p0_value x_p0_below n rm_reckoned_above rm_reckoned_below q8_0 q8_1 hr H locs ls hP hD hS (lv_sub hl [] rfl)
  · have hr := x_ift hr c_5
    refine lv_aload_n hx hb dX7_setReckoned_37 rfl (lv_at hl 4 rfl) ?_
    refine va_get (D := D) (ci := 7) (v := .ref a_reckoned) (C := RX7) (T := TX7) (N := 13) hx hb hts inX7_setReckoned_X7 hown hK hP 3 rfl rfl 12 (by decide) (hts _ lkX7_setReckoned_f66) (fun _ h9 => h9) rfl dX7_setReckoned_38 ?_
    refine lv_lload hx hb dX7_setReckoned_41 (lv_at hl 3 rfl) ?_
    refine lv_lload hx hb dX7_setReckoned_43 (lv_at hl 0 rfl) ?_
    refine lv_lmul hx hb dX7_setReckoned_45 ?_
    refine lv_lload hx hb dX7_setReckoned_46 (lv_at hl 1 rfl) ?_
    refine lv_lload hx hb dX7_setReckoned_48 (lv_at hl 2 rfl) ?_
    refine lv_lmul hx hb dX7_setReckoned_50 ?_
    refine lv_ladd hx hb dX7_setReckoned_51 ?_
    refine lv_lload hx hb dX7_setReckoned_52 (lv_at hl 2 rfl) ?_
    refine lv_lload hx hb dX7_setReckoned_54 (lv_at hl 0 rfl) ?_
    refine lv_lmul hx hb dX7_setReckoned_56 ?_
    obtain ⟨⟨q9_0, q9_1⟩, hc9, hr⟩ := x_bind hr
    try dsimp only at hr
    refine x_runv (wr := [(a_p0, .inr (5, [.int x_p0_sort, .int x_p0_size, .ref a_p0_value, .ref a_p0_below])), (a_p0_value, .inl (c 1, 10, .inr (.inl x_p0_value))), (a_p0_below, .inl (c 1, 10, .inr (.inl x_p0_below))), (a_this, .inr (7, [.ref a_text, .ref a_facts, .ref a_told, .ref a_now, .ref a_trial, .ref a_past, .int x_undoable, .ref a_kept, .int x_keptBits, .ref a_sightings, .ref a_plan, .ref a_slates, .ref a_reckoned]))]) (wf := [(a_p0, .inr (5, [.int x_p0_sort, .int x_p0_size, .ref a_p0_value, .ref a_p0_below])), (a_p0_value, .inl (c 1, 10, .inr (.inl x_p0_value))), (a_p0_below, .inl (c 1, 10, .inr (.inl x_p0_below))), (a_this, .inr (7, [.ref a_text, .ref a_facts, .ref a_told, .ref a_now, .ref a_trial, .ref a_past, .int x_undoable, .ref a_kept, .int x_keptBits, .ref a_sightings, .ref a_plan, .ref a_slates, .ref a_reckoned])), (a_reckoned, .inr (1, [.long q9_0, .long q9_1]))]) (x_goV (As := [.long (((x_p0_value v2.toNatClampNeg) * (x_p0_below v3.toNatClampNeg)) + ((x_p0_value v3.toNatClampNeg) * (x_p0_below v2.toNatClampNeg))), .long ((x_p0_below v2.toNatClampNeg) * (x_p0_below v3.toNatClampNeg))]) (rest := []) ⟨hx, hb, hml, hown, hts⟩ (mX1_setLowest l D c a_reckoned H.size x_reckoned_above x_reckoned_below (((x_p0_value v2.toNatClampNeg) * (x_p0_below v3.toNatClampNeg)) + ((x_p0_value v3.toNatClampNeg) * (x_p0_below v2.toNatClampNeg))) ((x_p0_below v2.toNatClampNeg) * (x_p0_below v3.toNatClampNeg)) n _ _ hc9) (cwV 2 hts gX7_setReckoned_X1_setLowest rfl rfl rfl (by decide +kernel) ⟨Nat.le_of_ble_eq_true rfl, Nat.le_of_ble_eq_true rfl⟩) xB_t hP hD hK [4] rfl (by decide) (fun _ _ _ => trivial) 4 1 rfl rfl rfl rfl hl.1 rfl (Nat.le_of_ble_eq_true rfl) dX7_setReckoned_57) hP hD hS hA [4] [0, 1, 2, 3] [0, 1, 2, 3, 4] rfl rfl rfl ⟨by decide, by decide, by decide⟩ (fun H locs hP hD hS => ?_)
    refine lv_goto (tgt := 112) hx hb dX7_setReckoned_60 (by decide) ?_
    exact kX7_setReckoned_112 E0 a_this a_p0 a_p0_value a_p0_below a_text a_facts a_told a_now a_trial a_past a_kept a_sightings a_plan a_slates a_reckoned x_p0_sort x_p0_size x_undoable x_keptBits x_p0_value x_p0_below n rm_reckoned_above rm_reckoned_below q9_0 q9_1 hr H locs ls hP hD hS (lv_sub hl [] rfl)
set_option maxHeartbeats 4000000 in
set_option maxRecDepth 100000 in
theorem mX7_setReckoned (l : Launch) (D : va_G) (c : Nat → ClassId) (a_this : Nat) (a_p0 : Nat) (a_p0_value : Nat) (a_p0_below : Nat) (a_text : Nat) (a_facts : Nat) (a_told : Nat) (a_now : Nat) (a_trial : Nat) (a_past : Nat) (a_kept : Nat) (a_sightings : Nat) (a_plan : Nat) (a_slates : Nat) (a_reckoned : Nat) (sz : Nat) (x_p0_sort : Int32) (x_p0_size : Int32) (x_undoable : Int32) (x_keptBits : Int32) (x_p0_value : Nat → Int64) (x_p0_below : Nat → Int64) (x_reckoned_above : Int64) (x_reckoned_below : Int64) (v2 : Int32) (v3 : Int32) (v4 : Int32) (n : Nat) (rm_reckoned_above : Int64) (rm_reckoned_below : Int64) (h : fX7_setReckoned n x_p0_value x_p0_below x_reckoned_above x_reckoned_below v2 v3 v4 = some (rm_reckoned_above, rm_reckoned_below)) : Met l yX7_setReckoned wsX7_setReckoned ({ frames := 2, cells := 0, slots := 0, locals := 126 } : Room) (xPc D (xT c) sz [.ref a_this, .ref a_p0, .int v2, .int v3, .int v4] (wX7_setReckoned c a_this a_p0 a_p0_value a_p0_below a_text a_facts a_told a_now a_trial a_past a_kept a_sightings a_plan a_slates a_reckoned x_p0_sort x_p0_size x_undoable x_keptBits x_p0_value x_p0_below x_reckoned_above x_reckoned_below) (fun _ => True)) (xQv D (xT c) (va_A (wX7_setReckoned c a_this a_p0 a_p0_value a_p0_below a_text a_facts a_told a_now a_trial a_past a_kept a_sightings a_plan a_slates a_reckoned x_p0_sort x_p0_size x_undoable x_keptBits x_p0_value x_p0_below x_reckoned_above x_reckoned_below) sz) (wX7_setReckoned c a_this a_p0 a_p0_value a_p0_below a_text a_facts a_told a_now a_trial a_past a_kept a_sightings a_plan a_slates a_reckoned x_p0_sort x_p0_size x_undoable x_keptBits x_p0_value x_p0_below rm_reckoned_above rm_reckoned_below)) 0 0 (va_A (wX7_setReckoned c a_this a_p0 a_p0_value a_p0_below a_text a_facts a_told a_now a_trial a_past a_kept a_sightings a_plan a_slates a_reckoned x_p0_sort x_p0_size x_undoable x_keptBits x_p0_value x_p0_below x_reckoned_above x_reckoned_below) sz) := by
  refine Met.ofW (cc := cX7_setReckoned) (maxL := 13) (ret := none) (by decide) rfl ?_
  intro p e s m args below meth cd s₁ B hml hv
  obtain ⟨rfl, hsz, hP, hK, hD0, hV⟩ := hv
  subst hsz
  have hl := lv_entry [.ref a_this, .ref a_p0, .int v2, .int v3, .int v4] (n := 13) (Nat.le_of_ble_eq_true rfl)
  rw [lg_entry_eq]
  exact kX7_setReckoned_0 (A := va_A (wX7_setReckoned c a_this a_p0 a_p0_value a_p0_below a_text a_facts a_told a_now a_trial a_past a_kept a_sightings a_plan a_slates a_reckoned x_p0_sort x_p0_size x_undoable x_keptBits x_p0_value x_p0_below x_reckoned_above x_reckoned_below) s.heap.size) ⟨B.exec, B.bytes, hml, B.returns, findClass_of_methodNamed B.named, atoms_spec (ws := wsX7_setReckoned) B.pre, B.notSynchronized, fun q h => Or.inr h, hK⟩ a_this a_p0 a_p0_value a_p0_below a_text a_facts a_told a_now a_trial a_past a_kept a_sightings a_plan a_slates a_reckoned x_p0_sort x_p0_size x_undoable x_keptBits x_p0_value x_p0_below n rm_reckoned_above rm_reckoned_below x_reckoned_above x_reckoned_below v2 v3 v4 h s.heap [] _ hP hD0.self va_S.rf hl

