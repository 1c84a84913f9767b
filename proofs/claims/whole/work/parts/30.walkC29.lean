abbrev wX7_sound (c : Nat → ClassId) (a_this : Nat) (a_text : Nat) (a_facts : Nat) (a_told : Nat) (a_now : Nat) (a_trial : Nat) (a_past : Nat) (a_kept : Nat) (a_sightings : Nat) (a_plan : Nat) (a_slates : Nat) (a_reckoned : Nat) (a_facts_leans : Nat) (a_facts_all : Nat) (a_facts_lostWith : Nat) (x_undoable : Int32) (x_keptBits : Int32) (x_facts_size : Int32) (x_facts_all : Nat → Int32) (x_reckoned_above : Int64) (x_reckoned_below : Int64) : va_W := [(a_this, .inr (7, [.ref a_text, .ref a_facts, .ref a_told, .ref a_now, .ref a_trial, .ref a_past, .int x_undoable, .ref a_kept, .int x_keptBits, .ref a_sightings, .ref a_plan, .ref a_slates, .ref a_reckoned])), (a_facts, .inr (0, [.int x_facts_size, .ref a_facts_leans, .ref a_facts_all, .ref a_facts_lostWith])), (a_facts_all, .inl (c 0, 12, .inl x_facts_all)), (a_reckoned, .inr (1, [.long x_reckoned_above, .long x_reckoned_below]))]
def GX7_sound (p : Program) (l : Launch) (e : Env) (s : State) (m : MethodId) (args : Array Value) (below : List Frame) (meth : Method) (cd : Code) (D : va_G) (c : Nat → ClassId) (A : Nat → Prop) (a_this : Nat) (a_text : Nat) (a_facts : Nat) (a_told : Nat) (a_now : Nat) (a_trial : Nat) (a_past : Nat) (a_kept : Nat) (a_sightings : Nat) (a_plan : Nat) (a_slates : Nat) (a_reckoned : Nat) (a_facts_leans : Nat) (a_facts_all : Nat) (a_facts_lostWith : Nat) (x_undoable : Int32) (x_keptBits : Int32) (x_facts_size : Int32) (x_facts_all : Nat → Int32) (r_ret : Int32) (rm_reckoned_above : Int64) (rm_reckoned_below : Int64) (pc : Nat) (st : List Value) (loc : List (Nat × Value)) (x_reckoned_above : Int64) (x_reckoned_below : Int64) : Prop :=
  ∀ (H : Heap) (locs : List Loc) (ls : Array Slot), va_P D vwCl (wX7_sound c a_this a_text a_facts a_told a_now a_trial a_past a_kept a_sightings a_plan a_slates a_reckoned a_facts_leans a_facts_all a_facts_lostWith x_undoable x_keptBits x_facts_size x_facts_all x_reckoned_above x_reckoned_below) H → va_D A (wX7_sound c a_this a_text a_facts a_told a_now a_trial a_past a_kept a_sightings a_plan a_slates a_reckoned a_facts_leans a_facts_all a_facts_lostWith x_undoable x_keptBits x_facts_size x_facts_all x_reckoned_above x_reckoned_below) → va_S A s.heap H locs → lv_has ls 9 loc → W p l e ({ frames := 2, cells := 0, slots := 0, locals := 126 } : Room) s m args below meth cd H locs 0 0 (MQ below (xQi D (xT c) A r_ret (wX7_sound c a_this a_text a_facts a_told a_now a_trial a_past a_kept a_sightings a_plan a_slates a_reckoned a_facts_leans a_facts_all a_facts_lostWith x_undoable x_keptBits x_facts_size x_facts_all rm_reckoned_above rm_reckoned_below)) args s 0 0 A) (F0 m pc ls st)
theorem lkX7_sound_J218 : Cond.constantLong RX7 218 5 ∈ wsX7_sound := by decide +kernel
theorem lkX7_sound_f113 : Cond.fieldLink RX7 113 "LeechClub$Facts" "all" "[I" ∈ wsX7_sound := by decide +kernel
theorem lkX7_sound_f143 : Cond.fieldLink RX7 143 "LeechClub$Part" "above" "J" ∈ wsX7_sound := by decide +kernel
theorem lkX7_sound_f147 : Cond.fieldLink RX7 147 "LeechClub$Part" "below" "J" ∈ wsX7_sound := by decide +kernel
theorem lkX7_sound_f19 : Cond.fieldLink RX7 19 "LeechClub" "facts" "LLeechClub$Facts;" ∈ wsX7_sound := by decide +kernel
theorem lkX7_sound_f66 : Cond.fieldLink RX7 66 "LeechClub" "reckoned" "LLeechClub$Part;" ∈ wsX7_sound := by decide +kernel
theorem inX7_sound_X7 : ∀ w ∈ wsX70, w ∈ wsX7_sound := by decide +kernel
theorem inX7_sound_X0 : ∀ w ∈ wsX00, w ∈ wsX7_sound := by decide +kernel
theorem inX7_sound_X1 : ∀ w ∈ wsX10, w ∈ wsX7_sound := by decide +kernel
set_option maxHeartbeats 4000000 in
set_option maxRecDepth 100000 in
theorem kX7_sound_32 {p : Program} {l : Launch} {e : Env} {s : State} {m : MethodId} {args : Array Value} {below : List Frame} {meth : Method} {cd : Code} {D : va_G} {c : Nat → ClassId} {A : Nat → Prop} (E0 : xE p s m args meth cd D (xT c) A RX7 cX7_sound 9 (some .int) wsX7_sound) (a_this : Nat) (a_text : Nat) (a_facts : Nat) (a_told : Nat) (a_now : Nat) (a_trial : Nat) (a_past : Nat) (a_kept : Nat) (a_sightings : Nat) (a_plan : Nat) (a_slates : Nat) (a_reckoned : Nat) (a_facts_leans : Nat) (a_facts_all : Nat) (a_facts_lostWith : Nat) (x_undoable : Int32) (x_keptBits : Int32) (x_facts_size : Int32) (x_facts_all : Nat → Int32) (n : Nat) (r_ret : Int32) (rm_reckoned_above : Int64) (rm_reckoned_below : Int64) (x_reckoned_above : Int64) (x_reckoned_below : Int64) (hr : fX7_sound_32 n x_facts_size x_facts_all x_reckoned_above x_reckoned_below = some (r_ret, rm_reckoned_above, rm_reckoned_below)) : GX7_sound p l e s m args below meth cd D c A a_this a_text a_facts a_told a_now a_trial a_past a_kept a_sightings a_plan a_slates a_reckoned a_facts_leans a_facts_all a_facts_lostWith x_undoable x_keptBits x_facts_size x_facts_all r_ret rm_reckoned_above rm_reckoned_below 32 [] [] x_reckoned_above x_reckoned_below := by
  have E1 := E0
  obtain ⟨hx, hb, hml, hret, hown, hts, hlocks, hA, hK⟩ := E1
  intro H locs ls hP hD hS hl
  unfold fX7_sound_32 at hr
  refine lv_bipush (v := (-3)) hx hb dX7_sound_32 (by decide) ?_
  have g0 := x_some hr
  have e0 := x_p1 g0
  have g1 := x_p2 g0
  have e1 := x_p1 g1
  have e2 := x_p2 g1
  subst e0
  subst e1
  subst e2
  exact x_reti hx hb hret hlocks hP hD hK hS dX7_sound_34
set_option maxHeartbeats 4000000 in
set_option maxRecDepth 100000 in
theorem kX7_sound_113 {p : Program} {l : Launch} {e : Env} {s : State} {m : MethodId} {args : Array Value} {below : List Frame} {meth : Method} {cd : Code} {D : va_G} {c : Nat → ClassId} {A : Nat → Prop} (E0 : xE p s m args meth cd D (xT c) A RX7 cX7_sound 9 (some .int) wsX7_sound) (a_this : Nat) (a_text : Nat) (a_facts : Nat) (a_told : Nat) (a_now : Nat) (a_trial : Nat) (a_past : Nat) (a_kept : Nat) (a_sightings : Nat) (a_plan : Nat) (a_slates : Nat) (a_reckoned : Nat) (a_facts_leans : Nat) (a_facts_all : Nat) (a_facts_lostWith : Nat) (x_undoable : Int32) (x_keptBits : Int32) (x_facts_size : Int32) (x_facts_all : Nat → Int32) (n : Nat) (r_ret : Int32) (rm_reckoned_above : Int64) (rm_reckoned_below : Int64) (x_reckoned_above : Int64) (x_reckoned_below : Int64) (t0 : Int64) (hr : fX7_sound_113 n x_facts_size x_facts_all x_reckoned_above x_reckoned_below t0 = some (r_ret, rm_reckoned_above, rm_reckoned_below)) : GX7_sound p l e s m args below meth cd D c A a_this a_text a_facts a_told a_now a_trial a_past a_kept a_sightings a_plan a_slates a_reckoned a_facts_leans a_facts_all a_facts_lostWith x_undoable x_keptBits x_facts_size x_facts_all r_ret rm_reckoned_above rm_reckoned_below 113 [.long t0] [] x_reckoned_above x_reckoned_below := by
  have E1 := E0
  obtain ⟨hx, hb, hml, hret, hown, hts, hlocks, hA, hK⟩ := E1
  intro H locs ls hP hD hS hl
  unfold fX7_sound_113 at hr
  refine lv_l2i hx hb dX7_sound_113 rfl ?_
  have g0 := x_some hr
  have e0 := x_p1 g0
  have g1 := x_p2 g0
  have e1 := x_p1 g1
  have e2 := x_p2 g1
  subst e0
  subst e1
  subst e2
  exact x_reti hx hb hret hlocks hP hD hK hS dX7_sound_114
set_option maxHeartbeats 4000000 in
set_option maxRecDepth 100000 in
theorem kX7_sound_55 {p : Program} {l : Launch} {e : Env} {s : State} {m : MethodId} {args : Array Value} {below : List Frame} {meth : Method} {cd : Code} {D : va_G} {c : Nat → ClassId} {A : Nat → Prop} (E0 : xE p s m args meth cd D (xT c) A RX7 cX7_sound 9 (some .int) wsX7_sound) (a_this : Nat) (a_text : Nat) (a_facts : Nat) (a_told : Nat) (a_now : Nat) (a_trial : Nat) (a_past : Nat) (a_kept : Nat) (a_sightings : Nat) (a_plan : Nat) (a_slates : Nat) (a_reckoned : Nat) (a_facts_leans : Nat) (a_facts_all : Nat) (a_facts_lostWith : Nat) (x_undoable : Int32) (x_keptBits : Int32) (x_facts_size : Int32) (x_facts_all : Nat → Int32) (n : Nat) (r_ret : Int32) (rm_reckoned_above : Int64) (rm_reckoned_below : Int64) : ∀ (k : Nat) (x_reckoned_above : Int64) (x_reckoned_below : Int64) (v2 : Int32) (v3 : Int32) (v4 : Int64) (v6 : Int64) (v8 : Int32), fX7_sound_55 n x_facts_size x_facts_all k x_reckoned_above x_reckoned_below v2 v3 v4 v6 v8 = some (r_ret, rm_reckoned_above, rm_reckoned_below) → GX7_sound p l e s m args below meth cd D c A a_this a_text a_facts a_told a_now a_trial a_past a_kept a_sightings a_plan a_slates a_reckoned a_facts_leans a_facts_all a_facts_lostWith x_undoable x_keptBits x_facts_size x_facts_all r_ret rm_reckoned_above rm_reckoned_below 55 [] [(0, .ref a_this), (2, .int v2), (3, .int v3), (4, .long v4), (6, .long v6), (8, .int v8)] x_reckoned_above x_reckoned_below := by
  have E1 := E0
  obtain ⟨hx, hb, hml, hret, hown, hts, hlocks, hA, hK⟩ := E1
  intro k
  induction k with
  | zero => intro x_reckoned_above x_reckoned_below v2 v3 v4 v6 v8 hr; cases hr
  | succ k h_55 =>
    intro x_reckoned_above x_reckoned_below v2 v3 v4 v6 v8 hr H locs ls hP hD hS hl
    unfold fX7_sound_55 at hr
    refine lv_iload hx hb dX7_sound_55 (lv_at hl 5 rfl) ?_
    refine lv_if_le (tgt := 81) hx hb dX7_sound_57 (by decide) (fun c_1 => ?_) (fun c_1 => ?_)
    · have hr := x_ift hr c_1
      refine lv_aload_n hx hb dX7_sound_81 rfl (lv_at hl 0 rfl) ?_
      refine va_get (D := D) (ci := 7) (v := .ref a_reckoned) (C := RX7) (T := TX7) (N := 13) hx hb hts inX7_sound_X7 hown hK hP 0 rfl rfl 12 (by decide) (hts _ lkX7_sound_f66) (fun _ h9 => h9) rfl dX7_sound_82 ?_
      refine lv_lload hx hb dX7_sound_85 (lv_at hl 3 rfl) ?_
      refine lv_lload hx hb dX7_sound_87 (lv_at hl 4 rfl) ?_
      obtain ⟨⟨q2_0, q2_1⟩, hc2, hr⟩ := x_bind hr
      try dsimp only at hr
      refine x_runv (wr := [(a_this, .inr (7, [.ref a_text, .ref a_facts, .ref a_told, .ref a_now, .ref a_trial, .ref a_past, .int x_undoable, .ref a_kept, .int x_keptBits, .ref a_sightings, .ref a_plan, .ref a_slates, .ref a_reckoned])), (a_facts, .inr (0, [.int x_facts_size, .ref a_facts_leans, .ref a_facts_all, .ref a_facts_lostWith])), (a_facts_all, .inl (c 0, 12, .inl x_facts_all))]) (wf := [(a_this, .inr (7, [.ref a_text, .ref a_facts, .ref a_told, .ref a_now, .ref a_trial, .ref a_past, .int x_undoable, .ref a_kept, .int x_keptBits, .ref a_sightings, .ref a_plan, .ref a_slates, .ref a_reckoned])), (a_facts, .inr (0, [.int x_facts_size, .ref a_facts_leans, .ref a_facts_all, .ref a_facts_lostWith])), (a_facts_all, .inl (c 0, 12, .inl x_facts_all)), (a_reckoned, .inr (1, [.long q2_0, .long q2_1]))]) (x_goV (As := [.long v4, .long v6]) (rest := []) ⟨hx, hb, hml, hown, hts⟩ (mX1_setLowest l D c a_reckoned H.size x_reckoned_above x_reckoned_below v4 v6 n _ _ hc2) (cwV 2 hts gX7_sound_X1_setLowest rfl rfl rfl (by decide +kernel) ⟨Nat.le_of_ble_eq_true rfl, Nat.le_of_ble_eq_true rfl⟩) xB_t hP hD hK [3] rfl (by decide) (fun _ _ _ => trivial) 3 1 rfl rfl rfl rfl hl.1 rfl (Nat.le_of_ble_eq_true rfl) dX7_sound_89) hP hD hS hA [3] [0, 1, 2] [0, 1, 2, 3] rfl rfl rfl ⟨by decide, by decide, by decide⟩ (fun H locs hP hD hS => ?_)
      refine lv_iload_n hx hb dX7_sound_92 rfl (lv_at hl 2 rfl) ?_
      refine lv_if_ne (tgt := 106) hx hb dX7_sound_93 (by decide) (fun c_3 => ?_) (fun c_3 => ?_)
      · have hr := x_iff hr c_3
        refine lv_aload_n hx hb dX7_sound_106 rfl (lv_at hl 0 rfl) ?_
        refine va_get (D := D) (ci := 7) (v := .ref a_reckoned) (C := RX7) (T := TX7) (N := 13) hx hb hts inX7_sound_X7 hown hK hP 0 rfl rfl 12 (by decide) (hts _ lkX7_sound_f66) (fun _ h9 => h9) rfl dX7_sound_107 ?_
        refine va_get (D := D) (ci := 1) (v := .long q2_1) (C := RX1) (T := TX1) (N := 2) hx hb hts inX7_sound_X1 hown hK hP 3 rfl rfl 1 (by decide) (hts _ lkX7_sound_f147) (fun _ h9 => h9) rfl dX7_sound_110 ?_
        exact kX7_sound_113 E0 a_this a_text a_facts a_told a_now a_trial a_past a_kept a_sightings a_plan a_slates a_reckoned a_facts_leans a_facts_all a_facts_lostWith x_undoable x_keptBits x_facts_size x_facts_all n r_ret rm_reckoned_above rm_reckoned_below q2_0 q2_1 q2_1 hr H locs ls hP hD hS (lv_sub hl [] rfl)
      · have hr := x_ift hr c_3
        refine lv_aload_n hx hb dX7_sound_96 rfl (lv_at hl 0 rfl) ?_
        refine va_get (D := D) (ci := 7) (v := .ref a_reckoned) (C := RX7) (T := TX7) (N := 13) hx hb hts inX7_sound_X7 hown hK hP 0 rfl rfl 12 (by decide) (hts _ lkX7_sound_f66) (fun _ h9 => h9) rfl dX7_sound_97 ?_
        refine va_get (D := D) (ci := 1) (v := .long q2_0) (C := RX1) (T := TX1) (N := 2) hx hb hts inX7_sound_X1 hown hK hP 3 rfl rfl 0 (by decide) (hts _ lkX7_sound_f143) (fun _ h9 => h9) rfl dX7_sound_100 ?_
        refine lv_goto (tgt := 113) hx hb dX7_sound_103 (by decide) ?_
        exact kX7_sound_113 E0 a_this a_text a_facts a_told a_now a_trial a_past a_kept a_sightings a_plan a_slates a_reckoned a_facts_leans a_facts_all a_facts_lostWith x_undoable x_keptBits x_facts_size x_facts_all n r_ret rm_reckoned_above rm_reckoned_below q2_0 q2_1 q2_0 hr H locs ls hP hD hS (lv_sub hl [] rfl)
    · have hr := x_iff hr c_1
      refine lv_lload hx hb dX7_sound_60 (lv_at hl 3 rfl) ?_
      refine lv_iload_n hx hb dX7_sound_62 rfl (lv_at hl 1 rfl) ?_
      refine lv_i2l hx hb dX7_sound_63 rfl ?_
      refine lv_lmul hx hb dX7_sound_64 ?_
      refine lv_lstore (lv' := [(4, .long (v4 * v2.toInt64)), (0, .ref a_this), (2, .int v2), (3, .int v3), (6, .long v6), (8, .int v8)]) hx hb dX7_sound_65 hl (by decide) rfl (fun ls hl => ?_)
      refine lv_lload hx hb dX7_sound_67 (lv_at hl 4 rfl) ?_
      refine lv_ldc2 hx hb hown (hts _ lkX7_sound_J218) dX7_sound_69 ?_
      refine lv_lmul hx hb dX7_sound_72 ?_
      refine lv_lstore (lv' := [(6, .long (v6 * 5)), (4, .long (v4 * v2.toInt64)), (0, .ref a_this), (2, .int v2), (3, .int v3), (8, .int v8)]) hx hb dX7_sound_73 hl (by decide) rfl (fun ls hl => ?_)
      refine lv_iinc (v := v8 + (-1)) (lv' := [(8, .int (v8 + (-1))), (6, .long (v6 * 5)), (4, .long (v4 * v2.toInt64)), (0, .ref a_this), (2, .int v2), (3, .int v3)]) hx hb dX7_sound_75 hl (k := 5) rfl rfl (by decide) rfl (fun ls hl => ?_)
      refine lv_goto (tgt := 55) hx hb dX7_sound_78 (by decide) ?_
      exact h_55 x_reckoned_above x_reckoned_below v2 v3 (v4 * v2.toInt64) (v6 * 5) (v8 + (-1)) hr H locs ls hP hD hS (lv_sub hl [3, 4, 5, 2, 1, 0] rfl)
set_option maxHeartbeats 4000000 in
set_option maxRecDepth 100000 in
theorem kX7_sound_0 {p : Program} {l : Launch} {e : Env} {s : State} {m : MethodId} {args : Array Value} {below : List Frame} {meth : Method} {cd : Code} {D : va_G} {c : Nat → ClassId} {A : Nat → Prop} (E0 : xE p s m args meth cd D (xT c) A RX7 cX7_sound 9 (some .int) wsX7_sound) (a_this : Nat) (a_text : Nat) (a_facts : Nat) (a_told : Nat) (a_now : Nat) (a_trial : Nat) (a_past : Nat) (a_kept : Nat) (a_sightings : Nat) (a_plan : Nat) (a_slates : Nat) (a_reckoned : Nat) (a_facts_leans : Nat) (a_facts_all : Nat) (a_facts_lostWith : Nat) (x_undoable : Int32) (x_keptBits : Int32) (x_facts_size : Int32) (x_facts_all : Nat → Int32) (n : Nat) (r_ret : Int32) (rm_reckoned_above : Int64) (rm_reckoned_below : Int64) (x_reckoned_above : Int64) (x_reckoned_below : Int64) (v1 : Int32) (v2 : Int32) (v3 : Int32) (hr : fX7_sound n x_facts_size x_facts_all x_reckoned_above x_reckoned_below v1 v2 v3 = some (r_ret, rm_reckoned_above, rm_reckoned_below)) : GX7_sound p l e s m args below meth cd D c A a_this a_text a_facts a_told a_now a_trial a_past a_kept a_sightings a_plan a_slates a_reckoned a_facts_leans a_facts_all a_facts_lostWith x_undoable x_keptBits x_facts_size x_facts_all r_ret rm_reckoned_above rm_reckoned_below 0 [] [(0, .ref a_this), (1, .int v1), (2, .int v2), (3, .int v3)] x_reckoned_above x_reckoned_below := by
  have E1 := E0
  obtain ⟨hx, hb, hml, hret, hown, hts, hlocks, hA, hK⟩ := E1
  intro H locs ls hP hD hS hl
  unfold fX7_sound at hr
  refine lv_aload_n hx hb dX7_sound_0 rfl (lv_at hl 0 rfl) ?_
  refine va_get (D := D) (ci := 7) (v := .ref a_facts) (C := RX7) (T := TX7) (N := 13) hx hb hts inX7_sound_X7 hown hK hP 0 rfl rfl 1 (by decide) (hts _ lkX7_sound_f19) (fun _ h9 => h9) rfl dX7_sound_1 ?_
  refine lv_iload_n hx hb dX7_sound_4 rfl (lv_at hl 1 rfl) ?_
  obtain ⟨q1_0, hc1, hr⟩ := x_bind hr
  refine x_runi (wr := [(a_this, .inr (7, [.ref a_text, .ref a_facts, .ref a_told, .ref a_now, .ref a_trial, .ref a_past, .int x_undoable, .ref a_kept, .int x_keptBits, .ref a_sightings, .ref a_plan, .ref a_slates, .ref a_reckoned])), (a_facts_all, .inl (c 0, 12, .inl x_facts_all)), (a_reckoned, .inr (1, [.long x_reckoned_above, .long x_reckoned_below]))]) (wf := [(a_this, .inr (7, [.ref a_text, .ref a_facts, .ref a_told, .ref a_now, .ref a_trial, .ref a_past, .int x_undoable, .ref a_kept, .int x_keptBits, .ref a_sightings, .ref a_plan, .ref a_slates, .ref a_reckoned])), (a_facts, .inr (0, [.int x_facts_size, .ref a_facts_leans, .ref a_facts_all, .ref a_facts_lostWith])), (a_facts_all, .inl (c 0, 12, .inl x_facts_all)), (a_reckoned, .inr (1, [.long x_reckoned_above, .long x_reckoned_below]))]) (x_goV (As := [.int v1]) (rest := []) ⟨hx, hb, hml, hown, hts⟩ (mX0_hasFact l D c a_facts a_facts_leans a_facts_all a_facts_lostWith H.size x_facts_size v1 n _ hc1) (cwV 1 hts gX7_sound_X0_hasFact rfl rfl rfl (by decide +kernel) ⟨Nat.le_of_ble_eq_true rfl, Nat.le_of_ble_eq_true rfl⟩) xB_t hP hD hK [1] rfl (by decide) (fun _ _ _ => trivial) 1 0 rfl rfl rfl rfl hl.1 rfl (Nat.le_of_ble_eq_true rfl) dX7_sound_5) hP hD hS hA [1] [0, 2, 3] [0, 3, 1, 2] rfl rfl rfl ⟨by decide, by decide, by decide⟩ (fun H locs hP hD hS => ?_)
  refine lv_if_ne (tgt := 14) hx hb dX7_sound_8 (by decide) (fun c_2 => ?_) (fun c_2 => ?_)
  · have hr := x_iff hr c_2
    refine lv_iload_n hx hb dX7_sound_14 rfl (lv_at hl 2 rfl) ?_
    refine lv_if_lt (tgt := 32) hx hb dX7_sound_15 (by decide) (fun c_3 => ?_) (fun c_3 => ?_)
    · have hr := x_ift hr c_3
      exact kX7_sound_32 E0 a_this a_text a_facts a_told a_now a_trial a_past a_kept a_sightings a_plan a_slates a_reckoned a_facts_leans a_facts_all a_facts_lostWith x_undoable x_keptBits x_facts_size x_facts_all n r_ret rm_reckoned_above rm_reckoned_below x_reckoned_above x_reckoned_below hr H locs ls hP hD hS (lv_sub hl [] rfl)
    · have hr := x_iff hr c_3
      refine lv_iload_n hx hb dX7_sound_18 rfl (lv_at hl 2 rfl) ?_
      refine lv_iconst (v := 5) hx hb dX7_sound_19 (by decide) ?_
      refine lv_icmp_gt (tgt := 32) hx hb dX7_sound_20 (by decide) (fun c_4 => ?_) (fun c_4 => ?_)
      · have hr := x_ift hr c_4
        exact kX7_sound_32 E0 a_this a_text a_facts a_told a_now a_trial a_past a_kept a_sightings a_plan a_slates a_reckoned a_facts_leans a_facts_all a_facts_lostWith x_undoable x_keptBits x_facts_size x_facts_all n r_ret rm_reckoned_above rm_reckoned_below x_reckoned_above x_reckoned_below hr H locs ls hP hD hS (lv_sub hl [] rfl)
      · have hr := x_iff hr c_4
        refine lv_iload_n hx hb dX7_sound_23 rfl (lv_at hl 3 rfl) ?_
        refine lv_if_lt (tgt := 32) hx hb dX7_sound_24 (by decide) (fun c_5 => ?_) (fun c_5 => ?_)
        · have hr := x_ift hr c_5
          exact kX7_sound_32 E0 a_this a_text a_facts a_told a_now a_trial a_past a_kept a_sightings a_plan a_slates a_reckoned a_facts_leans a_facts_all a_facts_lostWith x_undoable x_keptBits x_facts_size x_facts_all n r_ret rm_reckoned_above rm_reckoned_below x_reckoned_above x_reckoned_below hr H locs ls hP hD hS (lv_sub hl [] rfl)
        · have hr := x_iff hr c_5
          refine lv_iload_n hx hb dX7_sound_27 rfl (lv_at hl 3 rfl) ?_
          refine lv_iconst (v := 1) hx hb dX7_sound_28 (by decide) ?_
          refine lv_icmp_le (tgt := 35) hx hb dX7_sound_29 (by decide) (fun c_6 => ?_) (fun c_6 => ?_)
          · have hr := x_ift hr c_6
            refine lv_lconst (v := 1) hx hb dX7_sound_35 (by decide) ?_
            refine lv_lstore (lv' := [(4, .long 1), (0, .ref a_this), (1, .int v1), (2, .int v2), (3, .int v3)]) hx hb dX7_sound_36 hl (by decide) rfl (fun ls hl => ?_)
            refine lv_lconst (v := 1) hx hb dX7_sound_38 (by decide) ?_
            refine lv_lstore (lv' := [(6, .long 1), (4, .long 1), (0, .ref a_this), (1, .int v1), (2, .int v2), (3, .int v3)]) hx hb dX7_sound_39 hl (by decide) rfl (fun ls hl => ?_)
            refine lv_aload_n hx hb dX7_sound_41 rfl (lv_at hl 2 rfl) ?_
            refine va_get (D := D) (ci := 7) (v := .ref a_facts) (C := RX7) (T := TX7) (N := 13) hx hb hts inX7_sound_X7 hown hK hP 0 rfl rfl 1 (by decide) (hts _ lkX7_sound_f19) (fun _ h9 => h9) rfl dX7_sound_42 ?_
            refine va_get (D := D) (ci := 0) (v := .ref a_facts_all) (C := RX0) (T := TX0) (N := 4) hx hb hts inX7_sound_X0 hown hK hP 1 rfl rfl 2 (by decide) (hts _ lkX7_sound_f113) (fun _ h9 => h9) rfl dX7_sound_45 ?_
            refine lv_iload_n hx hb dX7_sound_48 rfl (lv_at hl 3 rfl) ?_
            obtain ⟨b_7, hr⟩ := x_chk hr
            refine va_iald hx hb hK hP 2 0 rfl rfl b_7 dX7_sound_49 ?_
            obtain ⟨q8_0, hc8, hr⟩ := x_bind hr
            refine x_runi (wr := [(a_this, .inr (7, [.ref a_text, .ref a_facts, .ref a_told, .ref a_now, .ref a_trial, .ref a_past, .int x_undoable, .ref a_kept, .int x_keptBits, .ref a_sightings, .ref a_plan, .ref a_slates, .ref a_reckoned])), (a_facts, .inr (0, [.int x_facts_size, .ref a_facts_leans, .ref a_facts_all, .ref a_facts_lostWith])), (a_facts_all, .inl (c 0, 12, .inl x_facts_all)), (a_reckoned, .inr (1, [.long x_reckoned_above, .long x_reckoned_below]))]) (wf := [(a_this, .inr (7, [.ref a_text, .ref a_facts, .ref a_told, .ref a_now, .ref a_trial, .ref a_past, .int x_undoable, .ref a_kept, .int x_keptBits, .ref a_sightings, .ref a_plan, .ref a_slates, .ref a_reckoned])), (a_facts, .inr (0, [.int x_facts_size, .ref a_facts_leans, .ref a_facts_all, .ref a_facts_lostWith])), (a_facts_all, .inl (c 0, 12, .inl x_facts_all)), (a_reckoned, .inr (1, [.long x_reckoned_above, .long x_reckoned_below]))]) (x_goS (As := [.int (x_facts_all v1.toNatClampNeg)]) (rest := []) ⟨hx, hb, hml, hown, hts⟩ (mJ6_bitCount_0f7a4 l D c H.size (x_facts_all v1.toNatClampNeg) n _ hc8) (va_cwS 1 hts gX7_sound_J6_bitCount_0f7a4 rfl rfl rfl (by decide +kernel) ⟨Nat.le_of_ble_eq_true rfl, Nat.le_of_ble_eq_true rfl⟩) xB_t hP hD hK [] rfl (by decide) (fun _ _ _ => trivial) rfl hl.1 rfl (Nat.le_of_ble_eq_true rfl) dX7_sound_50) hP hD hS hA [] [0, 1, 2, 3] [0, 1, 2, 3] rfl rfl rfl ⟨by decide, by decide, by decide⟩ (fun H locs hP hD hS => ?_)
            refine lv_istore (lv' := [(8, .int q8_0), (6, .long 1), (4, .long 1), (0, .ref a_this), (1, .int v1), (2, .int v2), (3, .int v3)]) hx hb dX7_sound_53 hl (by decide) rfl (fun ls hl => ?_)
            exact kX7_sound_55 E0 a_this a_text a_facts a_told a_now a_trial a_past a_kept a_sightings a_plan a_slates a_reckoned a_facts_leans a_facts_all a_facts_lostWith x_undoable x_keptBits x_facts_size x_facts_all n r_ret rm_reckoned_above rm_reckoned_below n x_reckoned_above x_reckoned_below v2 v3 1 1 q8_0 hr H locs ls hP hD hS (lv_sub hl [3, 5, 6, 2, 1, 0] rfl)
          · have hr := x_iff hr c_6
            exact kX7_sound_32 E0 a_this a_text a_facts a_told a_now a_trial a_past a_kept a_sightings a_plan a_slates a_reckoned a_facts_leans a_facts_all a_facts_lostWith x_undoable x_keptBits x_facts_size x_facts_all n r_ret rm_reckoned_above rm_reckoned_below x_reckoned_above x_reckoned_below hr H locs ls hP hD hS (lv_sub hl [] rfl)
  · have hr := x_ift hr c_2
    refine lv_bipush (v := (-2)) hx hb dX7_sound_11 (by decide) ?_
    have g0 := x_some hr
    have e0 := x_p1 g0
    have g1 := x_p2 g0
    have e1 := x_p1 g1
    have e2 := x_p2 g1
    subst e0
    subst e1
    subst e2
    exact x_reti hx hb hret hlocks hP hD hK hS dX7_sound_13
set_option maxHeartbeats 4000000 in
set_option maxRecDepth 100000 in
theorem mX7_sound (l : Launch) (D : va_G) (c : Nat → ClassId) (a_this : Nat) (a_text : Nat) (a_facts : Nat) (a_told : Nat) (a_now : Nat) (a_trial : Nat) (a_past : Nat) (a_kept : Nat) (a_sightings : Nat) (a_plan : Nat) (a_slates : Nat) (a_reckoned : Nat) (a_facts_leans : Nat) (a_facts_all : Nat) (a_facts_lostWith : Nat) (sz : Nat) (x_undoable : Int32) (x_keptBits : Int32) (x_facts_size : Int32) (x_facts_all : Nat → Int32) (x_reckoned_above : Int64) (x_reckoned_below : Int64) (v1 : Int32) (v2 : Int32) (v3 : Int32) (n : Nat) (r_ret : Int32) (rm_reckoned_above : Int64) (rm_reckoned_below : Int64) (h : fX7_sound n x_facts_size x_facts_all x_reckoned_above x_reckoned_below v1 v2 v3 = some (r_ret, rm_reckoned_above, rm_reckoned_below)) : Met l yX7_sound wsX7_sound ({ frames := 2, cells := 0, slots := 0, locals := 126 } : Room) (xPc D (xT c) sz [.ref a_this, .int v1, .int v2, .int v3] (wX7_sound c a_this a_text a_facts a_told a_now a_trial a_past a_kept a_sightings a_plan a_slates a_reckoned a_facts_leans a_facts_all a_facts_lostWith x_undoable x_keptBits x_facts_size x_facts_all x_reckoned_above x_reckoned_below) (fun _ => True)) (xQi D (xT c) (va_A (wX7_sound c a_this a_text a_facts a_told a_now a_trial a_past a_kept a_sightings a_plan a_slates a_reckoned a_facts_leans a_facts_all a_facts_lostWith x_undoable x_keptBits x_facts_size x_facts_all x_reckoned_above x_reckoned_below) sz) r_ret (wX7_sound c a_this a_text a_facts a_told a_now a_trial a_past a_kept a_sightings a_plan a_slates a_reckoned a_facts_leans a_facts_all a_facts_lostWith x_undoable x_keptBits x_facts_size x_facts_all rm_reckoned_above rm_reckoned_below)) 0 0 (va_A (wX7_sound c a_this a_text a_facts a_told a_now a_trial a_past a_kept a_sightings a_plan a_slates a_reckoned a_facts_leans a_facts_all a_facts_lostWith x_undoable x_keptBits x_facts_size x_facts_all x_reckoned_above x_reckoned_below) sz) := by
  refine Met.ofW (cc := cX7_sound) (maxL := 9) (ret := (some .int)) (by decide) rfl ?_
  intro p e s m args below meth cd s₁ B hml hv
  obtain ⟨rfl, hsz, hP, hK, hD0, hV⟩ := hv
  subst hsz
  have hl := lv_entry [.ref a_this, .int v1, .int v2, .int v3] (n := 9) (Nat.le_of_ble_eq_true rfl)
  rw [lg_entry_eq]
  exact kX7_sound_0 (A := va_A (wX7_sound c a_this a_text a_facts a_told a_now a_trial a_past a_kept a_sightings a_plan a_slates a_reckoned a_facts_leans a_facts_all a_facts_lostWith x_undoable x_keptBits x_facts_size x_facts_all x_reckoned_above x_reckoned_below) s.heap.size) ⟨B.exec, B.bytes, hml, B.returns, findClass_of_methodNamed B.named, atoms_spec (ws := wsX7_sound) B.pre, B.notSynchronized, fun q h => Or.inr h, hK⟩ a_this a_text a_facts a_told a_now a_trial a_past a_kept a_sightings a_plan a_slates a_reckoned a_facts_leans a_facts_all a_facts_lostWith x_undoable x_keptBits x_facts_size x_facts_all n r_ret rm_reckoned_above rm_reckoned_below x_reckoned_above x_reckoned_below v1 v2 v3 h s.heap [] _ hP hD0.self va_S.rf hl

abbrev wX7_seen (c : Nat → ClassId) (a_this : Nat) (a_text : Nat) (a_facts : Nat) (a_told : Nat) (a_now : Nat) (a_trial : Nat) (a_past : Nat) (a_kept : Nat) (a_sightings : Nat) (a_plan : Nat) (a_slates : Nat) (a_reckoned : Nat) (a_now_knows : Nat) (a_now_kind : Nat) (a_now_on : Nat) (a_now_has : Nat) (a_facts_leans : Nat) (a_facts_all : Nat) (a_facts_lostWith : Nat) (a_sightings_member : Nat) (a_sightings_minutes : Nat) (a_sightings_fact : Nat) (a_sightings_knew : Nat) (x_undoable : Int32) (x_keptBits : Int32) (x_now_leeches : Int32) (x_now_basin : Int32) (x_now_minute : Int32) (x_now_members : Int32) (x_facts_size : Int32) (x_sightings_member : Nat → Int32) (x_sightings_minutes : Nat → Int32) (x_sightings_fact : Nat → Int32) (x_sightings_knew : Nat → Int32) (x_sightings_size : Int32) : va_W := [(a_this, .inr (7, [.ref a_text, .ref a_facts, .ref a_told, .ref a_now, .ref a_trial, .ref a_past, .int x_undoable, .ref a_kept, .int x_keptBits, .ref a_sightings, .ref a_plan, .ref a_slates, .ref a_reckoned])), (a_now, .inr (3, [.int x_now_members, .int x_now_leeches, .int x_now_basin, .int x_now_minute, .ref a_now_knows, .ref a_now_kind, .ref a_now_on, .ref a_now_has])), (a_facts, .inr (0, [.int x_facts_size, .ref a_facts_leans, .ref a_facts_all, .ref a_facts_lostWith])), (a_sightings, .inr (4, [.int x_sightings_size, .ref a_sightings_member, .ref a_sightings_minutes, .ref a_sightings_fact, .ref a_sightings_knew])), (a_sightings_member, .inl (c 0, 6, .inl x_sightings_member)), (a_sightings_minutes, .inl (c 0, 6, .inl x_sightings_minutes)), (a_sightings_fact, .inl (c 0, 6, .inl x_sightings_fact)), (a_sightings_knew, .inl (c 0, 6, .inl x_sightings_knew))]
def GX7_seen (p : Program) (l : Launch) (e : Env) (s : State) (m : MethodId) (args : Array Value) (below : List Frame) (meth : Method) (cd : Code) (D : va_G) (c : Nat → ClassId) (A : Nat → Prop) (a_this : Nat) (a_text : Nat) (a_facts : Nat) (a_told : Nat) (a_now : Nat) (a_trial : Nat) (a_past : Nat) (a_kept : Nat) (a_sightings : Nat) (a_plan : Nat) (a_slates : Nat) (a_reckoned : Nat) (a_now_knows : Nat) (a_now_kind : Nat) (a_now_on : Nat) (a_now_has : Nat) (a_facts_leans : Nat) (a_facts_all : Nat) (a_facts_lostWith : Nat) (a_sightings_member : Nat) (a_sightings_minutes : Nat) (a_sightings_fact : Nat) (a_sightings_knew : Nat) (x_undoable : Int32) (x_keptBits : Int32) (x_now_leeches : Int32) (x_now_basin : Int32) (x_now_minute : Int32) (x_now_members : Int32) (x_facts_size : Int32) (r_ret : Int32) (rm_sightings_member : Nat → Int32) (rm_sightings_minutes : Nat → Int32) (rm_sightings_fact : Nat → Int32) (rm_sightings_knew : Nat → Int32) (rm_sightings_size : Int32) (pc : Nat) (st : List Value) (loc : List (Nat × Value)) (x_sightings_member : Nat → Int32) (x_sightings_minutes : Nat → Int32) (x_sightings_fact : Nat → Int32) (x_sightings_knew : Nat → Int32) (x_sightings_size : Int32) : Prop :=
  ∀ (H : Heap) (locs : List Loc) (ls : Array Slot), va_P D vwCl (wX7_seen c a_this a_text a_facts a_told a_now a_trial a_past a_kept a_sightings a_plan a_slates a_reckoned a_now_knows a_now_kind a_now_on a_now_has a_facts_leans a_facts_all a_facts_lostWith a_sightings_member a_sightings_minutes a_sightings_fact a_sightings_knew x_undoable x_keptBits x_now_leeches x_now_basin x_now_minute x_now_members x_facts_size x_sightings_member x_sightings_minutes x_sightings_fact x_sightings_knew x_sightings_size) H → va_D A (wX7_seen c a_this a_text a_facts a_told a_now a_trial a_past a_kept a_sightings a_plan a_slates a_reckoned a_now_knows a_now_kind a_now_on a_now_has a_facts_leans a_facts_all a_facts_lostWith a_sightings_member a_sightings_minutes a_sightings_fact a_sightings_knew x_undoable x_keptBits x_now_leeches x_now_basin x_now_minute x_now_members x_facts_size x_sightings_member x_sightings_minutes x_sightings_fact x_sightings_knew x_sightings_size) → va_S A s.heap H locs → lv_has ls 5 loc → W p l e ({ frames := 1, cells := 0, slots := 0, locals := 24 } : Room) s m args below meth cd H locs 0 0 (MQ below (xQi D (xT c) A r_ret (wX7_seen c a_this a_text a_facts a_told a_now a_trial a_past a_kept a_sightings a_plan a_slates a_reckoned a_now_knows a_now_kind a_now_on a_now_has a_facts_leans a_facts_all a_facts_lostWith a_sightings_member a_sightings_minutes a_sightings_fact a_sightings_knew x_undoable x_keptBits x_now_leeches x_now_basin x_now_minute x_now_members x_facts_size rm_sightings_member rm_sightings_minutes rm_sightings_fact rm_sightings_knew rm_sightings_size)) args s 0 0 A) (F0 m pc ls st)
theorem lkX7_seen_f100 : Cond.fieldLink RX7 100 "LeechClub$Sightings" "size" "I" ∈ wsX7_seen := by decide +kernel
theorem lkX7_seen_f19 : Cond.fieldLink RX7 19 "LeechClub" "facts" "LLeechClub$Facts;" ∈ wsX7_seen := by decide +kernel
theorem lkX7_seen_f30 : Cond.fieldLink RX7 30 "LeechClub" "now" "LLeechClub$Room;" ∈ wsX7_seen := by decide +kernel
theorem lkX7_seen_f46 : Cond.fieldLink RX7 46 "LeechClub" "sightings" "LLeechClub$Sightings;" ∈ wsX7_seen := by decide +kernel
theorem inX7_seen_X7 : ∀ w ∈ wsX70, w ∈ wsX7_seen := by decide +kernel
theorem inX7_seen_X4 : ∀ w ∈ wsX40, w ∈ wsX7_seen := by decide +kernel
set_option maxHeartbeats 4000000 in
set_option maxRecDepth 100000 in
theorem kX7_seen_22 {p : Program} {l : Launch} {e : Env} {s : State} {m : MethodId} {args : Array Value} {below : List Frame} {meth : Method} {cd : Code} {D : va_G} {c : Nat → ClassId} {A : Nat → Prop} (E0 : xE p s m args meth cd D (xT c) A RX7 cX7_seen 5 (some .int) wsX7_seen) (a_this : Nat) (a_text : Nat) (a_facts : Nat) (a_told : Nat) (a_now : Nat) (a_trial : Nat) (a_past : Nat) (a_kept : Nat) (a_sightings : Nat) (a_plan : Nat) (a_slates : Nat) (a_reckoned : Nat) (a_now_knows : Nat) (a_now_kind : Nat) (a_now_on : Nat) (a_now_has : Nat) (a_facts_leans : Nat) (a_facts_all : Nat) (a_facts_lostWith : Nat) (a_sightings_member : Nat) (a_sightings_minutes : Nat) (a_sightings_fact : Nat) (a_sightings_knew : Nat) (x_undoable : Int32) (x_keptBits : Int32) (x_now_leeches : Int32) (x_now_basin : Int32) (x_now_minute : Int32) (x_now_members : Int32) (x_facts_size : Int32) (n : Nat) (r_ret : Int32) (rm_sightings_member : Nat → Int32) (rm_sightings_minutes : Nat → Int32) (rm_sightings_fact : Nat → Int32) (rm_sightings_knew : Nat → Int32) (rm_sightings_size : Int32) (x_sightings_member : Nat → Int32) (x_sightings_minutes : Nat → Int32) (x_sightings_fact : Nat → Int32) (x_sightings_knew : Nat → Int32) (x_sightings_size : Int32) (hr : fX7_seen_22 n x_now_members x_facts_size x_sightings_member x_sightings_minutes x_sightings_fact x_sightings_knew x_sightings_size = some (r_ret, rm_sightings_member, rm_sightings_minutes, rm_sightings_fact, rm_sightings_knew, rm_sightings_size)) : GX7_seen p l e s m args below meth cd D c A a_this a_text a_facts a_told a_now a_trial a_past a_kept a_sightings a_plan a_slates a_reckoned a_now_knows a_now_kind a_now_on a_now_has a_facts_leans a_facts_all a_facts_lostWith a_sightings_member a_sightings_minutes a_sightings_fact a_sightings_knew x_undoable x_keptBits x_now_leeches x_now_basin x_now_minute x_now_members x_facts_size r_ret rm_sightings_member rm_sightings_minutes rm_sightings_fact rm_sightings_knew rm_sightings_size 22 [] [] x_sightings_member x_sightings_minutes x_sightings_fact x_sightings_knew x_sightings_size := by
  have E1 := E0
  obtain ⟨hx, hb, hml, hret, hown, hts, hlocks, hA, hK⟩ := E1
  intro H locs ls hP hD hS hl
  unfold fX7_seen_22 at hr
  refine lv_bipush (v := (-2)) hx hb dX7_seen_22 (by decide) ?_
  have g0 := x_some hr
  have e0 := x_p1 g0
  have g1 := x_p2 g0
  have e1 := x_p1 g1
  have g2 := x_p2 g1
  have e2 := x_p1 g2
  have g3 := x_p2 g2
  have e3 := x_p1 g3
  have g4 := x_p2 g3
  have e4 := x_p1 g4
  have e5 := x_p2 g4
  subst e0
  subst e1
  subst e2
  subst e3
  subst e4
  subst e5
  exact x_reti hx hb hret hlocks hP hD hK hS dX7_seen_24
set_option maxHeartbeats 4000000 in
set_option maxRecDepth 100000 in
theorem kX7_seen_47 {p : Program} {l : Launch} {e : Env} {s : State} {m : MethodId} {args : Array Value} {below : List Frame} {meth : Method} {cd : Code} {D : va_G} {c : Nat → ClassId} {A : Nat → Prop} (E0 : xE p s m args meth cd D (xT c) A RX7 cX7_seen 5 (some .int) wsX7_seen) (a_this : Nat) (a_text : Nat) (a_facts : Nat) (a_told : Nat) (a_now : Nat) (a_trial : Nat) (a_past : Nat) (a_kept : Nat) (a_sightings : Nat) (a_plan : Nat) (a_slates : Nat) (a_reckoned : Nat) (a_now_knows : Nat) (a_now_kind : Nat) (a_now_on : Nat) (a_now_has : Nat) (a_facts_leans : Nat) (a_facts_all : Nat) (a_facts_lostWith : Nat) (a_sightings_member : Nat) (a_sightings_minutes : Nat) (a_sightings_fact : Nat) (a_sightings_knew : Nat) (x_undoable : Int32) (x_keptBits : Int32) (x_now_leeches : Int32) (x_now_basin : Int32) (x_now_minute : Int32) (x_now_members : Int32) (x_facts_size : Int32) (n : Nat) (r_ret : Int32) (rm_sightings_member : Nat → Int32) (rm_sightings_minutes : Nat → Int32) (rm_sightings_fact : Nat → Int32) (rm_sightings_knew : Nat → Int32) (rm_sightings_size : Int32) (x_sightings_member : Nat → Int32) (x_sightings_minutes : Nat → Int32) (x_sightings_fact : Nat → Int32) (x_sightings_knew : Nat → Int32) (x_sightings_size : Int32) (hr : fX7_seen_47 n x_now_members x_facts_size x_sightings_member x_sightings_minutes x_sightings_fact x_sightings_knew x_sightings_size = some (r_ret, rm_sightings_member, rm_sightings_minutes, rm_sightings_fact, rm_sightings_knew, rm_sightings_size)) : GX7_seen p l e s m args below meth cd D c A a_this a_text a_facts a_told a_now a_trial a_past a_kept a_sightings a_plan a_slates a_reckoned a_now_knows a_now_kind a_now_on a_now_has a_facts_leans a_facts_all a_facts_lostWith a_sightings_member a_sightings_minutes a_sightings_fact a_sightings_knew x_undoable x_keptBits x_now_leeches x_now_basin x_now_minute x_now_members x_facts_size r_ret rm_sightings_member rm_sightings_minutes rm_sightings_fact rm_sightings_knew rm_sightings_size 47 [] [] x_sightings_member x_sightings_minutes x_sightings_fact x_sightings_knew x_sightings_size := by
  have E1 := E0
  obtain ⟨hx, hb, hml, hret, hown, hts, hlocks, hA, hK⟩ := E1
  intro H locs ls hP hD hS hl
  unfold fX7_seen_47 at hr
  refine lv_bipush (v := (-3)) hx hb dX7_seen_47 (by decide) ?_
  have g0 := x_some hr
  have e0 := x_p1 g0
  have g1 := x_p2 g0
  have e1 := x_p1 g1
  have g2 := x_p2 g1
  have e2 := x_p1 g2
  have g3 := x_p2 g2
  have e3 := x_p1 g3
  have g4 := x_p2 g3
  have e4 := x_p1 g4
  have e5 := x_p2 g4
  subst e0
  subst e1
  subst e2
  subst e3
  subst e4
  subst e5
  exact x_reti hx hb hret hlocks hP hD hK hS dX7_seen_49
set_option maxHeartbeats 4000000 in
set_option maxRecDepth 100000 in
theorem kX7_seen_0 {p : Program} {l : Launch} {e : Env} {s : State} {m : MethodId} {args : Array Value} {below : List Frame} {meth : Method} {cd : Code} {D : va_G} {c : Nat → ClassId} {A : Nat → Prop} (E0 : xE p s m args meth cd D (xT c) A RX7 cX7_seen 5 (some .int) wsX7_seen) (a_this : Nat) (a_text : Nat) (a_facts : Nat) (a_told : Nat) (a_now : Nat) (a_trial : Nat) (a_past : Nat) (a_kept : Nat) (a_sightings : Nat) (a_plan : Nat) (a_slates : Nat) (a_reckoned : Nat) (a_now_knows : Nat) (a_now_kind : Nat) (a_now_on : Nat) (a_now_has : Nat) (a_facts_leans : Nat) (a_facts_all : Nat) (a_facts_lostWith : Nat) (a_sightings_member : Nat) (a_sightings_minutes : Nat) (a_sightings_fact : Nat) (a_sightings_knew : Nat) (x_undoable : Int32) (x_keptBits : Int32) (x_now_leeches : Int32) (x_now_basin : Int32) (x_now_minute : Int32) (x_now_members : Int32) (x_facts_size : Int32) (n : Nat) (r_ret : Int32) (rm_sightings_member : Nat → Int32) (rm_sightings_minutes : Nat → Int32) (rm_sightings_fact : Nat → Int32) (rm_sightings_knew : Nat → Int32) (rm_sightings_size : Int32) (x_sightings_member : Nat → Int32) (x_sightings_minutes : Nat → Int32) (x_sightings_fact : Nat → Int32) (x_sightings_knew : Nat → Int32) (x_sightings_size : Int32) (v1 : Int32) (v2 : Int32) (v3 : Int32) (v4 : Int32) (hr : fX7_seen n x_now_members x_facts_size x_sightings_member x_sightings_minutes x_sightings_fact x_sightings_knew x_sightings_size v1 v2 v3 v4 = some (r_ret, rm_sightings_member, rm_sightings_minutes, rm_sightings_fact, rm_sightings_knew, rm_sightings_size)) : GX7_seen p l e s m args below meth cd D c A a_this a_text a_facts a_told a_now a_trial a_past a_kept a_sightings a_plan a_slates a_reckoned a_now_knows a_now_kind a_now_on a_now_has a_facts_leans a_facts_all a_facts_lostWith a_sightings_member a_sightings_minutes a_sightings_fact a_sightings_knew x_undoable x_keptBits x_now_leeches x_now_basin x_now_minute x_now_members x_facts_size r_ret rm_sightings_member rm_sightings_minutes rm_sightings_fact rm_sightings_knew rm_sightings_size 0 [] [(0, .ref a_this), (1, .int v1), (2, .int v2), (3, .int v3), (4, .int v4)] x_sightings_member x_sightings_minutes x_sightings_fact x_sightings_knew x_sightings_size := by
  have E1 := E0
  obtain ⟨hx, hb, hml, hret, hown, hts, hlocks, hA, hK⟩ := E1
  intro H locs ls hP hD hS hl
  unfold fX7_seen at hr
  refine lv_aload_n hx hb dX7_seen_0 rfl (lv_at hl 0 rfl) ?_
  refine va_get (D := D) (ci := 7) (v := .ref a_now) (C := RX7) (T := TX7) (N := 13) hx hb hts inX7_seen_X7 hown hK hP 0 rfl rfl 3 (by decide) (hts _ lkX7_seen_f30) (fun _ h9 => h9) rfl dX7_seen_1 ?_
  refine lv_iload_n hx hb dX7_seen_4 rfl (lv_at hl 1 rfl) ?_
  obtain ⟨q1_0, hc1, hr⟩ := x_bind hr
  refine x_runi (wr := [(a_this, .inr (7, [.ref a_text, .ref a_facts, .ref a_told, .ref a_now, .ref a_trial, .ref a_past, .int x_undoable, .ref a_kept, .int x_keptBits, .ref a_sightings, .ref a_plan, .ref a_slates, .ref a_reckoned])), (a_facts, .inr (0, [.int x_facts_size, .ref a_facts_leans, .ref a_facts_all, .ref a_facts_lostWith])), (a_sightings, .inr (4, [.int x_sightings_size, .ref a_sightings_member, .ref a_sightings_minutes, .ref a_sightings_fact, .ref a_sightings_knew])), (a_sightings_member, .inl (c 0, 6, .inl x_sightings_member)), (a_sightings_minutes, .inl (c 0, 6, .inl x_sightings_minutes)), (a_sightings_fact, .inl (c 0, 6, .inl x_sightings_fact)), (a_sightings_knew, .inl (c 0, 6, .inl x_sightings_knew))]) (wf := [(a_this, .inr (7, [.ref a_text, .ref a_facts, .ref a_told, .ref a_now, .ref a_trial, .ref a_past, .int x_undoable, .ref a_kept, .int x_keptBits, .ref a_sightings, .ref a_plan, .ref a_slates, .ref a_reckoned])), (a_now, .inr (3, [.int x_now_members, .int x_now_leeches, .int x_now_basin, .int x_now_minute, .ref a_now_knows, .ref a_now_kind, .ref a_now_on, .ref a_now_has])), (a_facts, .inr (0, [.int x_facts_size, .ref a_facts_leans, .ref a_facts_all, .ref a_facts_lostWith])), (a_sightings, .inr (4, [.int x_sightings_size, .ref a_sightings_member, .ref a_sightings_minutes, .ref a_sightings_fact, .ref a_sightings_knew])), (a_sightings_member, .inl (c 0, 6, .inl x_sightings_member)), (a_sightings_minutes, .inl (c 0, 6, .inl x_sightings_minutes)), (a_sightings_fact, .inl (c 0, 6, .inl x_sightings_fact)), (a_sightings_knew, .inl (c 0, 6, .inl x_sightings_knew))]) (x_goV (As := [.int v1]) (rest := []) ⟨hx, hb, hml, hown, hts⟩ (mX3_hasMember l D c a_now a_now_knows a_now_kind a_now_on a_now_has H.size x_now_leeches x_now_basin x_now_minute x_now_members v1 n _ hc1) (cwV 1 hts gX7_seen_X3_hasMember rfl rfl rfl (by decide +kernel) ⟨Nat.le_of_ble_eq_true rfl, Nat.le_of_ble_eq_true rfl⟩) xB_t hP hD hK [1] rfl (by decide) (fun _ _ _ => trivial) 1 3 rfl rfl rfl rfl hl.1 rfl (Nat.le_of_ble_eq_true rfl) dX7_seen_5) hP hD hS hA [1] [0, 2, 3, 4, 5, 6, 7] [0, 7, 1, 2, 3, 4, 5, 6] rfl rfl rfl ⟨by decide, by decide, by decide⟩ (fun H locs hP hD hS => ?_)
  refine lv_if_eq (tgt := 22) hx hb dX7_seen_8 (by decide) (fun c_2 => ?_) (fun c_2 => ?_)
  · have hr := x_ift hr c_2
    exact kX7_seen_22 E0 a_this a_text a_facts a_told a_now a_trial a_past a_kept a_sightings a_plan a_slates a_reckoned a_now_knows a_now_kind a_now_on a_now_has a_facts_leans a_facts_all a_facts_lostWith a_sightings_member a_sightings_minutes a_sightings_fact a_sightings_knew x_undoable x_keptBits x_now_leeches x_now_basin x_now_minute x_now_members x_facts_size n r_ret rm_sightings_member rm_sightings_minutes rm_sightings_fact rm_sightings_knew rm_sightings_size x_sightings_member x_sightings_minutes x_sightings_fact x_sightings_knew x_sightings_size hr H locs ls hP hD hS (lv_sub hl [] rfl)
  · have hr := x_iff hr c_2
    refine lv_aload_n hx hb dX7_seen_11 rfl (lv_at hl 0 rfl) ?_
    refine va_get (D := D) (ci := 7) (v := .ref a_facts) (C := RX7) (T := TX7) (N := 13) hx hb hts inX7_seen_X7 hown hK hP 0 rfl rfl 1 (by decide) (hts _ lkX7_seen_f19) (fun _ h9 => h9) rfl dX7_seen_12 ?_
    refine lv_iload_n hx hb dX7_seen_15 rfl (lv_at hl 3 rfl) ?_
    obtain ⟨q3_0, hc3, hr⟩ := x_bind hr
    refine x_runi (wr := [(a_this, .inr (7, [.ref a_text, .ref a_facts, .ref a_told, .ref a_now, .ref a_trial, .ref a_past, .int x_undoable, .ref a_kept, .int x_keptBits, .ref a_sightings, .ref a_plan, .ref a_slates, .ref a_reckoned])), (a_now, .inr (3, [.int x_now_members, .int x_now_leeches, .int x_now_basin, .int x_now_minute, .ref a_now_knows, .ref a_now_kind, .ref a_now_on, .ref a_now_has])), (a_sightings, .inr (4, [.int x_sightings_size, .ref a_sightings_member, .ref a_sightings_minutes, .ref a_sightings_fact, .ref a_sightings_knew])), (a_sightings_member, .inl (c 0, 6, .inl x_sightings_member)), (a_sightings_minutes, .inl (c 0, 6, .inl x_sightings_minutes)), (a_sightings_fact, .inl (c 0, 6, .inl x_sightings_fact)), (a_sightings_knew, .inl (c 0, 6, .inl x_sightings_knew))]) (wf := [(a_this, .inr (7, [.ref a_text, .ref a_facts, .ref a_told, .ref a_now, .ref a_trial, .ref a_past, .int x_undoable, .ref a_kept, .int x_keptBits, .ref a_sightings, .ref a_plan, .ref a_slates, .ref a_reckoned])), (a_now, .inr (3, [.int x_now_members, .int x_now_leeches, .int x_now_basin, .int x_now_minute, .ref a_now_knows, .ref a_now_kind, .ref a_now_on, .ref a_now_has])), (a_facts, .inr (0, [.int x_facts_size, .ref a_facts_leans, .ref a_facts_all, .ref a_facts_lostWith])), (a_sightings, .inr (4, [.int x_sightings_size, .ref a_sightings_member, .ref a_sightings_minutes, .ref a_sightings_fact, .ref a_sightings_knew])), (a_sightings_member, .inl (c 0, 6, .inl x_sightings_member)), (a_sightings_minutes, .inl (c 0, 6, .inl x_sightings_minutes)), (a_sightings_fact, .inl (c 0, 6, .inl x_sightings_fact)), (a_sightings_knew, .inl (c 0, 6, .inl x_sightings_knew))]) (x_goV (As := [.int v3]) (rest := []) ⟨hx, hb, hml, hown, hts⟩ (mX0_hasFact l D c a_facts a_facts_leans a_facts_all a_facts_lostWith H.size x_facts_size v3 n _ hc3) (cwV 1 hts gX7_seen_X0_hasFact rfl rfl rfl (by decide +kernel) ⟨Nat.le_of_ble_eq_true rfl, Nat.le_of_ble_eq_true rfl⟩) xB_t hP hD hK [2] rfl (by decide) (fun _ _ _ => trivial) 2 0 rfl rfl rfl rfl hl.1 rfl (Nat.le_of_ble_eq_true rfl) dX7_seen_16) hP hD hS hA [2] [0, 1, 3, 4, 5, 6, 7] [0, 1, 7, 2, 3, 4, 5, 6] rfl rfl rfl ⟨by decide, by decide, by decide⟩ (fun H locs hP hD hS => ?_)
    refine lv_if_ne (tgt := 25) hx hb dX7_seen_19 (by decide) (fun c_4 => ?_) (fun c_4 => ?_)
    · have hr := x_iff hr c_4
      refine lv_iload_n hx hb dX7_seen_25 rfl (lv_at hl 2 rfl) ?_
      refine lv_iconst (v := 1) hx hb dX7_seen_26 (by decide) ?_
      refine lv_icmp_lt (tgt := 47) hx hb dX7_seen_27 (by decide) (fun c_5 => ?_) (fun c_5 => ?_)
      · have hr := x_ift hr c_5
        exact kX7_seen_47 E0 a_this a_text a_facts a_told a_now a_trial a_past a_kept a_sightings a_plan a_slates a_reckoned a_now_knows a_now_kind a_now_on a_now_has a_facts_leans a_facts_all a_facts_lostWith a_sightings_member a_sightings_minutes a_sightings_fact a_sightings_knew x_undoable x_keptBits x_now_leeches x_now_basin x_now_minute x_now_members x_facts_size n r_ret rm_sightings_member rm_sightings_minutes rm_sightings_fact rm_sightings_knew rm_sightings_size x_sightings_member x_sightings_minutes x_sightings_fact x_sightings_knew x_sightings_size hr H locs ls hP hD hS (lv_sub hl [] rfl)
      · have hr := x_iff hr c_5
        refine lv_iload_n hx hb dX7_seen_30 rfl (lv_at hl 2 rfl) ?_
        refine lv_bipush (v := 6) hx hb dX7_seen_31 (by decide) ?_
        refine lv_icmp_gt (tgt := 47) hx hb dX7_seen_33 (by decide) (fun c_6 => ?_) (fun c_6 => ?_)
        · have hr := x_ift hr c_6
          exact kX7_seen_47 E0 a_this a_text a_facts a_told a_now a_trial a_past a_kept a_sightings a_plan a_slates a_reckoned a_now_knows a_now_kind a_now_on a_now_has a_facts_leans a_facts_all a_facts_lostWith a_sightings_member a_sightings_minutes a_sightings_fact a_sightings_knew x_undoable x_keptBits x_now_leeches x_now_basin x_now_minute x_now_members x_facts_size n r_ret rm_sightings_member rm_sightings_minutes rm_sightings_fact rm_sightings_knew rm_sightings_size x_sightings_member x_sightings_minutes x_sightings_fact x_sightings_knew x_sightings_size hr H locs ls hP hD hS (lv_sub hl [] rfl)
        · have hr := x_iff hr c_6
          refine lv_iload hx hb dX7_seen_36 (lv_at hl 4 rfl) ?_
          refine lv_if_lt (tgt := 47) hx hb dX7_seen_38 (by decide) (fun c_7 => ?_) (fun c_7 => ?_)
          · have hr := x_ift hr c_7
            exact kX7_seen_47 E0 a_this a_text a_facts a_told a_now a_trial a_past a_kept a_sightings a_plan a_slates a_reckoned a_now_knows a_now_kind a_now_on a_now_has a_facts_leans a_facts_all a_facts_lostWith a_sightings_member a_sightings_minutes a_sightings_fact a_sightings_knew x_undoable x_keptBits x_now_leeches x_now_basin x_now_minute x_now_members x_facts_size n r_ret rm_sightings_member rm_sightings_minutes rm_sightings_fact rm_sightings_knew rm_sightings_size x_sightings_member x_sightings_minutes x_sightings_fact x_sightings_knew x_sightings_size hr H locs ls hP hD hS (lv_sub hl [] rfl)
          · have hr := x_iff hr c_7
            refine lv_iload hx hb dX7_seen_41 (lv_at hl 4 rfl) ?_
            refine lv_iconst (v := 1) hx hb dX7_seen_43 (by decide) ?_
            refine lv_icmp_le (tgt := 50) hx hb dX7_seen_44 (by decide) (fun c_8 => ?_) (fun c_8 => ?_)
            · have hr := x_ift hr c_8
              refine lv_aload_n hx hb dX7_seen_50 rfl (lv_at hl 0 rfl) ?_
              refine va_get (D := D) (ci := 7) (v := .ref a_sightings) (C := RX7) (T := TX7) (N := 13) hx hb hts inX7_seen_X7 hown hK hP 0 rfl rfl 9 (by decide) (hts _ lkX7_seen_f46) (fun _ h9 => h9) rfl dX7_seen_51 ?_
              refine va_get (D := D) (ci := 4) (v := .int x_sightings_size) (C := RX4) (T := TX4) (N := 5) hx hb hts inX7_seen_X4 hown hK hP 3 rfl rfl 0 (by decide) (hts _ lkX7_seen_f100) (fun _ h9 => h9) rfl dX7_seen_54 ?_
              refine lv_bipush (v := 6) hx hb dX7_seen_57 (by decide) ?_
              refine lv_icmp_lt (tgt := 65) hx hb dX7_seen_59 (by decide) (fun c_9 => ?_) (fun c_9 => ?_)
              · have hr := x_ift hr c_9
                refine lv_aload_n hx hb dX7_seen_65 rfl (lv_at hl 0 rfl) ?_
                refine va_get (D := D) (ci := 7) (v := .ref a_sightings) (C := RX7) (T := TX7) (N := 13) hx hb hts inX7_seen_X7 hown hK hP 0 rfl rfl 9 (by decide) (hts _ lkX7_seen_f46) (fun _ h9 => h9) rfl dX7_seen_66 ?_
                refine lv_iload_n hx hb dX7_seen_69 rfl (lv_at hl 1 rfl) ?_
                refine lv_iload_n hx hb dX7_seen_70 rfl (lv_at hl 2 rfl) ?_
                refine lv_iload_n hx hb dX7_seen_71 rfl (lv_at hl 3 rfl) ?_
                refine lv_iload hx hb dX7_seen_72 (lv_at hl 4 rfl) ?_
                obtain ⟨⟨q10_0, q10_1, q10_2, q10_3, q10_4⟩, hc10, hr⟩ := x_bind hr
                try dsimp only at hr
                refine x_runv (wr := [(a_this, .inr (7, [.ref a_text, .ref a_facts, .ref a_told, .ref a_now, .ref a_trial, .ref a_past, .int x_undoable, .ref a_kept, .int x_keptBits, .ref a_sightings, .ref a_plan, .ref a_slates, .ref a_reckoned])), (a_now, .inr (3, [.int x_now_members, .int x_now_leeches, .int x_now_basin, .int x_now_minute, .ref a_now_knows, .ref a_now_kind, .ref a_now_on, .ref a_now_has])), (a_facts, .inr (0, [.int x_facts_size, .ref a_facts_leans, .ref a_facts_all, .ref a_facts_lostWith]))]) (wf := [(a_this, .inr (7, [.ref a_text, .ref a_facts, .ref a_told, .ref a_now, .ref a_trial, .ref a_past, .int x_undoable, .ref a_kept, .int x_keptBits, .ref a_sightings, .ref a_plan, .ref a_slates, .ref a_reckoned])), (a_now, .inr (3, [.int x_now_members, .int x_now_leeches, .int x_now_basin, .int x_now_minute, .ref a_now_knows, .ref a_now_kind, .ref a_now_on, .ref a_now_has])), (a_facts, .inr (0, [.int x_facts_size, .ref a_facts_leans, .ref a_facts_all, .ref a_facts_lostWith])), (a_sightings, .inr (4, [.int q10_4, .ref a_sightings_member, .ref a_sightings_minutes, .ref a_sightings_fact, .ref a_sightings_knew])), (a_sightings_member, .inl (c 0, 6, .inl q10_0)), (a_sightings_minutes, .inl (c 0, 6, .inl q10_1)), (a_sightings_fact, .inl (c 0, 6, .inl q10_2)), (a_sightings_knew, .inl (c 0, 6, .inl q10_3))]) (x_goV (As := [.int v1, .int v2, .int v3, .int v4]) (rest := []) ⟨hx, hb, hml, hown, hts⟩ (mX4_add l D c a_sightings a_sightings_member a_sightings_minutes a_sightings_fact a_sightings_knew H.size x_sightings_member x_sightings_minutes x_sightings_fact x_sightings_knew x_sightings_size v1 v2 v3 v4 n _ _ _ _ _ hc10) (cwV 4 hts gX7_seen_X4_add rfl rfl rfl (by decide +kernel) ⟨Nat.le_of_ble_eq_true rfl, Nat.le_of_ble_eq_true rfl⟩) xB_t hP hD hK [3, 4, 5, 6, 7] rfl (by decide) (fun _ _ _ => trivial) 3 4 rfl rfl rfl rfl hl.1 rfl (Nat.le_of_ble_eq_true rfl) dX7_seen_74) hP hD hS hA [3, 4, 5, 6, 7] [0, 1, 2] [0, 1, 2, 3, 4, 5, 6, 7] rfl rfl rfl ⟨by decide, by decide, by decide⟩ (fun H locs hP hD hS => ?_)
                refine lv_aload_n hx hb dX7_seen_77 rfl (lv_at hl 0 rfl) ?_
                refine va_get (D := D) (ci := 7) (v := .ref a_sightings) (C := RX7) (T := TX7) (N := 13) hx hb hts inX7_seen_X7 hown hK hP 0 rfl rfl 9 (by decide) (hts _ lkX7_seen_f46) (fun _ h9 => h9) rfl dX7_seen_78 ?_
                refine va_get (D := D) (ci := 4) (v := .int q10_4) (C := RX4) (T := TX4) (N := 5) hx hb hts inX7_seen_X4 hown hK hP 3 rfl rfl 0 (by decide) (hts _ lkX7_seen_f100) (fun _ h9 => h9) rfl dX7_seen_81 ?_
                have g0 := x_some hr
                have e0 := x_p1 g0
                have g1 := x_p2 g0
                have e1 := x_p1 g1
                have g2 := x_p2 g1
                have e2 := x_p1 g2
                have g3 := x_p2 g2
                have e3 := x_p1 g3
                have g4 := x_p2 g3
                have e4 := x_p1 g4
                have e5 := x_p2 g4
                subst e0
                subst e1
                subst e2
                subst e3
                subst e4
                subst e5
                exact x_reti hx hb hret hlocks hP hD hK hS dX7_seen_84
              · have hr := x_iff hr c_9
                refine lv_bipush (v := (-5)) hx hb dX7_seen_62 (by decide) ?_
                have g0 := x_some hr
                have e0 := x_p1 g0
                have g1 := x_p2 g0
                have e1 := x_p1 g1
                have g2 := x_p2 g1
                have e2 := x_p1 g2
                have g3 := x_p2 g2
                have e3 := x_p1 g3
                have g4 := x_p2 g3
                have e4 := x_p1 g4
                have e5 := x_p2 g4
                subst e0
                subst e1
                subst e2
                subst e3
                subst e4
                subst e5
                exact x_reti hx hb hret hlocks hP hD hK hS dX7_seen_64
            · have hr := x_iff hr c_8
              exact kX7_seen_47 E0 a_this a_text a_facts a_told a_now a_trial a_past a_kept a_sightings a_plan a_slates a_reckoned a_now_knows a_now_kind a_now_on a_now_has a_facts_leans a_facts_all a_facts_lostWith a_sightings_member a_sightings_minutes a_sightings_fact a_sightings_knew x_undoable x_keptBits x_now_leeches x_now_basin x_now_minute x_now_members x_facts_size n r_ret rm_sightings_member rm_sightings_minutes rm_sightings_fact rm_sightings_knew rm_sightings_size x_sightings_member x_sightings_minutes x_sightings_fact x_sightings_knew x_sightings_size hr H locs ls hP hD hS (lv_sub hl [] rfl)
    · have hr := x_ift hr c_4
      exact kX7_seen_22 E0 a_this a_text a_facts a_told a_now a_trial a_past a_kept a_sightings a_plan a_slates a_reckoned a_now_knows a_now_kind a_now_on a_now_has a_facts_leans a_facts_all a_facts_lostWith a_sightings_member a_sightings_minutes a_sightings_fact a_sightings_knew x_undoable x_keptBits x_now_leeches x_now_basin x_now_minute x_now_members x_facts_size n r_ret rm_sightings_member rm_sightings_minutes rm_sightings_fact rm_sightings_knew rm_sightings_size x_sightings_member x_sightings_minutes x_sightings_fact x_sightings_knew x_sightings_size hr H locs ls hP hD hS (lv_sub hl [] rfl)
set_option maxHeartbeats 4000000 in
set_option maxRecDepth 100000 in
theorem mX7_seen (l : Launch) (D : va_G) (c : Nat → ClassId) (a_this : Nat) (a_text : Nat) (a_facts : Nat) (a_told : Nat) (a_now : Nat) (a_trial : Nat) (a_past : Nat) (a_kept : Nat) (a_sightings : Nat) (a_plan : Nat) (a_slates : Nat) (a_reckoned : Nat) (a_now_knows : Nat) (a_now_kind : Nat) (a_now_on : Nat) (a_now_has : Nat) (a_facts_leans : Nat) (a_facts_all : Nat) (a_facts_lostWith : Nat) (a_sightings_member : Nat) (a_sightings_minutes : Nat) (a_sightings_fact : Nat) (a_sightings_knew : Nat) (sz : Nat) (x_undoable : Int32) (x_keptBits : Int32) (x_now_leeches : Int32) (x_now_basin : Int32) (x_now_minute : Int32) (x_now_members : Int32) (x_facts_size : Int32) (x_sightings_member : Nat → Int32) (x_sightings_minutes : Nat → Int32) (x_sightings_fact : Nat → Int32) (x_sightings_knew : Nat → Int32) (x_sightings_size : Int32) (v1 : Int32) (v2 : Int32) (v3 : Int32) (v4 : Int32) (n : Nat) (r_ret : Int32) (rm_sightings_member : Nat → Int32) (rm_sightings_minutes : Nat → Int32) (rm_sightings_fact : Nat → Int32) (rm_sightings_knew : Nat → Int32) (rm_sightings_size : Int32) (h : fX7_seen n x_now_members x_facts_size x_sightings_member x_sightings_minutes x_sightings_fact x_sightings_knew x_sightings_size v1 v2 v3 v4 = some (r_ret, rm_sightings_member, rm_sightings_minutes, rm_sightings_fact, rm_sightings_knew, rm_sightings_size)) : Met l yX7_seen wsX7_seen ({ frames := 1, cells := 0, slots := 0, locals := 24 } : Room) (xPc D (xT c) sz [.ref a_this, .int v1, .int v2, .int v3, .int v4] (wX7_seen c a_this a_text a_facts a_told a_now a_trial a_past a_kept a_sightings a_plan a_slates a_reckoned a_now_knows a_now_kind a_now_on a_now_has a_facts_leans a_facts_all a_facts_lostWith a_sightings_member a_sightings_minutes a_sightings_fact a_sightings_knew x_undoable x_keptBits x_now_leeches x_now_basin x_now_minute x_now_members x_facts_size x_sightings_member x_sightings_minutes x_sightings_fact x_sightings_knew x_sightings_size) (fun _ => True)) (xQi D (xT c) (va_A (wX7_seen c a_this a_text a_facts a_told a_now a_trial a_past a_kept a_sightings a_plan a_slates a_reckoned a_now_knows a_now_kind a_now_on a_now_has a_facts_leans a_facts_all a_facts_lostWith a_sightings_member a_sightings_minutes a_sightings_fact a_sightings_knew x_undoable x_keptBits x_now_leeches x_now_basin x_now_minute x_now_members x_facts_size x_sightings_member x_sightings_minutes x_sightings_fact x_sightings_knew x_sightings_size) sz) r_ret (wX7_seen c a_this a_text a_facts a_told a_now a_trial a_past a_kept a_sightings a_plan a_slates a_reckoned a_now_knows a_now_kind a_now_on a_now_has a_facts_leans a_facts_all a_facts_lostWith a_sightings_member a_sightings_minutes a_sightings_fact a_sightings_knew x_undoable x_keptBits x_now_leeches x_now_basin x_now_minute x_now_members x_facts_size rm_sightings_member rm_sightings_minutes rm_sightings_fact rm_sightings_knew rm_sightings_size)) 0 0 (va_A (wX7_seen c a_this a_text a_facts a_told a_now a_trial a_past a_kept a_sightings a_plan a_slates a_reckoned a_now_knows a_now_kind a_now_on a_now_has a_facts_leans a_facts_all a_facts_lostWith a_sightings_member a_sightings_minutes a_sightings_fact a_sightings_knew x_undoable x_keptBits x_now_leeches x_now_basin x_now_minute x_now_members x_facts_size x_sightings_member x_sightings_minutes x_sightings_fact x_sightings_knew x_sightings_size) sz) := by
  refine Met.ofW (cc := cX7_seen) (maxL := 5) (ret := (some .int)) (by decide) rfl ?_
  intro p e s m args below meth cd s₁ B hml hv
  obtain ⟨rfl, hsz, hP, hK, hD0, hV⟩ := hv
  subst hsz
  have hl := lv_entry [.ref a_this, .int v1, .int v2, .int v3, .int v4] (n := 5) (Nat.le_of_ble_eq_true rfl)
  rw [lg_entry_eq]
  exact kX7_seen_0 (A := va_A (wX7_seen c a_this a_text a_facts a_told a_now a_trial a_past a_kept a_sightings a_plan a_slates a_reckoned a_now_knows a_now_kind a_now_on a_now_has a_facts_leans a_facts_all a_facts_lostWith a_sightings_member a_sightings_minutes a_sightings_fact a_sightings_knew x_undoable x_keptBits x_now_leeches x_now_basin x_now_minute x_now_members x_facts_size x_sightings_member x_sightings_minutes x_sightings_fact x_sightings_knew x_sightings_size) s.heap.size) ⟨B.exec, B.bytes, hml, B.returns, findClass_of_methodNamed B.named, atoms_spec (ws := wsX7_seen) B.pre, B.notSynchronized, fun q h => Or.inr h, hK⟩ a_this a_text a_facts a_told a_now a_trial a_past a_kept a_sightings a_plan a_slates a_reckoned a_now_knows a_now_kind a_now_on a_now_has a_facts_leans a_facts_all a_facts_lostWith a_sightings_member a_sightings_minutes a_sightings_fact a_sightings_knew x_undoable x_keptBits x_now_leeches x_now_basin x_now_minute x_now_members x_facts_size n r_ret rm_sightings_member rm_sightings_minutes rm_sightings_fact rm_sightings_knew rm_sightings_size x_sightings_member x_sightings_minutes x_sightings_fact x_sightings_knew x_sightings_size v1 v2 v3 v4 h s.heap [] _ hP hD0.self va_S.rf hl

abbrev wX7_forget (c : Nat → ClassId) (a_this : Nat) (a_text : Nat) (a_facts : Nat) (a_told : Nat) (a_now : Nat) (a_trial : Nat) (a_past : Nat) (a_kept : Nat) (a_sightings : Nat) (a_plan : Nat) (a_slates : Nat) (a_reckoned : Nat) (a_sightings_member : Nat) (a_sightings_minutes : Nat) (a_sightings_fact : Nat) (a_sightings_knew : Nat) (x_undoable : Int32) (x_keptBits : Int32) (x_sightings_size : Int32) : va_W := [(a_this, .inr (7, [.ref a_text, .ref a_facts, .ref a_told, .ref a_now, .ref a_trial, .ref a_past, .int x_undoable, .ref a_kept, .int x_keptBits, .ref a_sightings, .ref a_plan, .ref a_slates, .ref a_reckoned])), (a_sightings, .inr (4, [.int x_sightings_size, .ref a_sightings_member, .ref a_sightings_minutes, .ref a_sightings_fact, .ref a_sightings_knew]))]
def GX7_forget (p : Program) (l : Launch) (e : Env) (s : State) (m : MethodId) (args : Array Value) (below : List Frame) (meth : Method) (cd : Code) (D : va_G) (c : Nat → ClassId) (A : Nat → Prop) (a_this : Nat) (a_text : Nat) (a_facts : Nat) (a_told : Nat) (a_now : Nat) (a_trial : Nat) (a_past : Nat) (a_kept : Nat) (a_sightings : Nat) (a_plan : Nat) (a_slates : Nat) (a_reckoned : Nat) (a_sightings_member : Nat) (a_sightings_minutes : Nat) (a_sightings_fact : Nat) (a_sightings_knew : Nat) (x_undoable : Int32) (x_keptBits : Int32) (r_ret : Int32) (rm_sightings_size : Int32) (pc : Nat) (st : List Value) (loc : List (Nat × Value)) (x_sightings_size : Int32) : Prop :=
  ∀ (H : Heap) (locs : List Loc) (ls : Array Slot), va_P D vwCl (wX7_forget c a_this a_text a_facts a_told a_now a_trial a_past a_kept a_sightings a_plan a_slates a_reckoned a_sightings_member a_sightings_minutes a_sightings_fact a_sightings_knew x_undoable x_keptBits x_sightings_size) H → va_D A (wX7_forget c a_this a_text a_facts a_told a_now a_trial a_past a_kept a_sightings a_plan a_slates a_reckoned a_sightings_member a_sightings_minutes a_sightings_fact a_sightings_knew x_undoable x_keptBits x_sightings_size) → va_S A s.heap H locs → lv_has ls 2 loc → W p l e ({ frames := 0, cells := 0, slots := 0, locals := 0 } : Room) s m args below meth cd H locs 0 0 (MQ below (xQi D (xT c) A r_ret (wX7_forget c a_this a_text a_facts a_told a_now a_trial a_past a_kept a_sightings a_plan a_slates a_reckoned a_sightings_member a_sightings_minutes a_sightings_fact a_sightings_knew x_undoable x_keptBits rm_sightings_size)) args s 0 0 A) (F0 m pc ls st)
theorem lkX7_forget_f100 : Cond.fieldLink RX7 100 "LeechClub$Sightings" "size" "I" ∈ wsX7_forget := by decide +kernel
theorem lkX7_forget_f46 : Cond.fieldLink RX7 46 "LeechClub" "sightings" "LLeechClub$Sightings;" ∈ wsX7_forget := by decide +kernel
theorem inX7_forget_X7 : ∀ w ∈ wsX70, w ∈ wsX7_forget := by decide +kernel
theorem inX7_forget_X4 : ∀ w ∈ wsX40, w ∈ wsX7_forget := by decide +kernel
set_option maxHeartbeats 4000000 in
set_option maxRecDepth 100000 in
theorem kX7_forget_0 {p : Program} {l : Launch} {e : Env} {s : State} {m : MethodId} {args : Array Value} {below : List Frame} {meth : Method} {cd : Code} {D : va_G} {c : Nat → ClassId} {A : Nat → Prop} (E0 : xE p s m args meth cd D (xT c) A RX7 cX7_forget 2 (some .int) wsX7_forget) (a_this : Nat) (a_text : Nat) (a_facts : Nat) (a_told : Nat) (a_now : Nat) (a_trial : Nat) (a_past : Nat) (a_kept : Nat) (a_sightings : Nat) (a_plan : Nat) (a_slates : Nat) (a_reckoned : Nat) (a_sightings_member : Nat) (a_sightings_minutes : Nat) (a_sightings_fact : Nat) (a_sightings_knew : Nat) (x_undoable : Int32) (x_keptBits : Int32) (n : Nat) (r_ret : Int32) (rm_sightings_size : Int32) (x_sightings_size : Int32) (hr : fX7_forget n x_sightings_size = some (r_ret, rm_sightings_size)) : GX7_forget p l e s m args below meth cd D c A a_this a_text a_facts a_told a_now a_trial a_past a_kept a_sightings a_plan a_slates a_reckoned a_sightings_member a_sightings_minutes a_sightings_fact a_sightings_knew x_undoable x_keptBits r_ret rm_sightings_size 0 [] [(0, .ref a_this)] x_sightings_size := by
  have E1 := E0
  obtain ⟨hx, hb, hml, hret, hown, hts, hlocks, hA, hK⟩ := E1
  intro H locs ls hP hD hS hl
  unfold fX7_forget at hr
  refine lv_aload_n hx hb dX7_forget_0 rfl (lv_at hl 0 rfl) ?_
  refine va_get (D := D) (ci := 7) (v := .ref a_sightings) (C := RX7) (T := TX7) (N := 13) hx hb hts inX7_forget_X7 hown hK hP 0 rfl rfl 9 (by decide) (hts _ lkX7_forget_f46) (fun _ h9 => h9) rfl dX7_forget_1 ?_
  refine va_get (D := D) (ci := 4) (v := .int x_sightings_size) (C := RX4) (T := TX4) (N := 5) hx hb hts inX7_forget_X4 hown hK hP 1 rfl rfl 0 (by decide) (hts _ lkX7_forget_f100) (fun _ h9 => h9) rfl dX7_forget_4 ?_
  refine lv_istore_n (lv' := [(1, .int x_sightings_size), (0, .ref a_this)]) hx hb dX7_forget_7 rfl hl (by decide) rfl (fun ls hl => ?_)
  refine lv_aload_n hx hb dX7_forget_8 rfl (lv_at hl 1 rfl) ?_
  refine va_get (D := D) (ci := 7) (v := .ref a_sightings) (C := RX7) (T := TX7) (N := 13) hx hb hts inX7_forget_X7 hown hK hP 0 rfl rfl 9 (by decide) (hts _ lkX7_forget_f46) (fun _ h9 => h9) rfl dX7_forget_9 ?_
  refine lv_iconst (v := 0) hx hb dX7_forget_12 (by decide) ?_
  refine va_put (D := D) (ci := 4) (v := .int 0) (ty := .int) (C := RX4) (T := TX4) (N := 5) hx hb hts inX7_forget_X4 tyX4 tyX4_ok nmX4 hown hK hP hD hS 1 rfl rfl 0 (by decide) (hts _ lkX7_forget_f100) (fun _ h9 => h9) rfl (by decide +kernel) rfl rfl (Nat.le_of_ble_eq_true rfl) dX7_forget_13 (fun H locs hP hD hS => ?_)
  have hP : va_P D vwCl [(a_this, .inr (7, [.ref a_text, .ref a_facts, .ref a_told, .ref a_now, .ref a_trial, .ref a_past, .int x_undoable, .ref a_kept, .int x_keptBits, .ref a_sightings, .ref a_plan, .ref a_slates, .ref a_reckoned])), (a_sightings, .inr (4, [.int 0, .ref a_sightings_member, .ref a_sightings_minutes, .ref a_sightings_fact, .ref a_sightings_knew]))] H := hP
  have hD : va_D A [(a_this, .inr (7, [.ref a_text, .ref a_facts, .ref a_told, .ref a_now, .ref a_trial, .ref a_past, .int x_undoable, .ref a_kept, .int x_keptBits, .ref a_sightings, .ref a_plan, .ref a_slates, .ref a_reckoned])), (a_sightings, .inr (4, [.int 0, .ref a_sightings_member, .ref a_sightings_minutes, .ref a_sightings_fact, .ref a_sightings_knew]))] := hD
  refine lv_iload_n hx hb dX7_forget_16 rfl (lv_at hl 0 rfl) ?_
  have g0 := x_some hr
  have e0 := x_p1 g0
  have e1 := x_p2 g0
  subst e0
  subst e1
  exact x_reti hx hb hret hlocks hP hD hK hS dX7_forget_17
set_option maxHeartbeats 4000000 in
set_option maxRecDepth 100000 in
theorem mX7_forget (l : Launch) (D : va_G) (c : Nat → ClassId) (a_this : Nat) (a_text : Nat) (a_facts : Nat) (a_told : Nat) (a_now : Nat) (a_trial : Nat) (a_past : Nat) (a_kept : Nat) (a_sightings : Nat) (a_plan : Nat) (a_slates : Nat) (a_reckoned : Nat) (a_sightings_member : Nat) (a_sightings_minutes : Nat) (a_sightings_fact : Nat) (a_sightings_knew : Nat) (sz : Nat) (x_undoable : Int32) (x_keptBits : Int32) (x_sightings_size : Int32) (n : Nat) (r_ret : Int32) (rm_sightings_size : Int32) (h : fX7_forget n x_sightings_size = some (r_ret, rm_sightings_size)) : Met l yX7_forget wsX7_forget ({ frames := 0, cells := 0, slots := 0, locals := 0 } : Room) (xPc D (xT c) sz [.ref a_this] (wX7_forget c a_this a_text a_facts a_told a_now a_trial a_past a_kept a_sightings a_plan a_slates a_reckoned a_sightings_member a_sightings_minutes a_sightings_fact a_sightings_knew x_undoable x_keptBits x_sightings_size) (fun _ => True)) (xQi D (xT c) (va_A (wX7_forget c a_this a_text a_facts a_told a_now a_trial a_past a_kept a_sightings a_plan a_slates a_reckoned a_sightings_member a_sightings_minutes a_sightings_fact a_sightings_knew x_undoable x_keptBits x_sightings_size) sz) r_ret (wX7_forget c a_this a_text a_facts a_told a_now a_trial a_past a_kept a_sightings a_plan a_slates a_reckoned a_sightings_member a_sightings_minutes a_sightings_fact a_sightings_knew x_undoable x_keptBits rm_sightings_size)) 0 0 (va_A (wX7_forget c a_this a_text a_facts a_told a_now a_trial a_past a_kept a_sightings a_plan a_slates a_reckoned a_sightings_member a_sightings_minutes a_sightings_fact a_sightings_knew x_undoable x_keptBits x_sightings_size) sz) := by
  refine Met.ofW (cc := cX7_forget) (maxL := 2) (ret := (some .int)) (by decide) rfl ?_
  intro p e s m args below meth cd s₁ B hml hv
  obtain ⟨rfl, hsz, hP, hK, hD0, hV⟩ := hv
  subst hsz
  have hl := lv_entry [.ref a_this] (n := 2) (Nat.le_of_ble_eq_true rfl)
  rw [lg_entry_eq]
  exact kX7_forget_0 (A := va_A (wX7_forget c a_this a_text a_facts a_told a_now a_trial a_past a_kept a_sightings a_plan a_slates a_reckoned a_sightings_member a_sightings_minutes a_sightings_fact a_sightings_knew x_undoable x_keptBits x_sightings_size) s.heap.size) ⟨B.exec, B.bytes, hml, B.returns, findClass_of_methodNamed B.named, atoms_spec (ws := wsX7_forget) B.pre, B.notSynchronized, fun q h => Or.inr h, hK⟩ a_this a_text a_facts a_told a_now a_trial a_past a_kept a_sightings a_plan a_slates a_reckoned a_sightings_member a_sightings_minutes a_sightings_fact a_sightings_knew x_undoable x_keptBits n r_ret rm_sightings_size x_sightings_size h s.heap [] _ hP hD0.self va_S.rf hl

