abbrev wX7_chalk (c : Nat → ClassId) (a_this : Nat) (a_text : Nat) (a_facts : Nat) (a_told : Nat) (a_now : Nat) (a_trial : Nat) (a_past : Nat) (a_kept : Nat) (a_sightings : Nat) (a_plan : Nat) (a_slates : Nat) (a_reckoned : Nat) (a_slates_e : Nat → Nat) (a_slates_value : Nat → Nat) (a_slates_below : Nat → Nat) (x_undoable : Int32) (x_keptBits : Int32) (xp_slates : Nat → Option Nat) (x_slates_sort : Nat → Int32) (x_slates_size : Nat → Int32) (x_reckoned_above : Int64) (x_reckoned_below : Int64) (x_slates_value : Nat → Nat → Int64) (x_slates_below : Nat → Nat → Int64) : va_W := [(a_this, .inr (7, [.ref a_text, .ref a_facts, .ref a_told, .ref a_now, .ref a_trial, .ref a_past, .int x_undoable, .ref a_kept, .int x_keptBits, .ref a_sightings, .ref a_plan, .ref a_slates, .ref a_reckoned])), (a_slates, .inl (c 4, 4, .inr (.inr (.inr (.inr xp_slates))))), ((a_slates_e 0), .inr (5, [.int (x_slates_sort 0), .int (x_slates_size 0), .ref (a_slates_value 0), .ref (a_slates_below 0)])), ((a_slates_e 1), .inr (5, [.int (x_slates_sort 1), .int (x_slates_size 1), .ref (a_slates_value 1), .ref (a_slates_below 1)])), ((a_slates_e 2), .inr (5, [.int (x_slates_sort 2), .int (x_slates_size 2), .ref (a_slates_value 2), .ref (a_slates_below 2)])), ((a_slates_e 3), .inr (5, [.int (x_slates_sort 3), .int (x_slates_size 3), .ref (a_slates_value 3), .ref (a_slates_below 3)])), (a_reckoned, .inr (1, [.long x_reckoned_above, .long x_reckoned_below])), ((a_slates_value 0), .inl (c 1, 10, .inr (.inl (x_slates_value 0)))), ((a_slates_value 1), .inl (c 1, 10, .inr (.inl (x_slates_value 1)))), ((a_slates_value 2), .inl (c 1, 10, .inr (.inl (x_slates_value 2)))), ((a_slates_value 3), .inl (c 1, 10, .inr (.inl (x_slates_value 3)))), ((a_slates_below 0), .inl (c 1, 10, .inr (.inl (x_slates_below 0)))), ((a_slates_below 1), .inl (c 1, 10, .inr (.inl (x_slates_below 1)))), ((a_slates_below 2), .inl (c 1, 10, .inr (.inl (x_slates_below 2)))), ((a_slates_below 3), .inl (c 1, 10, .inr (.inl (x_slates_below 3))))]
def GX7_chalk (p : Program) (l : Launch) (e : Env) (s : State) (m : MethodId) (args : Array Value) (below : List Frame) (meth : Method) (cd : Code) (D : va_G) (c : Nat → ClassId) (A : Nat → Prop) (a_this : Nat) (a_text : Nat) (a_facts : Nat) (a_told : Nat) (a_now : Nat) (a_trial : Nat) (a_past : Nat) (a_kept : Nat) (a_sightings : Nat) (a_plan : Nat) (a_slates : Nat) (a_reckoned : Nat) (a_slates_e : Nat → Nat) (a_slates_value : Nat → Nat) (a_slates_below : Nat → Nat) (x_undoable : Int32) (x_keptBits : Int32) (xp_slates : Nat → Option Nat) (x_slates_sort : Nat → Int32) (x_slates_size : Nat → Int32) (r_ret : Int32) (rm_reckoned_above : Int64) (rm_reckoned_below : Int64) (rm_slates_value : Nat → Nat → Int64) (rm_slates_below : Nat → Nat → Int64) (pc : Nat) (st : List Value) (loc : List (Nat × Value)) (x_reckoned_above : Int64) (x_reckoned_below : Int64) (x_slates_value : Nat → Nat → Int64) (x_slates_below : Nat → Nat → Int64) : Prop :=
  ∀ (H : Heap) (locs : List Loc) (ls : Array Slot), va_P D vwCl (wX7_chalk c a_this a_text a_facts a_told a_now a_trial a_past a_kept a_sightings a_plan a_slates a_reckoned a_slates_e a_slates_value a_slates_below x_undoable x_keptBits xp_slates x_slates_sort x_slates_size x_reckoned_above x_reckoned_below x_slates_value x_slates_below) H → va_D A (wX7_chalk c a_this a_text a_facts a_told a_now a_trial a_past a_kept a_sightings a_plan a_slates a_reckoned a_slates_e a_slates_value a_slates_below x_undoable x_keptBits xp_slates x_slates_sort x_slates_size x_reckoned_above x_reckoned_below x_slates_value x_slates_below) → va_S A s.heap H locs → lv_has ls 7 loc → W p l e ({ frames := 3, cells := 0, slots := 0, locals := 150 } : Room) s m args below meth cd H locs 0 0 (MQ below (xQi D (xT c) A r_ret (wX7_chalk c a_this a_text a_facts a_told a_now a_trial a_past a_kept a_sightings a_plan a_slates a_reckoned a_slates_e a_slates_value a_slates_below x_undoable x_keptBits xp_slates x_slates_sort x_slates_size rm_reckoned_above rm_reckoned_below rm_slates_value rm_slates_below)) args s 0 0 A) (F0 m pc ls st)
theorem lkX7_chalk_f59 : Cond.fieldLink RX7 59 "LeechClub" "slates" "[LLeechClub$Slate;" ∈ wsX7_chalk := by decide +kernel
theorem lkX7_chalk_f66 : Cond.fieldLink RX7 66 "LeechClub" "reckoned" "LLeechClub$Part;" ∈ wsX7_chalk := by decide +kernel
theorem inX7_chalk_X7 : ∀ w ∈ wsX70, w ∈ wsX7_chalk := by decide +kernel
set_option maxHeartbeats 4000000 in
set_option maxRecDepth 100000 in
theorem kX7_chalk_34 {p : Program} {l : Launch} {e : Env} {s : State} {m : MethodId} {args : Array Value} {below : List Frame} {meth : Method} {cd : Code} {D : va_G} {c : Nat → ClassId} {A : Nat → Prop} (E0 : xE p s m args meth cd D (xT c) A RX7 cX7_chalk 7 (some .int) wsX7_chalk) (a_this : Nat) (a_text : Nat) (a_facts : Nat) (a_told : Nat) (a_now : Nat) (a_trial : Nat) (a_past : Nat) (a_kept : Nat) (a_sightings : Nat) (a_plan : Nat) (a_slates : Nat) (a_reckoned : Nat) (a_slates_e : Nat → Nat) (a_slates_value : Nat → Nat) (a_slates_below : Nat → Nat) (x_undoable : Int32) (x_keptBits : Int32) (xp_slates : Nat → Option Nat) (x_slates_sort : Nat → Int32) (x_slates_size : Nat → Int32) (n : Nat) (r_ret : Int32) (rm_reckoned_above : Int64) (rm_reckoned_below : Int64) (rm_slates_value : Nat → Nat → Int64) (rm_slates_below : Nat → Nat → Int64) (hp_slates : ∀ j, j < 4 → xp_slates j = some (a_slates_e j)) (x_reckoned_above : Int64) (x_reckoned_below : Int64) (x_slates_value : Nat → Nat → Int64) (x_slates_below : Nat → Nat → Int64) (hr : fX7_chalk_34 n x_slates_sort x_slates_size x_reckoned_above x_reckoned_below x_slates_value x_slates_below = some (r_ret, rm_reckoned_above, rm_reckoned_below, rm_slates_value, rm_slates_below)) : GX7_chalk p l e s m args below meth cd D c A a_this a_text a_facts a_told a_now a_trial a_past a_kept a_sightings a_plan a_slates a_reckoned a_slates_e a_slates_value a_slates_below x_undoable x_keptBits xp_slates x_slates_sort x_slates_size r_ret rm_reckoned_above rm_reckoned_below rm_slates_value rm_slates_below 34 [] [] x_reckoned_above x_reckoned_below x_slates_value x_slates_below := by
  have E1 := E0
  obtain ⟨hx, hb, hml, hret, hown, hts, hlocks, hA, hK⟩ := E1
  intro H locs ls hP hD hS hl
  unfold fX7_chalk_34 at hr
  refine lv_bipush (v := (-3)) hx hb dX7_chalk_34 (by decide) ?_
  have g0 := x_some hr
  have e0 := x_p1 g0
  have g1 := x_p2 g0
  have e1 := x_p1 g1
  have g2 := x_p2 g1
  have e2 := x_p1 g2
  have g3 := x_p2 g2
  have e3 := x_p1 g3
  have e4 := x_p2 g3
  subst e0
  subst e1
  subst e2
  subst e3
  subst e4
  exact x_reti hx hb hret hlocks hP hD hK hS dX7_chalk_36
set_option maxHeartbeats 4000000 in
set_option maxRecDepth 100000 in
theorem kX7_chalk_37 {p : Program} {l : Launch} {e : Env} {s : State} {m : MethodId} {args : Array Value} {below : List Frame} {meth : Method} {cd : Code} {D : va_G} {c : Nat → ClassId} {A : Nat → Prop} (E0 : xE p s m args meth cd D (xT c) A RX7 cX7_chalk 7 (some .int) wsX7_chalk) (a_this : Nat) (a_text : Nat) (a_facts : Nat) (a_told : Nat) (a_now : Nat) (a_trial : Nat) (a_past : Nat) (a_kept : Nat) (a_sightings : Nat) (a_plan : Nat) (a_slates : Nat) (a_reckoned : Nat) (a_slates_e : Nat → Nat) (a_slates_value : Nat → Nat) (a_slates_below : Nat → Nat) (x_undoable : Int32) (x_keptBits : Int32) (xp_slates : Nat → Option Nat) (x_slates_sort : Nat → Int32) (x_slates_size : Nat → Int32) (n : Nat) (r_ret : Int32) (rm_reckoned_above : Int64) (rm_reckoned_below : Int64) (rm_slates_value : Nat → Nat → Int64) (rm_slates_below : Nat → Nat → Int64) (hp_slates : ∀ j, j < 4 → xp_slates j = some (a_slates_e j)) (x_reckoned_above : Int64) (x_reckoned_below : Int64) (x_slates_value : Nat → Nat → Int64) (x_slates_below : Nat → Nat → Int64) (v1 : Int32) (v2 : Int32) (v3 : Int32) (v4 : Int32) (v5 : Int32) (hr : fX7_chalk_37 n x_slates_sort x_slates_size x_reckoned_above x_reckoned_below x_slates_value x_slates_below v1 v2 v3 v4 v5 = some (r_ret, rm_reckoned_above, rm_reckoned_below, rm_slates_value, rm_slates_below)) : GX7_chalk p l e s m args below meth cd D c A a_this a_text a_facts a_told a_now a_trial a_past a_kept a_sightings a_plan a_slates a_reckoned a_slates_e a_slates_value a_slates_below x_undoable x_keptBits xp_slates x_slates_sort x_slates_size r_ret rm_reckoned_above rm_reckoned_below rm_slates_value rm_slates_below 37 [] [(0, .ref a_this), (1, .int v1), (2, .int v2), (3, .int v3), (4, .int v4), (5, .int v5)] x_reckoned_above x_reckoned_below x_slates_value x_slates_below := by
  have E1 := E0
  obtain ⟨hx, hb, hml, hret, hown, hts, hlocks, hA, hK⟩ := E1
  intro H locs ls hP hD hS hl
  unfold fX7_chalk_37 at hr
  refine lv_aload_n hx hb dX7_chalk_37 rfl (lv_at hl 0 rfl) ?_
  refine va_get (D := D) (ci := 7) (v := .ref a_slates) (C := RX7) (T := TX7) (N := 13) hx hb hts inX7_chalk_X7 hown hK hP 0 rfl rfl 11 (by decide) (hts _ lkX7_chalk_f59) (fun _ h9 => h9) rfl dX7_chalk_38 ?_
  refine lv_iload_n hx hb dX7_chalk_41 rfl (lv_at hl 1 rfl) ?_
  obtain ⟨b_1, hr⟩ := x_chk hr
  have b_2 := x_in0 b_1
  refine va_aldq hx hb hK hP 1 4 rfl rfl b_1 dX7_chalk_42 ?_
  generalize he_2 : v1.toNatClampNeg = w_2 at hr b_2 ⊢
  rcases x_lt4 b_2 with rfl | rfl | rfl | rfl
  · refine W.eq (g2 := F0 m 43 ls [.ref (a_slates_e 0)]) (congrArg (fun z => F0 m 43 ls (va_rf z :: [])) (hp_slates 0 (by decide))) ?_
    refine lv_iload_n hx hb dX7_chalk_43 rfl (lv_at hl 2 rfl) ?_
    refine lv_iload_n hx hb dX7_chalk_44 rfl (lv_at hl 3 rfl) ?_
    obtain ⟨q3_0, hc3, hr⟩ := x_bind hr
    refine x_runi (wr := [(a_this, .inr (7, [.ref a_text, .ref a_facts, .ref a_told, .ref a_now, .ref a_trial, .ref a_past, .int x_undoable, .ref a_kept, .int x_keptBits, .ref a_sightings, .ref a_plan, .ref a_slates, .ref a_reckoned])), (a_slates, .inl (c 4, 4, .inr (.inr (.inr (.inr xp_slates))))), ((a_slates_e 1), .inr (5, [.int (x_slates_sort 1), .int (x_slates_size 1), .ref (a_slates_value 1), .ref (a_slates_below 1)])), ((a_slates_e 2), .inr (5, [.int (x_slates_sort 2), .int (x_slates_size 2), .ref (a_slates_value 2), .ref (a_slates_below 2)])), ((a_slates_e 3), .inr (5, [.int (x_slates_sort 3), .int (x_slates_size 3), .ref (a_slates_value 3), .ref (a_slates_below 3)])), (a_reckoned, .inr (1, [.long x_reckoned_above, .long x_reckoned_below])), ((a_slates_value 0), .inl (c 1, 10, .inr (.inl (x_slates_value 0)))), ((a_slates_value 1), .inl (c 1, 10, .inr (.inl (x_slates_value 1)))), ((a_slates_value 2), .inl (c 1, 10, .inr (.inl (x_slates_value 2)))), ((a_slates_value 3), .inl (c 1, 10, .inr (.inl (x_slates_value 3)))), ((a_slates_below 0), .inl (c 1, 10, .inr (.inl (x_slates_below 0)))), ((a_slates_below 1), .inl (c 1, 10, .inr (.inl (x_slates_below 1)))), ((a_slates_below 2), .inl (c 1, 10, .inr (.inl (x_slates_below 2)))), ((a_slates_below 3), .inl (c 1, 10, .inr (.inl (x_slates_below 3))))]) (wf := [(a_this, .inr (7, [.ref a_text, .ref a_facts, .ref a_told, .ref a_now, .ref a_trial, .ref a_past, .int x_undoable, .ref a_kept, .int x_keptBits, .ref a_sightings, .ref a_plan, .ref a_slates, .ref a_reckoned])), (a_slates, .inl (c 4, 4, .inr (.inr (.inr (.inr xp_slates))))), ((a_slates_e 0), .inr (5, [.int (x_slates_sort 0), .int (x_slates_size 0), .ref (a_slates_value 0), .ref (a_slates_below 0)])), ((a_slates_e 1), .inr (5, [.int (x_slates_sort 1), .int (x_slates_size 1), .ref (a_slates_value 1), .ref (a_slates_below 1)])), ((a_slates_e 2), .inr (5, [.int (x_slates_sort 2), .int (x_slates_size 2), .ref (a_slates_value 2), .ref (a_slates_below 2)])), ((a_slates_e 3), .inr (5, [.int (x_slates_sort 3), .int (x_slates_size 3), .ref (a_slates_value 3), .ref (a_slates_below 3)])), (a_reckoned, .inr (1, [.long x_reckoned_above, .long x_reckoned_below])), ((a_slates_value 0), .inl (c 1, 10, .inr (.inl (x_slates_value 0)))), ((a_slates_value 1), .inl (c 1, 10, .inr (.inl (x_slates_value 1)))), ((a_slates_value 2), .inl (c 1, 10, .inr (.inl (x_slates_value 2)))), ((a_slates_value 3), .inl (c 1, 10, .inr (.inl (x_slates_value 3)))), ((a_slates_below 0), .inl (c 1, 10, .inr (.inl (x_slates_below 0)))), ((a_slates_below 1), .inl (c 1, 10, .inr (.inl (x_slates_below 1)))), ((a_slates_below 2), .inl (c 1, 10, .inr (.inl (x_slates_below 2)))), ((a_slates_below 3), .inl (c 1, 10, .inr (.inl (x_slates_below 3))))]) (x_goV (As := [.int v2, .int v3]) (rest := []) ⟨hx, hb, hml, hown, hts⟩ (mX5_findPlace l D c (a_slates_e 0) (a_slates_value 0) (a_slates_below 0) H.size (x_slates_sort 0) (x_slates_size 0) v2 v3 n _ hc3) (cwV 2 hts gX7_chalk_X5_findPlace rfl rfl rfl (by decide +kernel) ⟨Nat.le_of_ble_eq_true rfl, Nat.le_of_ble_eq_true rfl⟩) xB_t hP hD hK [2] rfl (by decide) (fun _ _ _ => trivial) 2 5 rfl rfl rfl rfl hl.1 rfl (Nat.le_of_ble_eq_true rfl) dX7_chalk_45) hP hD hS hA [2] [0, 1, 3, 4, 5, 6, 7, 8, 9, 10, 11, 12, 13, 14] [0, 1, 14, 2, 3, 4, 5, 6, 7, 8, 9, 10, 11, 12, 13] rfl rfl rfl ⟨by decide, by decide, by decide⟩ (fun H locs hP hD hS => ?_)
    refine lv_istore (lv' := [(6, .int q3_0), (0, .ref a_this), (1, .int v1), (2, .int v2), (3, .int v3), (4, .int v4), (5, .int v5)]) hx hb dX7_chalk_48 hl (by decide) rfl (fun ls hl => ?_)
    refine lv_iload hx hb dX7_chalk_50 (lv_at hl 0 rfl) ?_
    refine lv_if_eq (tgt := 58) hx hb dX7_chalk_52 (by decide) (fun c_4 => ?_) (fun c_4 => ?_)
    · have hr := x_ift hr c_4
      refine lv_aload_n hx hb dX7_chalk_58 rfl (lv_at hl 1 rfl) ?_
      refine va_get (D := D) (ci := 7) (v := .ref a_slates) (C := RX7) (T := TX7) (N := 13) hx hb hts inX7_chalk_X7 hown hK hP 0 rfl rfl 11 (by decide) (hts _ lkX7_chalk_f59) (fun _ h9 => h9) rfl dX7_chalk_59 ?_
      refine lv_iload_n hx hb dX7_chalk_62 rfl (lv_at hl 2 rfl) ?_
      obtain ⟨b_5, hr⟩ := x_chk hr
      refine va_aldq hx hb hK hP 1 4 rfl rfl (x_vin he_2 b_5) dX7_chalk_63 ?_
      rw [he_2]
      refine W.eq (g2 := F0 m 64 ls [.ref (a_slates_e 0)]) (congrArg (fun z => F0 m 64 ls (va_rf z :: [])) (hp_slates 0 (by decide))) ?_
      refine lv_iload_n hx hb dX7_chalk_64 rfl (lv_at hl 4 rfl) ?_
      refine lv_iload hx hb dX7_chalk_65 (lv_at hl 5 rfl) ?_
      refine lv_iload hx hb dX7_chalk_67 (lv_at hl 6 rfl) ?_
      refine lv_aload_n hx hb dX7_chalk_69 rfl (lv_at hl 1 rfl) ?_
      refine va_get (D := D) (ci := 7) (v := .ref a_reckoned) (C := RX7) (T := TX7) (N := 13) hx hb hts inX7_chalk_X7 hown hK hP 0 rfl rfl 12 (by decide) (hts _ lkX7_chalk_f66) (fun _ h9 => h9) rfl dX7_chalk_70 ?_
      obtain ⟨⟨q6_0, q6_1, q6_2, q6_3⟩, hc6, hr⟩ := x_bind hr
      try dsimp only at hr
      refine x_runv (wr := [(a_this, .inr (7, [.ref a_text, .ref a_facts, .ref a_told, .ref a_now, .ref a_trial, .ref a_past, .int x_undoable, .ref a_kept, .int x_keptBits, .ref a_sightings, .ref a_plan, .ref a_slates, .ref a_reckoned])), (a_slates, .inl (c 4, 4, .inr (.inr (.inr (.inr xp_slates))))), ((a_slates_e 1), .inr (5, [.int (x_slates_sort 1), .int (x_slates_size 1), .ref (a_slates_value 1), .ref (a_slates_below 1)])), ((a_slates_e 2), .inr (5, [.int (x_slates_sort 2), .int (x_slates_size 2), .ref (a_slates_value 2), .ref (a_slates_below 2)])), ((a_slates_e 3), .inr (5, [.int (x_slates_sort 3), .int (x_slates_size 3), .ref (a_slates_value 3), .ref (a_slates_below 3)])), ((a_slates_value 1), .inl (c 1, 10, .inr (.inl (x_slates_value 1)))), ((a_slates_value 2), .inl (c 1, 10, .inr (.inl (x_slates_value 2)))), ((a_slates_value 3), .inl (c 1, 10, .inr (.inl (x_slates_value 3)))), ((a_slates_below 1), .inl (c 1, 10, .inr (.inl (x_slates_below 1)))), ((a_slates_below 2), .inl (c 1, 10, .inr (.inl (x_slates_below 2)))), ((a_slates_below 3), .inl (c 1, 10, .inr (.inl (x_slates_below 3))))]) (wf := [(a_this, .inr (7, [.ref a_text, .ref a_facts, .ref a_told, .ref a_now, .ref a_trial, .ref a_past, .int x_undoable, .ref a_kept, .int x_keptBits, .ref a_sightings, .ref a_plan, .ref a_slates, .ref a_reckoned])), (a_slates, .inl (c 4, 4, .inr (.inr (.inr (.inr xp_slates))))), ((a_slates_e 0), .inr (5, [.int (x_slates_sort 0), .int (x_slates_size 0), .ref (a_slates_value 0), .ref (a_slates_below 0)])), ((a_slates_e 1), .inr (5, [.int (x_slates_sort 1), .int (x_slates_size 1), .ref (a_slates_value 1), .ref (a_slates_below 1)])), ((a_slates_e 2), .inr (5, [.int (x_slates_sort 2), .int (x_slates_size 2), .ref (a_slates_value 2), .ref (a_slates_below 2)])), ((a_slates_e 3), .inr (5, [.int (x_slates_sort 3), .int (x_slates_size 3), .ref (a_slates_value 3), .ref (a_slates_below 3)])), (a_reckoned, .inr (1, [.long q6_0, .long q6_1])), ((a_slates_value 0), .inl (c 1, 10, .inr (.inl ((va_up x_slates_value 0 q6_2) 0)))), ((a_slates_value 1), .inl (c 1, 10, .inr (.inl ((va_up x_slates_value 0 q6_2) 1)))), ((a_slates_value 2), .inl (c 1, 10, .inr (.inl ((va_up x_slates_value 0 q6_2) 2)))), ((a_slates_value 3), .inl (c 1, 10, .inr (.inl ((va_up x_slates_value 0 q6_2) 3)))), ((a_slates_below 0), .inl (c 1, 10, .inr (.inl ((va_up x_slates_below 0 q6_3) 0)))), ((a_slates_below 1), .inl (c 1, 10, .inr (.inl ((va_up x_slates_below 0 q6_3) 1)))), ((a_slates_below 2), .inl (c 1, 10, .inr (.inl ((va_up x_slates_below 0 q6_3) 2)))), ((a_slates_below 3), .inl (c 1, 10, .inr (.inl ((va_up x_slates_below 0 q6_3) 3))))]) (x_goV (As := [.int v3, .int v4, .int v5, .ref a_reckoned]) (rest := []) ⟨hx, hb, hml, hown, hts⟩ (mX5_setPlace l D c (a_slates_e 0) a_reckoned (a_slates_value 0) (a_slates_below 0) H.size (x_slates_size 0) (x_slates_sort 0) x_reckoned_above x_reckoned_below (x_slates_value 0) (x_slates_below 0) v3 v4 v5 n _ _ _ _ hc6) (cwV 4 hts gX7_chalk_X5_setPlace rfl rfl rfl (by decide +kernel) ⟨Nat.le_of_ble_eq_true rfl, Nat.le_of_ble_eq_true rfl⟩) xB_t hP hD hK [2, 6, 7, 11] rfl (by decide) (fun _ _ _ => trivial) 2 5 rfl rfl rfl rfl hl.1 rfl (Nat.le_of_ble_eq_true rfl) dX7_chalk_73) hP hD hS hA [2, 6, 7, 11] [0, 1, 3, 4, 5, 8, 9, 10, 12, 13, 14] [0, 1, 11, 2, 3, 4, 12, 13, 5, 6, 7, 14, 8, 9, 10] rfl rfl rfl ⟨by decide, by decide, by decide⟩ (fun H locs hP hD hS => ?_)
      refine lv_iconst (v := 1) hx hb dX7_chalk_76 (by decide) ?_
      have g0 := x_some hr
      have e0 := x_p1 g0
      have g1 := x_p2 g0
      have e1 := x_p1 g1
      have g2 := x_p2 g1
      have e2 := x_p1 g2
      have g3 := x_p2 g2
      have e3 := x_p1 g3
      have e4 := x_p2 g3
      subst e0
      subst e1
      subst e2
      subst e3
      subst e4
      exact x_reti hx hb hret hlocks hP hD hK hS dX7_chalk_77
    · have hr := x_iff hr c_4
      refine lv_iload hx hb dX7_chalk_55 (lv_at hl 0 rfl) ?_
      have g0 := x_some hr
      have e0 := x_p1 g0
      have g1 := x_p2 g0
      have e1 := x_p1 g1
      have g2 := x_p2 g1
      have e2 := x_p1 g2
      have g3 := x_p2 g2
      have e3 := x_p1 g3
      have e4 := x_p2 g3
      subst e0
      subst e1
      subst e2
      subst e3
      subst e4
      exact x_reti hx hb hret hlocks hP hD hK hS dX7_chalk_57
  · refine W.eq (g2 := F0 m 43 ls [.ref (a_slates_e 1)]) (congrArg (fun z => F0 m 43 ls (va_rf z :: [])) (hp_slates 1 (by decide))) ?_
    refine lv_iload_n hx hb dX7_chalk_43 rfl (lv_at hl 2 rfl) ?_
    refine lv_iload_n hx hb dX7_chalk_44 rfl (lv_at hl 3 rfl) ?_
    obtain ⟨q7_0, hc7, hr⟩ := x_bind hr
    refine x_runi (wr := [(a_this, .inr (7, [.ref a_text, .ref a_facts, .ref a_told, .ref a_now, .ref a_trial, .ref a_past, .int x_undoable, .ref a_kept, .int x_keptBits, .ref a_sightings, .ref a_plan, .ref a_slates, .ref a_reckoned])), (a_slates, .inl (c 4, 4, .inr (.inr (.inr (.inr xp_slates))))), ((a_slates_e 0), .inr (5, [.int (x_slates_sort 0), .int (x_slates_size 0), .ref (a_slates_value 0), .ref (a_slates_below 0)])), ((a_slates_e 2), .inr (5, [.int (x_slates_sort 2), .int (x_slates_size 2), .ref (a_slates_value 2), .ref (a_slates_below 2)])), ((a_slates_e 3), .inr (5, [.int (x_slates_sort 3), .int (x_slates_size 3), .ref (a_slates_value 3), .ref (a_slates_below 3)])), (a_reckoned, .inr (1, [.long x_reckoned_above, .long x_reckoned_below])), ((a_slates_value 0), .inl (c 1, 10, .inr (.inl (x_slates_value 0)))), ((a_slates_value 1), .inl (c 1, 10, .inr (.inl (x_slates_value 1)))), ((a_slates_value 2), .inl (c 1, 10, .inr (.inl (x_slates_value 2)))), ((a_slates_value 3), .inl (c 1, 10, .inr (.inl (x_slates_value 3)))), ((a_slates_below 0), .inl (c 1, 10, .inr (.inl (x_slates_below 0)))), ((a_slates_below 1), .inl (c 1, 10, .inr (.inl (x_slates_below 1)))), ((a_slates_below 2), .inl (c 1, 10, .inr (.inl (x_slates_below 2)))), ((a_slates_below 3), .inl (c 1, 10, .inr (.inl (x_slates_below 3))))]) (wf := [(a_this, .inr (7, [.ref a_text, .ref a_facts, .ref a_told, .ref a_now, .ref a_trial, .ref a_past, .int x_undoable, .ref a_kept, .int x_keptBits, .ref a_sightings, .ref a_plan, .ref a_slates, .ref a_reckoned])), (a_slates, .inl (c 4, 4, .inr (.inr (.inr (.inr xp_slates))))), ((a_slates_e 0), .inr (5, [.int (x_slates_sort 0), .int (x_slates_size 0), .ref (a_slates_value 0), .ref (a_slates_below 0)])), ((a_slates_e 1), .inr (5, [.int (x_slates_sort 1), .int (x_slates_size 1), .ref (a_slates_value 1), .ref (a_slates_below 1)])), ((a_slates_e 2), .inr (5, [.int (x_slates_sort 2), .int (x_slates_size 2), .ref (a_slates_value 2), .ref (a_slates_below 2)])), ((a_slates_e 3), .inr (5, [.int (x_slates_sort 3), .int (x_slates_size 3), .ref (a_slates_value 3), .ref (a_slates_below 3)])), (a_reckoned, .inr (1, [.long x_reckoned_above, .long x_reckoned_below])), ((a_slates_value 0), .inl (c 1, 10, .inr (.inl (x_slates_value 0)))), ((a_slates_value 1), .inl (c 1, 10, .inr (.inl (x_slates_value 1)))), ((a_slates_value 2), .inl (c 1, 10, .inr (.inl (x_slates_value 2)))), ((a_slates_value 3), .inl (c 1, 10, .inr (.inl (x_slates_value 3)))), ((a_slates_below 0), .inl (c 1, 10, .inr (.inl (x_slates_below 0)))), ((a_slates_below 1), .inl (c 1, 10, .inr (.inl (x_slates_below 1)))), ((a_slates_below 2), .inl (c 1, 10, .inr (.inl (x_slates_below 2)))), ((a_slates_below 3), .inl (c 1, 10, .inr (.inl (x_slates_below 3))))]) (x_goV (As := [.int v2, .int v3]) (rest := []) ⟨hx, hb, hml, hown, hts⟩ (mX5_findPlace l D c (a_slates_e 1) (a_slates_value 1) (a_slates_below 1) H.size (x_slates_sort 1) (x_slates_size 1) v2 v3 n _ hc7) (cwV 2 hts gX7_chalk_X5_findPlace rfl rfl rfl (by decide +kernel) ⟨Nat.le_of_ble_eq_true rfl, Nat.le_of_ble_eq_true rfl⟩) xB_t hP hD hK [3] rfl (by decide) (fun _ _ _ => trivial) 3 5 rfl rfl rfl rfl hl.1 rfl (Nat.le_of_ble_eq_true rfl) dX7_chalk_45) hP hD hS hA [3] [0, 1, 2, 4, 5, 6, 7, 8, 9, 10, 11, 12, 13, 14] [0, 1, 2, 14, 3, 4, 5, 6, 7, 8, 9, 10, 11, 12, 13] rfl rfl rfl ⟨by decide, by decide, by decide⟩ (fun H locs hP hD hS => ?_)
    refine lv_istore (lv' := [(6, .int q7_0), (0, .ref a_this), (1, .int v1), (2, .int v2), (3, .int v3), (4, .int v4), (5, .int v5)]) hx hb dX7_chalk_48 hl (by decide) rfl (fun ls hl => ?_)
    refine lv_iload hx hb dX7_chalk_50 (lv_at hl 0 rfl) ?_
    refine lv_if_eq (tgt := 58) hx hb dX7_chalk_52 (by decide) (fun c_8 => ?_) (fun c_8 => ?_)
    · have hr := x_ift hr c_8
      refine lv_aload_n hx hb dX7_chalk_58 rfl (lv_at hl 1 rfl) ?_
      refine va_get (D := D) (ci := 7) (v := .ref a_slates) (C := RX7) (T := TX7) (N := 13) hx hb hts inX7_chalk_X7 hown hK hP 0 rfl rfl 11 (by decide) (hts _ lkX7_chalk_f59) (fun _ h9 => h9) rfl dX7_chalk_59 ?_
      refine lv_iload_n hx hb dX7_chalk_62 rfl (lv_at hl 2 rfl) ?_
      obtain ⟨b_9, hr⟩ := x_chk hr
      refine va_aldq hx hb hK hP 1 4 rfl rfl (x_vin he_2 b_9) dX7_chalk_63 ?_
      rw [he_2]
      refine W.eq (g2 := F0 m 64 ls [.ref (a_slates_e 1)]) (congrArg (fun z => F0 m 64 ls (va_rf z :: [])) (hp_slates 1 (by decide))) ?_
      refine lv_iload_n hx hb dX7_chalk_64 rfl (lv_at hl 4 rfl) ?_
      refine lv_iload hx hb dX7_chalk_65 (lv_at hl 5 rfl) ?_
      refine lv_iload hx hb dX7_chalk_67 (lv_at hl 6 rfl) ?_
      refine lv_aload_n hx hb dX7_chalk_69 rfl (lv_at hl 1 rfl) ?_
      refine va_get (D := D) (ci := 7) (v := .ref a_reckoned) (C := RX7) (T := TX7) (N := 13) hx hb hts inX7_chalk_X7 hown hK hP 0 rfl rfl 12 (by decide) (hts _ lkX7_chalk_f66) (fun _ h9 => h9) rfl dX7_chalk_70 ?_
      obtain ⟨⟨q10_0, q10_1, q10_2, q10_3⟩, hc10, hr⟩ := x_bind hr
      try dsimp only at hr
      refine x_runv (wr := [(a_this, .inr (7, [.ref a_text, .ref a_facts, .ref a_told, .ref a_now, .ref a_trial, .ref a_past, .int x_undoable, .ref a_kept, .int x_keptBits, .ref a_sightings, .ref a_plan, .ref a_slates, .ref a_reckoned])), (a_slates, .inl (c 4, 4, .inr (.inr (.inr (.inr xp_slates))))), ((a_slates_e 0), .inr (5, [.int (x_slates_sort 0), .int (x_slates_size 0), .ref (a_slates_value 0), .ref (a_slates_below 0)])), ((a_slates_e 2), .inr (5, [.int (x_slates_sort 2), .int (x_slates_size 2), .ref (a_slates_value 2), .ref (a_slates_below 2)])), ((a_slates_e 3), .inr (5, [.int (x_slates_sort 3), .int (x_slates_size 3), .ref (a_slates_value 3), .ref (a_slates_below 3)])), ((a_slates_value 0), .inl (c 1, 10, .inr (.inl (x_slates_value 0)))), ((a_slates_value 2), .inl (c 1, 10, .inr (.inl (x_slates_value 2)))), ((a_slates_value 3), .inl (c 1, 10, .inr (.inl (x_slates_value 3)))), ((a_slates_below 0), .inl (c 1, 10, .inr (.inl (x_slates_below 0)))), ((a_slates_below 2), .inl (c 1, 10, .inr (.inl (x_slates_below 2)))), ((a_slates_below 3), .inl (c 1, 10, .inr (.inl (x_slates_below 3))))]) (wf := [(a_this, .inr (7, [.ref a_text, .ref a_facts, .ref a_told, .ref a_now, .ref a_trial, .ref a_past, .int x_undoable, .ref a_kept, .int x_keptBits, .ref a_sightings, .ref a_plan, .ref a_slates, .ref a_reckoned])), (a_slates, .inl (c 4, 4, .inr (.inr (.inr (.inr xp_slates))))), ((a_slates_e 0), .inr (5, [.int (x_slates_sort 0), .int (x_slates_size 0), .ref (a_slates_value 0), .ref (a_slates_below 0)])), ((a_slates_e 1), .inr (5, [.int (x_slates_sort 1), .int (x_slates_size 1), .ref (a_slates_value 1), .ref (a_slates_below 1)])), ((a_slates_e 2), .inr (5, [.int (x_slates_sort 2), .int (x_slates_size 2), .ref (a_slates_value 2), .ref (a_slates_below 2)])), ((a_slates_e 3), .inr (5, [.int (x_slates_sort 3), .int (x_slates_size 3), .ref (a_slates_value 3), .ref (a_slates_below 3)])), (a_reckoned, .inr (1, [.long q10_0, .long q10_1])), ((a_slates_value 0), .inl (c 1, 10, .inr (.inl ((va_up x_slates_value 1 q10_2) 0)))), ((a_slates_value 1), .inl (c 1, 10, .inr (.inl ((va_up x_slates_value 1 q10_2) 1)))), ((a_slates_value 2), .inl (c 1, 10, .inr (.inl ((va_up x_slates_value 1 q10_2) 2)))), ((a_slates_value 3), .inl (c 1, 10, .inr (.inl ((va_up x_slates_value 1 q10_2) 3)))), ((a_slates_below 0), .inl (c 1, 10, .inr (.inl ((va_up x_slates_below 1 q10_3) 0)))), ((a_slates_below 1), .inl (c 1, 10, .inr (.inl ((va_up x_slates_below 1 q10_3) 1)))), ((a_slates_below 2), .inl (c 1, 10, .inr (.inl ((va_up x_slates_below 1 q10_3) 2)))), ((a_slates_below 3), .inl (c 1, 10, .inr (.inl ((va_up x_slates_below 1 q10_3) 3))))]) (x_goV (As := [.int v3, .int v4, .int v5, .ref a_reckoned]) (rest := []) ⟨hx, hb, hml, hown, hts⟩ (mX5_setPlace l D c (a_slates_e 1) a_reckoned (a_slates_value 1) (a_slates_below 1) H.size (x_slates_size 1) (x_slates_sort 1) x_reckoned_above x_reckoned_below (x_slates_value 1) (x_slates_below 1) v3 v4 v5 n _ _ _ _ hc10) (cwV 4 hts gX7_chalk_X5_setPlace rfl rfl rfl (by decide +kernel) ⟨Nat.le_of_ble_eq_true rfl, Nat.le_of_ble_eq_true rfl⟩) xB_t hP hD hK [3, 6, 8, 12] rfl (by decide) (fun _ _ _ => trivial) 3 5 rfl rfl rfl rfl hl.1 rfl (Nat.le_of_ble_eq_true rfl) dX7_chalk_73) hP hD hS hA [3, 6, 8, 12] [0, 1, 2, 4, 5, 7, 9, 10, 11, 13, 14] [0, 1, 2, 11, 3, 4, 12, 5, 13, 6, 7, 8, 14, 9, 10] rfl rfl rfl ⟨by decide, by decide, by decide⟩ (fun H locs hP hD hS => ?_)
      refine lv_iconst (v := 1) hx hb dX7_chalk_76 (by decide) ?_
      have g0 := x_some hr
      have e0 := x_p1 g0
      have g1 := x_p2 g0
      have e1 := x_p1 g1
      have g2 := x_p2 g1
      have e2 := x_p1 g2
      have g3 := x_p2 g2
      have e3 := x_p1 g3
      have e4 := x_p2 g3
      subst e0
      subst e1
      subst e2
      subst e3
      subst e4
      exact x_reti hx hb hret hlocks hP hD hK hS dX7_chalk_77
    · have hr := x_iff hr c_8
      refine lv_iload hx hb dX7_chalk_55 (lv_at hl 0 rfl) ?_
      have g0 := x_some hr
      have e0 := x_p1 g0
      have g1 := x_p2 g0
      have e1 := x_p1 g1
      have g2 := x_p2 g1
      have e2 := x_p1 g2
      have g3 := x_p2 g2
      have e3 := x_p1 g3
      have e4 := x_p2 g3
      subst e0
      subst e1
      subst e2
      subst e3
      subst e4
      exact x_reti hx hb hret hlocks hP hD hK hS dX7_chalk_57
  · refine W.eq (g2 := F0 m 43 ls [.ref (a_slates_e 2)]) (congrArg (fun z => F0 m 43 ls (va_rf z :: [])) (hp_slates 2 (by decide))) ?_
    refine lv_iload_n hx hb dX7_chalk_43 rfl (lv_at hl 2 rfl) ?_
    refine lv_iload_n hx hb dX7_chalk_44 rfl (lv_at hl 3 rfl) ?_
    obtain ⟨q11_0, hc11, hr⟩ := x_bind hr
    refine x_runi (wr := [(a_this, .inr (7, [.ref a_text, .ref a_facts, .ref a_told, .ref a_now, .ref a_trial, .ref a_past, .int x_undoable, .ref a_kept, .int x_keptBits, .ref a_sightings, .ref a_plan, .ref a_slates, .ref a_reckoned])), (a_slates, .inl (c 4, 4, .inr (.inr (.inr (.inr xp_slates))))), ((a_slates_e 0), .inr (5, [.int (x_slates_sort 0), .int (x_slates_size 0), .ref (a_slates_value 0), .ref (a_slates_below 0)])), ((a_slates_e 1), .inr (5, [.int (x_slates_sort 1), .int (x_slates_size 1), .ref (a_slates_value 1), .ref (a_slates_below 1)])), ((a_slates_e 3), .inr (5, [.int (x_slates_sort 3), .int (x_slates_size 3), .ref (a_slates_value 3), .ref (a_slates_below 3)])), (a_reckoned, .inr (1, [.long x_reckoned_above, .long x_reckoned_below])), ((a_slates_value 0), .inl (c 1, 10, .inr (.inl (x_slates_value 0)))), ((a_slates_value 1), .inl (c 1, 10, .inr (.inl (x_slates_value 1)))), ((a_slates_value 2), .inl (c 1, 10, .inr (.inl (x_slates_value 2)))), ((a_slates_value 3), .inl (c 1, 10, .inr (.inl (x_slates_value 3)))), ((a_slates_below 0), .inl (c 1, 10, .inr (.inl (x_slates_below 0)))), ((a_slates_below 1), .inl (c 1, 10, .inr (.inl (x_slates_below 1)))), ((a_slates_below 2), .inl (c 1, 10, .inr (.inl (x_slates_below 2)))), ((a_slates_below 3), .inl (c 1, 10, .inr (.inl (x_slates_below 3))))]) (wf := [(a_this, .inr (7, [.ref a_text, .ref a_facts, .ref a_told, .ref a_now, .ref a_trial, .ref a_past, .int x_undoable, .ref a_kept, .int x_keptBits, .ref a_sightings, .ref a_plan, .ref a_slates, .ref a_reckoned])), (a_slates, .inl (c 4, 4, .inr (.inr (.inr (.inr xp_slates))))), ((a_slates_e 0), .inr (5, [.int (x_slates_sort 0), .int (x_slates_size 0), .ref (a_slates_value 0), .ref (a_slates_below 0)])), ((a_slates_e 1), .inr (5, [.int (x_slates_sort 1), .int (x_slates_size 1), .ref (a_slates_value 1), .ref (a_slates_below 1)])), ((a_slates_e 2), .inr (5, [.int (x_slates_sort 2), .int (x_slates_size 2), .ref (a_slates_value 2), .ref (a_slates_below 2)])), ((a_slates_e 3), .inr (5, [.int (x_slates_sort 3), .int (x_slates_size 3), .ref (a_slates_value 3), .ref (a_slates_below 3)])), (a_reckoned, .inr (1, [.long x_reckoned_above, .long x_reckoned_below])), ((a_slates_value 0), .inl (c 1, 10, .inr (.inl (x_slates_value 0)))), ((a_slates_value 1), .inl (c 1, 10, .inr (.inl (x_slates_value 1)))), ((a_slates_value 2), .inl (c 1, 10, .inr (.inl (x_slates_value 2)))), ((a_slates_value 3), .inl (c 1, 10, .inr (.inl (x_slates_value 3)))), ((a_slates_below 0), .inl (c 1, 10, .inr (.inl (x_slates_below 0)))), ((a_slates_below 1), .inl (c 1, 10, .inr (.inl (x_slates_below 1)))), ((a_slates_below 2), .inl (c 1, 10, .inr (.inl (x_slates_below 2)))), ((a_slates_below 3), .inl (c 1, 10, .inr (.inl (x_slates_below 3))))]) (x_goV (As := [.int v2, .int v3]) (rest := []) ⟨hx, hb, hml, hown, hts⟩ (mX5_findPlace l D c (a_slates_e 2) (a_slates_value 2) (a_slates_below 2) H.size (x_slates_sort 2) (x_slates_size 2) v2 v3 n _ hc11) (cwV 2 hts gX7_chalk_X5_findPlace rfl rfl rfl (by decide +kernel) ⟨Nat.le_of_ble_eq_true rfl, Nat.le_of_ble_eq_true rfl⟩) xB_t hP hD hK [4] rfl (by decide) (fun _ _ _ => trivial) 4 5 rfl rfl rfl rfl hl.1 rfl (Nat.le_of_ble_eq_true rfl) dX7_chalk_45) hP hD hS hA [4] [0, 1, 2, 3, 5, 6, 7, 8, 9, 10, 11, 12, 13, 14] [0, 1, 2, 3, 14, 4, 5, 6, 7, 8, 9, 10, 11, 12, 13] rfl rfl rfl ⟨by decide, by decide, by decide⟩ (fun H locs hP hD hS => ?_)
    refine lv_istore (lv' := [(6, .int q11_0), (0, .ref a_this), (1, .int v1), (2, .int v2), (3, .int v3), (4, .int v4), (5, .int v5)]) hx hb dX7_chalk_48 hl (by decide) rfl (fun ls hl => ?_)
    refine lv_iload hx hb dX7_chalk_50 (lv_at hl 0 rfl) ?_
    refine lv_if_eq (tgt := 58) hx hb dX7_chalk_52 (by decide) (fun c_12 => ?_) (fun c_12 => ?_)
    · have hr := x_ift hr c_12
      refine lv_aload_n hx hb dX7_chalk_58 rfl (lv_at hl 1 rfl) ?_
      refine va_get (D := D) (ci := 7) (v := .ref a_slates) (C := RX7) (T := TX7) (N := 13) hx hb hts inX7_chalk_X7 hown hK hP 0 rfl rfl 11 (by decide) (hts _ lkX7_chalk_f59) (fun _ h9 => h9) rfl dX7_chalk_59 ?_
      refine lv_iload_n hx hb dX7_chalk_62 rfl (lv_at hl 2 rfl) ?_
      obtain ⟨b_13, hr⟩ := x_chk hr
      refine va_aldq hx hb hK hP 1 4 rfl rfl (x_vin he_2 b_13) dX7_chalk_63 ?_
      rw [he_2]
      refine W.eq (g2 := F0 m 64 ls [.ref (a_slates_e 2)]) (congrArg (fun z => F0 m 64 ls (va_rf z :: [])) (hp_slates 2 (by decide))) ?_
      refine lv_iload_n hx hb dX7_chalk_64 rfl (lv_at hl 4 rfl) ?_
      refine lv_iload hx hb dX7_chalk_65 (lv_at hl 5 rfl) ?_
      refine lv_iload hx hb dX7_chalk_67 (lv_at hl 6 rfl) ?_
      refine lv_aload_n hx hb dX7_chalk_69 rfl (lv_at hl 1 rfl) ?_
      refine va_get (D := D) (ci := 7) (v := .ref a_reckoned) (C := RX7) (T := TX7) (N := 13) hx hb hts inX7_chalk_X7 hown hK hP 0 rfl rfl 12 (by decide) (hts _ lkX7_chalk_f66) (fun _ h9 => h9) rfl dX7_chalk_70 ?_
      obtain ⟨⟨q14_0, q14_1, q14_2, q14_3⟩, hc14, hr⟩ := x_bind hr
      try dsimp only at hr
      refine x_runv (wr := [(a_this, .inr (7, [.ref a_text, .ref a_facts, .ref a_told, .ref a_now, .ref a_trial, .ref a_past, .int x_undoable, .ref a_kept, .int x_keptBits, .ref a_sightings, .ref a_plan, .ref a_slates, .ref a_reckoned])), (a_slates, .inl (c 4, 4, .inr (.inr (.inr (.inr xp_slates))))), ((a_slates_e 0), .inr (5, [.int (x_slates_sort 0), .int (x_slates_size 0), .ref (a_slates_value 0), .ref (a_slates_below 0)])), ((a_slates_e 1), .inr (5, [.int (x_slates_sort 1), .int (x_slates_size 1), .ref (a_slates_value 1), .ref (a_slates_below 1)])), ((a_slates_e 3), .inr (5, [.int (x_slates_sort 3), .int (x_slates_size 3), .ref (a_slates_value 3), .ref (a_slates_below 3)])), ((a_slates_value 0), .inl (c 1, 10, .inr (.inl (x_slates_value 0)))), ((a_slates_value 1), .inl (c 1, 10, .inr (.inl (x_slates_value 1)))), ((a_slates_value 3), .inl (c 1, 10, .inr (.inl (x_slates_value 3)))), ((a_slates_below 0), .inl (c 1, 10, .inr (.inl (x_slates_below 0)))), ((a_slates_below 1), .inl (c 1, 10, .inr (.inl (x_slates_below 1)))), ((a_slates_below 3), .inl (c 1, 10, .inr (.inl (x_slates_below 3))))]) (wf := [(a_this, .inr (7, [.ref a_text, .ref a_facts, .ref a_told, .ref a_now, .ref a_trial, .ref a_past, .int x_undoable, .ref a_kept, .int x_keptBits, .ref a_sightings, .ref a_plan, .ref a_slates, .ref a_reckoned])), (a_slates, .inl (c 4, 4, .inr (.inr (.inr (.inr xp_slates))))), ((a_slates_e 0), .inr (5, [.int (x_slates_sort 0), .int (x_slates_size 0), .ref (a_slates_value 0), .ref (a_slates_below 0)])), ((a_slates_e 1), .inr (5, [.int (x_slates_sort 1), .int (x_slates_size 1), .ref (a_slates_value 1), .ref (a_slates_below 1)])), ((a_slates_e 2), .inr (5, [.int (x_slates_sort 2), .int (x_slates_size 2), .ref (a_slates_value 2), .ref (a_slates_below 2)])), ((a_slates_e 3), .inr (5, [.int (x_slates_sort 3), .int (x_slates_size 3), .ref (a_slates_value 3), .ref (a_slates_below 3)])), (a_reckoned, .inr (1, [.long q14_0, .long q14_1])), ((a_slates_value 0), .inl (c 1, 10, .inr (.inl ((va_up x_slates_value 2 q14_2) 0)))), ((a_slates_value 1), .inl (c 1, 10, .inr (.inl ((va_up x_slates_value 2 q14_2) 1)))), ((a_slates_value 2), .inl (c 1, 10, .inr (.inl ((va_up x_slates_value 2 q14_2) 2)))), ((a_slates_value 3), .inl (c 1, 10, .inr (.inl ((va_up x_slates_value 2 q14_2) 3)))), ((a_slates_below 0), .inl (c 1, 10, .inr (.inl ((va_up x_slates_below 2 q14_3) 0)))), ((a_slates_below 1), .inl (c 1, 10, .inr (.inl ((va_up x_slates_below 2 q14_3) 1)))), ((a_slates_below 2), .inl (c 1, 10, .inr (.inl ((va_up x_slates_below 2 q14_3) 2)))), ((a_slates_below 3), .inl (c 1, 10, .inr (.inl ((va_up x_slates_below 2 q14_3) 3))))]) (x_goV (As := [.int v3, .int v4, .int v5, .ref a_reckoned]) (rest := []) ⟨hx, hb, hml, hown, hts⟩ (mX5_setPlace l D c (a_slates_e 2) a_reckoned (a_slates_value 2) (a_slates_below 2) H.size (x_slates_size 2) (x_slates_sort 2) x_reckoned_above x_reckoned_below (x_slates_value 2) (x_slates_below 2) v3 v4 v5 n _ _ _ _ hc14) (cwV 4 hts gX7_chalk_X5_setPlace rfl rfl rfl (by decide +kernel) ⟨Nat.le_of_ble_eq_true rfl, Nat.le_of_ble_eq_true rfl⟩) xB_t hP hD hK [4, 6, 9, 13] rfl (by decide) (fun _ _ _ => trivial) 4 5 rfl rfl rfl rfl hl.1 rfl (Nat.le_of_ble_eq_true rfl) dX7_chalk_73) hP hD hS hA [4, 6, 9, 13] [0, 1, 2, 3, 5, 7, 8, 10, 11, 12, 14] [0, 1, 2, 3, 11, 4, 12, 5, 6, 13, 7, 8, 9, 14, 10] rfl rfl rfl ⟨by decide, by decide, by decide⟩ (fun H locs hP hD hS => ?_)
      refine lv_iconst (v := 1) hx hb dX7_chalk_76 (by decide) ?_
      have g0 := x_some hr
      have e0 := x_p1 g0
      have g1 := x_p2 g0
      have e1 := x_p1 g1
      have g2 := x_p2 g1
      have e2 := x_p1 g2
      have g3 := x_p2 g2
      have e3 := x_p1 g3
      have e4 := x_p2 g3
      subst e0
      subst e1
      subst e2
      subst e3
      subst e4
      exact x_reti hx hb hret hlocks hP hD hK hS dX7_chalk_77
    · have hr := x_iff hr c_12
      refine lv_iload hx hb dX7_chalk_55 (lv_at hl 0 rfl) ?_
      have g0 := x_some hr
      have e0 := x_p1 g0
      have g1 := x_p2 g0
      have e1 := x_p1 g1
      have g2 := x_p2 g1
      have e2 := x_p1 g2
      have g3 := x_p2 g2
      have e3 := x_p1 g3
      have e4 := x_p2 g3
      subst e0
      subst e1
      subst e2
      subst e3
      subst e4
      exact x_reti hx hb hret hlocks hP hD hK hS dX7_chalk_57
  · refine W.eq (g2 := F0 m 43 ls [.ref (a_slates_e 3)]) (congrArg (fun z => F0 m 43 ls (va_rf z :: [])) (hp_slates 3 (by decide))) ?_
    refine lv_iload_n hx hb dX7_chalk_43 rfl (lv_at hl 2 rfl) ?_
    refine lv_iload_n hx hb dX7_chalk_44 rfl (lv_at hl 3 rfl) ?_
    obtain ⟨q15_0, hc15, hr⟩ := x_bind hr
    refine x_runi (wr := [(a_this, .inr (7, [.ref a_text, .ref a_facts, .ref a_told, .ref a_now, .ref a_trial, .ref a_past, .int x_undoable, .ref a_kept, .int x_keptBits, .ref a_sightings, .ref a_plan, .ref a_slates, .ref a_reckoned])), (a_slates, .inl (c 4, 4, .inr (.inr (.inr (.inr xp_slates))))), ((a_slates_e 0), .inr (5, [.int (x_slates_sort 0), .int (x_slates_size 0), .ref (a_slates_value 0), .ref (a_slates_below 0)])), ((a_slates_e 1), .inr (5, [.int (x_slates_sort 1), .int (x_slates_size 1), .ref (a_slates_value 1), .ref (a_slates_below 1)])), ((a_slates_e 2), .inr (5, [.int (x_slates_sort 2), .int (x_slates_size 2), .ref (a_slates_value 2), .ref (a_slates_below 2)])), (a_reckoned, .inr (1, [.long x_reckoned_above, .long x_reckoned_below])), ((a_slates_value 0), .inl (c 1, 10, .inr (.inl (x_slates_value 0)))), ((a_slates_value 1), .inl (c 1, 10, .inr (.inl (x_slates_value 1)))), ((a_slates_value 2), .inl (c 1, 10, .inr (.inl (x_slates_value 2)))), ((a_slates_value 3), .inl (c 1, 10, .inr (.inl (x_slates_value 3)))), ((a_slates_below 0), .inl (c 1, 10, .inr (.inl (x_slates_below 0)))), ((a_slates_below 1), .inl (c 1, 10, .inr (.inl (x_slates_below 1)))), ((a_slates_below 2), .inl (c 1, 10, .inr (.inl (x_slates_below 2)))), ((a_slates_below 3), .inl (c 1, 10, .inr (.inl (x_slates_below 3))))]) (wf := [(a_this, .inr (7, [.ref a_text, .ref a_facts, .ref a_told, .ref a_now, .ref a_trial, .ref a_past, .int x_undoable, .ref a_kept, .int x_keptBits, .ref a_sightings, .ref a_plan, .ref a_slates, .ref a_reckoned])), (a_slates, .inl (c 4, 4, .inr (.inr (.inr (.inr xp_slates))))), ((a_slates_e 0), .inr (5, [.int (x_slates_sort 0), .int (x_slates_size 0), .ref (a_slates_value 0), .ref (a_slates_below 0)])), ((a_slates_e 1), .inr (5, [.int (x_slates_sort 1), .int (x_slates_size 1), .ref (a_slates_value 1), .ref (a_slates_below 1)])), ((a_slates_e 2), .inr (5, [.int (x_slates_sort 2), .int (x_slates_size 2), .ref (a_slates_value 2), .ref (a_slates_below 2)])), ((a_slates_e 3), .inr (5, [.int (x_slates_sort 3), .int (x_slates_size 3), .ref (a_slates_value 3), .ref (a_slates_below 3)])), (a_reckoned, .inr (1, [.long x_reckoned_above, .long x_reckoned_below])), ((a_slates_value 0), .inl (c 1, 10, .inr (.inl (x_slates_value 0)))), ((a_slates_value 1), .inl (c 1, 10, .inr (.inl (x_slates_value 1)))), ((a_slates_value 2), .inl (c 1, 10, .inr (.inl (x_slates_value 2)))), ((a_slates_value 3), .inl (c 1, 10, .inr (.inl (x_slates_value 3)))), ((a_slates_below 0), .inl (c 1, 10, .inr (.inl (x_slates_below 0)))), ((a_slates_below 1), .inl (c 1, 10, .inr (.inl (x_slates_below 1)))), ((a_slates_below 2), .inl (c 1, 10, .inr (.inl (x_slates_below 2)))), ((a_slates_below 3), .inl (c 1, 10, .inr (.inl (x_slates_below 3))))]) (x_goV (As := [.int v2, .int v3]) (rest := []) ⟨hx, hb, hml, hown, hts⟩ (mX5_findPlace l D c (a_slates_e 3) (a_slates_value 3) (a_slates_below 3) H.size (x_slates_sort 3) (x_slates_size 3) v2 v3 n _ hc15) (cwV 2 hts gX7_chalk_X5_findPlace rfl rfl rfl (by decide +kernel) ⟨Nat.le_of_ble_eq_true rfl, Nat.le_of_ble_eq_true rfl⟩) xB_t hP hD hK [5] rfl (by decide) (fun _ _ _ => trivial) 5 5 rfl rfl rfl rfl hl.1 rfl (Nat.le_of_ble_eq_true rfl) dX7_chalk_45) hP hD hS hA [5] [0, 1, 2, 3, 4, 6, 7, 8, 9, 10, 11, 12, 13, 14] [0, 1, 2, 3, 4, 14, 5, 6, 7, 8, 9, 10, 11, 12, 13] rfl rfl rfl ⟨by decide, by decide, by decide⟩ (fun H locs hP hD hS => ?_)
    refine lv_istore (lv' := [(6, .int q15_0), (0, .ref a_this), (1, .int v1), (2, .int v2), (3, .int v3), (4, .int v4), (5, .int v5)]) hx hb dX7_chalk_48 hl (by decide) rfl (fun ls hl => ?_)
    refine lv_iload hx hb dX7_chalk_50 (lv_at hl 0 rfl) ?_
    refine lv_if_eq (tgt := 58) hx hb dX7_chalk_52 (by decide) (fun c_16 => ?_) (fun c_16 => ?_)
    · have hr := x_ift hr c_16
      refine lv_aload_n hx hb dX7_chalk_58 rfl (lv_at hl 1 rfl) ?_
      refine va_get (D := D) (ci := 7) (v := .ref a_slates) (C := RX7) (T := TX7) (N := 13) hx hb hts inX7_chalk_X7 hown hK hP 0 rfl rfl 11 (by decide) (hts _ lkX7_chalk_f59) (fun _ h9 => h9) rfl dX7_chalk_59 ?_
      refine lv_iload_n hx hb dX7_chalk_62 rfl (lv_at hl 2 rfl) ?_
      obtain ⟨b_17, hr⟩ := x_chk hr
      refine va_aldq hx hb hK hP 1 4 rfl rfl (x_vin he_2 b_17) dX7_chalk_63 ?_
      rw [he_2]
      refine W.eq (g2 := F0 m 64 ls [.ref (a_slates_e 3)]) (congrArg (fun z => F0 m 64 ls (va_rf z :: [])) (hp_slates 3 (by decide))) ?_
      refine lv_iload_n hx hb dX7_chalk_64 rfl (lv_at hl 4 rfl) ?_
      refine lv_iload hx hb dX7_chalk_65 (lv_at hl 5 rfl) ?_
      refine lv_iload hx hb dX7_chalk_67 (lv_at hl 6 rfl) ?_
      refine lv_aload_n hx hb dX7_chalk_69 rfl (lv_at hl 1 rfl) ?_
      refine va_get (D := D) (ci := 7) (v := .ref a_reckoned) (C := RX7) (T := TX7) (N := 13) hx hb hts inX7_chalk_X7 hown hK hP 0 rfl rfl 12 (by decide) (hts _ lkX7_chalk_f66) (fun _ h9 => h9) rfl dX7_chalk_70 ?_
      obtain ⟨⟨q18_0, q18_1, q18_2, q18_3⟩, hc18, hr⟩ := x_bind hr
      try dsimp only at hr
      refine x_runv (wr := [(a_this, .inr (7, [.ref a_text, .ref a_facts, .ref a_told, .ref a_now, .ref a_trial, .ref a_past, .int x_undoable, .ref a_kept, .int x_keptBits, .ref a_sightings, .ref a_plan, .ref a_slates, .ref a_reckoned])), (a_slates, .inl (c 4, 4, .inr (.inr (.inr (.inr xp_slates))))), ((a_slates_e 0), .inr (5, [.int (x_slates_sort 0), .int (x_slates_size 0), .ref (a_slates_value 0), .ref (a_slates_below 0)])), ((a_slates_e 1), .inr (5, [.int (x_slates_sort 1), .int (x_slates_size 1), .ref (a_slates_value 1), .ref (a_slates_below 1)])), ((a_slates_e 2), .inr (5, [.int (x_slates_sort 2), .int (x_slates_size 2), .ref (a_slates_value 2), .ref (a_slates_below 2)])), ((a_slates_value 0), .inl (c 1, 10, .inr (.inl (x_slates_value 0)))), ((a_slates_value 1), .inl (c 1, 10, .inr (.inl (x_slates_value 1)))), ((a_slates_value 2), .inl (c 1, 10, .inr (.inl (x_slates_value 2)))), ((a_slates_below 0), .inl (c 1, 10, .inr (.inl (x_slates_below 0)))), ((a_slates_below 1), .inl (c 1, 10, .inr (.inl (x_slates_below 1)))), ((a_slates_below 2), .inl (c 1, 10, .inr (.inl (x_slates_below 2))))]) (wf := [(a_this, .inr (7, [.ref a_text, .ref a_facts, .ref a_told, .ref a_now, .ref a_trial, .ref a_past, .int x_undoable, .ref a_kept, .int x_keptBits, .ref a_sightings, .ref a_plan, .ref a_slates, .ref a_reckoned])), (a_slates, .inl (c 4, 4, .inr (.inr (.inr (.inr xp_slates))))), ((a_slates_e 0), .inr (5, [.int (x_slates_sort 0), .int (x_slates_size 0), .ref (a_slates_value 0), .ref (a_slates_below 0)])), ((a_slates_e 1), .inr (5, [.int (x_slates_sort 1), .int (x_slates_size 1), .ref (a_slates_value 1), .ref (a_slates_below 1)])), ((a_slates_e 2), .inr (5, [.int (x_slates_sort 2), .int (x_slates_size 2), .ref (a_slates_value 2), .ref (a_slates_below 2)])), ((a_slates_e 3), .inr (5, [.int (x_slates_sort 3), .int (x_slates_size 3), .ref (a_slates_value 3), .ref (a_slates_below 3)])), (a_reckoned, .inr (1, [.long q18_0, .long q18_1])), ((a_slates_value 0), .inl (c 1, 10, .inr (.inl ((va_up x_slates_value 3 q18_2) 0)))), ((a_slates_value 1), .inl (c 1, 10, .inr (.inl ((va_up x_slates_value 3 q18_2) 1)))), ((a_slates_value 2), .inl (c 1, 10, .inr (.inl ((va_up x_slates_value 3 q18_2) 2)))), ((a_slates_value 3), .inl (c 1, 10, .inr (.inl ((va_up x_slates_value 3 q18_2) 3)))), ((a_slates_below 0), .inl (c 1, 10, .inr (.inl ((va_up x_slates_below 3 q18_3) 0)))), ((a_slates_below 1), .inl (c 1, 10, .inr (.inl ((va_up x_slates_below 3 q18_3) 1)))), ((a_slates_below 2), .inl (c 1, 10, .inr (.inl ((va_up x_slates_below 3 q18_3) 2)))), ((a_slates_below 3), .inl (c 1, 10, .inr (.inl ((va_up x_slates_below 3 q18_3) 3))))]) (x_goV (As := [.int v3, .int v4, .int v5, .ref a_reckoned]) (rest := []) ⟨hx, hb, hml, hown, hts⟩ (mX5_setPlace l D c (a_slates_e 3) a_reckoned (a_slates_value 3) (a_slates_below 3) H.size (x_slates_size 3) (x_slates_sort 3) x_reckoned_above x_reckoned_below (x_slates_value 3) (x_slates_below 3) v3 v4 v5 n _ _ _ _ hc18) (cwV 4 hts gX7_chalk_X5_setPlace rfl rfl rfl (by decide +kernel) ⟨Nat.le_of_ble_eq_true rfl, Nat.le_of_ble_eq_true rfl⟩) xB_t hP hD hK [5, 6, 10, 14] rfl (by decide) (fun _ _ _ => trivial) 5 5 rfl rfl rfl rfl hl.1 rfl (Nat.le_of_ble_eq_true rfl) dX7_chalk_73) hP hD hS hA [5, 6, 10, 14] [0, 1, 2, 3, 4, 7, 8, 9, 11, 12, 13] [0, 1, 2, 3, 4, 11, 12, 5, 6, 7, 13, 8, 9, 10, 14] rfl rfl rfl ⟨by decide, by decide, by decide⟩ (fun H locs hP hD hS => ?_)
      refine lv_iconst (v := 1) hx hb dX7_chalk_76 (by decide) ?_
      have g0 := x_some hr
      have e0 := x_p1 g0
      have g1 := x_p2 g0
      have e1 := x_p1 g1
      have g2 := x_p2 g1
      have e2 := x_p1 g2
      have g3 := x_p2 g2
      have e3 := x_p1 g3
      have e4 := x_p2 g3
      subst e0
      subst e1
      subst e2
      subst e3
      subst e4
      exact x_reti hx hb hret hlocks hP hD hK hS dX7_chalk_77
    · have hr := x_iff hr c_16
      refine lv_iload hx hb dX7_chalk_55 (lv_at hl 0 rfl) ?_
      have g0 := x_some hr
      have e0 := x_p1 g0
      have g1 := x_p2 g0
      have e1 := x_p1 g1
      have g2 := x_p2 g1
      have e2 := x_p1 g2
      have g3 := x_p2 g2
      have e3 := x_p1 g3
      have e4 := x_p2 g3
      subst e0
      subst e1
      subst e2
      subst e3
      subst e4
      exact x_reti hx hb hret hlocks hP hD hK hS dX7_chalk_57
set_option maxHeartbeats 4000000 in
set_option maxRecDepth 100000 in
theorem kX7_chalk_0 {p : Program} {l : Launch} {e : Env} {s : State} {m : MethodId} {args : Array Value} {below : List Frame} {meth : Method} {cd : Code} {D : va_G} {c : Nat → ClassId} {A : Nat → Prop} (E0 : xE p s m args meth cd D (xT c) A RX7 cX7_chalk 7 (some .int) wsX7_chalk) (a_this : Nat) (a_text : Nat) (a_facts : Nat) (a_told : Nat) (a_now : Nat) (a_trial : Nat) (a_past : Nat) (a_kept : Nat) (a_sightings : Nat) (a_plan : Nat) (a_slates : Nat) (a_reckoned : Nat) (a_slates_e : Nat → Nat) (a_slates_value : Nat → Nat) (a_slates_below : Nat → Nat) (x_undoable : Int32) (x_keptBits : Int32) (xp_slates : Nat → Option Nat) (x_slates_sort : Nat → Int32) (x_slates_size : Nat → Int32) (n : Nat) (r_ret : Int32) (rm_reckoned_above : Int64) (rm_reckoned_below : Int64) (rm_slates_value : Nat → Nat → Int64) (rm_slates_below : Nat → Nat → Int64) (hp_slates : ∀ j, j < 4 → xp_slates j = some (a_slates_e j)) (x_reckoned_above : Int64) (x_reckoned_below : Int64) (x_slates_value : Nat → Nat → Int64) (x_slates_below : Nat → Nat → Int64) (v1 : Int32) (v2 : Int32) (v3 : Int32) (v4 : Int32) (v5 : Int32) (hr : fX7_chalk n x_slates_sort x_slates_size x_reckoned_above x_reckoned_below x_slates_value x_slates_below v1 v2 v3 v4 v5 = some (r_ret, rm_reckoned_above, rm_reckoned_below, rm_slates_value, rm_slates_below)) : GX7_chalk p l e s m args below meth cd D c A a_this a_text a_facts a_told a_now a_trial a_past a_kept a_sightings a_plan a_slates a_reckoned a_slates_e a_slates_value a_slates_below x_undoable x_keptBits xp_slates x_slates_sort x_slates_size r_ret rm_reckoned_above rm_reckoned_below rm_slates_value rm_slates_below 0 [] [(0, .ref a_this), (1, .int v1), (2, .int v2), (3, .int v3), (4, .int v4), (5, .int v5)] x_reckoned_above x_reckoned_below x_slates_value x_slates_below := by
  have E1 := E0
  obtain ⟨hx, hb, hml, hret, hown, hts, hlocks, hA, hK⟩ := E1
  intro H locs ls hP hD hS hl
  unfold fX7_chalk at hr
  refine lv_iload_n hx hb dX7_chalk_0 rfl (lv_at hl 1 rfl) ?_
  obtain ⟨q1_0, hc1, hr⟩ := x_bind hr
  refine x_runi (wr := [(a_this, .inr (7, [.ref a_text, .ref a_facts, .ref a_told, .ref a_now, .ref a_trial, .ref a_past, .int x_undoable, .ref a_kept, .int x_keptBits, .ref a_sightings, .ref a_plan, .ref a_slates, .ref a_reckoned])), (a_slates, .inl (c 4, 4, .inr (.inr (.inr (.inr xp_slates))))), ((a_slates_e 0), .inr (5, [.int (x_slates_sort 0), .int (x_slates_size 0), .ref (a_slates_value 0), .ref (a_slates_below 0)])), ((a_slates_e 1), .inr (5, [.int (x_slates_sort 1), .int (x_slates_size 1), .ref (a_slates_value 1), .ref (a_slates_below 1)])), ((a_slates_e 2), .inr (5, [.int (x_slates_sort 2), .int (x_slates_size 2), .ref (a_slates_value 2), .ref (a_slates_below 2)])), ((a_slates_e 3), .inr (5, [.int (x_slates_sort 3), .int (x_slates_size 3), .ref (a_slates_value 3), .ref (a_slates_below 3)])), (a_reckoned, .inr (1, [.long x_reckoned_above, .long x_reckoned_below])), ((a_slates_value 0), .inl (c 1, 10, .inr (.inl (x_slates_value 0)))), ((a_slates_value 1), .inl (c 1, 10, .inr (.inl (x_slates_value 1)))), ((a_slates_value 2), .inl (c 1, 10, .inr (.inl (x_slates_value 2)))), ((a_slates_value 3), .inl (c 1, 10, .inr (.inl (x_slates_value 3)))), ((a_slates_below 0), .inl (c 1, 10, .inr (.inl (x_slates_below 0)))), ((a_slates_below 1), .inl (c 1, 10, .inr (.inl (x_slates_below 1)))), ((a_slates_below 2), .inl (c 1, 10, .inr (.inl (x_slates_below 2)))), ((a_slates_below 3), .inl (c 1, 10, .inr (.inl (x_slates_below 3))))]) (wf := [(a_this, .inr (7, [.ref a_text, .ref a_facts, .ref a_told, .ref a_now, .ref a_trial, .ref a_past, .int x_undoable, .ref a_kept, .int x_keptBits, .ref a_sightings, .ref a_plan, .ref a_slates, .ref a_reckoned])), (a_slates, .inl (c 4, 4, .inr (.inr (.inr (.inr xp_slates))))), ((a_slates_e 0), .inr (5, [.int (x_slates_sort 0), .int (x_slates_size 0), .ref (a_slates_value 0), .ref (a_slates_below 0)])), ((a_slates_e 1), .inr (5, [.int (x_slates_sort 1), .int (x_slates_size 1), .ref (a_slates_value 1), .ref (a_slates_below 1)])), ((a_slates_e 2), .inr (5, [.int (x_slates_sort 2), .int (x_slates_size 2), .ref (a_slates_value 2), .ref (a_slates_below 2)])), ((a_slates_e 3), .inr (5, [.int (x_slates_sort 3), .int (x_slates_size 3), .ref (a_slates_value 3), .ref (a_slates_below 3)])), (a_reckoned, .inr (1, [.long x_reckoned_above, .long x_reckoned_below])), ((a_slates_value 0), .inl (c 1, 10, .inr (.inl (x_slates_value 0)))), ((a_slates_value 1), .inl (c 1, 10, .inr (.inl (x_slates_value 1)))), ((a_slates_value 2), .inl (c 1, 10, .inr (.inl (x_slates_value 2)))), ((a_slates_value 3), .inl (c 1, 10, .inr (.inl (x_slates_value 3)))), ((a_slates_below 0), .inl (c 1, 10, .inr (.inl (x_slates_below 0)))), ((a_slates_below 1), .inl (c 1, 10, .inr (.inl (x_slates_below 1)))), ((a_slates_below 2), .inl (c 1, 10, .inr (.inl (x_slates_below 2)))), ((a_slates_below 3), .inl (c 1, 10, .inr (.inl (x_slates_below 3))))]) (x_goS (As := [.int v1]) (rest := []) ⟨hx, hb, hml, hown, hts⟩ (mX7_isSlate l D c H.size v1 n _ hc1) (va_cwS 1 hts gX7_chalk_X7_isSlate rfl rfl rfl (by decide +kernel) ⟨Nat.le_of_ble_eq_true rfl, Nat.le_of_ble_eq_true rfl⟩) xB_t hP hD hK [] rfl (by decide) (fun _ _ _ => trivial) rfl hl.1 rfl (Nat.le_of_ble_eq_true rfl) dX7_chalk_1) hP hD hS hA [] [0, 1, 2, 3, 4, 5, 6, 7, 8, 9, 10, 11, 12, 13, 14] [0, 1, 2, 3, 4, 5, 6, 7, 8, 9, 10, 11, 12, 13, 14] rfl rfl rfl ⟨by decide, by decide, by decide⟩ (fun H locs hP hD hS => ?_)
  refine lv_if_ne (tgt := 10) hx hb dX7_chalk_4 (by decide) (fun c_2 => ?_) (fun c_2 => ?_)
  · have hr := x_iff hr c_2
    refine lv_iload_n hx hb dX7_chalk_10 rfl (lv_at hl 2 rfl) ?_
    obtain ⟨q3_0, hc3, hr⟩ := x_bind hr
    refine x_runi (wr := [(a_this, .inr (7, [.ref a_text, .ref a_facts, .ref a_told, .ref a_now, .ref a_trial, .ref a_past, .int x_undoable, .ref a_kept, .int x_keptBits, .ref a_sightings, .ref a_plan, .ref a_slates, .ref a_reckoned])), (a_slates, .inl (c 4, 4, .inr (.inr (.inr (.inr xp_slates))))), ((a_slates_e 0), .inr (5, [.int (x_slates_sort 0), .int (x_slates_size 0), .ref (a_slates_value 0), .ref (a_slates_below 0)])), ((a_slates_e 1), .inr (5, [.int (x_slates_sort 1), .int (x_slates_size 1), .ref (a_slates_value 1), .ref (a_slates_below 1)])), ((a_slates_e 2), .inr (5, [.int (x_slates_sort 2), .int (x_slates_size 2), .ref (a_slates_value 2), .ref (a_slates_below 2)])), ((a_slates_e 3), .inr (5, [.int (x_slates_sort 3), .int (x_slates_size 3), .ref (a_slates_value 3), .ref (a_slates_below 3)])), (a_reckoned, .inr (1, [.long x_reckoned_above, .long x_reckoned_below])), ((a_slates_value 0), .inl (c 1, 10, .inr (.inl (x_slates_value 0)))), ((a_slates_value 1), .inl (c 1, 10, .inr (.inl (x_slates_value 1)))), ((a_slates_value 2), .inl (c 1, 10, .inr (.inl (x_slates_value 2)))), ((a_slates_value 3), .inl (c 1, 10, .inr (.inl (x_slates_value 3)))), ((a_slates_below 0), .inl (c 1, 10, .inr (.inl (x_slates_below 0)))), ((a_slates_below 1), .inl (c 1, 10, .inr (.inl (x_slates_below 1)))), ((a_slates_below 2), .inl (c 1, 10, .inr (.inl (x_slates_below 2)))), ((a_slates_below 3), .inl (c 1, 10, .inr (.inl (x_slates_below 3))))]) (wf := [(a_this, .inr (7, [.ref a_text, .ref a_facts, .ref a_told, .ref a_now, .ref a_trial, .ref a_past, .int x_undoable, .ref a_kept, .int x_keptBits, .ref a_sightings, .ref a_plan, .ref a_slates, .ref a_reckoned])), (a_slates, .inl (c 4, 4, .inr (.inr (.inr (.inr xp_slates))))), ((a_slates_e 0), .inr (5, [.int (x_slates_sort 0), .int (x_slates_size 0), .ref (a_slates_value 0), .ref (a_slates_below 0)])), ((a_slates_e 1), .inr (5, [.int (x_slates_sort 1), .int (x_slates_size 1), .ref (a_slates_value 1), .ref (a_slates_below 1)])), ((a_slates_e 2), .inr (5, [.int (x_slates_sort 2), .int (x_slates_size 2), .ref (a_slates_value 2), .ref (a_slates_below 2)])), ((a_slates_e 3), .inr (5, [.int (x_slates_sort 3), .int (x_slates_size 3), .ref (a_slates_value 3), .ref (a_slates_below 3)])), (a_reckoned, .inr (1, [.long x_reckoned_above, .long x_reckoned_below])), ((a_slates_value 0), .inl (c 1, 10, .inr (.inl (x_slates_value 0)))), ((a_slates_value 1), .inl (c 1, 10, .inr (.inl (x_slates_value 1)))), ((a_slates_value 2), .inl (c 1, 10, .inr (.inl (x_slates_value 2)))), ((a_slates_value 3), .inl (c 1, 10, .inr (.inl (x_slates_value 3)))), ((a_slates_below 0), .inl (c 1, 10, .inr (.inl (x_slates_below 0)))), ((a_slates_below 1), .inl (c 1, 10, .inr (.inl (x_slates_below 1)))), ((a_slates_below 2), .inl (c 1, 10, .inr (.inl (x_slates_below 2)))), ((a_slates_below 3), .inl (c 1, 10, .inr (.inl (x_slates_below 3))))]) (x_goS (As := [.int v2]) (rest := []) ⟨hx, hb, hml, hown, hts⟩ (mX7_isSort l D c H.size v2 n _ hc3) (va_cwS 1 hts gX7_chalk_X7_isSort rfl rfl rfl (by decide +kernel) ⟨Nat.le_of_ble_eq_true rfl, Nat.le_of_ble_eq_true rfl⟩) xB_t hP hD hK [] rfl (by decide) (fun _ _ _ => trivial) rfl hl.1 rfl (Nat.le_of_ble_eq_true rfl) dX7_chalk_11) hP hD hS hA [] [0, 1, 2, 3, 4, 5, 6, 7, 8, 9, 10, 11, 12, 13, 14] [0, 1, 2, 3, 4, 5, 6, 7, 8, 9, 10, 11, 12, 13, 14] rfl rfl rfl ⟨by decide, by decide, by decide⟩ (fun H locs hP hD hS => ?_)
    refine lv_if_eq (tgt := 34) hx hb dX7_chalk_14 (by decide) (fun c_4 => ?_) (fun c_4 => ?_)
    · have hr := x_ift hr c_4
      exact kX7_chalk_34 E0 a_this a_text a_facts a_told a_now a_trial a_past a_kept a_sightings a_plan a_slates a_reckoned a_slates_e a_slates_value a_slates_below x_undoable x_keptBits xp_slates x_slates_sort x_slates_size n r_ret rm_reckoned_above rm_reckoned_below rm_slates_value rm_slates_below hp_slates x_reckoned_above x_reckoned_below x_slates_value x_slates_below hr H locs ls hP hD hS (lv_sub hl [] rfl)
    · have hr := x_iff hr c_4
      refine lv_iload_n hx hb dX7_chalk_17 rfl (lv_at hl 2 rfl) ?_
      refine lv_iconst (v := 2) hx hb dX7_chalk_18 (by decide) ?_
      refine lv_icmp_ne (tgt := 37) hx hb dX7_chalk_19 (by decide) (fun c_5 => ?_) (fun c_5 => ?_)
      · have hr := x_iff hr c_5
        exact kX7_chalk_37 E0 a_this a_text a_facts a_told a_now a_trial a_past a_kept a_sightings a_plan a_slates a_reckoned a_slates_e a_slates_value a_slates_below x_undoable x_keptBits xp_slates x_slates_sort x_slates_size n r_ret rm_reckoned_above rm_reckoned_below rm_slates_value rm_slates_below hp_slates x_reckoned_above x_reckoned_below x_slates_value x_slates_below v1 v2 v3 v4 v5 hr H locs ls hP hD hS (lv_sub hl [0, 1, 2, 3, 4, 5] rfl)
      · have hr := x_ift hr c_5
        refine lv_iload hx hb dX7_chalk_22 (lv_at hl 4 rfl) ?_
        refine lv_i2l hx hb dX7_chalk_24 rfl ?_
        refine lv_iload hx hb dX7_chalk_25 (lv_at hl 5 rfl) ?_
        refine lv_i2l hx hb dX7_chalk_27 rfl ?_
        obtain ⟨q6_0, hc6, hr⟩ := x_bind hr
        refine x_runi (wr := [(a_this, .inr (7, [.ref a_text, .ref a_facts, .ref a_told, .ref a_now, .ref a_trial, .ref a_past, .int x_undoable, .ref a_kept, .int x_keptBits, .ref a_sightings, .ref a_plan, .ref a_slates, .ref a_reckoned])), (a_slates, .inl (c 4, 4, .inr (.inr (.inr (.inr xp_slates))))), ((a_slates_e 0), .inr (5, [.int (x_slates_sort 0), .int (x_slates_size 0), .ref (a_slates_value 0), .ref (a_slates_below 0)])), ((a_slates_e 1), .inr (5, [.int (x_slates_sort 1), .int (x_slates_size 1), .ref (a_slates_value 1), .ref (a_slates_below 1)])), ((a_slates_e 2), .inr (5, [.int (x_slates_sort 2), .int (x_slates_size 2), .ref (a_slates_value 2), .ref (a_slates_below 2)])), ((a_slates_e 3), .inr (5, [.int (x_slates_sort 3), .int (x_slates_size 3), .ref (a_slates_value 3), .ref (a_slates_below 3)])), (a_reckoned, .inr (1, [.long x_reckoned_above, .long x_reckoned_below])), ((a_slates_value 0), .inl (c 1, 10, .inr (.inl (x_slates_value 0)))), ((a_slates_value 1), .inl (c 1, 10, .inr (.inl (x_slates_value 1)))), ((a_slates_value 2), .inl (c 1, 10, .inr (.inl (x_slates_value 2)))), ((a_slates_value 3), .inl (c 1, 10, .inr (.inl (x_slates_value 3)))), ((a_slates_below 0), .inl (c 1, 10, .inr (.inl (x_slates_below 0)))), ((a_slates_below 1), .inl (c 1, 10, .inr (.inl (x_slates_below 1)))), ((a_slates_below 2), .inl (c 1, 10, .inr (.inl (x_slates_below 2)))), ((a_slates_below 3), .inl (c 1, 10, .inr (.inl (x_slates_below 3))))]) (wf := [(a_this, .inr (7, [.ref a_text, .ref a_facts, .ref a_told, .ref a_now, .ref a_trial, .ref a_past, .int x_undoable, .ref a_kept, .int x_keptBits, .ref a_sightings, .ref a_plan, .ref a_slates, .ref a_reckoned])), (a_slates, .inl (c 4, 4, .inr (.inr (.inr (.inr xp_slates))))), ((a_slates_e 0), .inr (5, [.int (x_slates_sort 0), .int (x_slates_size 0), .ref (a_slates_value 0), .ref (a_slates_below 0)])), ((a_slates_e 1), .inr (5, [.int (x_slates_sort 1), .int (x_slates_size 1), .ref (a_slates_value 1), .ref (a_slates_below 1)])), ((a_slates_e 2), .inr (5, [.int (x_slates_sort 2), .int (x_slates_size 2), .ref (a_slates_value 2), .ref (a_slates_below 2)])), ((a_slates_e 3), .inr (5, [.int (x_slates_sort 3), .int (x_slates_size 3), .ref (a_slates_value 3), .ref (a_slates_below 3)])), (a_reckoned, .inr (1, [.long x_reckoned_above, .long x_reckoned_below])), ((a_slates_value 0), .inl (c 1, 10, .inr (.inl (x_slates_value 0)))), ((a_slates_value 1), .inl (c 1, 10, .inr (.inl (x_slates_value 1)))), ((a_slates_value 2), .inl (c 1, 10, .inr (.inl (x_slates_value 2)))), ((a_slates_value 3), .inl (c 1, 10, .inr (.inl (x_slates_value 3)))), ((a_slates_below 0), .inl (c 1, 10, .inr (.inl (x_slates_below 0)))), ((a_slates_below 1), .inl (c 1, 10, .inr (.inl (x_slates_below 1)))), ((a_slates_below 2), .inl (c 1, 10, .inr (.inl (x_slates_below 2)))), ((a_slates_below 3), .inl (c 1, 10, .inr (.inl (x_slates_below 3))))]) (x_goS (As := [.long v4.toInt64, .long v5.toInt64]) (rest := []) ⟨hx, hb, hml, hown, hts⟩ (mX7_isPart l D c H.size v4.toInt64 v5.toInt64 n _ hc6) (va_cwS 2 hts gX7_chalk_X7_isPart rfl rfl rfl (by decide +kernel) ⟨Nat.le_of_ble_eq_true rfl, Nat.le_of_ble_eq_true rfl⟩) xB_t hP hD hK [] rfl (by decide) (fun _ _ _ => trivial) rfl hl.1 rfl (Nat.le_of_ble_eq_true rfl) dX7_chalk_28) hP hD hS hA [] [0, 1, 2, 3, 4, 5, 6, 7, 8, 9, 10, 11, 12, 13, 14] [0, 1, 2, 3, 4, 5, 6, 7, 8, 9, 10, 11, 12, 13, 14] rfl rfl rfl ⟨by decide, by decide, by decide⟩ (fun H locs hP hD hS => ?_)
        refine lv_if_ne (tgt := 37) hx hb dX7_chalk_31 (by decide) (fun c_7 => ?_) (fun c_7 => ?_)
        · have hr := x_iff hr c_7
          exact kX7_chalk_37 E0 a_this a_text a_facts a_told a_now a_trial a_past a_kept a_sightings a_plan a_slates a_reckoned a_slates_e a_slates_value a_slates_below x_undoable x_keptBits xp_slates x_slates_sort x_slates_size n r_ret rm_reckoned_above rm_reckoned_below rm_slates_value rm_slates_below hp_slates x_reckoned_above x_reckoned_below x_slates_value x_slates_below v1 v2 v3 v4 v5 hr H locs ls hP hD hS (lv_sub hl [0, 1, 2, 3, 4, 5] rfl)
        · have hr := x_ift hr c_7
          exact kX7_chalk_34 E0 a_this a_text a_facts a_told a_now a_trial a_past a_kept a_sightings a_plan a_slates a_reckoned a_slates_e a_slates_value a_slates_below x_undoable x_keptBits xp_slates x_slates_sort x_slates_size n r_ret rm_reckoned_above rm_reckoned_below rm_slates_value rm_slates_below hp_slates x_reckoned_above x_reckoned_below x_slates_value x_slates_below hr H locs ls hP hD hS (lv_sub hl [] rfl)
  · have hr := x_ift hr c_2
    refine lv_bipush (v := (-2)) hx hb dX7_chalk_7 (by decide) ?_
    have g0 := x_some hr
    have e0 := x_p1 g0
    have g1 := x_p2 g0
    have e1 := x_p1 g1
    have g2 := x_p2 g1
    have e2 := x_p1 g2
    have g3 := x_p2 g2
    have e3 := x_p1 g3
    have e4 := x_p2 g3
    subst e0
    subst e1
    subst e2
    subst e3
    subst e4
    exact x_reti hx hb hret hlocks hP hD hK hS dX7_chalk_9
set_option maxHeartbeats 4000000 in
set_option maxRecDepth 100000 in
theorem mX7_chalk (l : Launch) (D : va_G) (c : Nat → ClassId) (a_this : Nat) (a_text : Nat) (a_facts : Nat) (a_told : Nat) (a_now : Nat) (a_trial : Nat) (a_past : Nat) (a_kept : Nat) (a_sightings : Nat) (a_plan : Nat) (a_slates : Nat) (a_reckoned : Nat) (a_slates_e : Nat → Nat) (a_slates_value : Nat → Nat) (a_slates_below : Nat → Nat) (sz : Nat) (x_undoable : Int32) (x_keptBits : Int32) (xp_slates : Nat → Option Nat) (x_slates_sort : Nat → Int32) (x_slates_size : Nat → Int32) (x_reckoned_above : Int64) (x_reckoned_below : Int64) (x_slates_value : Nat → Nat → Int64) (x_slates_below : Nat → Nat → Int64) (v1 : Int32) (v2 : Int32) (v3 : Int32) (v4 : Int32) (v5 : Int32) (n : Nat) (r_ret : Int32) (rm_reckoned_above : Int64) (rm_reckoned_below : Int64) (rm_slates_value : Nat → Nat → Int64) (rm_slates_below : Nat → Nat → Int64) (h : fX7_chalk n x_slates_sort x_slates_size x_reckoned_above x_reckoned_below x_slates_value x_slates_below v1 v2 v3 v4 v5 = some (r_ret, rm_reckoned_above, rm_reckoned_below, rm_slates_value, rm_slates_below)) (hp_slates : ∀ j, j < 4 → xp_slates j = some (a_slates_e j)) : Met l yX7_chalk wsX7_chalk ({ frames := 3, cells := 0, slots := 0, locals := 150 } : Room) (xPc D (xT c) sz [.ref a_this, .int v1, .int v2, .int v3, .int v4, .int v5] (wX7_chalk c a_this a_text a_facts a_told a_now a_trial a_past a_kept a_sightings a_plan a_slates a_reckoned a_slates_e a_slates_value a_slates_below x_undoable x_keptBits xp_slates x_slates_sort x_slates_size x_reckoned_above x_reckoned_below x_slates_value x_slates_below) (fun _ => True)) (xQi D (xT c) (va_A (wX7_chalk c a_this a_text a_facts a_told a_now a_trial a_past a_kept a_sightings a_plan a_slates a_reckoned a_slates_e a_slates_value a_slates_below x_undoable x_keptBits xp_slates x_slates_sort x_slates_size x_reckoned_above x_reckoned_below x_slates_value x_slates_below) sz) r_ret (wX7_chalk c a_this a_text a_facts a_told a_now a_trial a_past a_kept a_sightings a_plan a_slates a_reckoned a_slates_e a_slates_value a_slates_below x_undoable x_keptBits xp_slates x_slates_sort x_slates_size rm_reckoned_above rm_reckoned_below rm_slates_value rm_slates_below)) 0 0 (va_A (wX7_chalk c a_this a_text a_facts a_told a_now a_trial a_past a_kept a_sightings a_plan a_slates a_reckoned a_slates_e a_slates_value a_slates_below x_undoable x_keptBits xp_slates x_slates_sort x_slates_size x_reckoned_above x_reckoned_below x_slates_value x_slates_below) sz) := by
  refine Met.ofW (cc := cX7_chalk) (maxL := 7) (ret := (some .int)) (by decide) rfl ?_
  intro p e s m args below meth cd s₁ B hml hv
  obtain ⟨rfl, hsz, hP, hK, hD0, hV⟩ := hv
  subst hsz
  have hl := lv_entry [.ref a_this, .int v1, .int v2, .int v3, .int v4, .int v5] (n := 7) (Nat.le_of_ble_eq_true rfl)
  rw [lg_entry_eq]
  exact kX7_chalk_0 (A := va_A (wX7_chalk c a_this a_text a_facts a_told a_now a_trial a_past a_kept a_sightings a_plan a_slates a_reckoned a_slates_e a_slates_value a_slates_below x_undoable x_keptBits xp_slates x_slates_sort x_slates_size x_reckoned_above x_reckoned_below x_slates_value x_slates_below) s.heap.size) ⟨B.exec, B.bytes, hml, B.returns, findClass_of_methodNamed B.named, atoms_spec (ws := wsX7_chalk) B.pre, B.notSynchronized, fun q h => Or.inr h, hK⟩ a_this a_text a_facts a_told a_now a_trial a_past a_kept a_sightings a_plan a_slates a_reckoned a_slates_e a_slates_value a_slates_below x_undoable x_keptBits xp_slates x_slates_sort x_slates_size n r_ret rm_reckoned_above rm_reckoned_below rm_slates_value rm_slates_below hp_slates x_reckoned_above x_reckoned_below x_slates_value x_slates_below v1 v2 v3 v4 v5 h s.heap [] _ hP hD0.self va_S.rf hl

