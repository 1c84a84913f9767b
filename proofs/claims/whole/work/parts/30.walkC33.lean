abbrev wX7_slate (c : Nat → ClassId) (a_this : Nat) (a_text : Nat) (a_facts : Nat) (a_told : Nat) (a_now : Nat) (a_trial : Nat) (a_past : Nat) (a_kept : Nat) (a_sightings : Nat) (a_plan : Nat) (a_slates : Nat) (a_reckoned : Nat) (a_slates_e : Nat → Nat) (a_slates_value : Nat → Nat) (a_slates_below : Nat → Nat) (x_undoable : Int32) (x_keptBits : Int32) (xp_slates : Nat → Option Nat) (x_slates_sort : Nat → Int32) (x_slates_size : Nat → Int32) (x_slates_value : Nat → Nat → Int64) (x_slates_below : Nat → Nat → Int64) : va_W := [(a_this, .inr (7, [.ref a_text, .ref a_facts, .ref a_told, .ref a_now, .ref a_trial, .ref a_past, .int x_undoable, .ref a_kept, .int x_keptBits, .ref a_sightings, .ref a_plan, .ref a_slates, .ref a_reckoned])), (a_slates, .inl (c 4, 4, .inr (.inr (.inr (.inr xp_slates))))), ((a_slates_e 0), .inr (5, [.int (x_slates_sort 0), .int (x_slates_size 0), .ref (a_slates_value 0), .ref (a_slates_below 0)])), ((a_slates_e 1), .inr (5, [.int (x_slates_sort 1), .int (x_slates_size 1), .ref (a_slates_value 1), .ref (a_slates_below 1)])), ((a_slates_e 2), .inr (5, [.int (x_slates_sort 2), .int (x_slates_size 2), .ref (a_slates_value 2), .ref (a_slates_below 2)])), ((a_slates_e 3), .inr (5, [.int (x_slates_sort 3), .int (x_slates_size 3), .ref (a_slates_value 3), .ref (a_slates_below 3)])), ((a_slates_value 0), .inl (c 1, 10, .inr (.inl (x_slates_value 0)))), ((a_slates_value 1), .inl (c 1, 10, .inr (.inl (x_slates_value 1)))), ((a_slates_value 2), .inl (c 1, 10, .inr (.inl (x_slates_value 2)))), ((a_slates_value 3), .inl (c 1, 10, .inr (.inl (x_slates_value 3)))), ((a_slates_below 0), .inl (c 1, 10, .inr (.inl (x_slates_below 0)))), ((a_slates_below 1), .inl (c 1, 10, .inr (.inl (x_slates_below 1)))), ((a_slates_below 2), .inl (c 1, 10, .inr (.inl (x_slates_below 2)))), ((a_slates_below 3), .inl (c 1, 10, .inr (.inl (x_slates_below 3))))]
def GX7_slate (p : Program) (l : Launch) (e : Env) (s : State) (m : MethodId) (args : Array Value) (below : List Frame) (meth : Method) (cd : Code) (D : va_G) (c : Nat → ClassId) (A : Nat → Prop) (a_this : Nat) (a_text : Nat) (a_facts : Nat) (a_told : Nat) (a_now : Nat) (a_trial : Nat) (a_past : Nat) (a_kept : Nat) (a_sightings : Nat) (a_plan : Nat) (a_slates : Nat) (a_reckoned : Nat) (a_slates_e : Nat → Nat) (a_slates_value : Nat → Nat) (a_slates_below : Nat → Nat) (x_undoable : Int32) (x_keptBits : Int32) (xp_slates : Nat → Option Nat) (r_ret : Int32) (rm_slates_sort : Nat → Int32) (rm_slates_size : Nat → Int32) (rm_slates_value : Nat → Nat → Int64) (rm_slates_below : Nat → Nat → Int64) (pc : Nat) (st : List Value) (loc : List (Nat × Value)) (x_slates_sort : Nat → Int32) (x_slates_size : Nat → Int32) (x_slates_value : Nat → Nat → Int64) (x_slates_below : Nat → Nat → Int64) : Prop :=
  ∀ (H : Heap) (locs : List Loc) (ls : Array Slot), va_P D vwCl (wX7_slate c a_this a_text a_facts a_told a_now a_trial a_past a_kept a_sightings a_plan a_slates a_reckoned a_slates_e a_slates_value a_slates_below x_undoable x_keptBits xp_slates x_slates_sort x_slates_size x_slates_value x_slates_below) H → va_D A (wX7_slate c a_this a_text a_facts a_told a_now a_trial a_past a_kept a_sightings a_plan a_slates a_reckoned a_slates_e a_slates_value a_slates_below x_undoable x_keptBits xp_slates x_slates_sort x_slates_size x_slates_value x_slates_below) → va_S A s.heap H locs → lv_has ls 4 loc → W p l e ({ frames := 1, cells := 0, slots := 0, locals := 23 } : Room) s m args below meth cd H locs 0 0 (MQ below (xQi D (xT c) A r_ret (wX7_slate c a_this a_text a_facts a_told a_now a_trial a_past a_kept a_sightings a_plan a_slates a_reckoned a_slates_e a_slates_value a_slates_below x_undoable x_keptBits xp_slates rm_slates_sort rm_slates_size rm_slates_value rm_slates_below)) args s 0 0 A) (F0 m pc ls st)
theorem lkX7_slate_f59 : Cond.fieldLink RX7 59 "LeechClub" "slates" "[LLeechClub$Slate;" ∈ wsX7_slate := by decide +kernel
theorem inX7_slate_X7 : ∀ w ∈ wsX70, w ∈ wsX7_slate := by decide +kernel
set_option maxHeartbeats 4000000 in
set_option maxRecDepth 100000 in
theorem kX7_slate_23 {p : Program} {l : Launch} {e : Env} {s : State} {m : MethodId} {args : Array Value} {below : List Frame} {meth : Method} {cd : Code} {D : va_G} {c : Nat → ClassId} {A : Nat → Prop} (E0 : xE p s m args meth cd D (xT c) A RX7 cX7_slate 4 (some .int) wsX7_slate) (a_this : Nat) (a_text : Nat) (a_facts : Nat) (a_told : Nat) (a_now : Nat) (a_trial : Nat) (a_past : Nat) (a_kept : Nat) (a_sightings : Nat) (a_plan : Nat) (a_slates : Nat) (a_reckoned : Nat) (a_slates_e : Nat → Nat) (a_slates_value : Nat → Nat) (a_slates_below : Nat → Nat) (x_undoable : Int32) (x_keptBits : Int32) (xp_slates : Nat → Option Nat) (n : Nat) (r_ret : Int32) (rm_slates_sort : Nat → Int32) (rm_slates_size : Nat → Int32) (rm_slates_value : Nat → Nat → Int64) (rm_slates_below : Nat → Nat → Int64) (hp_slates : ∀ j, j < 4 → xp_slates j = some (a_slates_e j)) (x_slates_sort : Nat → Int32) (x_slates_size : Nat → Int32) (x_slates_value : Nat → Nat → Int64) (x_slates_below : Nat → Nat → Int64) (hr : fX7_slate_23 n x_slates_sort x_slates_size x_slates_value x_slates_below = some (r_ret, rm_slates_sort, rm_slates_size, rm_slates_value, rm_slates_below)) : GX7_slate p l e s m args below meth cd D c A a_this a_text a_facts a_told a_now a_trial a_past a_kept a_sightings a_plan a_slates a_reckoned a_slates_e a_slates_value a_slates_below x_undoable x_keptBits xp_slates r_ret rm_slates_sort rm_slates_size rm_slates_value rm_slates_below 23 [] [] x_slates_sort x_slates_size x_slates_value x_slates_below := by
  have E1 := E0
  obtain ⟨hx, hb, hml, hret, hown, hts, hlocks, hA, hK⟩ := E1
  intro H locs ls hP hD hS hl
  unfold fX7_slate_23 at hr
  refine lv_bipush (v := (-3)) hx hb dX7_slate_23 (by decide) ?_
  have g0 := x_some hr
  have e0 := x_p1 g0
  have g1 := x_p2 g0
  have e1 := x_p1 g1
  have g2 := x_p2 g1
  have e2 := x_p1 g2
  have g3 := x_p2 g2
  have e3 := x_p1 g3
  have e4 := x_p2 g3
  subst e0
  subst e1
  subst e2
  subst e3
  subst e4
  exact x_reti hx hb hret hlocks hP hD hK hS dX7_slate_25
set_option maxHeartbeats 4000000 in
set_option maxRecDepth 100000 in
theorem kX7_slate_0 {p : Program} {l : Launch} {e : Env} {s : State} {m : MethodId} {args : Array Value} {below : List Frame} {meth : Method} {cd : Code} {D : va_G} {c : Nat → ClassId} {A : Nat → Prop} (E0 : xE p s m args meth cd D (xT c) A RX7 cX7_slate 4 (some .int) wsX7_slate) (a_this : Nat) (a_text : Nat) (a_facts : Nat) (a_told : Nat) (a_now : Nat) (a_trial : Nat) (a_past : Nat) (a_kept : Nat) (a_sightings : Nat) (a_plan : Nat) (a_slates : Nat) (a_reckoned : Nat) (a_slates_e : Nat → Nat) (a_slates_value : Nat → Nat) (a_slates_below : Nat → Nat) (x_undoable : Int32) (x_keptBits : Int32) (xp_slates : Nat → Option Nat) (n : Nat) (r_ret : Int32) (rm_slates_sort : Nat → Int32) (rm_slates_size : Nat → Int32) (rm_slates_value : Nat → Nat → Int64) (rm_slates_below : Nat → Nat → Int64) (hp_slates : ∀ j, j < 4 → xp_slates j = some (a_slates_e j)) (x_slates_sort : Nat → Int32) (x_slates_size : Nat → Int32) (x_slates_value : Nat → Nat → Int64) (x_slates_below : Nat → Nat → Int64) (v1 : Int32) (v2 : Int32) (v3 : Int32) (hr : fX7_slate n x_slates_sort x_slates_size x_slates_value x_slates_below v1 v2 v3 = some (r_ret, rm_slates_sort, rm_slates_size, rm_slates_value, rm_slates_below)) : GX7_slate p l e s m args below meth cd D c A a_this a_text a_facts a_told a_now a_trial a_past a_kept a_sightings a_plan a_slates a_reckoned a_slates_e a_slates_value a_slates_below x_undoable x_keptBits xp_slates r_ret rm_slates_sort rm_slates_size rm_slates_value rm_slates_below 0 [] [(0, .ref a_this), (1, .int v1), (2, .int v2), (3, .int v3)] x_slates_sort x_slates_size x_slates_value x_slates_below := by
  have E1 := E0
  obtain ⟨hx, hb, hml, hret, hown, hts, hlocks, hA, hK⟩ := E1
  intro H locs ls hP hD hS hl
  unfold fX7_slate at hr
  refine lv_iload_n hx hb dX7_slate_0 rfl (lv_at hl 1 rfl) ?_
  obtain ⟨q1_0, hc1, hr⟩ := x_bind hr
  refine x_runi (wr := [(a_this, .inr (7, [.ref a_text, .ref a_facts, .ref a_told, .ref a_now, .ref a_trial, .ref a_past, .int x_undoable, .ref a_kept, .int x_keptBits, .ref a_sightings, .ref a_plan, .ref a_slates, .ref a_reckoned])), (a_slates, .inl (c 4, 4, .inr (.inr (.inr (.inr xp_slates))))), ((a_slates_e 0), .inr (5, [.int (x_slates_sort 0), .int (x_slates_size 0), .ref (a_slates_value 0), .ref (a_slates_below 0)])), ((a_slates_e 1), .inr (5, [.int (x_slates_sort 1), .int (x_slates_size 1), .ref (a_slates_value 1), .ref (a_slates_below 1)])), ((a_slates_e 2), .inr (5, [.int (x_slates_sort 2), .int (x_slates_size 2), .ref (a_slates_value 2), .ref (a_slates_below 2)])), ((a_slates_e 3), .inr (5, [.int (x_slates_sort 3), .int (x_slates_size 3), .ref (a_slates_value 3), .ref (a_slates_below 3)])), ((a_slates_value 0), .inl (c 1, 10, .inr (.inl (x_slates_value 0)))), ((a_slates_value 1), .inl (c 1, 10, .inr (.inl (x_slates_value 1)))), ((a_slates_value 2), .inl (c 1, 10, .inr (.inl (x_slates_value 2)))), ((a_slates_value 3), .inl (c 1, 10, .inr (.inl (x_slates_value 3)))), ((a_slates_below 0), .inl (c 1, 10, .inr (.inl (x_slates_below 0)))), ((a_slates_below 1), .inl (c 1, 10, .inr (.inl (x_slates_below 1)))), ((a_slates_below 2), .inl (c 1, 10, .inr (.inl (x_slates_below 2)))), ((a_slates_below 3), .inl (c 1, 10, .inr (.inl (x_slates_below 3))))]) (wf := [(a_this, .inr (7, [.ref a_text, .ref a_facts, .ref a_told, .ref a_now, .ref a_trial, .ref a_past, .int x_undoable, .ref a_kept, .int x_keptBits, .ref a_sightings, .ref a_plan, .ref a_slates, .ref a_reckoned])), (a_slates, .inl (c 4, 4, .inr (.inr (.inr (.inr xp_slates))))), ((a_slates_e 0), .inr (5, [.int (x_slates_sort 0), .int (x_slates_size 0), .ref (a_slates_value 0), .ref (a_slates_below 0)])), ((a_slates_e 1), .inr (5, [.int (x_slates_sort 1), .int (x_slates_size 1), .ref (a_slates_value 1), .ref (a_slates_below 1)])), ((a_slates_e 2), .inr (5, [.int (x_slates_sort 2), .int (x_slates_size 2), .ref (a_slates_value 2), .ref (a_slates_below 2)])), ((a_slates_e 3), .inr (5, [.int (x_slates_sort 3), .int (x_slates_size 3), .ref (a_slates_value 3), .ref (a_slates_below 3)])), ((a_slates_value 0), .inl (c 1, 10, .inr (.inl (x_slates_value 0)))), ((a_slates_value 1), .inl (c 1, 10, .inr (.inl (x_slates_value 1)))), ((a_slates_value 2), .inl (c 1, 10, .inr (.inl (x_slates_value 2)))), ((a_slates_value 3), .inl (c 1, 10, .inr (.inl (x_slates_value 3)))), ((a_slates_below 0), .inl (c 1, 10, .inr (.inl (x_slates_below 0)))), ((a_slates_below 1), .inl (c 1, 10, .inr (.inl (x_slates_below 1)))), ((a_slates_below 2), .inl (c 1, 10, .inr (.inl (x_slates_below 2)))), ((a_slates_below 3), .inl (c 1, 10, .inr (.inl (x_slates_below 3))))]) (x_goS (As := [.int v1]) (rest := []) ⟨hx, hb, hml, hown, hts⟩ (mX7_isSlate l D c H.size v1 n _ hc1) (va_cwS 1 hts gX7_slate_X7_isSlate rfl rfl rfl (by decide +kernel) ⟨Nat.le_of_ble_eq_true rfl, Nat.le_of_ble_eq_true rfl⟩) xB_t hP hD hK [] rfl (by decide) (fun _ _ _ => trivial) rfl hl.1 rfl (Nat.le_of_ble_eq_true rfl) dX7_slate_1) hP hD hS hA [] [0, 1, 2, 3, 4, 5, 6, 7, 8, 9, 10, 11, 12, 13] [0, 1, 2, 3, 4, 5, 6, 7, 8, 9, 10, 11, 12, 13] rfl rfl rfl ⟨by decide, by decide, by decide⟩ (fun H locs hP hD hS => ?_)
  refine lv_if_ne (tgt := 10) hx hb dX7_slate_4 (by decide) (fun c_2 => ?_) (fun c_2 => ?_)
  · have hr := x_iff hr c_2
    refine lv_iload_n hx hb dX7_slate_10 rfl (lv_at hl 2 rfl) ?_
    obtain ⟨q3_0, hc3, hr⟩ := x_bind hr
    refine x_runi (wr := [(a_this, .inr (7, [.ref a_text, .ref a_facts, .ref a_told, .ref a_now, .ref a_trial, .ref a_past, .int x_undoable, .ref a_kept, .int x_keptBits, .ref a_sightings, .ref a_plan, .ref a_slates, .ref a_reckoned])), (a_slates, .inl (c 4, 4, .inr (.inr (.inr (.inr xp_slates))))), ((a_slates_e 0), .inr (5, [.int (x_slates_sort 0), .int (x_slates_size 0), .ref (a_slates_value 0), .ref (a_slates_below 0)])), ((a_slates_e 1), .inr (5, [.int (x_slates_sort 1), .int (x_slates_size 1), .ref (a_slates_value 1), .ref (a_slates_below 1)])), ((a_slates_e 2), .inr (5, [.int (x_slates_sort 2), .int (x_slates_size 2), .ref (a_slates_value 2), .ref (a_slates_below 2)])), ((a_slates_e 3), .inr (5, [.int (x_slates_sort 3), .int (x_slates_size 3), .ref (a_slates_value 3), .ref (a_slates_below 3)])), ((a_slates_value 0), .inl (c 1, 10, .inr (.inl (x_slates_value 0)))), ((a_slates_value 1), .inl (c 1, 10, .inr (.inl (x_slates_value 1)))), ((a_slates_value 2), .inl (c 1, 10, .inr (.inl (x_slates_value 2)))), ((a_slates_value 3), .inl (c 1, 10, .inr (.inl (x_slates_value 3)))), ((a_slates_below 0), .inl (c 1, 10, .inr (.inl (x_slates_below 0)))), ((a_slates_below 1), .inl (c 1, 10, .inr (.inl (x_slates_below 1)))), ((a_slates_below 2), .inl (c 1, 10, .inr (.inl (x_slates_below 2)))), ((a_slates_below 3), .inl (c 1, 10, .inr (.inl (x_slates_below 3))))]) (wf := [(a_this, .inr (7, [.ref a_text, .ref a_facts, .ref a_told, .ref a_now, .ref a_trial, .ref a_past, .int x_undoable, .ref a_kept, .int x_keptBits, .ref a_sightings, .ref a_plan, .ref a_slates, .ref a_reckoned])), (a_slates, .inl (c 4, 4, .inr (.inr (.inr (.inr xp_slates))))), ((a_slates_e 0), .inr (5, [.int (x_slates_sort 0), .int (x_slates_size 0), .ref (a_slates_value 0), .ref (a_slates_below 0)])), ((a_slates_e 1), .inr (5, [.int (x_slates_sort 1), .int (x_slates_size 1), .ref (a_slates_value 1), .ref (a_slates_below 1)])), ((a_slates_e 2), .inr (5, [.int (x_slates_sort 2), .int (x_slates_size 2), .ref (a_slates_value 2), .ref (a_slates_below 2)])), ((a_slates_e 3), .inr (5, [.int (x_slates_sort 3), .int (x_slates_size 3), .ref (a_slates_value 3), .ref (a_slates_below 3)])), ((a_slates_value 0), .inl (c 1, 10, .inr (.inl (x_slates_value 0)))), ((a_slates_value 1), .inl (c 1, 10, .inr (.inl (x_slates_value 1)))), ((a_slates_value 2), .inl (c 1, 10, .inr (.inl (x_slates_value 2)))), ((a_slates_value 3), .inl (c 1, 10, .inr (.inl (x_slates_value 3)))), ((a_slates_below 0), .inl (c 1, 10, .inr (.inl (x_slates_below 0)))), ((a_slates_below 1), .inl (c 1, 10, .inr (.inl (x_slates_below 1)))), ((a_slates_below 2), .inl (c 1, 10, .inr (.inl (x_slates_below 2)))), ((a_slates_below 3), .inl (c 1, 10, .inr (.inl (x_slates_below 3))))]) (x_goS (As := [.int v2]) (rest := []) ⟨hx, hb, hml, hown, hts⟩ (mX7_isSort l D c H.size v2 n _ hc3) (va_cwS 1 hts gX7_slate_X7_isSort rfl rfl rfl (by decide +kernel) ⟨Nat.le_of_ble_eq_true rfl, Nat.le_of_ble_eq_true rfl⟩) xB_t hP hD hK [] rfl (by decide) (fun _ _ _ => trivial) rfl hl.1 rfl (Nat.le_of_ble_eq_true rfl) dX7_slate_11) hP hD hS hA [] [0, 1, 2, 3, 4, 5, 6, 7, 8, 9, 10, 11, 12, 13] [0, 1, 2, 3, 4, 5, 6, 7, 8, 9, 10, 11, 12, 13] rfl rfl rfl ⟨by decide, by decide, by decide⟩ (fun H locs hP hD hS => ?_)
    refine lv_if_eq (tgt := 23) hx hb dX7_slate_14 (by decide) (fun c_4 => ?_) (fun c_4 => ?_)
    · have hr := x_ift hr c_4
      exact kX7_slate_23 E0 a_this a_text a_facts a_told a_now a_trial a_past a_kept a_sightings a_plan a_slates a_reckoned a_slates_e a_slates_value a_slates_below x_undoable x_keptBits xp_slates n r_ret rm_slates_sort rm_slates_size rm_slates_value rm_slates_below hp_slates x_slates_sort x_slates_size x_slates_value x_slates_below hr H locs ls hP hD hS (lv_sub hl [] rfl)
    · have hr := x_iff hr c_4
      refine lv_iload_n hx hb dX7_slate_17 rfl (lv_at hl 3 rfl) ?_
      refine lv_bipush (v := 10) hx hb dX7_slate_18 (by decide) ?_
      refine lv_icmp_le (tgt := 26) hx hb dX7_slate_20 (by decide) (fun c_5 => ?_) (fun c_5 => ?_)
      · have hr := x_ift hr c_5
        refine lv_iload_n hx hb dX7_slate_26 rfl (lv_at hl 3 rfl) ?_
        refine lv_if_ge (tgt := 33) hx hb dX7_slate_27 (by decide) (fun c_6 => ?_) (fun c_6 => ?_)
        · have hr := x_ift hr c_6
          refine lv_aload_n hx hb dX7_slate_33 rfl (lv_at hl 0 rfl) ?_
          refine va_get (D := D) (ci := 7) (v := .ref a_slates) (C := RX7) (T := TX7) (N := 13) hx hb hts inX7_slate_X7 hown hK hP 0 rfl rfl 11 (by decide) (hts _ lkX7_slate_f59) (fun _ h9 => h9) rfl dX7_slate_34 ?_
          refine lv_iload_n hx hb dX7_slate_37 rfl (lv_at hl 1 rfl) ?_
          obtain ⟨b_7, hr⟩ := x_chk hr
          have b_8 := x_in0 b_7
          refine va_aldq hx hb hK hP 1 4 rfl rfl b_7 dX7_slate_38 ?_
          generalize he_8 : v1.toNatClampNeg = w_8 at hr b_8 ⊢
          rcases x_lt4 b_8 with rfl | rfl | rfl | rfl
          · refine W.eq (g2 := F0 m 39 ls [.ref (a_slates_e 0)]) (congrArg (fun z => F0 m 39 ls (va_rf z :: [])) (hp_slates 0 (by decide))) ?_
            refine lv_iload_n hx hb dX7_slate_39 rfl (lv_at hl 2 rfl) ?_
            refine lv_iload_n hx hb dX7_slate_40 rfl (lv_at hl 3 rfl) ?_
            obtain ⟨⟨q9_0, q9_1, q9_2, q9_3⟩, hc9, hr⟩ := x_bind hr
            try dsimp only at hr
            refine x_runv (wr := [(a_this, .inr (7, [.ref a_text, .ref a_facts, .ref a_told, .ref a_now, .ref a_trial, .ref a_past, .int x_undoable, .ref a_kept, .int x_keptBits, .ref a_sightings, .ref a_plan, .ref a_slates, .ref a_reckoned])), (a_slates, .inl (c 4, 4, .inr (.inr (.inr (.inr xp_slates))))), ((a_slates_e 1), .inr (5, [.int (x_slates_sort 1), .int (x_slates_size 1), .ref (a_slates_value 1), .ref (a_slates_below 1)])), ((a_slates_e 2), .inr (5, [.int (x_slates_sort 2), .int (x_slates_size 2), .ref (a_slates_value 2), .ref (a_slates_below 2)])), ((a_slates_e 3), .inr (5, [.int (x_slates_sort 3), .int (x_slates_size 3), .ref (a_slates_value 3), .ref (a_slates_below 3)])), ((a_slates_value 1), .inl (c 1, 10, .inr (.inl (x_slates_value 1)))), ((a_slates_value 2), .inl (c 1, 10, .inr (.inl (x_slates_value 2)))), ((a_slates_value 3), .inl (c 1, 10, .inr (.inl (x_slates_value 3)))), ((a_slates_below 1), .inl (c 1, 10, .inr (.inl (x_slates_below 1)))), ((a_slates_below 2), .inl (c 1, 10, .inr (.inl (x_slates_below 2)))), ((a_slates_below 3), .inl (c 1, 10, .inr (.inl (x_slates_below 3))))]) (wf := [(a_this, .inr (7, [.ref a_text, .ref a_facts, .ref a_told, .ref a_now, .ref a_trial, .ref a_past, .int x_undoable, .ref a_kept, .int x_keptBits, .ref a_sightings, .ref a_plan, .ref a_slates, .ref a_reckoned])), (a_slates, .inl (c 4, 4, .inr (.inr (.inr (.inr xp_slates))))), ((a_slates_e 0), .inr (5, [.int ((va_up x_slates_sort 0 q9_0) 0), .int ((va_up x_slates_size 0 q9_1) 0), .ref (a_slates_value 0), .ref (a_slates_below 0)])), ((a_slates_e 1), .inr (5, [.int ((va_up x_slates_sort 0 q9_0) 1), .int ((va_up x_slates_size 0 q9_1) 1), .ref (a_slates_value 1), .ref (a_slates_below 1)])), ((a_slates_e 2), .inr (5, [.int ((va_up x_slates_sort 0 q9_0) 2), .int ((va_up x_slates_size 0 q9_1) 2), .ref (a_slates_value 2), .ref (a_slates_below 2)])), ((a_slates_e 3), .inr (5, [.int ((va_up x_slates_sort 0 q9_0) 3), .int ((va_up x_slates_size 0 q9_1) 3), .ref (a_slates_value 3), .ref (a_slates_below 3)])), ((a_slates_value 0), .inl (c 1, 10, .inr (.inl ((va_up x_slates_value 0 q9_2) 0)))), ((a_slates_value 1), .inl (c 1, 10, .inr (.inl ((va_up x_slates_value 0 q9_2) 1)))), ((a_slates_value 2), .inl (c 1, 10, .inr (.inl ((va_up x_slates_value 0 q9_2) 2)))), ((a_slates_value 3), .inl (c 1, 10, .inr (.inl ((va_up x_slates_value 0 q9_2) 3)))), ((a_slates_below 0), .inl (c 1, 10, .inr (.inl ((va_up x_slates_below 0 q9_3) 0)))), ((a_slates_below 1), .inl (c 1, 10, .inr (.inl ((va_up x_slates_below 0 q9_3) 1)))), ((a_slates_below 2), .inl (c 1, 10, .inr (.inl ((va_up x_slates_below 0 q9_3) 2)))), ((a_slates_below 3), .inl (c 1, 10, .inr (.inl ((va_up x_slates_below 0 q9_3) 3))))]) (x_goV (As := [.int v2, .int v3]) (rest := []) ⟨hx, hb, hml, hown, hts⟩ (mX5_begin l D c (a_slates_e 0) (a_slates_value 0) (a_slates_below 0) H.size (x_slates_sort 0) (x_slates_size 0) (x_slates_value 0) (x_slates_below 0) v2 v3 n _ _ _ _ hc9) (cwV 2 hts gX7_slate_X5_begin rfl rfl rfl (by decide +kernel) ⟨Nat.le_of_ble_eq_true rfl, Nat.le_of_ble_eq_true rfl⟩) xB_t hP hD hK [2, 6, 10] rfl (by decide) (fun _ _ _ => trivial) 2 5 rfl rfl rfl rfl hl.1 rfl (Nat.le_of_ble_eq_true rfl) dX7_slate_41) hP hD hS hA [2, 6, 10] [0, 1, 3, 4, 5, 7, 8, 9, 11, 12, 13] [0, 1, 11, 2, 3, 4, 12, 5, 6, 7, 13, 8, 9, 10] rfl rfl rfl ⟨by decide, by decide, by decide⟩ (fun H locs hP hD hS => ?_)
            refine lv_iload_n hx hb dX7_slate_44 rfl (lv_at hl 3 rfl) ?_
            have g0 := x_some hr
            have e0 := x_p1 g0
            have g1 := x_p2 g0
            have e1 := x_p1 g1
            have g2 := x_p2 g1
            have e2 := x_p1 g2
            have g3 := x_p2 g2
            have e3 := x_p1 g3
            have e4 := x_p2 g3
            subst e0
            subst e1
            subst e2
            subst e3
            subst e4
            exact x_reti hx hb hret hlocks hP hD hK hS dX7_slate_45
          · refine W.eq (g2 := F0 m 39 ls [.ref (a_slates_e 1)]) (congrArg (fun z => F0 m 39 ls (va_rf z :: [])) (hp_slates 1 (by decide))) ?_
            refine lv_iload_n hx hb dX7_slate_39 rfl (lv_at hl 2 rfl) ?_
            refine lv_iload_n hx hb dX7_slate_40 rfl (lv_at hl 3 rfl) ?_
            obtain ⟨⟨q10_0, q10_1, q10_2, q10_3⟩, hc10, hr⟩ := x_bind hr
            try dsimp only at hr
            refine x_runv (wr := [(a_this, .inr (7, [.ref a_text, .ref a_facts, .ref a_told, .ref a_now, .ref a_trial, .ref a_past, .int x_undoable, .ref a_kept, .int x_keptBits, .ref a_sightings, .ref a_plan, .ref a_slates, .ref a_reckoned])), (a_slates, .inl (c 4, 4, .inr (.inr (.inr (.inr xp_slates))))), ((a_slates_e 0), .inr (5, [.int (x_slates_sort 0), .int (x_slates_size 0), .ref (a_slates_value 0), .ref (a_slates_below 0)])), ((a_slates_e 2), .inr (5, [.int (x_slates_sort 2), .int (x_slates_size 2), .ref (a_slates_value 2), .ref (a_slates_below 2)])), ((a_slates_e 3), .inr (5, [.int (x_slates_sort 3), .int (x_slates_size 3), .ref (a_slates_value 3), .ref (a_slates_below 3)])), ((a_slates_value 0), .inl (c 1, 10, .inr (.inl (x_slates_value 0)))), ((a_slates_value 2), .inl (c 1, 10, .inr (.inl (x_slates_value 2)))), ((a_slates_value 3), .inl (c 1, 10, .inr (.inl (x_slates_value 3)))), ((a_slates_below 0), .inl (c 1, 10, .inr (.inl (x_slates_below 0)))), ((a_slates_below 2), .inl (c 1, 10, .inr (.inl (x_slates_below 2)))), ((a_slates_below 3), .inl (c 1, 10, .inr (.inl (x_slates_below 3))))]) (wf := [(a_this, .inr (7, [.ref a_text, .ref a_facts, .ref a_told, .ref a_now, .ref a_trial, .ref a_past, .int x_undoable, .ref a_kept, .int x_keptBits, .ref a_sightings, .ref a_plan, .ref a_slates, .ref a_reckoned])), (a_slates, .inl (c 4, 4, .inr (.inr (.inr (.inr xp_slates))))), ((a_slates_e 0), .inr (5, [.int ((va_up x_slates_sort 1 q10_0) 0), .int ((va_up x_slates_size 1 q10_1) 0), .ref (a_slates_value 0), .ref (a_slates_below 0)])), ((a_slates_e 1), .inr (5, [.int ((va_up x_slates_sort 1 q10_0) 1), .int ((va_up x_slates_size 1 q10_1) 1), .ref (a_slates_value 1), .ref (a_slates_below 1)])), ((a_slates_e 2), .inr (5, [.int ((va_up x_slates_sort 1 q10_0) 2), .int ((va_up x_slates_size 1 q10_1) 2), .ref (a_slates_value 2), .ref (a_slates_below 2)])), ((a_slates_e 3), .inr (5, [.int ((va_up x_slates_sort 1 q10_0) 3), .int ((va_up x_slates_size 1 q10_1) 3), .ref (a_slates_value 3), .ref (a_slates_below 3)])), ((a_slates_value 0), .inl (c 1, 10, .inr (.inl ((va_up x_slates_value 1 q10_2) 0)))), ((a_slates_value 1), .inl (c 1, 10, .inr (.inl ((va_up x_slates_value 1 q10_2) 1)))), ((a_slates_value 2), .inl (c 1, 10, .inr (.inl ((va_up x_slates_value 1 q10_2) 2)))), ((a_slates_value 3), .inl (c 1, 10, .inr (.inl ((va_up x_slates_value 1 q10_2) 3)))), ((a_slates_below 0), .inl (c 1, 10, .inr (.inl ((va_up x_slates_below 1 q10_3) 0)))), ((a_slates_below 1), .inl (c 1, 10, .inr (.inl ((va_up x_slates_below 1 q10_3) 1)))), ((a_slates_below 2), .inl (c 1, 10, .inr (.inl ((va_up x_slates_below 1 q10_3) 2)))), ((a_slates_below 3), .inl (c 1, 10, .inr (.inl ((va_up x_slates_below 1 q10_3) 3))))]) (x_goV (As := [.int v2, .int v3]) (rest := []) ⟨hx, hb, hml, hown, hts⟩ (mX5_begin l D c (a_slates_e 1) (a_slates_value 1) (a_slates_below 1) H.size (x_slates_sort 1) (x_slates_size 1) (x_slates_value 1) (x_slates_below 1) v2 v3 n _ _ _ _ hc10) (cwV 2 hts gX7_slate_X5_begin rfl rfl rfl (by decide +kernel) ⟨Nat.le_of_ble_eq_true rfl, Nat.le_of_ble_eq_true rfl⟩) xB_t hP hD hK [3, 7, 11] rfl (by decide) (fun _ _ _ => trivial) 3 5 rfl rfl rfl rfl hl.1 rfl (Nat.le_of_ble_eq_true rfl) dX7_slate_41) hP hD hS hA [3, 7, 11] [0, 1, 2, 4, 5, 6, 8, 9, 10, 12, 13] [0, 1, 2, 11, 3, 4, 5, 12, 6, 7, 8, 13, 9, 10] rfl rfl rfl ⟨by decide, by decide, by decide⟩ (fun H locs hP hD hS => ?_)
            refine lv_iload_n hx hb dX7_slate_44 rfl (lv_at hl 3 rfl) ?_
            have g0 := x_some hr
            have e0 := x_p1 g0
            have g1 := x_p2 g0
            have e1 := x_p1 g1
            have g2 := x_p2 g1
            have e2 := x_p1 g2
            have g3 := x_p2 g2
            have e3 := x_p1 g3
            have e4 := x_p2 g3
            subst e0
            subst e1
            subst e2
            subst e3
            subst e4
            exact x_reti hx hb hret hlocks hP hD hK hS dX7_slate_45
          · refine W.eq (g2 := F0 m 39 ls [.ref (a_slates_e 2)]) (congrArg (fun z => F0 m 39 ls (va_rf z :: [])) (hp_slates 2 (by decide))) ?_
            refine lv_iload_n hx hb dX7_slate_39 rfl (lv_at hl 2 rfl) ?_
            refine lv_iload_n hx hb dX7_slate_40 rfl (lv_at hl 3 rfl) ?_
            obtain ⟨⟨q11_0, q11_1, q11_2, q11_3⟩, hc11, hr⟩ := x_bind hr
            try dsimp only at hr
            refine x_runv (wr := [(a_this, .inr (7, [.ref a_text, .ref a_facts, .ref a_told, .ref a_now, .ref a_trial, .ref a_past, .int x_undoable, .ref a_kept, .int x_keptBits, .ref a_sightings, .ref a_plan, .ref a_slates, .ref a_reckoned])), (a_slates, .inl (c 4, 4, .inr (.inr (.inr (.inr xp_slates))))), ((a_slates_e 0), .inr (5, [.int (x_slates_sort 0), .int (x_slates_size 0), .ref (a_slates_value 0), .ref (a_slates_below 0)])), ((a_slates_e 1), .inr (5, [.int (x_slates_sort 1), .int (x_slates_size 1), .ref (a_slates_value 1), .ref (a_slates_below 1)])), ((a_slates_e 3), .inr (5, [.int (x_slates_sort 3), .int (x_slates_size 3), .ref (a_slates_value 3), .ref (a_slates_below 3)])), ((a_slates_value 0), .inl (c 1, 10, .inr (.inl (x_slates_value 0)))), ((a_slates_value 1), .inl (c 1, 10, .inr (.inl (x_slates_value 1)))), ((a_slates_value 3), .inl (c 1, 10, .inr (.inl (x_slates_value 3)))), ((a_slates_below 0), .inl (c 1, 10, .inr (.inl (x_slates_below 0)))), ((a_slates_below 1), .inl (c 1, 10, .inr (.inl (x_slates_below 1)))), ((a_slates_below 3), .inl (c 1, 10, .inr (.inl (x_slates_below 3))))]) (wf := [(a_this, .inr (7, [.ref a_text, .ref a_facts, .ref a_told, .ref a_now, .ref a_trial, .ref a_past, .int x_undoable, .ref a_kept, .int x_keptBits, .ref a_sightings, .ref a_plan, .ref a_slates, .ref a_reckoned])), (a_slates, .inl (c 4, 4, .inr (.inr (.inr (.inr xp_slates))))), ((a_slates_e 0), .inr (5, [.int ((va_up x_slates_sort 2 q11_0) 0), .int ((va_up x_slates_size 2 q11_1) 0), .ref (a_slates_value 0), .ref (a_slates_below 0)])), ((a_slates_e 1), .inr (5, [.int ((va_up x_slates_sort 2 q11_0) 1), .int ((va_up x_slates_size 2 q11_1) 1), .ref (a_slates_value 1), .ref (a_slates_below 1)])), ((a_slates_e 2), .inr (5, [.int ((va_up x_slates_sort 2 q11_0) 2), .int ((va_up x_slates_size 2 q11_1) 2), .ref (a_slates_value 2), .ref (a_slates_below 2)])), ((a_slates_e 3), .inr (5, [.int ((va_up x_slates_sort 2 q11_0) 3), .int ((va_up x_slates_size 2 q11_1) 3), .ref (a_slates_value 3), .ref (a_slates_below 3)])), ((a_slates_value 0), .inl (c 1, 10, .inr (.inl ((va_up x_slates_value 2 q11_2) 0)))), ((a_slates_value 1), .inl (c 1, 10, .inr (.inl ((va_up x_slates_value 2 q11_2) 1)))), ((a_slates_value 2), .inl (c 1, 10, .inr (.inl ((va_up x_slates_value 2 q11_2) 2)))), ((a_slates_value 3), .inl (c 1, 10, .inr (.inl ((va_up x_slates_value 2 q11_2) 3)))), ((a_slates_below 0), .inl (c 1, 10, .inr (.inl ((va_up x_slates_below 2 q11_3) 0)))), ((a_slates_below 1), .inl (c 1, 10, .inr (.inl ((va_up x_slates_below 2 q11_3) 1)))), ((a_slates_below 2), .inl (c 1, 10, .inr (.inl ((va_up x_slates_below 2 q11_3) 2)))), ((a_slates_below 3), .inl (c 1, 10, .inr (.inl ((va_up x_slates_below 2 q11_3) 3))))]) (x_goV (As := [.int v2, .int v3]) (rest := []) ⟨hx, hb, hml, hown, hts⟩ (mX5_begin l D c (a_slates_e 2) (a_slates_value 2) (a_slates_below 2) H.size (x_slates_sort 2) (x_slates_size 2) (x_slates_value 2) (x_slates_below 2) v2 v3 n _ _ _ _ hc11) (cwV 2 hts gX7_slate_X5_begin rfl rfl rfl (by decide +kernel) ⟨Nat.le_of_ble_eq_true rfl, Nat.le_of_ble_eq_true rfl⟩) xB_t hP hD hK [4, 8, 12] rfl (by decide) (fun _ _ _ => trivial) 4 5 rfl rfl rfl rfl hl.1 rfl (Nat.le_of_ble_eq_true rfl) dX7_slate_41) hP hD hS hA [4, 8, 12] [0, 1, 2, 3, 5, 6, 7, 9, 10, 11, 13] [0, 1, 2, 3, 11, 4, 5, 6, 12, 7, 8, 9, 13, 10] rfl rfl rfl ⟨by decide, by decide, by decide⟩ (fun H locs hP hD hS => ?_)
            refine lv_iload_n hx hb dX7_slate_44 rfl (lv_at hl 3 rfl) ?_
            have g0 := x_some hr
            have e0 := x_p1 g0
            have g1 := x_p2 g0
            have e1 := x_p1 g1
            have g2 := x_p2 g1
            have e2 := x_p1 g2
            have g3 := x_p2 g2
            have e3 := x_p1 g3
            have e4 := x_p2 g3
            subst e0
            subst e1
            subst e2
            subst e3
            subst e4
            exact x_reti hx hb hret hlocks hP hD hK hS dX7_slate_45
          · refine W.eq (g2 := F0 m 39 ls [.ref (a_slates_e 3)]) (congrArg (fun z => F0 m 39 ls (va_rf z :: [])) (hp_slates 3 (by decide))) ?_
            refine lv_iload_n hx hb dX7_slate_39 rfl (lv_at hl 2 rfl) ?_
            refine lv_iload_n hx hb dX7_slate_40 rfl (lv_at hl 3 rfl) ?_
            obtain ⟨⟨q12_0, q12_1, q12_2, q12_3⟩, hc12, hr⟩ := x_bind hr
            try dsimp only at hr
            refine x_runv (wr := [(a_this, .inr (7, [.ref a_text, .ref a_facts, .ref a_told, .ref a_now, .ref a_trial, .ref a_past, .int x_undoable, .ref a_kept, .int x_keptBits, .ref a_sightings, .ref a_plan, .ref a_slates, .ref a_reckoned])), (a_slates, .inl (c 4, 4, .inr (.inr (.inr (.inr xp_slates))))), ((a_slates_e 0), .inr (5, [.int (x_slates_sort 0), .int (x_slates_size 0), .ref (a_slates_value 0), .ref (a_slates_below 0)])), ((a_slates_e 1), .inr (5, [.int (x_slates_sort 1), .int (x_slates_size 1), .ref (a_slates_value 1), .ref (a_slates_below 1)])), ((a_slates_e 2), .inr (5, [.int (x_slates_sort 2), .int (x_slates_size 2), .ref (a_slates_value 2), .ref (a_slates_below 2)])), ((a_slates_value 0), .inl (c 1, 10, .inr (.inl (x_slates_value 0)))), ((a_slates_value 1), .inl (c 1, 10, .inr (.inl (x_slates_value 1)))), ((a_slates_value 2), .inl (c 1, 10, .inr (.inl (x_slates_value 2)))), ((a_slates_below 0), .inl (c 1, 10, .inr (.inl (x_slates_below 0)))), ((a_slates_below 1), .inl (c 1, 10, .inr (.inl (x_slates_below 1)))), ((a_slates_below 2), .inl (c 1, 10, .inr (.inl (x_slates_below 2))))]) (wf := [(a_this, .inr (7, [.ref a_text, .ref a_facts, .ref a_told, .ref a_now, .ref a_trial, .ref a_past, .int x_undoable, .ref a_kept, .int x_keptBits, .ref a_sightings, .ref a_plan, .ref a_slates, .ref a_reckoned])), (a_slates, .inl (c 4, 4, .inr (.inr (.inr (.inr xp_slates))))), ((a_slates_e 0), .inr (5, [.int ((va_up x_slates_sort 3 q12_0) 0), .int ((va_up x_slates_size 3 q12_1) 0), .ref (a_slates_value 0), .ref (a_slates_below 0)])), ((a_slates_e 1), .inr (5, [.int ((va_up x_slates_sort 3 q12_0) 1), .int ((va_up x_slates_size 3 q12_1) 1), .ref (a_slates_value 1), .ref (a_slates_below 1)])), ((a_slates_e 2), .inr (5, [.int ((va_up x_slates_sort 3 q12_0) 2), .int ((va_up x_slates_size 3 q12_1) 2), .ref (a_slates_value 2), .ref (a_slates_below 2)])), ((a_slates_e 3), .inr (5, [.int ((va_up x_slates_sort 3 q12_0) 3), .int ((va_up x_slates_size 3 q12_1) 3), .ref (a_slates_value 3), .ref (a_slates_below 3)])), ((a_slates_value 0), .inl (c 1, 10, .inr (.inl ((va_up x_slates_value 3 q12_2) 0)))), ((a_slates_value 1), .inl (c 1, 10, .inr (.inl ((va_up x_slates_value 3 q12_2) 1)))), ((a_slates_value 2), .inl (c 1, 10, .inr (.inl ((va_up x_slates_value 3 q12_2) 2)))), ((a_slates_value 3), .inl (c 1, 10, .inr (.inl ((va_up x_slates_value 3 q12_2) 3)))), ((a_slates_below 0), .inl (c 1, 10, .inr (.inl ((va_up x_slates_below 3 q12_3) 0)))), ((a_slates_below 1), .inl (c 1, 10, .inr (.inl ((va_up x_slates_below 3 q12_3) 1)))), ((a_slates_below 2), .inl (c 1, 10, .inr (.inl ((va_up x_slates_below 3 q12_3) 2)))), ((a_slates_below 3), .inl (c 1, 10, .inr (.inl ((va_up x_slates_below 3 q12_3) 3))))]) (x_goV (As := [.int v2, .int v3]) (rest := []) ⟨hx, hb, hml, hown, hts⟩ (mX5_begin l D c (a_slates_e 3) (a_slates_value 3) (a_slates_below 3) H.size (x_slates_sort 3) (x_slates_size 3) (x_slates_value 3) (x_slates_below 3) v2 v3 n _ _ _ _ hc12) (cwV 2 hts gX7_slate_X5_begin rfl rfl rfl (by decide +kernel) ⟨Nat.le_of_ble_eq_true rfl, Nat.le_of_ble_eq_true rfl⟩) xB_t hP hD hK [5, 9, 13] rfl (by decide) (fun _ _ _ => trivial) 5 5 rfl rfl rfl rfl hl.1 rfl (Nat.le_of_ble_eq_true rfl) dX7_slate_41) hP hD hS hA [5, 9, 13] [0, 1, 2, 3, 4, 6, 7, 8, 10, 11, 12] [0, 1, 2, 3, 4, 11, 5, 6, 7, 12, 8, 9, 10, 13] rfl rfl rfl ⟨by decide, by decide, by decide⟩ (fun H locs hP hD hS => ?_)
            refine lv_iload_n hx hb dX7_slate_44 rfl (lv_at hl 3 rfl) ?_
            have g0 := x_some hr
            have e0 := x_p1 g0
            have g1 := x_p2 g0
            have e1 := x_p1 g1
            have g2 := x_p2 g1
            have e2 := x_p1 g2
            have g3 := x_p2 g2
            have e3 := x_p1 g3
            have e4 := x_p2 g3
            subst e0
            subst e1
            subst e2
            subst e3
            subst e4
            exact x_reti hx hb hret hlocks hP hD hK hS dX7_slate_45
        · have hr := x_iff hr c_6
          refine lv_bipush (v := (-16)) hx hb dX7_slate_30 (by decide) ?_
          have g0 := x_some hr
          have e0 := x_p1 g0
          have g1 := x_p2 g0
          have e1 := x_p1 g1
          have g2 := x_p2 g1
          have e2 := x_p1 g2
          have g3 := x_p2 g2
          have e3 := x_p1 g3
          have e4 := x_p2 g3
          subst e0
          subst e1
          subst e2
          subst e3
          subst e4
          exact x_reti hx hb hret hlocks hP hD hK hS dX7_slate_32
      · have hr := x_iff hr c_5
        exact kX7_slate_23 E0 a_this a_text a_facts a_told a_now a_trial a_past a_kept a_sightings a_plan a_slates a_reckoned a_slates_e a_slates_value a_slates_below x_undoable x_keptBits xp_slates n r_ret rm_slates_sort rm_slates_size rm_slates_value rm_slates_below hp_slates x_slates_sort x_slates_size x_slates_value x_slates_below hr H locs ls hP hD hS (lv_sub hl [] rfl)
  · have hr := x_ift hr c_2
    refine lv_bipush (v := (-2)) hx hb dX7_slate_7 (by decide) ?_
    have g0 := x_some hr
    have e0 := x_p1 g0
    have g1 := x_p2 g0
    have e1 := x_p1 g1
    have g2 := x_p2 g1
    have e2 := x_p1 g2
    have g3 := x_p2 g2
    have e3 := x_p1 g3
    have e4 := x_p2 g3
    subst e0
    subst e1
    subst e2
    subst e3
    subst e4
    exact x_reti hx hb hret hlocks hP hD hK hS dX7_slate_9
set_option maxHeartbeats 4000000 in
set_option maxRecDepth 100000 in
theorem mX7_slate (l : Launch) (D : va_G) (c : Nat → ClassId) (a_this : Nat) (a_text : Nat) (a_facts : Nat) (a_told : Nat) (a_now : Nat) (a_trial : Nat) (a_past : Nat) (a_kept : Nat) (a_sightings : Nat) (a_plan : Nat) (a_slates : Nat) (a_reckoned : Nat) (a_slates_e : Nat → Nat) (a_slates_value : Nat → Nat) (a_slates_below : Nat → Nat) (sz : Nat) (x_undoable : Int32) (x_keptBits : Int32) (xp_slates : Nat → Option Nat) (x_slates_sort : Nat → Int32) (x_slates_size : Nat → Int32) (x_slates_value : Nat → Nat → Int64) (x_slates_below : Nat → Nat → Int64) (v1 : Int32) (v2 : Int32) (v3 : Int32) (n : Nat) (r_ret : Int32) (rm_slates_sort : Nat → Int32) (rm_slates_size : Nat → Int32) (rm_slates_value : Nat → Nat → Int64) (rm_slates_below : Nat → Nat → Int64) (h : fX7_slate n x_slates_sort x_slates_size x_slates_value x_slates_below v1 v2 v3 = some (r_ret, rm_slates_sort, rm_slates_size, rm_slates_value, rm_slates_below)) (hp_slates : ∀ j, j < 4 → xp_slates j = some (a_slates_e j)) : Met l yX7_slate wsX7_slate ({ frames := 1, cells := 0, slots := 0, locals := 23 } : Room) (xPc D (xT c) sz [.ref a_this, .int v1, .int v2, .int v3] (wX7_slate c a_this a_text a_facts a_told a_now a_trial a_past a_kept a_sightings a_plan a_slates a_reckoned a_slates_e a_slates_value a_slates_below x_undoable x_keptBits xp_slates x_slates_sort x_slates_size x_slates_value x_slates_below) (fun _ => True)) (xQi D (xT c) (va_A (wX7_slate c a_this a_text a_facts a_told a_now a_trial a_past a_kept a_sightings a_plan a_slates a_reckoned a_slates_e a_slates_value a_slates_below x_undoable x_keptBits xp_slates x_slates_sort x_slates_size x_slates_value x_slates_below) sz) r_ret (wX7_slate c a_this a_text a_facts a_told a_now a_trial a_past a_kept a_sightings a_plan a_slates a_reckoned a_slates_e a_slates_value a_slates_below x_undoable x_keptBits xp_slates rm_slates_sort rm_slates_size rm_slates_value rm_slates_below)) 0 0 (va_A (wX7_slate c a_this a_text a_facts a_told a_now a_trial a_past a_kept a_sightings a_plan a_slates a_reckoned a_slates_e a_slates_value a_slates_below x_undoable x_keptBits xp_slates x_slates_sort x_slates_size x_slates_value x_slates_below) sz) := by
  refine Met.ofW (cc := cX7_slate) (maxL := 4) (ret := (some .int)) (by decide) rfl ?_
  intro p e s m args below meth cd s₁ B hml hv
  obtain ⟨rfl, hsz, hP, hK, hD0, hV⟩ := hv
  subst hsz
  have hl := lv_entry [.ref a_this, .int v1, .int v2, .int v3] (n := 4) (Nat.le_of_ble_eq_true rfl)
  rw [lg_entry_eq]
  exact kX7_slate_0 (A := va_A (wX7_slate c a_this a_text a_facts a_told a_now a_trial a_past a_kept a_sightings a_plan a_slates a_reckoned a_slates_e a_slates_value a_slates_below x_undoable x_keptBits xp_slates x_slates_sort x_slates_size x_slates_value x_slates_below) s.heap.size) ⟨B.exec, B.bytes, hml, B.returns, findClass_of_methodNamed B.named, atoms_spec (ws := wsX7_slate) B.pre, B.notSynchronized, fun q h => Or.inr h, hK⟩ a_this a_text a_facts a_told a_now a_trial a_past a_kept a_sightings a_plan a_slates a_reckoned a_slates_e a_slates_value a_slates_below x_undoable x_keptBits xp_slates n r_ret rm_slates_sort rm_slates_size rm_slates_value rm_slates_below hp_slates x_slates_sort x_slates_size x_slates_value x_slates_below v1 v2 v3 h s.heap [] _ hP hD0.self va_S.rf hl

abbrev wX7_isPart (c : Nat → ClassId) : va_W := []
def GX7_isPart (p : Program) (l : Launch) (e : Env) (s : State) (m : MethodId) (args : Array Value) (below : List Frame) (meth : Method) (cd : Code) (D : va_G) (c : Nat → ClassId) (A : Nat → Prop) (r_ret : Int32) (pc : Nat) (st : List Value) (loc : List (Nat × Value)) : Prop :=
  ∀ (H : Heap) (locs : List Loc) (ls : Array Slot), va_P D vwCl (wX7_isPart c) H → va_D A (wX7_isPart c) → va_S A s.heap H locs → lv_has ls 4 loc → W p l e ({ frames := 0, cells := 0, slots := 0, locals := 0 } : Room) s m args below meth cd H locs 0 0 (MQ below (xQi D (xT c) A r_ret (wX7_isPart c)) args s 0 0 A) (F0 m pc ls st)
theorem lkX7_isPart_J333 : Cond.constantLong RX7 333 (-1000000) ∈ wsX7_isPart := by decide +kernel
theorem lkX7_isPart_J335 : Cond.constantLong RX7 335 1000000 ∈ wsX7_isPart := by decide +kernel
set_option maxHeartbeats 4000000 in
set_option maxRecDepth 100000 in
theorem kX7_isPart_35 {p : Program} {l : Launch} {e : Env} {s : State} {m : MethodId} {args : Array Value} {below : List Frame} {meth : Method} {cd : Code} {D : va_G} {c : Nat → ClassId} {A : Nat → Prop} (E0 : xE p s m args meth cd D (xT c) A RX7 cX7_isPart 4 (some .boolean) wsX7_isPart) (n : Nat) (r_ret : Int32) (t0 : Int32) (hr : fX7_isPart_35 n t0 = some (r_ret)) : GX7_isPart p l e s m args below meth cd D c A r_ret 35 [.int t0] [] := by
  have E1 := E0
  obtain ⟨hx, hb, hml, hret, hown, hts, hlocks, hA, hK⟩ := E1
  intro H locs ls hP hD hS hl
  unfold fX7_isPart_35 at hr
  obtain ⟨hz, hr⟩ := x_need hr
  have e0 := x_some hr
  subst e0
  exact x_retz hx hb hret (x_nz hz) hlocks hP hD hK hS dX7_isPart_35
set_option maxHeartbeats 4000000 in
set_option maxRecDepth 100000 in
theorem kX7_isPart_34 {p : Program} {l : Launch} {e : Env} {s : State} {m : MethodId} {args : Array Value} {below : List Frame} {meth : Method} {cd : Code} {D : va_G} {c : Nat → ClassId} {A : Nat → Prop} (E0 : xE p s m args meth cd D (xT c) A RX7 cX7_isPart 4 (some .boolean) wsX7_isPart) (n : Nat) (r_ret : Int32) (hr : fX7_isPart_34 n = some (r_ret)) : GX7_isPart p l e s m args below meth cd D c A r_ret 34 [] [] := by
  have E1 := E0
  obtain ⟨hx, hb, hml, hret, hown, hts, hlocks, hA, hK⟩ := E1
  intro H locs ls hP hD hS hl
  unfold fX7_isPart_34 at hr
  refine lv_iconst (v := 0) hx hb dX7_isPart_34 (by decide) ?_
  exact kX7_isPart_35 E0 n r_ret 0 hr H locs ls hP hD hS (lv_sub hl [] rfl)
set_option maxHeartbeats 4000000 in
set_option maxRecDepth 100000 in
theorem kX7_isPart_0 {p : Program} {l : Launch} {e : Env} {s : State} {m : MethodId} {args : Array Value} {below : List Frame} {meth : Method} {cd : Code} {D : va_G} {c : Nat → ClassId} {A : Nat → Prop} (E0 : xE p s m args meth cd D (xT c) A RX7 cX7_isPart 4 (some .boolean) wsX7_isPart) (n : Nat) (r_ret : Int32) (v0 : Int64) (v2 : Int64) (hr : fX7_isPart n v0 v2 = some (r_ret)) : GX7_isPart p l e s m args below meth cd D c A r_ret 0 [] [(0, .long v0), (2, .long v2)] := by
  have E1 := E0
  obtain ⟨hx, hb, hml, hret, hown, hts, hlocks, hA, hK⟩ := E1
  intro H locs ls hP hD hS hl
  unfold fX7_isPart at hr
  refine lv_lload_n hx hb dX7_isPart_0 rfl (lv_at hl 0 rfl) ?_
  refine lv_ldc2 hx hb hown (hts _ lkX7_isPart_J333) dX7_isPart_1 ?_
  refine W.lcmp hx hb dX7_isPart_4 ?_
  refine lv_if_lt (tgt := 34) hx hb dX7_isPart_5 (by decide) (fun c_1 => ?_) (fun c_1 => ?_)
  · have hr := x_ift hr c_1
    exact kX7_isPart_34 E0 n r_ret hr H locs ls hP hD hS (lv_sub hl [] rfl)
  · have hr := x_iff hr c_1
    refine lv_lload_n hx hb dX7_isPart_8 rfl (lv_at hl 0 rfl) ?_
    refine lv_ldc2 hx hb hown (hts _ lkX7_isPart_J335) dX7_isPart_9 ?_
    refine W.lcmp hx hb dX7_isPart_12 ?_
    refine lv_if_gt (tgt := 34) hx hb dX7_isPart_13 (by decide) (fun c_2 => ?_) (fun c_2 => ?_)
    · have hr := x_ift hr c_2
      exact kX7_isPart_34 E0 n r_ret hr H locs ls hP hD hS (lv_sub hl [] rfl)
    · have hr := x_iff hr c_2
      refine lv_lload_n hx hb dX7_isPart_16 rfl (lv_at hl 1 rfl) ?_
      refine lv_lconst (v := 1) hx hb dX7_isPart_17 (by decide) ?_
      refine W.lcmp hx hb dX7_isPart_18 ?_
      refine lv_if_lt (tgt := 34) hx hb dX7_isPart_19 (by decide) (fun c_3 => ?_) (fun c_3 => ?_)
      · have hr := x_ift hr c_3
        exact kX7_isPart_34 E0 n r_ret hr H locs ls hP hD hS (lv_sub hl [] rfl)
      · have hr := x_iff hr c_3
        refine lv_lload_n hx hb dX7_isPart_22 rfl (lv_at hl 1 rfl) ?_
        refine lv_ldc2 hx hb hown (hts _ lkX7_isPart_J335) dX7_isPart_23 ?_
        refine W.lcmp hx hb dX7_isPart_26 ?_
        refine lv_if_gt (tgt := 34) hx hb dX7_isPart_27 (by decide) (fun c_4 => ?_) (fun c_4 => ?_)
        · have hr := x_ift hr c_4
          exact kX7_isPart_34 E0 n r_ret hr H locs ls hP hD hS (lv_sub hl [] rfl)
        · have hr := x_iff hr c_4
          refine lv_iconst (v := 1) hx hb dX7_isPart_30 (by decide) ?_
          refine lv_goto (tgt := 35) hx hb dX7_isPart_31 (by decide) ?_
          exact kX7_isPart_35 E0 n r_ret 1 hr H locs ls hP hD hS (lv_sub hl [] rfl)
set_option maxHeartbeats 4000000 in
set_option maxRecDepth 100000 in
theorem mX7_isPart (l : Launch) (D : va_G) (c : Nat → ClassId) (sz : Nat) (v0 : Int64) (v2 : Int64) (n : Nat) (r_ret : Int32) (h : fX7_isPart n v0 v2 = some (r_ret)) : Met l yX7_isPart wsX7_isPart ({ frames := 0, cells := 0, slots := 0, locals := 0 } : Room) (xPc D (xT c) sz [.long v0, .long v2] (wX7_isPart c) (fun _ => True)) (xQi D (xT c) (va_A (wX7_isPart c) sz) r_ret (wX7_isPart c)) 0 0 (va_A (wX7_isPart c) sz) := by
  refine Met.ofW (cc := cX7_isPart) (maxL := 4) (ret := (some .boolean)) (by decide) rfl ?_
  intro p e s m args below meth cd s₁ B hml hv
  obtain ⟨rfl, hsz, hP, hK, hD0, hV⟩ := hv
  subst hsz
  have hl := lv_entry [.long v0, .long v2] (n := 4) (Nat.le_of_ble_eq_true rfl)
  rw [lg_entry_eq]
  exact kX7_isPart_0 (A := va_A (wX7_isPart c) s.heap.size) ⟨B.exec, B.bytes, hml, B.returns, findClass_of_methodNamed B.named, atoms_spec (ws := wsX7_isPart) B.pre, B.notSynchronized, fun q h => Or.inr h, hK⟩ n r_ret v0 v2 h s.heap [] _ hP hD0.self va_S.rf hl

