abbrev wX7_drop (c : Nat → ClassId) (a_this : Nat) (a_text : Nat) (a_facts : Nat) (a_told : Nat) (a_now : Nat) (a_trial : Nat) (a_past : Nat) (a_kept : Nat) (a_sightings : Nat) (a_plan : Nat) (a_slates : Nat) (a_reckoned : Nat) (a_slates_e : Nat → Nat) (a_slates_value : Nat → Nat) (a_slates_below : Nat → Nat) (x_undoable : Int32) (x_keptBits : Int32) (xp_slates : Nat → Option Nat) (x_slates_sort : Nat → Int32) (x_slates_size : Nat → Int32) : va_W := [(a_this, .inr (7, [.ref a_text, .ref a_facts, .ref a_told, .ref a_now, .ref a_trial, .ref a_past, .int x_undoable, .ref a_kept, .int x_keptBits, .ref a_sightings, .ref a_plan, .ref a_slates, .ref a_reckoned])), (a_slates, .inl (c 4, 4, .inr (.inr (.inr (.inr xp_slates))))), ((a_slates_e 0), .inr (5, [.int (x_slates_sort 0), .int (x_slates_size 0), .ref (a_slates_value 0), .ref (a_slates_below 0)])), ((a_slates_e 1), .inr (5, [.int (x_slates_sort 1), .int (x_slates_size 1), .ref (a_slates_value 1), .ref (a_slates_below 1)])), ((a_slates_e 2), .inr (5, [.int (x_slates_sort 2), .int (x_slates_size 2), .ref (a_slates_value 2), .ref (a_slates_below 2)])), ((a_slates_e 3), .inr (5, [.int (x_slates_sort 3), .int (x_slates_size 3), .ref (a_slates_value 3), .ref (a_slates_below 3)]))]
def GX7_drop (p : Program) (l : Launch) (e : Env) (s : State) (m : MethodId) (args : Array Value) (below : List Frame) (meth : Method) (cd : Code) (D : va_G) (c : Nat → ClassId) (A : Nat → Prop) (a_this : Nat) (a_text : Nat) (a_facts : Nat) (a_told : Nat) (a_now : Nat) (a_trial : Nat) (a_past : Nat) (a_kept : Nat) (a_sightings : Nat) (a_plan : Nat) (a_slates : Nat) (a_reckoned : Nat) (a_slates_e : Nat → Nat) (a_slates_value : Nat → Nat) (a_slates_below : Nat → Nat) (x_undoable : Int32) (x_keptBits : Int32) (xp_slates : Nat → Option Nat) (r_ret : Int32) (rm_slates_sort : Nat → Int32) (rm_slates_size : Nat → Int32) (pc : Nat) (st : List Value) (loc : List (Nat × Value)) (x_slates_sort : Nat → Int32) (x_slates_size : Nat → Int32) : Prop :=
  ∀ (H : Heap) (locs : List Loc) (ls : Array Slot), va_P D vwCl (wX7_drop c a_this a_text a_facts a_told a_now a_trial a_past a_kept a_sightings a_plan a_slates a_reckoned a_slates_e a_slates_value a_slates_below x_undoable x_keptBits xp_slates x_slates_sort x_slates_size) H → va_D A (wX7_drop c a_this a_text a_facts a_told a_now a_trial a_past a_kept a_sightings a_plan a_slates a_reckoned a_slates_e a_slates_value a_slates_below x_undoable x_keptBits xp_slates x_slates_sort x_slates_size) → va_S A s.heap H locs → lv_has ls 3 loc → W p l e ({ frames := 1, cells := 0, slots := 0, locals := 20 } : Room) s m args below meth cd H locs 0 0 (MQ below (xQi D (xT c) A r_ret (wX7_drop c a_this a_text a_facts a_told a_now a_trial a_past a_kept a_sightings a_plan a_slates a_reckoned a_slates_e a_slates_value a_slates_below x_undoable x_keptBits xp_slates rm_slates_sort rm_slates_size)) args s 0 0 A) (F0 m pc ls st)
theorem lkX7_drop_f286 : Cond.fieldLink RX7 286 "LeechClub$Slate" "size" "I" ∈ wsX7_drop := by decide +kernel
theorem lkX7_drop_f59 : Cond.fieldLink RX7 59 "LeechClub" "slates" "[LLeechClub$Slate;" ∈ wsX7_drop := by decide +kernel
theorem inX7_drop_X7 : ∀ w ∈ wsX70, w ∈ wsX7_drop := by decide +kernel
theorem inX7_drop_X5 : ∀ w ∈ wsX50, w ∈ wsX7_drop := by decide +kernel
set_option maxHeartbeats 4000000 in
set_option maxRecDepth 100000 in
theorem kX7_drop_0 {p : Program} {l : Launch} {e : Env} {s : State} {m : MethodId} {args : Array Value} {below : List Frame} {meth : Method} {cd : Code} {D : va_G} {c : Nat → ClassId} {A : Nat → Prop} (E0 : xE p s m args meth cd D (xT c) A RX7 cX7_drop 3 (some .int) wsX7_drop) (a_this : Nat) (a_text : Nat) (a_facts : Nat) (a_told : Nat) (a_now : Nat) (a_trial : Nat) (a_past : Nat) (a_kept : Nat) (a_sightings : Nat) (a_plan : Nat) (a_slates : Nat) (a_reckoned : Nat) (a_slates_e : Nat → Nat) (a_slates_value : Nat → Nat) (a_slates_below : Nat → Nat) (x_undoable : Int32) (x_keptBits : Int32) (xp_slates : Nat → Option Nat) (n : Nat) (r_ret : Int32) (rm_slates_sort : Nat → Int32) (rm_slates_size : Nat → Int32) (hp_slates : ∀ j, j < 4 → xp_slates j = some (a_slates_e j)) (x_slates_sort : Nat → Int32) (x_slates_size : Nat → Int32) (v1 : Int32) (hr : fX7_drop n x_slates_sort x_slates_size v1 = some (r_ret, rm_slates_sort, rm_slates_size)) : GX7_drop p l e s m args below meth cd D c A a_this a_text a_facts a_told a_now a_trial a_past a_kept a_sightings a_plan a_slates a_reckoned a_slates_e a_slates_value a_slates_below x_undoable x_keptBits xp_slates r_ret rm_slates_sort rm_slates_size 0 [] [(0, .ref a_this), (1, .int v1)] x_slates_sort x_slates_size := by
  have E1 := E0
  obtain ⟨hx, hb, hml, hret, hown, hts, hlocks, hA, hK⟩ := E1
  intro H locs ls hP hD hS hl
  unfold fX7_drop at hr
  refine lv_iload_n hx hb dX7_drop_0 rfl (lv_at hl 1 rfl) ?_
  obtain ⟨q1_0, hc1, hr⟩ := x_bind hr
  refine x_runi (wr := [(a_this, .inr (7, [.ref a_text, .ref a_facts, .ref a_told, .ref a_now, .ref a_trial, .ref a_past, .int x_undoable, .ref a_kept, .int x_keptBits, .ref a_sightings, .ref a_plan, .ref a_slates, .ref a_reckoned])), (a_slates, .inl (c 4, 4, .inr (.inr (.inr (.inr xp_slates))))), ((a_slates_e 0), .inr (5, [.int (x_slates_sort 0), .int (x_slates_size 0), .ref (a_slates_value 0), .ref (a_slates_below 0)])), ((a_slates_e 1), .inr (5, [.int (x_slates_sort 1), .int (x_slates_size 1), .ref (a_slates_value 1), .ref (a_slates_below 1)])), ((a_slates_e 2), .inr (5, [.int (x_slates_sort 2), .int (x_slates_size 2), .ref (a_slates_value 2), .ref (a_slates_below 2)])), ((a_slates_e 3), .inr (5, [.int (x_slates_sort 3), .int (x_slates_size 3), .ref (a_slates_value 3), .ref (a_slates_below 3)]))]) (wf := [(a_this, .inr (7, [.ref a_text, .ref a_facts, .ref a_told, .ref a_now, .ref a_trial, .ref a_past, .int x_undoable, .ref a_kept, .int x_keptBits, .ref a_sightings, .ref a_plan, .ref a_slates, .ref a_reckoned])), (a_slates, .inl (c 4, 4, .inr (.inr (.inr (.inr xp_slates))))), ((a_slates_e 0), .inr (5, [.int (x_slates_sort 0), .int (x_slates_size 0), .ref (a_slates_value 0), .ref (a_slates_below 0)])), ((a_slates_e 1), .inr (5, [.int (x_slates_sort 1), .int (x_slates_size 1), .ref (a_slates_value 1), .ref (a_slates_below 1)])), ((a_slates_e 2), .inr (5, [.int (x_slates_sort 2), .int (x_slates_size 2), .ref (a_slates_value 2), .ref (a_slates_below 2)])), ((a_slates_e 3), .inr (5, [.int (x_slates_sort 3), .int (x_slates_size 3), .ref (a_slates_value 3), .ref (a_slates_below 3)]))]) (x_goS (As := [.int v1]) (rest := []) ⟨hx, hb, hml, hown, hts⟩ (mX7_isSlate l D c H.size v1 n _ hc1) (va_cwS 1 hts gX7_drop_X7_isSlate rfl rfl rfl (by decide +kernel) ⟨Nat.le_of_ble_eq_true rfl, Nat.le_of_ble_eq_true rfl⟩) xB_t hP hD hK [] rfl (by decide) (fun _ _ _ => trivial) rfl hl.1 rfl (Nat.le_of_ble_eq_true rfl) dX7_drop_1) hP hD hS hA [] [0, 1, 2, 3, 4, 5] [0, 1, 2, 3, 4, 5] rfl rfl rfl ⟨by decide, by decide, by decide⟩ (fun H locs hP hD hS => ?_)
  refine lv_if_ne (tgt := 10) hx hb dX7_drop_4 (by decide) (fun c_2 => ?_) (fun c_2 => ?_)
  · have hr := x_iff hr c_2
    refine lv_aload_n hx hb dX7_drop_10 rfl (lv_at hl 0 rfl) ?_
    refine va_get (D := D) (ci := 7) (v := .ref a_slates) (C := RX7) (T := TX7) (N := 13) hx hb hts inX7_drop_X7 hown hK hP 0 rfl rfl 11 (by decide) (hts _ lkX7_drop_f59) (fun _ h9 => h9) rfl dX7_drop_11 ?_
    refine lv_iload_n hx hb dX7_drop_14 rfl (lv_at hl 1 rfl) ?_
    obtain ⟨b_3, hr⟩ := x_chk hr
    have b_4 := x_in0 b_3
    refine va_aldq hx hb hK hP 1 4 rfl rfl b_3 dX7_drop_15 ?_
    generalize he_4 : v1.toNatClampNeg = w_4 at hr b_4 ⊢
    rcases x_lt4 b_4 with rfl | rfl | rfl | rfl
    · refine W.eq (g2 := F0 m 16 ls [.ref (a_slates_e 0)]) (congrArg (fun z => F0 m 16 ls (va_rf z :: [])) (hp_slates 0 (by decide))) ?_
      obtain ⟨q5_0, hc5, hr⟩ := x_bind hr
      refine x_runi (wr := [(a_this, .inr (7, [.ref a_text, .ref a_facts, .ref a_told, .ref a_now, .ref a_trial, .ref a_past, .int x_undoable, .ref a_kept, .int x_keptBits, .ref a_sightings, .ref a_plan, .ref a_slates, .ref a_reckoned])), (a_slates, .inl (c 4, 4, .inr (.inr (.inr (.inr xp_slates))))), ((a_slates_e 1), .inr (5, [.int (x_slates_sort 1), .int (x_slates_size 1), .ref (a_slates_value 1), .ref (a_slates_below 1)])), ((a_slates_e 2), .inr (5, [.int (x_slates_sort 2), .int (x_slates_size 2), .ref (a_slates_value 2), .ref (a_slates_below 2)])), ((a_slates_e 3), .inr (5, [.int (x_slates_sort 3), .int (x_slates_size 3), .ref (a_slates_value 3), .ref (a_slates_below 3)]))]) (wf := [(a_this, .inr (7, [.ref a_text, .ref a_facts, .ref a_told, .ref a_now, .ref a_trial, .ref a_past, .int x_undoable, .ref a_kept, .int x_keptBits, .ref a_sightings, .ref a_plan, .ref a_slates, .ref a_reckoned])), (a_slates, .inl (c 4, 4, .inr (.inr (.inr (.inr xp_slates))))), ((a_slates_e 0), .inr (5, [.int (x_slates_sort 0), .int (x_slates_size 0), .ref (a_slates_value 0), .ref (a_slates_below 0)])), ((a_slates_e 1), .inr (5, [.int (x_slates_sort 1), .int (x_slates_size 1), .ref (a_slates_value 1), .ref (a_slates_below 1)])), ((a_slates_e 2), .inr (5, [.int (x_slates_sort 2), .int (x_slates_size 2), .ref (a_slates_value 2), .ref (a_slates_below 2)])), ((a_slates_e 3), .inr (5, [.int (x_slates_sort 3), .int (x_slates_size 3), .ref (a_slates_value 3), .ref (a_slates_below 3)]))]) (x_goV (As := []) (rest := []) ⟨hx, hb, hml, hown, hts⟩ (mX5_isMissing l D c (a_slates_e 0) (a_slates_value 0) (a_slates_below 0) H.size (x_slates_size 0) (x_slates_sort 0) n _ hc5) (cwV 0 hts gX7_drop_X5_isMissing rfl rfl rfl (by decide +kernel) ⟨Nat.le_of_ble_eq_true rfl, Nat.le_of_ble_eq_true rfl⟩) xB_t hP hD hK [2] rfl (by decide) (fun _ _ _ => trivial) 2 5 rfl rfl rfl rfl hl.1 rfl (Nat.le_of_ble_eq_true rfl) dX7_drop_16) hP hD hS hA [2] [0, 1, 3, 4, 5] [0, 1, 5, 2, 3, 4] rfl rfl rfl ⟨by decide, by decide, by decide⟩ (fun H locs hP hD hS => ?_)
      refine lv_if_eq (tgt := 25) hx hb dX7_drop_19 (by decide) (fun c_6 => ?_) (fun c_6 => ?_)
      · have hr := x_ift hr c_6
        refine lv_aload_n hx hb dX7_drop_25 rfl (lv_at hl 0 rfl) ?_
        refine va_get (D := D) (ci := 7) (v := .ref a_slates) (C := RX7) (T := TX7) (N := 13) hx hb hts inX7_drop_X7 hown hK hP 0 rfl rfl 11 (by decide) (hts _ lkX7_drop_f59) (fun _ h9 => h9) rfl dX7_drop_26 ?_
        refine lv_iload_n hx hb dX7_drop_29 rfl (lv_at hl 1 rfl) ?_
        obtain ⟨b_7, hr⟩ := x_chk hr
        refine va_aldq hx hb hK hP 1 4 rfl rfl (x_vin he_4 b_7) dX7_drop_30 ?_
        rw [he_4]
        refine W.eq (g2 := F0 m 31 ls [.ref (a_slates_e 0)]) (congrArg (fun z => F0 m 31 ls (va_rf z :: [])) (hp_slates 0 (by decide))) ?_
        refine va_get (D := D) (ci := 5) (v := .int (x_slates_size 0)) (C := RX5) (T := TX5) (N := 4) hx hb hts inX7_drop_X5 hown hK hP 2 rfl rfl 1 (by decide) (hts _ lkX7_drop_f286) (fun _ h9 => h9) rfl dX7_drop_31 ?_
        refine lv_istore_n (lv' := [(2, .int (x_slates_size 0)), (0, .ref a_this), (1, .int v1)]) hx hb dX7_drop_34 rfl hl (by decide) rfl (fun ls hl => ?_)
        refine lv_aload_n hx hb dX7_drop_35 rfl (lv_at hl 1 rfl) ?_
        refine va_get (D := D) (ci := 7) (v := .ref a_slates) (C := RX7) (T := TX7) (N := 13) hx hb hts inX7_drop_X7 hown hK hP 0 rfl rfl 11 (by decide) (hts _ lkX7_drop_f59) (fun _ h9 => h9) rfl dX7_drop_36 ?_
        refine lv_iload_n hx hb dX7_drop_39 rfl (lv_at hl 2 rfl) ?_
        obtain ⟨b_8, hr⟩ := x_chk hr
        refine va_aldq hx hb hK hP 1 4 rfl rfl (x_vin he_4 b_8) dX7_drop_40 ?_
        rw [he_4]
        refine W.eq (g2 := F0 m 41 ls [.ref (a_slates_e 0)]) (congrArg (fun z => F0 m 41 ls (va_rf z :: [])) (hp_slates 0 (by decide))) ?_
        obtain ⟨⟨q9_0, q9_1⟩, hc9, hr⟩ := x_bind hr
        try dsimp only at hr
        refine x_runv (wr := [(a_this, .inr (7, [.ref a_text, .ref a_facts, .ref a_told, .ref a_now, .ref a_trial, .ref a_past, .int x_undoable, .ref a_kept, .int x_keptBits, .ref a_sightings, .ref a_plan, .ref a_slates, .ref a_reckoned])), (a_slates, .inl (c 4, 4, .inr (.inr (.inr (.inr xp_slates))))), ((a_slates_e 1), .inr (5, [.int (x_slates_sort 1), .int (x_slates_size 1), .ref (a_slates_value 1), .ref (a_slates_below 1)])), ((a_slates_e 2), .inr (5, [.int (x_slates_sort 2), .int (x_slates_size 2), .ref (a_slates_value 2), .ref (a_slates_below 2)])), ((a_slates_e 3), .inr (5, [.int (x_slates_sort 3), .int (x_slates_size 3), .ref (a_slates_value 3), .ref (a_slates_below 3)]))]) (wf := [(a_this, .inr (7, [.ref a_text, .ref a_facts, .ref a_told, .ref a_now, .ref a_trial, .ref a_past, .int x_undoable, .ref a_kept, .int x_keptBits, .ref a_sightings, .ref a_plan, .ref a_slates, .ref a_reckoned])), (a_slates, .inl (c 4, 4, .inr (.inr (.inr (.inr xp_slates))))), ((a_slates_e 0), .inr (5, [.int ((va_up x_slates_sort 0 q9_0) 0), .int ((va_up x_slates_size 0 q9_1) 0), .ref (a_slates_value 0), .ref (a_slates_below 0)])), ((a_slates_e 1), .inr (5, [.int ((va_up x_slates_sort 0 q9_0) 1), .int ((va_up x_slates_size 0 q9_1) 1), .ref (a_slates_value 1), .ref (a_slates_below 1)])), ((a_slates_e 2), .inr (5, [.int ((va_up x_slates_sort 0 q9_0) 2), .int ((va_up x_slates_size 0 q9_1) 2), .ref (a_slates_value 2), .ref (a_slates_below 2)])), ((a_slates_e 3), .inr (5, [.int ((va_up x_slates_sort 0 q9_0) 3), .int ((va_up x_slates_size 0 q9_1) 3), .ref (a_slates_value 3), .ref (a_slates_below 3)]))]) (x_goV (As := []) (rest := []) ⟨hx, hb, hml, hown, hts⟩ (mX5_setMissing l D c (a_slates_e 0) (a_slates_value 0) (a_slates_below 0) H.size (x_slates_sort 0) (x_slates_size 0) n _ _ hc9) (cwV 0 hts gX7_drop_X5_setMissing rfl rfl rfl (by decide +kernel) ⟨Nat.le_of_ble_eq_true rfl, Nat.le_of_ble_eq_true rfl⟩) xB_t hP hD hK [2] rfl (by decide) (fun _ _ _ => trivial) 2 5 rfl rfl rfl rfl hl.1 rfl (Nat.le_of_ble_eq_true rfl) dX7_drop_41) hP hD hS hA [2] [0, 1, 3, 4, 5] [0, 1, 5, 2, 3, 4] rfl rfl rfl ⟨by decide, by decide, by decide⟩ (fun H locs hP hD hS => ?_)
        refine lv_iload_n hx hb dX7_drop_44 rfl (lv_at hl 0 rfl) ?_
        have g0 := x_some hr
        have e0 := x_p1 g0
        have g1 := x_p2 g0
        have e1 := x_p1 g1
        have e2 := x_p2 g1
        subst e0
        subst e1
        subst e2
        exact x_reti hx hb hret hlocks hP hD hK hS dX7_drop_45
      · have hr := x_iff hr c_6
        refine lv_bipush (v := (-11)) hx hb dX7_drop_22 (by decide) ?_
        have g0 := x_some hr
        have e0 := x_p1 g0
        have g1 := x_p2 g0
        have e1 := x_p1 g1
        have e2 := x_p2 g1
        subst e0
        subst e1
        subst e2
        exact x_reti hx hb hret hlocks hP hD hK hS dX7_drop_24
    · refine W.eq (g2 := F0 m 16 ls [.ref (a_slates_e 1)]) (congrArg (fun z => F0 m 16 ls (va_rf z :: [])) (hp_slates 1 (by decide))) ?_
      obtain ⟨q10_0, hc10, hr⟩ := x_bind hr
      refine x_runi (wr := [(a_this, .inr (7, [.ref a_text, .ref a_facts, .ref a_told, .ref a_now, .ref a_trial, .ref a_past, .int x_undoable, .ref a_kept, .int x_keptBits, .ref a_sightings, .ref a_plan, .ref a_slates, .ref a_reckoned])), (a_slates, .inl (c 4, 4, .inr (.inr (.inr (.inr xp_slates))))), ((a_slates_e 0), .inr (5, [.int (x_slates_sort 0), .int (x_slates_size 0), .ref (a_slates_value 0), .ref (a_slates_below 0)])), ((a_slates_e 2), .inr (5, [.int (x_slates_sort 2), .int (x_slates_size 2), .ref (a_slates_value 2), .ref (a_slates_below 2)])), ((a_slates_e 3), .inr (5, [.int (x_slates_sort 3), .int (x_slates_size 3), .ref (a_slates_value 3), .ref (a_slates_below 3)]))]) (wf := [(a_this, .inr (7, [.ref a_text, .ref a_facts, .ref a_told, .ref a_now, .ref a_trial, .ref a_past, .int x_undoable, .ref a_kept, .int x_keptBits, .ref a_sightings, .ref a_plan, .ref a_slates, .ref a_reckoned])), (a_slates, .inl (c 4, 4, .inr (.inr (.inr (.inr xp_slates))))), ((a_slates_e 0), .inr (5, [.int (x_slates_sort 0), .int (x_slates_size 0), .ref (a_slates_value 0), .ref (a_slates_below 0)])), ((a_slates_e 1), .inr (5, [.int (x_slates_sort 1), .int (x_slates_size 1), .ref (a_slates_value 1), .ref (a_slates_below 1)])), ((a_slates_e 2), .inr (5, [.int (x_slates_sort 2), .int (x_slates_size 2), .ref (a_slates_value 2), .ref (a_slates_below 2)])), ((a_slates_e 3), .inr (5, [.int (x_slates_sort 3), .int (x_slates_size 3), .ref (a_slates_value 3), .ref (a_slates_below 3)]))]) (x_goV (As := []) (rest := []) ⟨hx, hb, hml, hown, hts⟩ (mX5_isMissing l D c (a_slates_e 1) (a_slates_value 1) (a_slates_below 1) H.size (x_slates_size 1) (x_slates_sort 1) n _ hc10) (cwV 0 hts gX7_drop_X5_isMissing rfl rfl rfl (by decide +kernel) ⟨Nat.le_of_ble_eq_true rfl, Nat.le_of_ble_eq_true rfl⟩) xB_t hP hD hK [3] rfl (by decide) (fun _ _ _ => trivial) 3 5 rfl rfl rfl rfl hl.1 rfl (Nat.le_of_ble_eq_true rfl) dX7_drop_16) hP hD hS hA [3] [0, 1, 2, 4, 5] [0, 1, 2, 5, 3, 4] rfl rfl rfl ⟨by decide, by decide, by decide⟩ (fun H locs hP hD hS => ?_)
      refine lv_if_eq (tgt := 25) hx hb dX7_drop_19 (by decide) (fun c_11 => ?_) (fun c_11 => ?_)
      · have hr := x_ift hr c_11
        refine lv_aload_n hx hb dX7_drop_25 rfl (lv_at hl 0 rfl) ?_
        refine va_get (D := D) (ci := 7) (v := .ref a_slates) (C := RX7) (T := TX7) (N := 13) hx hb hts inX7_drop_X7 hown hK hP 0 rfl rfl 11 (by decide) (hts _ lkX7_drop_f59) (fun _ h9 => h9) rfl dX7_drop_26 ?_
        refine lv_iload_n hx hb dX7_drop_29 rfl (lv_at hl 1 rfl) ?_
        obtain ⟨b_12, hr⟩ := x_chk hr
        refine va_aldq hx hb hK hP 1 4 rfl rfl (x_vin he_4 b_12) dX7_drop_30 ?_
        rw [he_4]
        refine W.eq (g2 := F0 m 31 ls [.ref (a_slates_e 1)]) (congrArg (fun z => F0 m 31 ls (va_rf z :: [])) (hp_slates 1 (by decide))) ?_
        refine va_get (D := D) (ci := 5) (v := .int (x_slates_size 1)) (C := RX5) (T := TX5) (N := 4) hx hb hts inX7_drop_X5 hown hK hP 3 rfl rfl 1 (by decide) (hts _ lkX7_drop_f286) (fun _ h9 => h9) rfl dX7_drop_31 ?_
        refine lv_istore_n (lv' := [(2, .int (x_slates_size 1)), (0, .ref a_this), (1, .int v1)]) hx hb dX7_drop_34 rfl hl (by decide) rfl (fun ls hl => ?_)
        refine lv_aload_n hx hb dX7_drop_35 rfl (lv_at hl 1 rfl) ?_
        refine va_get (D := D) (ci := 7) (v := .ref a_slates) (C := RX7) (T := TX7) (N := 13) hx hb hts inX7_drop_X7 hown hK hP 0 rfl rfl 11 (by decide) (hts _ lkX7_drop_f59) (fun _ h9 => h9) rfl dX7_drop_36 ?_
        refine lv_iload_n hx hb dX7_drop_39 rfl (lv_at hl 2 rfl) ?_
        obtain ⟨b_13, hr⟩ := x_chk hr
        refine va_aldq hx hb hK hP 1 4 rfl rfl (x_vin he_4 b_13) dX7_drop_40 ?_
        rw [he_4]
        refine W.eq (g2 := F0 m 41 ls [.ref (a_slates_e 1)]) (congrArg (fun z => F0 m 41 ls (va_rf z :: [])) (hp_slates 1 (by decide))) ?_
        obtain ⟨⟨q14_0, q14_1⟩, hc14, hr⟩ := x_bind hr
        try dsimp only at hr
        refine x_runv (wr := [(a_this, .inr (7, [.ref a_text, .ref a_facts, .ref a_told, .ref a_now, .ref a_trial, .ref a_past, .int x_undoable, .ref a_kept, .int x_keptBits, .ref a_sightings, .ref a_plan, .ref a_slates, .ref a_reckoned])), (a_slates, .inl (c 4, 4, .inr (.inr (.inr (.inr xp_slates))))), ((a_slates_e 0), .inr (5, [.int (x_slates_sort 0), .int (x_slates_size 0), .ref (a_slates_value 0), .ref (a_slates_below 0)])), ((a_slates_e 2), .inr (5, [.int (x_slates_sort 2), .int (x_slates_size 2), .ref (a_slates_value 2), .ref (a_slates_below 2)])), ((a_slates_e 3), .inr (5, [.int (x_slates_sort 3), .int (x_slates_size 3), .ref (a_slates_value 3), .ref (a_slates_below 3)]))]) (wf := [(a_this, .inr (7, [.ref a_text, .ref a_facts, .ref a_told, .ref a_now, .ref a_trial, .ref a_past, .int x_undoable, .ref a_kept, .int x_keptBits, .ref a_sightings, .ref a_plan, .ref a_slates, .ref a_reckoned])), (a_slates, .inl (c 4, 4, .inr (.inr (.inr (.inr xp_slates))))), ((a_slates_e 0), .inr (5, [.int ((va_up x_slates_sort 1 q14_0) 0), .int ((va_up x_slates_size 1 q14_1) 0), .ref (a_slates_value 0), .ref (a_slates_below 0)])), ((a_slates_e 1), .inr (5, [.int ((va_up x_slates_sort 1 q14_0) 1), .int ((va_up x_slates_size 1 q14_1) 1), .ref (a_slates_value 1), .ref (a_slates_below 1)])), ((a_slates_e 2), .inr (5, [.int ((va_up x_slates_sort 1 q14_0) 2), .int ((va_up x_slates_size 1 q14_1) 2), .ref (a_slates_value 2), .ref (a_slates_below 2)])), ((a_slates_e 3), .inr (5, [.int ((va_up x_slates_sort 1 q14_0) 3), .int ((va_up x_slates_size 1 q14_1) 3), .ref (a_slates_value 3), .ref (a_slates_below 3)]))]) (x_goV (As := []) (rest := []) ⟨hx, hb, hml, hown, hts⟩ (mX5_setMissing l D c (a_slates_e 1) (a_slates_value 1) (a_slates_below 1) H.size (x_slates_sort 1) (x_slates_size 1) n _ _ hc14) (cwV 0 hts gX7_drop_X5_setMissing rfl rfl rfl (by decide +kernel) ⟨Nat.le_of_ble_eq_true rfl, Nat.le_of_ble_eq_true rfl⟩) xB_t hP hD hK [3] rfl (by decide) (fun _ _ _ => trivial) 3 5 rfl rfl rfl rfl hl.1 rfl (Nat.le_of_ble_eq_true rfl) dX7_drop_41) hP hD hS hA [3] [0, 1, 2, 4, 5] [0, 1, 2, 5, 3, 4] rfl rfl rfl ⟨by decide, by decide, by decide⟩ (fun H locs hP hD hS => ?_)
        refine lv_iload_n hx hb dX7_drop_44 rfl (lv_at hl 0 rfl) ?_
        have g0 := x_some hr
        have e0 := x_p1 g0
        have g1 := x_p2 g0
        have e1 := x_p1 g1
        have e2 := x_p2 g1
        subst e0
        subst e1
        subst e2
        exact x_reti hx hb hret hlocks hP hD hK hS dX7_drop_45
      · have hr := x_iff hr c_11
        refine lv_bipush (v := (-11)) hx hb dX7_drop_22 (by decide) ?_
        have g0 := x_some hr
        have e0 := x_p1 g0
        have g1 := x_p2 g0
        have e1 := x_p1 g1
        have e2 := x_p2 g1
        subst e0
        subst e1
        subst e2
        exact x_reti hx hb hret hlocks hP hD hK hS dX7_drop_24
    · refine W.eq (g2 := F0 m 16 ls [.ref (a_slates_e 2)]) (congrArg (fun z => F0 m 16 ls (va_rf z :: [])) (hp_slates 2 (by decide))) ?_
      obtain ⟨q15_0, hc15, hr⟩ := x_bind hr
      refine x_runi (wr := [(a_this, .inr (7, [.ref a_text, .ref a_facts, .ref a_told, .ref a_now, .ref a_trial, .ref a_past, .int x_undoable, .ref a_kept, .int x_keptBits, .ref a_sightings, .ref a_plan, .ref a_slates, .ref a_reckoned])), (a_slates, .inl (c 4, 4, .inr (.inr (.inr (.inr xp_slates))))), ((a_slates_e 0), .inr (5, [.int (x_slates_sort 0), .int (x_slates_size 0), .ref (a_slates_value 0), .ref (a_slates_below 0)])), ((a_slates_e 1), .inr (5, [.int (x_slates_sort 1), .int (x_slates_size 1), .ref (a_slates_value 1), .ref (a_slates_below 1)])), ((a_slates_e 3), .inr (5, [.int (x_slates_sort 3), .int (x_slates_size 3), .ref (a_slates_value 3), .ref (a_slates_below 3)]))]) (wf := [(a_this, .inr (7, [.ref a_text, .ref a_facts, .ref a_told, .ref a_now, .ref a_trial, .ref a_past, .int x_undoable, .ref a_kept, .int x_keptBits, .ref a_sightings, .ref a_plan, .ref a_slates, .ref a_reckoned])), (a_slates, .inl (c 4, 4, .inr (.inr (.inr (.inr xp_slates))))), ((a_slates_e 0), .inr (5, [.int (x_slates_sort 0), .int (x_slates_size 0), .ref (a_slates_value 0), .ref (a_slates_below 0)])), ((a_slates_e 1), .inr (5, [.int (x_slates_sort 1), .int (x_slates_size 1), .ref (a_slates_value 1), .ref (a_slates_below 1)])), ((a_slates_e 2), .inr (5, [.int (x_slates_sort 2), .int (x_slates_size 2), .ref (a_slates_value 2), .ref (a_slates_below 2)])), ((a_slates_e 3), .inr (5, [.int (x_slates_sort 3), .int (x_slates_size 3), .ref (a_slates_value 3), .ref (a_slates_below 3)]))]) (x_goV (As := []) (rest := []) ⟨hx, hb, hml, hown, hts⟩ (mX5_isMissing l D c (a_slates_e 2) (a_slates_value 2) (a_slates_below 2) H.size (x_slates_size 2) (x_slates_sort 2) n _ hc15) (cwV 0 hts gX7_drop_X5_isMissing rfl rfl rfl (by decide +kernel) ⟨Nat.le_of_ble_eq_true rfl, Nat.le_of_ble_eq_true rfl⟩) xB_t hP hD hK [4] rfl (by decide) (fun _ _ _ => trivial) 4 5 rfl rfl rfl rfl hl.1 rfl (Nat.le_of_ble_eq_true rfl) dX7_drop_16) hP hD hS hA [4] [0, 1, 2, 3, 5] [0, 1, 2, 3, 5, 4] rfl rfl rfl ⟨by decide, by decide, by decide⟩ (fun H locs hP hD hS => ?_)
      refine lv_if_eq (tgt := 25) hx hb dX7_drop_19 (by decide) (fun c_16 => ?_) (fun c_16 => ?_)
      · have hr := x_ift hr c_16
        refine lv_aload_n hx hb dX7_drop_25 rfl (lv_at hl 0 rfl) ?_
        refine va_get (D := D) (ci := 7) (v := .ref a_slates) (C := RX7) (T := TX7) (N := 13) hx hb hts inX7_drop_X7 hown hK hP 0 rfl rfl 11 (by decide) (hts _ lkX7_drop_f59) (fun _ h9 => h9) rfl dX7_drop_26 ?_
        refine lv_iload_n hx hb dX7_drop_29 rfl (lv_at hl 1 rfl) ?_
        obtain ⟨b_17, hr⟩ := x_chk hr
        refine va_aldq hx hb hK hP 1 4 rfl rfl (x_vin he_4 b_17) dX7_drop_30 ?_
        rw [he_4]
        refine W.eq (g2 := F0 m 31 ls [.ref (a_slates_e 2)]) (congrArg (fun z => F0 m 31 ls (va_rf z :: [])) (hp_slates 2 (by decide))) ?_
        refine va_get (D := D) (ci := 5) (v := .int (x_slates_size 2)) (C := RX5) (T := TX5) (N := 4) hx hb hts inX7_drop_X5 hown hK hP 4 rfl rfl 1 (by decide) (hts _ lkX7_drop_f286) (fun _ h9 => h9) rfl dX7_drop_31 ?_
        refine lv_istore_n (lv' := [(2, .int (x_slates_size 2)), (0, .ref a_this), (1, .int v1)]) hx hb dX7_drop_34 rfl hl (by decide) rfl (fun ls hl => ?_)
        refine lv_aload_n hx hb dX7_drop_35 rfl (lv_at hl 1 rfl) ?_
        refine va_get (D := D) (ci := 7) (v := .ref a_slates) (C := RX7) (T := TX7) (N := 13) hx hb hts inX7_drop_X7 hown hK hP 0 rfl rfl 11 (by decide) (hts _ lkX7_drop_f59) (fun _ h9 => h9) rfl dX7_drop_36 ?_
        refine lv_iload_n hx hb dX7_drop_39 rfl (lv_at hl 2 rfl) ?_
        obtain ⟨b_18, hr⟩ := x_chk hr
        refine va_aldq hx hb hK hP 1 4 rfl rfl (x_vin he_4 b_18) dX7_drop_40 ?_
        rw [he_4]
        refine W.eq (g2 := F0 m 41 ls [.ref (a_slates_e 2)]) (congrArg (fun z => F0 m 41 ls (va_rf z :: [])) (hp_slates 2 (by decide))) ?_
        obtain ⟨⟨q19_0, q19_1⟩, hc19, hr⟩ := x_bind hr
        try dsimp only at hr
        refine x_runv (wr := [(a_this, .inr (7, [.ref a_text, .ref a_facts, .ref a_told, .ref a_now, .ref a_trial, .ref a_past, .int x_undoable, .ref a_kept, .int x_keptBits, .ref a_sightings, .ref a_plan, .ref a_slates, .ref a_reckoned])), (a_slates, .inl (c 4, 4, .inr (.inr (.inr (.inr xp_slates))))), ((a_slates_e 0), .inr (5, [.int (x_slates_sort 0), .int (x_slates_size 0), .ref (a_slates_value 0), .ref (a_slates_below 0)])), ((a_slates_e 1), .inr (5, [.int (x_slates_sort 1), .int (x_slates_size 1), .ref (a_slates_value 1), .ref (a_slates_below 1)])), ((a_slates_e 3), .inr (5, [.int (x_slates_sort 3), .int (x_slates_size 3), .ref (a_slates_value 3), .ref (a_slates_below 3)]))]) (wf := [(a_this, .inr (7, [.ref a_text, .ref a_facts, .ref a_told, .ref a_now, .ref a_trial, .ref a_past, .int x_undoable, .ref a_kept, .int x_keptBits, .ref a_sightings, .ref a_plan, .ref a_slates, .ref a_reckoned])), (a_slates, .inl (c 4, 4, .inr (.inr (.inr (.inr xp_slates))))), ((a_slates_e 0), .inr (5, [.int ((va_up x_slates_sort 2 q19_0) 0), .int ((va_up x_slates_size 2 q19_1) 0), .ref (a_slates_value 0), .ref (a_slates_below 0)])), ((a_slates_e 1), .inr (5, [.int ((va_up x_slates_sort 2 q19_0) 1), .int ((va_up x_slates_size 2 q19_1) 1), .ref (a_slates_value 1), .ref (a_slates_below 1)])), ((a_slates_e 2), .inr (5, [.int ((va_up x_slates_sort 2 q19_0) 2), .int ((va_up x_slates_size 2 q19_1) 2), .ref (a_slates_value 2), .ref (a_slates_below 2)])), ((a_slates_e 3), .inr (5, [.int ((va_up x_slates_sort 2 q19_0) 3), .int ((va_up x_slates_size 2 q19_1) 3), .ref (a_slates_value 3), .ref (a_slates_below 3)]))]) (x_goV (As := []) (rest := []) ⟨hx, hb, hml, hown, hts⟩ (mX5_setMissing l D c (a_slates_e 2) (a_slates_value 2) (a_slates_below 2) H.size (x_slates_sort 2) (x_slates_size 2) n _ _ hc19) (cwV 0 hts gX7_drop_X5_setMissing rfl rfl rfl (by decide +kernel) ⟨Nat.le_of_ble_eq_true rfl, Nat.le_of_ble_eq_true rfl⟩) xB_t hP hD hK [4] rfl (by decide) (fun _ _ _ => trivial) 4 5 rfl rfl rfl rfl hl.1 rfl (Nat.le_of_ble_eq_true rfl) dX7_drop_41) hP hD hS hA [4] [0, 1, 2, 3, 5] [0, 1, 2, 3, 5, 4] rfl rfl rfl ⟨by decide, by decide, by decide⟩ (fun H locs hP hD hS => ?_)
        refine lv_iload_n hx hb dX7_drop_44 rfl (lv_at hl 0 rfl) ?_
        have g0 := x_some hr
        have e0 := x_p1 g0
        have g1 := x_p2 g0
        have e1 := x_p1 g1
        have e2 := x_p2 g1
        subst e0
        subst e1
        subst e2
        exact x_reti hx hb hret hlocks hP hD hK hS dX7_drop_45
      · have hr := x_iff hr c_16
        refine lv_bipush (v := (-11)) hx hb dX7_drop_22 (by decide) ?_
        have g0 := x_some hr
        have e0 := x_p1 g0
        have g1 := x_p2 g0
        have e1 := x_p1 g1
        have e2 := x_p2 g1
        subst e0
        subst e1
        subst e2
        exact x_reti hx hb hret hlocks hP hD hK hS dX7_drop_24
    · refine W.eq (g2 := F0 m 16 ls [.ref (a_slates_e 3)]) (congrArg (fun z => F0 m 16 ls (va_rf z :: [])) (hp_slates 3 (by decide))) ?_
      obtain ⟨q20_0, hc20, hr⟩ := x_bind hr
      refine x_runi (wr := [(a_this, .inr (7, [.ref a_text, .ref a_facts, .ref a_told, .ref a_now, .ref a_trial, .ref a_past, .int x_undoable, .ref a_kept, .int x_keptBits, .ref a_sightings, .ref a_plan, .ref a_slates, .ref a_reckoned])), (a_slates, .inl (c 4, 4, .inr (.inr (.inr (.inr xp_slates))))), ((a_slates_e 0), .inr (5, [.int (x_slates_sort 0), .int (x_slates_size 0), .ref (a_slates_value 0), .ref (a_slates_below 0)])), ((a_slates_e 1), .inr (5, [.int (x_slates_sort 1), .int (x_slates_size 1), .ref (a_slates_value 1), .ref (a_slates_below 1)])), ((a_slates_e 2), .inr (5, [.int (x_slates_sort 2), .int (x_slates_size 2), .ref (a_slates_value 2), .ref (a_slates_below 2)]))]) (wf := [(a_this, .inr (7, [.ref a_text, .ref a_facts, .ref a_told, .ref a_now, .ref a_trial, .ref a_past, .int x_undoable, .ref a_kept, .int x_keptBits, .ref a_sightings, .ref a_plan, .ref a_slates, .ref a_reckoned])), (a_slates, .inl (c 4, 4, .inr (.inr (.inr (.inr xp_slates))))), ((a_slates_e 0), .inr (5, [.int (x_slates_sort 0), .int (x_slates_size 0), .ref (a_slates_value 0), .ref (a_slates_below 0)])), ((a_slates_e 1), .inr (5, [.int (x_slates_sort 1), .int (x_slates_size 1), .ref (a_slates_value 1), .ref (a_slates_below 1)])), ((a_slates_e 2), .inr (5, [.int (x_slates_sort 2), .int (x_slates_size 2), .ref (a_slates_value 2), .ref (a_slates_below 2)])), ((a_slates_e 3), .inr (5, [.int (x_slates_sort 3), .int (x_slates_size 3), .ref (a_slates_value 3), .ref (a_slates_below 3)]))]) (x_goV (As := []) (rest := []) ⟨hx, hb, hml, hown, hts⟩ (mX5_isMissing l D c (a_slates_e 3) (a_slates_value 3) (a_slates_below 3) H.size (x_slates_size 3) (x_slates_sort 3) n _ hc20) (cwV 0 hts gX7_drop_X5_isMissing rfl rfl rfl (by decide +kernel) ⟨Nat.le_of_ble_eq_true rfl, Nat.le_of_ble_eq_true rfl⟩) xB_t hP hD hK [5] rfl (by decide) (fun _ _ _ => trivial) 5 5 rfl rfl rfl rfl hl.1 rfl (Nat.le_of_ble_eq_true rfl) dX7_drop_16) hP hD hS hA [5] [0, 1, 2, 3, 4] [0, 1, 2, 3, 4, 5] rfl rfl rfl ⟨by decide, by decide, by decide⟩ (fun H locs hP hD hS => ?_)
      refine lv_if_eq (tgt := 25) hx hb dX7_drop_19 (by decide) (fun c_21 => ?_) (fun c_21 => ?_)
      · have hr := x_ift hr c_21
        refine lv_aload_n hx hb dX7_drop_25 rfl (lv_at hl 0 rfl) ?_
        refine va_get (D := D) (ci := 7) (v := .ref a_slates) (C := RX7) (T := TX7) (N := 13) hx hb hts inX7_drop_X7 hown hK hP 0 rfl rfl 11 (by decide) (hts _ lkX7_drop_f59) (fun _ h9 => h9) rfl dX7_drop_26 ?_
        refine lv_iload_n hx hb dX7_drop_29 rfl (lv_at hl 1 rfl) ?_
        obtain ⟨b_22, hr⟩ := x_chk hr
        refine va_aldq hx hb hK hP 1 4 rfl rfl (x_vin he_4 b_22) dX7_drop_30 ?_
        rw [he_4]
        refine W.eq (g2 := F0 m 31 ls [.ref (a_slates_e 3)]) (congrArg (fun z => F0 m 31 ls (va_rf z :: [])) (hp_slates 3 (by decide))) ?_
        refine va_get (D := D) (ci := 5) (v := .int (x_slates_size 3)) (C := RX5) (T := TX5) (N := 4) hx hb hts inX7_drop_X5 hown hK hP 5 rfl rfl 1 (by decide) (hts _ lkX7_drop_f286) (fun _ h9 => h9) rfl dX7_drop_31 ?_
        refine lv_istore_n (lv' := [(2, .int (x_slates_size 3)), (0, .ref a_this), (1, .int v1)]) hx hb dX7_drop_34 rfl hl (by decide) rfl (fun ls hl => ?_)
        refine lv_aload_n hx hb dX7_drop_35 rfl (lv_at hl 1 rfl) ?_
        refine va_get (D := D) (ci := 7) (v := .ref a_slates) (C := RX7) (T := TX7) (N := 13) hx hb hts inX7_drop_X7 hown hK hP 0 rfl rfl 11 (by decide) (hts _ lkX7_drop_f59) (fun _ h9 => h9) rfl dX7_drop_36 ?_
        refine lv_iload_n hx hb dX7_drop_39 rfl (lv_at hl 2 rfl) ?_
        obtain ⟨b_23, hr⟩ := x_chk hr
        refine va_aldq hx hb hK hP 1 4 rfl rfl (x_vin he_4 b_23) dX7_drop_40 ?_
        rw [he_4]
        refine W.eq (g2 := F0 m 41 ls [.ref (a_slates_e 3)]) (congrArg (fun z => F0 m 41 ls (va_rf z :: [])) (hp_slates 3 (by decide))) ?_
        obtain ⟨⟨q24_0, q24_1⟩, hc24, hr⟩ := x_bind hr
        try dsimp only at hr
        refine x_runv (wr := [(a_this, .inr (7, [.ref a_text, .ref a_facts, .ref a_told, .ref a_now, .ref a_trial, .ref a_past, .int x_undoable, .ref a_kept, .int x_keptBits, .ref a_sightings, .ref a_plan, .ref a_slates, .ref a_reckoned])), (a_slates, .inl (c 4, 4, .inr (.inr (.inr (.inr xp_slates))))), ((a_slates_e 0), .inr (5, [.int (x_slates_sort 0), .int (x_slates_size 0), .ref (a_slates_value 0), .ref (a_slates_below 0)])), ((a_slates_e 1), .inr (5, [.int (x_slates_sort 1), .int (x_slates_size 1), .ref (a_slates_value 1), .ref (a_slates_below 1)])), ((a_slates_e 2), .inr (5, [.int (x_slates_sort 2), .int (x_slates_size 2), .ref (a_slates_value 2), .ref (a_slates_below 2)]))]) (wf := [(a_this, .inr (7, [.ref a_text, .ref a_facts, .ref a_told, .ref a_now, .ref a_trial, .ref a_past, .int x_undoable, .ref a_kept, .int x_keptBits, .ref a_sightings, .ref a_plan, .ref a_slates, .ref a_reckoned])), (a_slates, .inl (c 4, 4, .inr (.inr (.inr (.inr xp_slates))))), ((a_slates_e 0), .inr (5, [.int ((va_up x_slates_sort 3 q24_0) 0), .int ((va_up x_slates_size 3 q24_1) 0), .ref (a_slates_value 0), .ref (a_slates_below 0)])), ((a_slates_e 1), .inr (5, [.int ((va_up x_slates_sort 3 q24_0) 1), .int ((va_up x_slates_size 3 q24_1) 1), .ref (a_slates_value 1), .ref (a_slates_below 1)])), ((a_slates_e 2), .inr (5, [.int ((va_up x_slates_sort 3 q24_0) 2), .int ((va_up x_slates_size 3 q24_1) 2), .ref (a_slates_value 2), .ref (a_slates_below 2)])), ((a_slates_e 3), .inr (5, [.int ((va_up x_slates_sort 3 q24_0) 3), .int ((va_up x_slates_size 3 q24_1) 3), .ref (a_slates_value 3), .ref (a_slates_below 3)]))]) (x_goV (As := []) (rest := []) ⟨hx, hb, hml, hown, hts⟩ (mX5_setMissing l D c (a_slates_e 3) (a_slates_value 3) (a_slates_below 3) H.size (x_slates_sort 3) (x_slates_size 3) n _ _ hc24) (cwV 0 hts gX7_drop_X5_setMissing rfl rfl rfl (by decide +kernel) ⟨Nat.le_of_ble_eq_true rfl, Nat.le_of_ble_eq_true rfl⟩) xB_t hP hD hK [5] rfl (by decide) (fun _ _ _ => trivial) 5 5 rfl rfl rfl rfl hl.1 rfl (Nat.le_of_ble_eq_true rfl) dX7_drop_41) hP hD hS hA [5] [0, 1, 2, 3, 4] [0, 1, 2, 3, 4, 5] rfl rfl rfl ⟨by decide, by decide, by decide⟩ (fun H locs hP hD hS => ?_)
        refine lv_iload_n hx hb dX7_drop_44 rfl (lv_at hl 0 rfl) ?_
        have g0 := x_some hr
        have e0 := x_p1 g0
        have g1 := x_p2 g0
        have e1 := x_p1 g1
        have e2 := x_p2 g1
        subst e0
        subst e1
        subst e2
        exact x_reti hx hb hret hlocks hP hD hK hS dX7_drop_45
      · have hr := x_iff hr c_21
        refine lv_bipush (v := (-11)) hx hb dX7_drop_22 (by decide) ?_
        have g0 := x_some hr
        have e0 := x_p1 g0
        have g1 := x_p2 g0
        have e1 := x_p1 g1
        have e2 := x_p2 g1
        subst e0
        subst e1
        subst e2
        exact x_reti hx hb hret hlocks hP hD hK hS dX7_drop_24
  · have hr := x_ift hr c_2
    refine lv_bipush (v := (-2)) hx hb dX7_drop_7 (by decide) ?_
    have g0 := x_some hr
    have e0 := x_p1 g0
    have g1 := x_p2 g0
    have e1 := x_p1 g1
    have e2 := x_p2 g1
    subst e0
    subst e1
    subst e2
    exact x_reti hx hb hret hlocks hP hD hK hS dX7_drop_9
set_option maxHeartbeats 4000000 in
set_option maxRecDepth 100000 in
theorem mX7_drop (l : Launch) (D : va_G) (c : Nat → ClassId) (a_this : Nat) (a_text : Nat) (a_facts : Nat) (a_told : Nat) (a_now : Nat) (a_trial : Nat) (a_past : Nat) (a_kept : Nat) (a_sightings : Nat) (a_plan : Nat) (a_slates : Nat) (a_reckoned : Nat) (a_slates_e : Nat → Nat) (a_slates_value : Nat → Nat) (a_slates_below : Nat → Nat) (sz : Nat) (x_undoable : Int32) (x_keptBits : Int32) (xp_slates : Nat → Option Nat) (x_slates_sort : Nat → Int32) (x_slates_size : Nat → Int32) (v1 : Int32) (n : Nat) (r_ret : Int32) (rm_slates_sort : Nat → Int32) (rm_slates_size : Nat → Int32) (h : fX7_drop n x_slates_sort x_slates_size v1 = some (r_ret, rm_slates_sort, rm_slates_size)) (hp_slates : ∀ j, j < 4 → xp_slates j = some (a_slates_e j)) : Met l yX7_drop wsX7_drop ({ frames := 1, cells := 0, slots := 0, locals := 20 } : Room) (xPc D (xT c) sz [.ref a_this, .int v1] (wX7_drop c a_this a_text a_facts a_told a_now a_trial a_past a_kept a_sightings a_plan a_slates a_reckoned a_slates_e a_slates_value a_slates_below x_undoable x_keptBits xp_slates x_slates_sort x_slates_size) (fun _ => True)) (xQi D (xT c) (va_A (wX7_drop c a_this a_text a_facts a_told a_now a_trial a_past a_kept a_sightings a_plan a_slates a_reckoned a_slates_e a_slates_value a_slates_below x_undoable x_keptBits xp_slates x_slates_sort x_slates_size) sz) r_ret (wX7_drop c a_this a_text a_facts a_told a_now a_trial a_past a_kept a_sightings a_plan a_slates a_reckoned a_slates_e a_slates_value a_slates_below x_undoable x_keptBits xp_slates rm_slates_sort rm_slates_size)) 0 0 (va_A (wX7_drop c a_this a_text a_facts a_told a_now a_trial a_past a_kept a_sightings a_plan a_slates a_reckoned a_slates_e a_slates_value a_slates_below x_undoable x_keptBits xp_slates x_slates_sort x_slates_size) sz) := by
  refine Met.ofW (cc := cX7_drop) (maxL := 3) (ret := (some .int)) (by decide) rfl ?_
  intro p e s m args below meth cd s₁ B hml hv
  obtain ⟨rfl, hsz, hP, hK, hD0, hV⟩ := hv
  subst hsz
  have hl := lv_entry [.ref a_this, .int v1] (n := 3) (Nat.le_of_ble_eq_true rfl)
  rw [lg_entry_eq]
  exact kX7_drop_0 (A := va_A (wX7_drop c a_this a_text a_facts a_told a_now a_trial a_past a_kept a_sightings a_plan a_slates a_reckoned a_slates_e a_slates_value a_slates_below x_undoable x_keptBits xp_slates x_slates_sort x_slates_size) s.heap.size) ⟨B.exec, B.bytes, hml, B.returns, findClass_of_methodNamed B.named, atoms_spec (ws := wsX7_drop) B.pre, B.notSynchronized, fun q h => Or.inr h, hK⟩ a_this a_text a_facts a_told a_now a_trial a_past a_kept a_sightings a_plan a_slates a_reckoned a_slates_e a_slates_value a_slates_below x_undoable x_keptBits xp_slates n r_ret rm_slates_sort rm_slates_size hp_slates x_slates_sort x_slates_size v1 h s.heap [] _ hP hD0.self va_S.rf hl

abbrev wX7_slatesThere (c : Nat → ClassId) (a_this : Nat) (a_text : Nat) (a_facts : Nat) (a_told : Nat) (a_now : Nat) (a_trial : Nat) (a_past : Nat) (a_kept : Nat) (a_sightings : Nat) (a_plan : Nat) (a_slates : Nat) (a_reckoned : Nat) (a_slates_e : Nat → Nat) (a_slates_value : Nat → Nat) (a_slates_below : Nat → Nat) (x_undoable : Int32) (x_keptBits : Int32) (xp_slates : Nat → Option Nat) (x_slates_size : Nat → Int32) (x_slates_sort : Nat → Int32) : va_W := [(a_this, .inr (7, [.ref a_text, .ref a_facts, .ref a_told, .ref a_now, .ref a_trial, .ref a_past, .int x_undoable, .ref a_kept, .int x_keptBits, .ref a_sightings, .ref a_plan, .ref a_slates, .ref a_reckoned])), (a_slates, .inl (c 4, 4, .inr (.inr (.inr (.inr xp_slates))))), ((a_slates_e 0), .inr (5, [.int (x_slates_sort 0), .int (x_slates_size 0), .ref (a_slates_value 0), .ref (a_slates_below 0)])), ((a_slates_e 1), .inr (5, [.int (x_slates_sort 1), .int (x_slates_size 1), .ref (a_slates_value 1), .ref (a_slates_below 1)])), ((a_slates_e 2), .inr (5, [.int (x_slates_sort 2), .int (x_slates_size 2), .ref (a_slates_value 2), .ref (a_slates_below 2)])), ((a_slates_e 3), .inr (5, [.int (x_slates_sort 3), .int (x_slates_size 3), .ref (a_slates_value 3), .ref (a_slates_below 3)]))]
def GX7_slatesThere (p : Program) (l : Launch) (e : Env) (s : State) (m : MethodId) (args : Array Value) (below : List Frame) (meth : Method) (cd : Code) (D : va_G) (c : Nat → ClassId) (A : Nat → Prop) (a_this : Nat) (a_text : Nat) (a_facts : Nat) (a_told : Nat) (a_now : Nat) (a_trial : Nat) (a_past : Nat) (a_kept : Nat) (a_sightings : Nat) (a_plan : Nat) (a_slates : Nat) (a_reckoned : Nat) (a_slates_e : Nat → Nat) (a_slates_value : Nat → Nat) (a_slates_below : Nat → Nat) (x_undoable : Int32) (x_keptBits : Int32) (xp_slates : Nat → Option Nat) (x_slates_size : Nat → Int32) (x_slates_sort : Nat → Int32) (r_ret : Int32) (pc : Nat) (st : List Value) (loc : List (Nat × Value)) : Prop :=
  ∀ (H : Heap) (locs : List Loc) (ls : Array Slot), va_P D vwCl (wX7_slatesThere c a_this a_text a_facts a_told a_now a_trial a_past a_kept a_sightings a_plan a_slates a_reckoned a_slates_e a_slates_value a_slates_below x_undoable x_keptBits xp_slates x_slates_size x_slates_sort) H → va_D A (wX7_slatesThere c a_this a_text a_facts a_told a_now a_trial a_past a_kept a_sightings a_plan a_slates a_reckoned a_slates_e a_slates_value a_slates_below x_undoable x_keptBits xp_slates x_slates_size x_slates_sort) → va_S A s.heap H locs → lv_has ls 3 loc → W p l e ({ frames := 1, cells := 0, slots := 0, locals := 20 } : Room) s m args below meth cd H locs 0 0 (MQ below (xQi D (xT c) A r_ret (wX7_slatesThere c a_this a_text a_facts a_told a_now a_trial a_past a_kept a_sightings a_plan a_slates a_reckoned a_slates_e a_slates_value a_slates_below x_undoable x_keptBits xp_slates x_slates_size x_slates_sort)) args s 0 0 A) (F0 m pc ls st)
theorem lkX7_slatesThere_f59 : Cond.fieldLink RX7 59 "LeechClub" "slates" "[LLeechClub$Slate;" ∈ wsX7_slatesThere := by decide +kernel
theorem inX7_slatesThere_X7 : ∀ w ∈ wsX70, w ∈ wsX7_slatesThere := by decide +kernel
set_option maxHeartbeats 4000000 in
set_option maxRecDepth 100000 in
theorem kX7_slatesThere_24 {p : Program} {l : Launch} {e : Env} {s : State} {m : MethodId} {args : Array Value} {below : List Frame} {meth : Method} {cd : Code} {D : va_G} {c : Nat → ClassId} {A : Nat → Prop} (E0 : xE p s m args meth cd D (xT c) A RX7 cX7_slatesThere 3 (some .int) wsX7_slatesThere) (a_this : Nat) (a_text : Nat) (a_facts : Nat) (a_told : Nat) (a_now : Nat) (a_trial : Nat) (a_past : Nat) (a_kept : Nat) (a_sightings : Nat) (a_plan : Nat) (a_slates : Nat) (a_reckoned : Nat) (a_slates_e : Nat → Nat) (a_slates_value : Nat → Nat) (a_slates_below : Nat → Nat) (x_undoable : Int32) (x_keptBits : Int32) (xp_slates : Nat → Option Nat) (x_slates_size : Nat → Int32) (x_slates_sort : Nat → Int32) (n : Nat) (r_ret : Int32) (hp_slates : ∀ j, j < 4 → xp_slates j = some (a_slates_e j)) (r_4 : Int32 → Int32 → Option (Int32)) (h_4 : ∀ (v1 : Int32) (v2 : Int32), r_4 v1 v2 = some (r_ret) → GX7_slatesThere p l e s m args below meth cd D c A a_this a_text a_facts a_told a_now a_trial a_past a_kept a_sightings a_plan a_slates a_reckoned a_slates_e a_slates_value a_slates_below x_undoable x_keptBits xp_slates x_slates_size x_slates_sort r_ret 4 [] [(0, .ref a_this), (1, .int v1), (2, .int v2)]) (v1 : Int32) (v2 : Int32) (hr : fX7_slatesThere_24 n r_4 x_slates_sort v1 v2 = some (r_ret)) : GX7_slatesThere p l e s m args below meth cd D c A a_this a_text a_facts a_told a_now a_trial a_past a_kept a_sightings a_plan a_slates a_reckoned a_slates_e a_slates_value a_slates_below x_undoable x_keptBits xp_slates x_slates_size x_slates_sort r_ret 24 [] [(0, .ref a_this), (1, .int v1), (2, .int v2)] := by
  have E1 := E0
  obtain ⟨hx, hb, hml, hret, hown, hts, hlocks, hA, hK⟩ := E1
  intro H locs ls hP hD hS hl
  unfold fX7_slatesThere_24 at hr
  refine lv_iinc (v := v2 + 1) (lv' := [(2, .int (v2 + 1)), (0, .ref a_this), (1, .int v1)]) hx hb dX7_slatesThere_24 hl (k := 2) rfl rfl (by decide) rfl (fun ls hl => ?_)
  refine lv_goto (tgt := 4) hx hb dX7_slatesThere_27 (by decide) ?_
  exact h_4 v1 (v2 + 1) hr H locs ls hP hD hS (lv_sub hl [1, 2, 0] rfl)
set_option maxHeartbeats 4000000 in
set_option maxRecDepth 100000 in
theorem kX7_slatesThere_4 {p : Program} {l : Launch} {e : Env} {s : State} {m : MethodId} {args : Array Value} {below : List Frame} {meth : Method} {cd : Code} {D : va_G} {c : Nat → ClassId} {A : Nat → Prop} (E0 : xE p s m args meth cd D (xT c) A RX7 cX7_slatesThere 3 (some .int) wsX7_slatesThere) (a_this : Nat) (a_text : Nat) (a_facts : Nat) (a_told : Nat) (a_now : Nat) (a_trial : Nat) (a_past : Nat) (a_kept : Nat) (a_sightings : Nat) (a_plan : Nat) (a_slates : Nat) (a_reckoned : Nat) (a_slates_e : Nat → Nat) (a_slates_value : Nat → Nat) (a_slates_below : Nat → Nat) (x_undoable : Int32) (x_keptBits : Int32) (xp_slates : Nat → Option Nat) (x_slates_size : Nat → Int32) (x_slates_sort : Nat → Int32) (n : Nat) (r_ret : Int32) (hp_slates : ∀ j, j < 4 → xp_slates j = some (a_slates_e j)) : ∀ (k : Nat) (v1 : Int32) (v2 : Int32), fX7_slatesThere_4 n x_slates_sort k v1 v2 = some (r_ret) → GX7_slatesThere p l e s m args below meth cd D c A a_this a_text a_facts a_told a_now a_trial a_past a_kept a_sightings a_plan a_slates a_reckoned a_slates_e a_slates_value a_slates_below x_undoable x_keptBits xp_slates x_slates_size x_slates_sort r_ret 4 [] [(0, .ref a_this), (1, .int v1), (2, .int v2)] := by
  have E1 := E0
  obtain ⟨hx, hb, hml, hret, hown, hts, hlocks, hA, hK⟩ := E1
  intro k
  induction k with
  | zero => intro v1 v2 hr; cases hr
  | succ k h_4 =>
    intro v1 v2 hr H locs ls hP hD hS hl
    unfold fX7_slatesThere_4 at hr
    refine lv_iload_n hx hb dX7_slatesThere_4 rfl (lv_at hl 2 rfl) ?_
    refine lv_iconst (v := 4) hx hb dX7_slatesThere_5 (by decide) ?_
    refine lv_icmp_ge (tgt := 30) hx hb dX7_slatesThere_6 (by decide) (fun c_1 => ?_) (fun c_1 => ?_)
    · have hr := x_ift hr c_1
      refine lv_iload_n hx hb dX7_slatesThere_30 rfl (lv_at hl 1 rfl) ?_
      have e0 := x_some hr
      subst e0
      exact x_reti hx hb hret hlocks hP hD hK hS dX7_slatesThere_31
    · have hr := x_iff hr c_1
      refine lv_aload_n hx hb dX7_slatesThere_9 rfl (lv_at hl 0 rfl) ?_
      refine va_get (D := D) (ci := 7) (v := .ref a_slates) (C := RX7) (T := TX7) (N := 13) hx hb hts inX7_slatesThere_X7 hown hK hP 0 rfl rfl 11 (by decide) (hts _ lkX7_slatesThere_f59) (fun _ h9 => h9) rfl dX7_slatesThere_10 ?_
      refine lv_iload_n hx hb dX7_slatesThere_13 rfl (lv_at hl 2 rfl) ?_
      obtain ⟨b_2, hr⟩ := x_chk hr
      have b_3 := x_in0 b_2
      refine va_aldq hx hb hK hP 1 4 rfl rfl b_2 dX7_slatesThere_14 ?_
      generalize he_3 : v2.toNatClampNeg = w_3 at hr b_3 ⊢
      rcases x_lt4 b_3 with rfl | rfl | rfl | rfl
      · refine W.eq (g2 := F0 m 15 ls [.ref (a_slates_e 0)]) (congrArg (fun z => F0 m 15 ls (va_rf z :: [])) (hp_slates 0 (by decide))) ?_
        obtain ⟨q4_0, hc4, hr⟩ := x_bind hr
        refine x_runi (wr := [(a_this, .inr (7, [.ref a_text, .ref a_facts, .ref a_told, .ref a_now, .ref a_trial, .ref a_past, .int x_undoable, .ref a_kept, .int x_keptBits, .ref a_sightings, .ref a_plan, .ref a_slates, .ref a_reckoned])), (a_slates, .inl (c 4, 4, .inr (.inr (.inr (.inr xp_slates))))), ((a_slates_e 1), .inr (5, [.int (x_slates_sort 1), .int (x_slates_size 1), .ref (a_slates_value 1), .ref (a_slates_below 1)])), ((a_slates_e 2), .inr (5, [.int (x_slates_sort 2), .int (x_slates_size 2), .ref (a_slates_value 2), .ref (a_slates_below 2)])), ((a_slates_e 3), .inr (5, [.int (x_slates_sort 3), .int (x_slates_size 3), .ref (a_slates_value 3), .ref (a_slates_below 3)]))]) (wf := [(a_this, .inr (7, [.ref a_text, .ref a_facts, .ref a_told, .ref a_now, .ref a_trial, .ref a_past, .int x_undoable, .ref a_kept, .int x_keptBits, .ref a_sightings, .ref a_plan, .ref a_slates, .ref a_reckoned])), (a_slates, .inl (c 4, 4, .inr (.inr (.inr (.inr xp_slates))))), ((a_slates_e 0), .inr (5, [.int (x_slates_sort 0), .int (x_slates_size 0), .ref (a_slates_value 0), .ref (a_slates_below 0)])), ((a_slates_e 1), .inr (5, [.int (x_slates_sort 1), .int (x_slates_size 1), .ref (a_slates_value 1), .ref (a_slates_below 1)])), ((a_slates_e 2), .inr (5, [.int (x_slates_sort 2), .int (x_slates_size 2), .ref (a_slates_value 2), .ref (a_slates_below 2)])), ((a_slates_e 3), .inr (5, [.int (x_slates_sort 3), .int (x_slates_size 3), .ref (a_slates_value 3), .ref (a_slates_below 3)]))]) (x_goV (As := []) (rest := []) ⟨hx, hb, hml, hown, hts⟩ (mX5_isMissing l D c (a_slates_e 0) (a_slates_value 0) (a_slates_below 0) H.size (x_slates_size 0) (x_slates_sort 0) n _ hc4) (cwV 0 hts gX7_slatesThere_X5_isMissing rfl rfl rfl (by decide +kernel) ⟨Nat.le_of_ble_eq_true rfl, Nat.le_of_ble_eq_true rfl⟩) xB_t hP hD hK [2] rfl (by decide) (fun _ _ _ => trivial) 2 5 rfl rfl rfl rfl hl.1 rfl (Nat.le_of_ble_eq_true rfl) dX7_slatesThere_15) hP hD hS hA [2] [0, 1, 3, 4, 5] [0, 1, 5, 2, 3, 4] rfl rfl rfl ⟨by decide, by decide, by decide⟩ (fun H locs hP hD hS => ?_)
        refine lv_if_ne (tgt := 24) hx hb dX7_slatesThere_18 (by decide) (fun c_5 => ?_) (fun c_5 => ?_)
        · have hr := x_iff hr c_5
          exact kX7_slatesThere_24 E0 a_this a_text a_facts a_told a_now a_trial a_past a_kept a_sightings a_plan a_slates a_reckoned a_slates_e a_slates_value a_slates_below x_undoable x_keptBits xp_slates x_slates_size x_slates_sort n r_ret hp_slates (fX7_slatesThere_4 n x_slates_sort k) h_4 v1 v2 hr H locs ls hP hD hS (lv_sub hl [0, 1, 2] rfl)
        · have hr := x_ift hr c_5
          refine lv_iinc (v := v1 + 1) (lv' := [(1, .int (v1 + 1)), (0, .ref a_this), (2, .int v2)]) hx hb dX7_slatesThere_21 hl (k := 1) rfl rfl (by decide) rfl (fun ls hl => ?_)
          exact kX7_slatesThere_24 E0 a_this a_text a_facts a_told a_now a_trial a_past a_kept a_sightings a_plan a_slates a_reckoned a_slates_e a_slates_value a_slates_below x_undoable x_keptBits xp_slates x_slates_size x_slates_sort n r_ret hp_slates (fX7_slatesThere_4 n x_slates_sort k) h_4 (v1 + 1) v2 hr H locs ls hP hD hS (lv_sub hl [1, 0, 2] rfl)
      · refine W.eq (g2 := F0 m 15 ls [.ref (a_slates_e 1)]) (congrArg (fun z => F0 m 15 ls (va_rf z :: [])) (hp_slates 1 (by decide))) ?_
        obtain ⟨q6_0, hc6, hr⟩ := x_bind hr
        refine x_runi (wr := [(a_this, .inr (7, [.ref a_text, .ref a_facts, .ref a_told, .ref a_now, .ref a_trial, .ref a_past, .int x_undoable, .ref a_kept, .int x_keptBits, .ref a_sightings, .ref a_plan, .ref a_slates, .ref a_reckoned])), (a_slates, .inl (c 4, 4, .inr (.inr (.inr (.inr xp_slates))))), ((a_slates_e 0), .inr (5, [.int (x_slates_sort 0), .int (x_slates_size 0), .ref (a_slates_value 0), .ref (a_slates_below 0)])), ((a_slates_e 2), .inr (5, [.int (x_slates_sort 2), .int (x_slates_size 2), .ref (a_slates_value 2), .ref (a_slates_below 2)])), ((a_slates_e 3), .inr (5, [.int (x_slates_sort 3), .int (x_slates_size 3), .ref (a_slates_value 3), .ref (a_slates_below 3)]))]) (wf := [(a_this, .inr (7, [.ref a_text, .ref a_facts, .ref a_told, .ref a_now, .ref a_trial, .ref a_past, .int x_undoable, .ref a_kept, .int x_keptBits, .ref a_sightings, .ref a_plan, .ref a_slates, .ref a_reckoned])), (a_slates, .inl (c 4, 4, .inr (.inr (.inr (.inr xp_slates))))), ((a_slates_e 0), .inr (5, [.int (x_slates_sort 0), .int (x_slates_size 0), .ref (a_slates_value 0), .ref (a_slates_below 0)])), ((a_slates_e 1), .inr (5, [.int (x_slates_sort 1), .int (x_slates_size 1), .ref (a_slates_value 1), .ref (a_slates_below 1)])), ((a_slates_e 2), .inr (5, [.int (x_slates_sort 2), .int (x_slates_size 2), .ref (a_slates_value 2), .ref (a_slates_below 2)])), ((a_slates_e 3), .inr (5, [.int (x_slates_sort 3), .int (x_slates_size 3), .ref (a_slates_value 3), .ref (a_slates_below 3)]))]) (x_goV (As := []) (rest := []) ⟨hx, hb, hml, hown, hts⟩ (mX5_isMissing l D c (a_slates_e 1) (a_slates_value 1) (a_slates_below 1) H.size (x_slates_size 1) (x_slates_sort 1) n _ hc6) (cwV 0 hts gX7_slatesThere_X5_isMissing rfl rfl rfl (by decide +kernel) ⟨Nat.le_of_ble_eq_true rfl, Nat.le_of_ble_eq_true rfl⟩) xB_t hP hD hK [3] rfl (by decide) (fun _ _ _ => trivial) 3 5 rfl rfl rfl rfl hl.1 rfl (Nat.le_of_ble_eq_true rfl) dX7_slatesThere_15) hP hD hS hA [3] [0, 1, 2, 4, 5] [0, 1, 2, 5, 3, 4] rfl rfl rfl ⟨by decide, by decide, by decide⟩ (fun H locs hP hD hS => ?_)
        refine lv_if_ne (tgt := 24) hx hb dX7_slatesThere_18 (by decide) (fun c_7 => ?_) (fun c_7 => ?_)
        · have hr := x_iff hr c_7
          exact kX7_slatesThere_24 E0 a_this a_text a_facts a_told a_now a_trial a_past a_kept a_sightings a_plan a_slates a_reckoned a_slates_e a_slates_value a_slates_below x_undoable x_keptBits xp_slates x_slates_size x_slates_sort n r_ret hp_slates (fX7_slatesThere_4 n x_slates_sort k) h_4 v1 v2 hr H locs ls hP hD hS (lv_sub hl [0, 1, 2] rfl)
        · have hr := x_ift hr c_7
          refine lv_iinc (v := v1 + 1) (lv' := [(1, .int (v1 + 1)), (0, .ref a_this), (2, .int v2)]) hx hb dX7_slatesThere_21 hl (k := 1) rfl rfl (by decide) rfl (fun ls hl => ?_)
          exact kX7_slatesThere_24 E0 a_this a_text a_facts a_told a_now a_trial a_past a_kept a_sightings a_plan a_slates a_reckoned a_slates_e a_slates_value a_slates_below x_undoable x_keptBits xp_slates x_slates_size x_slates_sort n r_ret hp_slates (fX7_slatesThere_4 n x_slates_sort k) h_4 (v1 + 1) v2 hr H locs ls hP hD hS (lv_sub hl [1, 0, 2] rfl)
      · refine W.eq (g2 := F0 m 15 ls [.ref (a_slates_e 2)]) (congrArg (fun z => F0 m 15 ls (va_rf z :: [])) (hp_slates 2 (by decide))) ?_
        obtain ⟨q8_0, hc8, hr⟩ := x_bind hr
        refine x_runi (wr := [(a_this, .inr (7, [.ref a_text, .ref a_facts, .ref a_told, .ref a_now, .ref a_trial, .ref a_past, .int x_undoable, .ref a_kept, .int x_keptBits, .ref a_sightings, .ref a_plan, .ref a_slates, .ref a_reckoned])), (a_slates, .inl (c 4, 4, .inr (.inr (.inr (.inr xp_slates))))), ((a_slates_e 0), .inr (5, [.int (x_slates_sort 0), .int (x_slates_size 0), .ref (a_slates_value 0), .ref (a_slates_below 0)])), ((a_slates_e 1), .inr (5, [.int (x_slates_sort 1), .int (x_slates_size 1), .ref (a_slates_value 1), .ref (a_slates_below 1)])), ((a_slates_e 3), .inr (5, [.int (x_slates_sort 3), .int (x_slates_size 3), .ref (a_slates_value 3), .ref (a_slates_below 3)]))]) (wf := [(a_this, .inr (7, [.ref a_text, .ref a_facts, .ref a_told, .ref a_now, .ref a_trial, .ref a_past, .int x_undoable, .ref a_kept, .int x_keptBits, .ref a_sightings, .ref a_plan, .ref a_slates, .ref a_reckoned])), (a_slates, .inl (c 4, 4, .inr (.inr (.inr (.inr xp_slates))))), ((a_slates_e 0), .inr (5, [.int (x_slates_sort 0), .int (x_slates_size 0), .ref (a_slates_value 0), .ref (a_slates_below 0)])), ((a_slates_e 1), .inr (5, [.int (x_slates_sort 1), .int (x_slates_size 1), .ref (a_slates_value 1), .ref (a_slates_below 1)])), ((a_slates_e 2), .inr (5, [.int (x_slates_sort 2), .int (x_slates_size 2), .ref (a_slates_value 2), .ref (a_slates_below 2)])), ((a_slates_e 3), .inr (5, [.int (x_slates_sort 3), .int (x_slates_size 3), .ref (a_slates_value 3), .ref (a_slates_below 3)]))]) (x_goV (As := []) (rest := []) ⟨hx, hb, hml, hown, hts⟩ (mX5_isMissing l D c (a_slates_e 2) (a_slates_value 2) (a_slates_below 2) H.size (x_slates_size 2) (x_slates_sort 2) n _ hc8) (cwV 0 hts gX7_slatesThere_X5_isMissing rfl rfl rfl (by decide +kernel) ⟨Nat.le_of_ble_eq_true rfl, Nat.le_of_ble_eq_true rfl⟩) xB_t hP hD hK [4] rfl (by decide) (fun _ _ _ => trivial) 4 5 rfl rfl rfl rfl hl.1 rfl (Nat.le_of_ble_eq_true rfl) dX7_slatesThere_15) hP hD hS hA [4] [0, 1, 2, 3, 5] [0, 1, 2, 3, 5, 4] rfl rfl rfl ⟨by decide, by decide, by decide⟩ (fun H locs hP hD hS => ?_)
        refine lv_if_ne (tgt := 24) hx hb dX7_slatesThere_18 (by decide) (fun c_9 => ?_) (fun c_9 => ?_)
        · have hr := x_iff hr c_9
          exact kX7_slatesThere_24 E0 a_this a_text a_facts a_told a_now a_trial a_past a_kept a_sightings a_plan a_slates a_reckoned a_slates_e a_slates_value a_slates_below x_undoable x_keptBits xp_slates x_slates_size x_slates_sort n r_ret hp_slates (fX7_slatesThere_4 n x_slates_sort k) h_4 v1 v2 hr H locs ls hP hD hS (lv_sub hl [0, 1, 2] rfl)
        · have hr := x_ift hr c_9
          refine lv_iinc (v := v1 + 1) (lv' := [(1, .int (v1 + 1)), (0, .ref a_this), (2, .int v2)]) hx hb dX7_slatesThere_21 hl (k := 1) rfl rfl (by decide) rfl (fun ls hl => ?_)
          exact kX7_slatesThere_24 E0 a_this a_text a_facts a_told a_now a_trial a_past a_kept a_sightings a_plan a_slates a_reckoned a_slates_e a_slates_value a_slates_below x_undoable x_keptBits xp_slates x_slates_size x_slates_sort n r_ret hp_slates (fX7_slatesThere_4 n x_slates_sort k) h_4 (v1 + 1) v2 hr H locs ls hP hD hS (lv_sub hl [1, 0, 2] rfl)
      · refine W.eq (g2 := F0 m 15 ls [.ref (a_slates_e 3)]) (congrArg (fun z => F0 m 15 ls (va_rf z :: [])) (hp_slates 3 (by decide))) ?_
        obtain ⟨q10_0, hc10, hr⟩ := x_bind hr
        refine x_runi (wr := [(a_this, .inr (7, [.ref a_text, .ref a_facts, .ref a_told, .ref a_now, .ref a_trial, .ref a_past, .int x_undoable, .ref a_kept, .int x_keptBits, .ref a_sightings, .ref a_plan, .ref a_slates, .ref a_reckoned])), (a_slates, .inl (c 4, 4, .inr (.inr (.inr (.inr xp_slates))))), ((a_slates_e 0), .inr (5, [.int (x_slates_sort 0), .int (x_slates_size 0), .ref (a_slates_value 0), .ref (a_slates_below 0)])), ((a_slates_e 1), .inr (5, [.int (x_slates_sort 1), .int (x_slates_size 1), .ref (a_slates_value 1), .ref (a_slates_below 1)])), ((a_slates_e 2), .inr (5, [.int (x_slates_sort 2), .int (x_slates_size 2), .ref (a_slates_value 2), .ref (a_slates_below 2)]))]) (wf := [(a_this, .inr (7, [.ref a_text, .ref a_facts, .ref a_told, .ref a_now, .ref a_trial, .ref a_past, .int x_undoable, .ref a_kept, .int x_keptBits, .ref a_sightings, .ref a_plan, .ref a_slates, .ref a_reckoned])), (a_slates, .inl (c 4, 4, .inr (.inr (.inr (.inr xp_slates))))), ((a_slates_e 0), .inr (5, [.int (x_slates_sort 0), .int (x_slates_size 0), .ref (a_slates_value 0), .ref (a_slates_below 0)])), ((a_slates_e 1), .inr (5, [.int (x_slates_sort 1), .int (x_slates_size 1), .ref (a_slates_value 1), .ref (a_slates_below 1)])), ((a_slates_e 2), .inr (5, [.int (x_slates_sort 2), .int (x_slates_size 2), .ref (a_slates_value 2), .ref (a_slates_below 2)])), ((a_slates_e 3), .inr (5, [.int (x_slates_sort 3), .int (x_slates_size 3), .ref (a_slates_value 3), .ref (a_slates_below 3)]))]) (x_goV (As := []) (rest := []) ⟨hx, hb, hml, hown, hts⟩ (mX5_isMissing l D c (a_slates_e 3) (a_slates_value 3) (a_slates_below 3) H.size (x_slates_size 3) (x_slates_sort 3) n _ hc10) (cwV 0 hts gX7_slatesThere_X5_isMissing rfl rfl rfl (by decide +kernel) ⟨Nat.le_of_ble_eq_true rfl, Nat.le_of_ble_eq_true rfl⟩) xB_t hP hD hK [5] rfl (by decide) (fun _ _ _ => trivial) 5 5 rfl rfl rfl rfl hl.1 rfl (Nat.le_of_ble_eq_true rfl) dX7_slatesThere_15) hP hD hS hA [5] [0, 1, 2, 3, 4] [0, 1, 2, 3, 4, 5] rfl rfl rfl ⟨by decide, by decide, by decide⟩ (fun H locs hP hD hS => ?_)
        refine lv_if_ne (tgt := 24) hx hb dX7_slatesThere_18 (by decide) (fun c_11 => ?_) (fun c_11 => ?_)
        · have hr := x_iff hr c_11
          exact kX7_slatesThere_24 E0 a_this a_text a_facts a_told a_now a_trial a_past a_kept a_sightings a_plan a_slates a_reckoned a_slates_e a_slates_value a_slates_below x_undoable x_keptBits xp_slates x_slates_size x_slates_sort n r_ret hp_slates (fX7_slatesThere_4 n x_slates_sort k) h_4 v1 v2 hr H locs ls hP hD hS (lv_sub hl [0, 1, 2] rfl)
        · have hr := x_ift hr c_11
          refine lv_iinc (v := v1 + 1) (lv' := [(1, .int (v1 + 1)), (0, .ref a_this), (2, .int v2)]) hx hb dX7_slatesThere_21 hl (k := 1) rfl rfl (by decide) rfl (fun ls hl => ?_)
          exact kX7_slatesThere_24 E0 a_this a_text a_facts a_told a_now a_trial a_past a_kept a_sightings a_plan a_slates a_reckoned a_slates_e a_slates_value a_slates_below x_undoable x_keptBits xp_slates x_slates_size x_slates_sort n r_ret hp_slates (fX7_slatesThere_4 n x_slates_sort k) h_4 (v1 + 1) v2 hr H locs ls hP hD hS (lv_sub hl [1, 0, 2] rfl)
set_option maxHeartbeats 4000000 in
set_option maxRecDepth 100000 in
theorem kX7_slatesThere_0 {p : Program} {l : Launch} {e : Env} {s : State} {m : MethodId} {args : Array Value} {below : List Frame} {meth : Method} {cd : Code} {D : va_G} {c : Nat → ClassId} {A : Nat → Prop} (E0 : xE p s m args meth cd D (xT c) A RX7 cX7_slatesThere 3 (some .int) wsX7_slatesThere) (a_this : Nat) (a_text : Nat) (a_facts : Nat) (a_told : Nat) (a_now : Nat) (a_trial : Nat) (a_past : Nat) (a_kept : Nat) (a_sightings : Nat) (a_plan : Nat) (a_slates : Nat) (a_reckoned : Nat) (a_slates_e : Nat → Nat) (a_slates_value : Nat → Nat) (a_slates_below : Nat → Nat) (x_undoable : Int32) (x_keptBits : Int32) (xp_slates : Nat → Option Nat) (x_slates_size : Nat → Int32) (x_slates_sort : Nat → Int32) (n : Nat) (r_ret : Int32) (hp_slates : ∀ j, j < 4 → xp_slates j = some (a_slates_e j)) (hr : fX7_slatesThere n x_slates_sort = some (r_ret)) : GX7_slatesThere p l e s m args below meth cd D c A a_this a_text a_facts a_told a_now a_trial a_past a_kept a_sightings a_plan a_slates a_reckoned a_slates_e a_slates_value a_slates_below x_undoable x_keptBits xp_slates x_slates_size x_slates_sort r_ret 0 [] [(0, .ref a_this)] := by
  have E1 := E0
  obtain ⟨hx, hb, hml, hret, hown, hts, hlocks, hA, hK⟩ := E1
  intro H locs ls hP hD hS hl
  unfold fX7_slatesThere at hr
  refine lv_iconst (v := 0) hx hb dX7_slatesThere_0 (by decide) ?_
  refine lv_istore_n (lv' := [(1, .int 0), (0, .ref a_this)]) hx hb dX7_slatesThere_1 rfl hl (by decide) rfl (fun ls hl => ?_)
  refine lv_iconst (v := 0) hx hb dX7_slatesThere_2 (by decide) ?_
  refine lv_istore_n (lv' := [(2, .int 0), (1, .int 0), (0, .ref a_this)]) hx hb dX7_slatesThere_3 rfl hl (by decide) rfl (fun ls hl => ?_)
  exact kX7_slatesThere_4 E0 a_this a_text a_facts a_told a_now a_trial a_past a_kept a_sightings a_plan a_slates a_reckoned a_slates_e a_slates_value a_slates_below x_undoable x_keptBits xp_slates x_slates_size x_slates_sort n r_ret hp_slates n 0 0 hr H locs ls hP hD hS (lv_sub hl [2, 1, 0] rfl)
set_option maxHeartbeats 4000000 in
set_option maxRecDepth 100000 in
theorem mX7_slatesThere (l : Launch) (D : va_G) (c : Nat → ClassId) (a_this : Nat) (a_text : Nat) (a_facts : Nat) (a_told : Nat) (a_now : Nat) (a_trial : Nat) (a_past : Nat) (a_kept : Nat) (a_sightings : Nat) (a_plan : Nat) (a_slates : Nat) (a_reckoned : Nat) (a_slates_e : Nat → Nat) (a_slates_value : Nat → Nat) (a_slates_below : Nat → Nat) (sz : Nat) (x_undoable : Int32) (x_keptBits : Int32) (xp_slates : Nat → Option Nat) (x_slates_size : Nat → Int32) (x_slates_sort : Nat → Int32) (n : Nat) (r_ret : Int32) (h : fX7_slatesThere n x_slates_sort = some (r_ret)) (hp_slates : ∀ j, j < 4 → xp_slates j = some (a_slates_e j)) : Met l yX7_slatesThere wsX7_slatesThere ({ frames := 1, cells := 0, slots := 0, locals := 20 } : Room) (xPc D (xT c) sz [.ref a_this] (wX7_slatesThere c a_this a_text a_facts a_told a_now a_trial a_past a_kept a_sightings a_plan a_slates a_reckoned a_slates_e a_slates_value a_slates_below x_undoable x_keptBits xp_slates x_slates_size x_slates_sort) (fun _ => True)) (xQi D (xT c) (va_A (wX7_slatesThere c a_this a_text a_facts a_told a_now a_trial a_past a_kept a_sightings a_plan a_slates a_reckoned a_slates_e a_slates_value a_slates_below x_undoable x_keptBits xp_slates x_slates_size x_slates_sort) sz) r_ret (wX7_slatesThere c a_this a_text a_facts a_told a_now a_trial a_past a_kept a_sightings a_plan a_slates a_reckoned a_slates_e a_slates_value a_slates_below x_undoable x_keptBits xp_slates x_slates_size x_slates_sort)) 0 0 (va_A (wX7_slatesThere c a_this a_text a_facts a_told a_now a_trial a_past a_kept a_sightings a_plan a_slates a_reckoned a_slates_e a_slates_value a_slates_below x_undoable x_keptBits xp_slates x_slates_size x_slates_sort) sz) := by
  refine Met.ofW (cc := cX7_slatesThere) (maxL := 3) (ret := (some .int)) (by decide) rfl ?_
  intro p e s m args below meth cd s₁ B hml hv
  obtain ⟨rfl, hsz, hP, hK, hD0, hV⟩ := hv
  subst hsz
  have hl := lv_entry [.ref a_this] (n := 3) (Nat.le_of_ble_eq_true rfl)
  rw [lg_entry_eq]
  exact kX7_slatesThere_0 (A := va_A (wX7_slatesThere c a_this a_text a_facts a_told a_now a_trial a_past a_kept a_sightings a_plan a_slates a_reckoned a_slates_e a_slates_value a_slates_below x_undoable x_keptBits xp_slates x_slates_size x_slates_sort) s.heap.size) ⟨B.exec, B.bytes, hml, B.returns, findClass_of_methodNamed B.named, atoms_spec (ws := wsX7_slatesThere) B.pre, B.notSynchronized, fun q h => Or.inr h, hK⟩ a_this a_text a_facts a_told a_now a_trial a_past a_kept a_sightings a_plan a_slates a_reckoned a_slates_e a_slates_value a_slates_below x_undoable x_keptBits xp_slates x_slates_size x_slates_sort n r_ret hp_slates h s.heap [] _ hP hD0.self va_S.rf hl

