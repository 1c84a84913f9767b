abbrev wX7_fact (c : Nat → ClassId) (a_this : Nat) (a_text : Nat) (a_facts : Nat) (a_told : Nat) (a_now : Nat) (a_trial : Nat) (a_past : Nat) (a_kept : Nat) (a_sightings : Nat) (a_plan : Nat) (a_slates : Nat) (a_reckoned : Nat) (a_facts_leans : Nat) (a_facts_all : Nat) (a_facts_lostWith : Nat) (a_now_knows : Nat) (a_now_kind : Nat) (a_now_on : Nat) (a_now_has : Nat) (x_undoable : Int32) (x_keptBits : Int32) (x_now_basin : Int32) (x_now_minute : Int32) (x_facts_size : Int32) (x_facts_leans : Nat → Int32) (x_facts_all : Nat → Int32) (x_now_members : Int32) (x_now_knows : Nat → Int32) (x_now_leeches : Int32) (x_now_has : Nat → Int32) : va_W := [(a_this, .inr (7, [.ref a_text, .ref a_facts, .ref a_told, .ref a_now, .ref a_trial, .ref a_past, .int x_undoable, .ref a_kept, .int x_keptBits, .ref a_sightings, .ref a_plan, .ref a_slates, .ref a_reckoned])), (a_facts, .inr (0, [.int x_facts_size, .ref a_facts_leans, .ref a_facts_all, .ref a_facts_lostWith])), (a_facts_leans, .inl (c 0, 12, .inl x_facts_leans)), (a_facts_all, .inl (c 0, 12, .inl x_facts_all)), (a_now, .inr (3, [.int x_now_members, .int x_now_leeches, .int x_now_basin, .int x_now_minute, .ref a_now_knows, .ref a_now_kind, .ref a_now_on, .ref a_now_has])), (a_now_knows, .inl (c 0, 4, .inl x_now_knows)), (a_now_has, .inl (c 0, 5, .inl x_now_has))]
def GX7_fact (p : Program) (l : Launch) (e : Env) (s : State) (m : MethodId) (args : Array Value) (below : List Frame) (meth : Method) (cd : Code) (D : va_G) (c : Nat → ClassId) (A : Nat → Prop) (a_this : Nat) (a_text : Nat) (a_facts : Nat) (a_told : Nat) (a_now : Nat) (a_trial : Nat) (a_past : Nat) (a_kept : Nat) (a_sightings : Nat) (a_plan : Nat) (a_slates : Nat) (a_reckoned : Nat) (a_facts_leans : Nat) (a_facts_all : Nat) (a_facts_lostWith : Nat) (a_now_knows : Nat) (a_now_kind : Nat) (a_now_on : Nat) (a_now_has : Nat) (x_undoable : Int32) (x_keptBits : Int32) (x_now_basin : Int32) (x_now_minute : Int32) (x_facts_size : Int32) (x_facts_leans : Nat → Int32) (x_facts_all : Nat → Int32) (x_now_members : Int32) (x_now_knows : Nat → Int32) (x_now_leeches : Int32) (x_now_has : Nat → Int32) (r_ret : Int32) (pc : Nat) (st : List Value) (loc : List (Nat × Value)) : Prop :=
  ∀ (H : Heap) (locs : List Loc) (ls : Array Slot), va_P D vwCl (wX7_fact c a_this a_text a_facts a_told a_now a_trial a_past a_kept a_sightings a_plan a_slates a_reckoned a_facts_leans a_facts_all a_facts_lostWith a_now_knows a_now_kind a_now_on a_now_has x_undoable x_keptBits x_now_basin x_now_minute x_facts_size x_facts_leans x_facts_all x_now_members x_now_knows x_now_leeches x_now_has) H → va_D A (wX7_fact c a_this a_text a_facts a_told a_now a_trial a_past a_kept a_sightings a_plan a_slates a_reckoned a_facts_leans a_facts_all a_facts_lostWith a_now_knows a_now_kind a_now_on a_now_has x_undoable x_keptBits x_now_basin x_now_minute x_facts_size x_facts_leans x_facts_all x_now_members x_now_knows x_now_leeches x_now_has) → va_S A s.heap H locs → lv_has ls 3 loc → W p l e ({ frames := 2, cells := 0, slots := 0, locals := 45 } : Room) s m args below meth cd H locs 0 0 (MQ below (xQi D (xT c) A r_ret (wX7_fact c a_this a_text a_facts a_told a_now a_trial a_past a_kept a_sightings a_plan a_slates a_reckoned a_facts_leans a_facts_all a_facts_lostWith a_now_knows a_now_kind a_now_on a_now_has x_undoable x_keptBits x_now_basin x_now_minute x_facts_size x_facts_leans x_facts_all x_now_members x_now_knows x_now_leeches x_now_has)) args s 0 0 A) (F0 m pc ls st)
theorem lkX7_fact_f110 : Cond.fieldLink RX7 110 "LeechClub$Facts" "leans" "[I" ∈ wsX7_fact := by decide +kernel
theorem lkX7_fact_f113 : Cond.fieldLink RX7 113 "LeechClub$Facts" "all" "[I" ∈ wsX7_fact := by decide +kernel
theorem lkX7_fact_f116 : Cond.fieldLink RX7 116 "LeechClub$Room" "knows" "[I" ∈ wsX7_fact := by decide +kernel
theorem lkX7_fact_f119 : Cond.fieldLink RX7 119 "LeechClub$Room" "members" "I" ∈ wsX7_fact := by decide +kernel
theorem lkX7_fact_f126 : Cond.fieldLink RX7 126 "LeechClub$Room" "has" "[I" ∈ wsX7_fact := by decide +kernel
theorem lkX7_fact_f129 : Cond.fieldLink RX7 129 "LeechClub$Room" "leeches" "I" ∈ wsX7_fact := by decide +kernel
theorem lkX7_fact_f19 : Cond.fieldLink RX7 19 "LeechClub" "facts" "LLeechClub$Facts;" ∈ wsX7_fact := by decide +kernel
theorem lkX7_fact_f30 : Cond.fieldLink RX7 30 "LeechClub" "now" "LLeechClub$Room;" ∈ wsX7_fact := by decide +kernel
theorem inX7_fact_X7 : ∀ w ∈ wsX70, w ∈ wsX7_fact := by decide +kernel
theorem inX7_fact_X0 : ∀ w ∈ wsX00, w ∈ wsX7_fact := by decide +kernel
theorem inX7_fact_X3 : ∀ w ∈ wsX30, w ∈ wsX7_fact := by decide +kernel
set_option maxHeartbeats 4000000 in
set_option maxRecDepth 100000 in
theorem kX7_fact_0 {p : Program} {l : Launch} {e : Env} {s : State} {m : MethodId} {args : Array Value} {below : List Frame} {meth : Method} {cd : Code} {D : va_G} {c : Nat → ClassId} {A : Nat → Prop} (E0 : xE p s m args meth cd D (xT c) A RX7 cX7_fact 3 (some .int) wsX7_fact) (a_this : Nat) (a_text : Nat) (a_facts : Nat) (a_told : Nat) (a_now : Nat) (a_trial : Nat) (a_past : Nat) (a_kept : Nat) (a_sightings : Nat) (a_plan : Nat) (a_slates : Nat) (a_reckoned : Nat) (a_facts_leans : Nat) (a_facts_all : Nat) (a_facts_lostWith : Nat) (a_now_knows : Nat) (a_now_kind : Nat) (a_now_on : Nat) (a_now_has : Nat) (x_undoable : Int32) (x_keptBits : Int32) (x_now_basin : Int32) (x_now_minute : Int32) (x_facts_size : Int32) (x_facts_leans : Nat → Int32) (x_facts_all : Nat → Int32) (x_now_members : Int32) (x_now_knows : Nat → Int32) (x_now_leeches : Int32) (x_now_has : Nat → Int32) (n : Nat) (r_ret : Int32) (v1 : Int32) (v2 : Int32) (hr : fX7_fact n x_facts_size x_facts_leans x_facts_all x_now_members x_now_knows x_now_leeches x_now_has v1 v2 = some (r_ret)) : GX7_fact p l e s m args below meth cd D c A a_this a_text a_facts a_told a_now a_trial a_past a_kept a_sightings a_plan a_slates a_reckoned a_facts_leans a_facts_all a_facts_lostWith a_now_knows a_now_kind a_now_on a_now_has x_undoable x_keptBits x_now_basin x_now_minute x_facts_size x_facts_leans x_facts_all x_now_members x_now_knows x_now_leeches x_now_has r_ret 0 [] [(0, .ref a_this), (1, .int v1), (2, .int v2)] := by
  have E1 := E0
  obtain ⟨hx, hb, hml, hret, hown, hts, hlocks, hA, hK⟩ := E1
  intro H locs ls hP hD hS hl
  unfold fX7_fact at hr
  refine lv_aload_n hx hb dX7_fact_0 rfl (lv_at hl 0 rfl) ?_
  refine va_get (D := D) (ci := 7) (v := .ref a_facts) (C := RX7) (T := TX7) (N := 13) hx hb hts inX7_fact_X7 hown hK hP 0 rfl rfl 1 (by decide) (hts _ lkX7_fact_f19) (fun _ h9 => h9) rfl dX7_fact_1 ?_
  refine lv_iload_n hx hb dX7_fact_4 rfl (lv_at hl 1 rfl) ?_
  obtain ⟨q1_0, hc1, hr⟩ := x_bind hr
  refine x_runi (wr := [(a_this, .inr (7, [.ref a_text, .ref a_facts, .ref a_told, .ref a_now, .ref a_trial, .ref a_past, .int x_undoable, .ref a_kept, .int x_keptBits, .ref a_sightings, .ref a_plan, .ref a_slates, .ref a_reckoned])), (a_facts_leans, .inl (c 0, 12, .inl x_facts_leans)), (a_facts_all, .inl (c 0, 12, .inl x_facts_all)), (a_now, .inr (3, [.int x_now_members, .int x_now_leeches, .int x_now_basin, .int x_now_minute, .ref a_now_knows, .ref a_now_kind, .ref a_now_on, .ref a_now_has])), (a_now_knows, .inl (c 0, 4, .inl x_now_knows)), (a_now_has, .inl (c 0, 5, .inl x_now_has))]) (wf := [(a_this, .inr (7, [.ref a_text, .ref a_facts, .ref a_told, .ref a_now, .ref a_trial, .ref a_past, .int x_undoable, .ref a_kept, .int x_keptBits, .ref a_sightings, .ref a_plan, .ref a_slates, .ref a_reckoned])), (a_facts, .inr (0, [.int x_facts_size, .ref a_facts_leans, .ref a_facts_all, .ref a_facts_lostWith])), (a_facts_leans, .inl (c 0, 12, .inl x_facts_leans)), (a_facts_all, .inl (c 0, 12, .inl x_facts_all)), (a_now, .inr (3, [.int x_now_members, .int x_now_leeches, .int x_now_basin, .int x_now_minute, .ref a_now_knows, .ref a_now_kind, .ref a_now_on, .ref a_now_has])), (a_now_knows, .inl (c 0, 4, .inl x_now_knows)), (a_now_has, .inl (c 0, 5, .inl x_now_has))]) (x_goV (As := [.int v1]) (rest := []) ⟨hx, hb, hml, hown, hts⟩ (mX0_hasFact l D c a_facts a_facts_leans a_facts_all a_facts_lostWith H.size x_facts_size v1 n _ hc1) (cwV 1 hts gX7_fact_X0_hasFact rfl rfl rfl (by decide +kernel) ⟨Nat.le_of_ble_eq_true rfl, Nat.le_of_ble_eq_true rfl⟩) xB_t hP hD hK [1] rfl (by decide) (fun _ _ _ => trivial) 1 0 rfl rfl rfl rfl hl.1 rfl (Nat.le_of_ble_eq_true rfl) dX7_fact_5) hP hD hS hA [1] [0, 2, 3, 4, 5, 6] [0, 6, 1, 2, 3, 4, 5] rfl rfl rfl ⟨by decide, by decide, by decide⟩ (fun H locs hP hD hS => ?_)
  refine lv_if_ne (tgt := 14) hx hb dX7_fact_8 (by decide) (fun c_2 => ?_) (fun c_2 => ?_)
  · have hr := x_iff hr c_2
    refine lv_iload_n hx hb dX7_fact_14 rfl (lv_at hl 2 rfl) ?_
    by_cases c_3 : v2 = 0
    · have hr := x_ift hr c_3
      refine lv_tableIn (off := 29) (tgt := 44) hx hb dX7_fact_15 (by rw [c_3]; decide) (by rw [c_3]; decide) (by rw [c_3]; rfl) (by decide) ?_
      refine lv_aload_n hx hb dX7_fact_44 rfl (lv_at hl 0 rfl) ?_
      refine va_get (D := D) (ci := 7) (v := .ref a_facts) (C := RX7) (T := TX7) (N := 13) hx hb hts inX7_fact_X7 hown hK hP 0 rfl rfl 1 (by decide) (hts _ lkX7_fact_f19) (fun _ h9 => h9) rfl dX7_fact_45 ?_
      refine va_get (D := D) (ci := 0) (v := .ref a_facts_leans) (C := RX0) (T := TX0) (N := 4) hx hb hts inX7_fact_X0 hown hK hP 1 rfl rfl 1 (by decide) (hts _ lkX7_fact_f110) (fun _ h9 => h9) rfl dX7_fact_48 ?_
      refine lv_iload_n hx hb dX7_fact_51 rfl (lv_at hl 1 rfl) ?_
      obtain ⟨b_4, hr⟩ := x_chk hr
      refine va_iald hx hb hK hP 2 0 rfl rfl b_4 dX7_fact_52 ?_
      have e0 := x_some hr
      subst e0
      exact x_reti hx hb hret hlocks hP hD hK hS dX7_fact_53
    · have hr := x_iff hr c_3
      by_cases c_5 : v2 = 1
      · have hr := x_ift hr c_5
        refine lv_tableIn (off := 39) (tgt := 54) hx hb dX7_fact_15 (by rw [c_5]; decide) (by rw [c_5]; decide) (by rw [c_5]; rfl) (by decide) ?_
        refine lv_aload_n hx hb dX7_fact_54 rfl (lv_at hl 0 rfl) ?_
        refine va_get (D := D) (ci := 7) (v := .ref a_facts) (C := RX7) (T := TX7) (N := 13) hx hb hts inX7_fact_X7 hown hK hP 0 rfl rfl 1 (by decide) (hts _ lkX7_fact_f19) (fun _ h9 => h9) rfl dX7_fact_55 ?_
        refine va_get (D := D) (ci := 0) (v := .ref a_facts_all) (C := RX0) (T := TX0) (N := 4) hx hb hts inX7_fact_X0 hown hK hP 1 rfl rfl 2 (by decide) (hts _ lkX7_fact_f113) (fun _ h9 => h9) rfl dX7_fact_58 ?_
        refine lv_iload_n hx hb dX7_fact_61 rfl (lv_at hl 1 rfl) ?_
        obtain ⟨b_6, hr⟩ := x_chk hr
        refine va_iald hx hb hK hP 3 0 rfl rfl b_6 dX7_fact_62 ?_
        have e0 := x_some hr
        subst e0
        exact x_reti hx hb hret hlocks hP hD hK hS dX7_fact_63
      · have hr := x_iff hr c_5
        by_cases c_7 : v2 = 2
        · have hr := x_ift hr c_7
          refine lv_tableIn (off := 49) (tgt := 64) hx hb dX7_fact_15 (by rw [c_7]; decide) (by rw [c_7]; decide) (by rw [c_7]; rfl) (by decide) ?_
          refine lv_aload_n hx hb dX7_fact_64 rfl (lv_at hl 0 rfl) ?_
          refine va_get (D := D) (ci := 7) (v := .ref a_now) (C := RX7) (T := TX7) (N := 13) hx hb hts inX7_fact_X7 hown hK hP 0 rfl rfl 3 (by decide) (hts _ lkX7_fact_f30) (fun _ h9 => h9) rfl dX7_fact_65 ?_
          refine va_get (D := D) (ci := 3) (v := .ref a_now_knows) (C := RX3) (T := TX3) (N := 8) hx hb hts inX7_fact_X3 hown hK hP 4 rfl rfl 4 (by decide) (hts _ lkX7_fact_f116) (fun _ h9 => h9) rfl dX7_fact_68 ?_
          refine lv_aload_n hx hb dX7_fact_71 rfl (lv_at hl 0 rfl) ?_
          refine va_get (D := D) (ci := 7) (v := .ref a_now) (C := RX7) (T := TX7) (N := 13) hx hb hts inX7_fact_X7 hown hK hP 0 rfl rfl 3 (by decide) (hts _ lkX7_fact_f30) (fun _ h9 => h9) rfl dX7_fact_72 ?_
          refine va_get (D := D) (ci := 3) (v := .int x_now_members) (C := RX3) (T := TX3) (N := 8) hx hb hts inX7_fact_X3 hown hK hP 4 rfl rfl 0 (by decide) (hts _ lkX7_fact_f119) (fun _ h9 => h9) rfl dX7_fact_75 ?_
          refine lv_iload_n hx hb dX7_fact_78 rfl (lv_at hl 1 rfl) ?_
          obtain ⟨q8_0, hc8, hr⟩ := x_bind hr
          refine x_runi (wr := [(a_this, .inr (7, [.ref a_text, .ref a_facts, .ref a_told, .ref a_now, .ref a_trial, .ref a_past, .int x_undoable, .ref a_kept, .int x_keptBits, .ref a_sightings, .ref a_plan, .ref a_slates, .ref a_reckoned])), (a_facts, .inr (0, [.int x_facts_size, .ref a_facts_leans, .ref a_facts_all, .ref a_facts_lostWith])), (a_facts_leans, .inl (c 0, 12, .inl x_facts_leans)), (a_facts_all, .inl (c 0, 12, .inl x_facts_all)), (a_now, .inr (3, [.int x_now_members, .int x_now_leeches, .int x_now_basin, .int x_now_minute, .ref a_now_knows, .ref a_now_kind, .ref a_now_on, .ref a_now_has])), (a_now_has, .inl (c 0, 5, .inl x_now_has))]) (wf := [(a_this, .inr (7, [.ref a_text, .ref a_facts, .ref a_told, .ref a_now, .ref a_trial, .ref a_past, .int x_undoable, .ref a_kept, .int x_keptBits, .ref a_sightings, .ref a_plan, .ref a_slates, .ref a_reckoned])), (a_facts, .inr (0, [.int x_facts_size, .ref a_facts_leans, .ref a_facts_all, .ref a_facts_lostWith])), (a_facts_leans, .inl (c 0, 12, .inl x_facts_leans)), (a_facts_all, .inl (c 0, 12, .inl x_facts_all)), (a_now, .inr (3, [.int x_now_members, .int x_now_leeches, .int x_now_basin, .int x_now_minute, .ref a_now_knows, .ref a_now_kind, .ref a_now_on, .ref a_now_has])), (a_now_knows, .inl (c 0, 4, .inl x_now_knows)), (a_now_has, .inl (c 0, 5, .inl x_now_has))]) (x_goS (As := [.ref a_now_knows, .int x_now_members, .int v1]) (rest := []) ⟨hx, hb, hml, hown, hts⟩ (mX7_bitsWith l D c a_now_knows H.size 4 x_now_knows x_now_members v1 n _ hc8) (va_cwS 3 hts gX7_fact_X7_bitsWith rfl rfl rfl (by decide +kernel) ⟨Nat.le_of_ble_eq_true rfl, Nat.le_of_ble_eq_true rfl⟩) xB_t hP hD hK [5] rfl (by decide) (fun _ _ _ => trivial) rfl hl.1 rfl (Nat.le_of_ble_eq_true rfl) dX7_fact_79) hP hD hS hA [5] [0, 1, 2, 3, 4, 6] [0, 1, 2, 3, 4, 6, 5] rfl rfl rfl ⟨by decide, by decide, by decide⟩ (fun H locs hP hD hS => ?_)
          have e0 := x_some hr
          subst e0
          exact x_reti hx hb hret hlocks hP hD hK hS dX7_fact_82
        · have hr := x_iff hr c_7
          by_cases c_9 : v2 = 3
          · have hr := x_ift hr c_9
            refine lv_tableIn (off := 68) (tgt := 83) hx hb dX7_fact_15 (by rw [c_9]; decide) (by rw [c_9]; decide) (by rw [c_9]; rfl) (by decide) ?_
            refine lv_aload_n hx hb dX7_fact_83 rfl (lv_at hl 0 rfl) ?_
            refine va_get (D := D) (ci := 7) (v := .ref a_now) (C := RX7) (T := TX7) (N := 13) hx hb hts inX7_fact_X7 hown hK hP 0 rfl rfl 3 (by decide) (hts _ lkX7_fact_f30) (fun _ h9 => h9) rfl dX7_fact_84 ?_
            refine va_get (D := D) (ci := 3) (v := .ref a_now_has) (C := RX3) (T := TX3) (N := 8) hx hb hts inX7_fact_X3 hown hK hP 4 rfl rfl 7 (by decide) (hts _ lkX7_fact_f126) (fun _ h9 => h9) rfl dX7_fact_87 ?_
            refine lv_aload_n hx hb dX7_fact_90 rfl (lv_at hl 0 rfl) ?_
            refine va_get (D := D) (ci := 7) (v := .ref a_now) (C := RX7) (T := TX7) (N := 13) hx hb hts inX7_fact_X7 hown hK hP 0 rfl rfl 3 (by decide) (hts _ lkX7_fact_f30) (fun _ h9 => h9) rfl dX7_fact_91 ?_
            refine va_get (D := D) (ci := 3) (v := .int x_now_leeches) (C := RX3) (T := TX3) (N := 8) hx hb hts inX7_fact_X3 hown hK hP 4 rfl rfl 1 (by decide) (hts _ lkX7_fact_f129) (fun _ h9 => h9) rfl dX7_fact_94 ?_
            refine lv_iload_n hx hb dX7_fact_97 rfl (lv_at hl 1 rfl) ?_
            obtain ⟨q10_0, hc10, hr⟩ := x_bind hr
            refine x_runi (wr := [(a_this, .inr (7, [.ref a_text, .ref a_facts, .ref a_told, .ref a_now, .ref a_trial, .ref a_past, .int x_undoable, .ref a_kept, .int x_keptBits, .ref a_sightings, .ref a_plan, .ref a_slates, .ref a_reckoned])), (a_facts, .inr (0, [.int x_facts_size, .ref a_facts_leans, .ref a_facts_all, .ref a_facts_lostWith])), (a_facts_leans, .inl (c 0, 12, .inl x_facts_leans)), (a_facts_all, .inl (c 0, 12, .inl x_facts_all)), (a_now, .inr (3, [.int x_now_members, .int x_now_leeches, .int x_now_basin, .int x_now_minute, .ref a_now_knows, .ref a_now_kind, .ref a_now_on, .ref a_now_has])), (a_now_knows, .inl (c 0, 4, .inl x_now_knows))]) (wf := [(a_this, .inr (7, [.ref a_text, .ref a_facts, .ref a_told, .ref a_now, .ref a_trial, .ref a_past, .int x_undoable, .ref a_kept, .int x_keptBits, .ref a_sightings, .ref a_plan, .ref a_slates, .ref a_reckoned])), (a_facts, .inr (0, [.int x_facts_size, .ref a_facts_leans, .ref a_facts_all, .ref a_facts_lostWith])), (a_facts_leans, .inl (c 0, 12, .inl x_facts_leans)), (a_facts_all, .inl (c 0, 12, .inl x_facts_all)), (a_now, .inr (3, [.int x_now_members, .int x_now_leeches, .int x_now_basin, .int x_now_minute, .ref a_now_knows, .ref a_now_kind, .ref a_now_on, .ref a_now_has])), (a_now_knows, .inl (c 0, 4, .inl x_now_knows)), (a_now_has, .inl (c 0, 5, .inl x_now_has))]) (x_goS (As := [.ref a_now_has, .int x_now_leeches, .int v1]) (rest := []) ⟨hx, hb, hml, hown, hts⟩ (mX7_bitsWith l D c a_now_has H.size 5 x_now_has x_now_leeches v1 n _ hc10) (va_cwS 3 hts gX7_fact_X7_bitsWith rfl rfl rfl (by decide +kernel) ⟨Nat.le_of_ble_eq_true rfl, Nat.le_of_ble_eq_true rfl⟩) xB_t hP hD hK [6] rfl (by decide) (fun _ _ _ => trivial) rfl hl.1 rfl (Nat.le_of_ble_eq_true rfl) dX7_fact_98) hP hD hS hA [6] [0, 1, 2, 3, 4, 5] [0, 1, 2, 3, 4, 5, 6] rfl rfl rfl ⟨by decide, by decide, by decide⟩ (fun H locs hP hD hS => ?_)
            have e0 := x_some hr
            subst e0
            exact x_reti hx hb hret hlocks hP hD hK hS dX7_fact_101
          · have hr := x_iff hr c_9
            refine lv_tableOut (tgt := 102) hx hb dX7_fact_15 (by have t0 := lv_neT c_3 (a := 0) (by decide); have t1 := lv_neT c_5 (a := 1) (by decide); have t2 := lv_neT c_7 (a := 2) (by decide); have t3 := lv_neT c_9 (a := 3) (by decide); omega) (by decide) ?_
            refine lv_bipush (v := (-3)) hx hb dX7_fact_102 (by decide) ?_
            have e0 := x_some hr
            subst e0
            exact x_reti hx hb hret hlocks hP hD hK hS dX7_fact_104
  · have hr := x_ift hr c_2
    refine lv_bipush (v := (-2)) hx hb dX7_fact_11 (by decide) ?_
    have e0 := x_some hr
    subst e0
    exact x_reti hx hb hret hlocks hP hD hK hS dX7_fact_13
set_option maxHeartbeats 4000000 in
set_option maxRecDepth 100000 in
theorem mX7_fact (l : Launch) (D : va_G) (c : Nat → ClassId) (a_this : Nat) (a_text : Nat) (a_facts : Nat) (a_told : Nat) (a_now : Nat) (a_trial : Nat) (a_past : Nat) (a_kept : Nat) (a_sightings : Nat) (a_plan : Nat) (a_slates : Nat) (a_reckoned : Nat) (a_facts_leans : Nat) (a_facts_all : Nat) (a_facts_lostWith : Nat) (a_now_knows : Nat) (a_now_kind : Nat) (a_now_on : Nat) (a_now_has : Nat) (sz : Nat) (x_undoable : Int32) (x_keptBits : Int32) (x_now_basin : Int32) (x_now_minute : Int32) (x_facts_size : Int32) (x_facts_leans : Nat → Int32) (x_facts_all : Nat → Int32) (x_now_members : Int32) (x_now_knows : Nat → Int32) (x_now_leeches : Int32) (x_now_has : Nat → Int32) (v1 : Int32) (v2 : Int32) (n : Nat) (r_ret : Int32) (h : fX7_fact n x_facts_size x_facts_leans x_facts_all x_now_members x_now_knows x_now_leeches x_now_has v1 v2 = some (r_ret)) : Met l yX7_fact wsX7_fact ({ frames := 2, cells := 0, slots := 0, locals := 45 } : Room) (xPc D (xT c) sz [.ref a_this, .int v1, .int v2] (wX7_fact c a_this a_text a_facts a_told a_now a_trial a_past a_kept a_sightings a_plan a_slates a_reckoned a_facts_leans a_facts_all a_facts_lostWith a_now_knows a_now_kind a_now_on a_now_has x_undoable x_keptBits x_now_basin x_now_minute x_facts_size x_facts_leans x_facts_all x_now_members x_now_knows x_now_leeches x_now_has) (fun _ => True)) (xQi D (xT c) (va_A (wX7_fact c a_this a_text a_facts a_told a_now a_trial a_past a_kept a_sightings a_plan a_slates a_reckoned a_facts_leans a_facts_all a_facts_lostWith a_now_knows a_now_kind a_now_on a_now_has x_undoable x_keptBits x_now_basin x_now_minute x_facts_size x_facts_leans x_facts_all x_now_members x_now_knows x_now_leeches x_now_has) sz) r_ret (wX7_fact c a_this a_text a_facts a_told a_now a_trial a_past a_kept a_sightings a_plan a_slates a_reckoned a_facts_leans a_facts_all a_facts_lostWith a_now_knows a_now_kind a_now_on a_now_has x_undoable x_keptBits x_now_basin x_now_minute x_facts_size x_facts_leans x_facts_all x_now_members x_now_knows x_now_leeches x_now_has)) 0 0 (va_A (wX7_fact c a_this a_text a_facts a_told a_now a_trial a_past a_kept a_sightings a_plan a_slates a_reckoned a_facts_leans a_facts_all a_facts_lostWith a_now_knows a_now_kind a_now_on a_now_has x_undoable x_keptBits x_now_basin x_now_minute x_facts_size x_facts_leans x_facts_all x_now_members x_now_knows x_now_leeches x_now_has) sz) := by
  refine Met.ofW (cc := cX7_fact) (maxL := 3) (ret := (some .int)) (by decide) rfl ?_
  intro p e s m args below meth cd s₁ B hml hv
  obtain ⟨rfl, hsz, hP, hK, hD0, hV⟩ := hv
  subst hsz
  have hl := lv_entry [.ref a_this, .int v1, .int v2] (n := 3) (Nat.le_of_ble_eq_true rfl)
  rw [lg_entry_eq]
  exact kX7_fact_0 (A := va_A (wX7_fact c a_this a_text a_facts a_told a_now a_trial a_past a_kept a_sightings a_plan a_slates a_reckoned a_facts_leans a_facts_all a_facts_lostWith a_now_knows a_now_kind a_now_on a_now_has x_undoable x_keptBits x_now_basin x_now_minute x_facts_size x_facts_leans x_facts_all x_now_members x_now_knows x_now_leeches x_now_has) s.heap.size) ⟨B.exec, B.bytes, hml, B.returns, findClass_of_methodNamed B.named, atoms_spec (ws := wsX7_fact) B.pre, B.notSynchronized, fun q h => Or.inr h, hK⟩ a_this a_text a_facts a_told a_now a_trial a_past a_kept a_sightings a_plan a_slates a_reckoned a_facts_leans a_facts_all a_facts_lostWith a_now_knows a_now_kind a_now_on a_now_has x_undoable x_keptBits x_now_basin x_now_minute x_facts_size x_facts_leans x_facts_all x_now_members x_now_knows x_now_leeches x_now_has n r_ret v1 v2 h s.heap [] _ hP hD0.self va_S.rf hl

abbrev wX7_setClear (c : Nat → ClassId) (a_this : Nat) (a_text : Nat) (a_facts : Nat) (a_told : Nat) (a_now : Nat) (a_trial : Nat) (a_past : Nat) (a_kept : Nat) (a_sightings : Nat) (a_plan : Nat) (a_slates : Nat) (a_reckoned : Nat) (a_facts_leans : Nat) (a_facts_all : Nat) (a_facts_lostWith : Nat) (a_now_knows : Nat) (a_now_kind : Nat) (a_now_on : Nat) (a_now_has : Nat) (x_undoable : Int32) (x_keptBits : Int32) (x_now_members : Int32) (x_now_leeches : Int32) (x_now_basin : Int32) (x_now_minute : Int32) (x_facts_size : Int32) (x_now_knows : Nat → Int32) (x_reckoned_above : Int64) (x_reckoned_below : Int64) : va_W := [(a_this, .inr (7, [.ref a_text, .ref a_facts, .ref a_told, .ref a_now, .ref a_trial, .ref a_past, .int x_undoable, .ref a_kept, .int x_keptBits, .ref a_sightings, .ref a_plan, .ref a_slates, .ref a_reckoned])), (a_facts, .inr (0, [.int x_facts_size, .ref a_facts_leans, .ref a_facts_all, .ref a_facts_lostWith])), (a_now, .inr (3, [.int x_now_members, .int x_now_leeches, .int x_now_basin, .int x_now_minute, .ref a_now_knows, .ref a_now_kind, .ref a_now_on, .ref a_now_has])), (a_now_knows, .inl (c 0, 4, .inl x_now_knows)), (a_reckoned, .inr (1, [.long x_reckoned_above, .long x_reckoned_below]))]
def GX7_setClear (p : Program) (l : Launch) (e : Env) (s : State) (m : MethodId) (args : Array Value) (below : List Frame) (meth : Method) (cd : Code) (D : va_G) (c : Nat → ClassId) (A : Nat → Prop) (a_this : Nat) (a_text : Nat) (a_facts : Nat) (a_told : Nat) (a_now : Nat) (a_trial : Nat) (a_past : Nat) (a_kept : Nat) (a_sightings : Nat) (a_plan : Nat) (a_slates : Nat) (a_reckoned : Nat) (a_facts_leans : Nat) (a_facts_all : Nat) (a_facts_lostWith : Nat) (a_now_knows : Nat) (a_now_kind : Nat) (a_now_on : Nat) (a_now_has : Nat) (x_undoable : Int32) (x_keptBits : Int32) (x_now_members : Int32) (x_now_leeches : Int32) (x_now_basin : Int32) (x_now_minute : Int32) (x_facts_size : Int32) (x_now_knows : Nat → Int32) (rm_reckoned_above : Int64) (rm_reckoned_below : Int64) (pc : Nat) (st : List Value) (loc : List (Nat × Value)) (x_reckoned_above : Int64) (x_reckoned_below : Int64) : Prop :=
  ∀ (H : Heap) (locs : List Loc) (ls : Array Slot), va_P D vwCl (wX7_setClear c a_this a_text a_facts a_told a_now a_trial a_past a_kept a_sightings a_plan a_slates a_reckoned a_facts_leans a_facts_all a_facts_lostWith a_now_knows a_now_kind a_now_on a_now_has x_undoable x_keptBits x_now_members x_now_leeches x_now_basin x_now_minute x_facts_size x_now_knows x_reckoned_above x_reckoned_below) H → va_D A (wX7_setClear c a_this a_text a_facts a_told a_now a_trial a_past a_kept a_sightings a_plan a_slates a_reckoned a_facts_leans a_facts_all a_facts_lostWith a_now_knows a_now_kind a_now_on a_now_has x_undoable x_keptBits x_now_members x_now_leeches x_now_basin x_now_minute x_facts_size x_now_knows x_reckoned_above x_reckoned_below) → va_S A s.heap H locs → lv_has ls 2 loc → W p l e ({ frames := 2, cells := 0, slots := 0, locals := 126 } : Room) s m args below meth cd H locs 0 0 (MQ below (xQv D (xT c) A (wX7_setClear c a_this a_text a_facts a_told a_now a_trial a_past a_kept a_sightings a_plan a_slates a_reckoned a_facts_leans a_facts_all a_facts_lostWith a_now_knows a_now_kind a_now_on a_now_has x_undoable x_keptBits x_now_members x_now_leeches x_now_basin x_now_minute x_facts_size x_now_knows rm_reckoned_above rm_reckoned_below)) args s 0 0 A) (F0 m pc ls st)
theorem lkX7_setClear_f116 : Cond.fieldLink RX7 116 "LeechClub$Room" "knows" "[I" ∈ wsX7_setClear := by decide +kernel
theorem lkX7_setClear_f187 : Cond.fieldLink RX7 187 "LeechClub$Facts" "size" "I" ∈ wsX7_setClear := by decide +kernel
theorem lkX7_setClear_f19 : Cond.fieldLink RX7 19 "LeechClub" "facts" "LLeechClub$Facts;" ∈ wsX7_setClear := by decide +kernel
theorem lkX7_setClear_f30 : Cond.fieldLink RX7 30 "LeechClub" "now" "LLeechClub$Room;" ∈ wsX7_setClear := by decide +kernel
theorem lkX7_setClear_f66 : Cond.fieldLink RX7 66 "LeechClub" "reckoned" "LLeechClub$Part;" ∈ wsX7_setClear := by decide +kernel
theorem inX7_setClear_X7 : ∀ w ∈ wsX70, w ∈ wsX7_setClear := by decide +kernel
theorem inX7_setClear_X0 : ∀ w ∈ wsX00, w ∈ wsX7_setClear := by decide +kernel
theorem inX7_setClear_X3 : ∀ w ∈ wsX30, w ∈ wsX7_setClear := by decide +kernel
set_option maxHeartbeats 4000000 in
set_option maxRecDepth 100000 in
theorem kX7_setClear_58 {p : Program} {l : Launch} {e : Env} {s : State} {m : MethodId} {args : Array Value} {below : List Frame} {meth : Method} {cd : Code} {D : va_G} {c : Nat → ClassId} {A : Nat → Prop} (E0 : xE p s m args meth cd D (xT c) A RX7 cX7_setClear 2 none wsX7_setClear) (a_this : Nat) (a_text : Nat) (a_facts : Nat) (a_told : Nat) (a_now : Nat) (a_trial : Nat) (a_past : Nat) (a_kept : Nat) (a_sightings : Nat) (a_plan : Nat) (a_slates : Nat) (a_reckoned : Nat) (a_facts_leans : Nat) (a_facts_all : Nat) (a_facts_lostWith : Nat) (a_now_knows : Nat) (a_now_kind : Nat) (a_now_on : Nat) (a_now_has : Nat) (x_undoable : Int32) (x_keptBits : Int32) (x_now_members : Int32) (x_now_leeches : Int32) (x_now_basin : Int32) (x_now_minute : Int32) (x_facts_size : Int32) (x_now_knows : Nat → Int32) (n : Nat) (rm_reckoned_above : Int64) (rm_reckoned_below : Int64) (x_reckoned_above : Int64) (x_reckoned_below : Int64) (hr : fX7_setClear_58 n x_facts_size x_now_knows x_reckoned_above x_reckoned_below = some (rm_reckoned_above, rm_reckoned_below)) : GX7_setClear p l e s m args below meth cd D c A a_this a_text a_facts a_told a_now a_trial a_past a_kept a_sightings a_plan a_slates a_reckoned a_facts_leans a_facts_all a_facts_lostWith a_now_knows a_now_kind a_now_on a_now_has x_undoable x_keptBits x_now_members x_now_leeches x_now_basin x_now_minute x_facts_size x_now_knows rm_reckoned_above rm_reckoned_below 58 [] [] x_reckoned_above x_reckoned_below := by
  have E1 := E0
  obtain ⟨hx, hb, hml, hret, hown, hts, hlocks, hA, hK⟩ := E1
  intro H locs ls hP hD hS hl
  unfold fX7_setClear_58 at hr
  have g0 := x_some hr
  have e0 := x_p1 g0
  have e1 := x_p2 g0
  subst e0
  subst e1
  exact x_retv hx hb hret hlocks hP hD hK hS dX7_setClear_58
set_option maxHeartbeats 4000000 in
set_option maxRecDepth 100000 in
theorem kX7_setClear_0 {p : Program} {l : Launch} {e : Env} {s : State} {m : MethodId} {args : Array Value} {below : List Frame} {meth : Method} {cd : Code} {D : va_G} {c : Nat → ClassId} {A : Nat → Prop} (E0 : xE p s m args meth cd D (xT c) A RX7 cX7_setClear 2 none wsX7_setClear) (a_this : Nat) (a_text : Nat) (a_facts : Nat) (a_told : Nat) (a_now : Nat) (a_trial : Nat) (a_past : Nat) (a_kept : Nat) (a_sightings : Nat) (a_plan : Nat) (a_slates : Nat) (a_reckoned : Nat) (a_facts_leans : Nat) (a_facts_all : Nat) (a_facts_lostWith : Nat) (a_now_knows : Nat) (a_now_kind : Nat) (a_now_on : Nat) (a_now_has : Nat) (x_undoable : Int32) (x_keptBits : Int32) (x_now_members : Int32) (x_now_leeches : Int32) (x_now_basin : Int32) (x_now_minute : Int32) (x_facts_size : Int32) (x_now_knows : Nat → Int32) (n : Nat) (rm_reckoned_above : Int64) (rm_reckoned_below : Int64) (x_reckoned_above : Int64) (x_reckoned_below : Int64) (v1 : Int32) (hr : fX7_setClear n x_facts_size x_now_knows x_reckoned_above x_reckoned_below v1 = some (rm_reckoned_above, rm_reckoned_below)) : GX7_setClear p l e s m args below meth cd D c A a_this a_text a_facts a_told a_now a_trial a_past a_kept a_sightings a_plan a_slates a_reckoned a_facts_leans a_facts_all a_facts_lostWith a_now_knows a_now_kind a_now_on a_now_has x_undoable x_keptBits x_now_members x_now_leeches x_now_basin x_now_minute x_facts_size x_now_knows rm_reckoned_above rm_reckoned_below 0 [] [(0, .ref a_this), (1, .int v1)] x_reckoned_above x_reckoned_below := by
  have E1 := E0
  obtain ⟨hx, hb, hml, hret, hown, hts, hlocks, hA, hK⟩ := E1
  intro H locs ls hP hD hS hl
  unfold fX7_setClear at hr
  refine lv_aload_n hx hb dX7_setClear_0 rfl (lv_at hl 0 rfl) ?_
  refine va_get (D := D) (ci := 7) (v := .ref a_facts) (C := RX7) (T := TX7) (N := 13) hx hb hts inX7_setClear_X7 hown hK hP 0 rfl rfl 1 (by decide) (hts _ lkX7_setClear_f19) (fun _ h9 => h9) rfl dX7_setClear_1 ?_
  refine va_get (D := D) (ci := 0) (v := .int x_facts_size) (C := RX0) (T := TX0) (N := 4) hx hb hts inX7_setClear_X0 hown hK hP 1 rfl rfl 0 (by decide) (hts _ lkX7_setClear_f187) (fun _ h9 => h9) rfl dX7_setClear_4 ?_
  refine lv_if_ne (tgt := 22) hx hb dX7_setClear_7 (by decide) (fun c_1 => ?_) (fun c_1 => ?_)
  · have hr := x_iff hr c_1
    refine lv_aload_n hx hb dX7_setClear_22 rfl (lv_at hl 0 rfl) ?_
    refine va_get (D := D) (ci := 7) (v := .ref a_reckoned) (C := RX7) (T := TX7) (N := 13) hx hb hts inX7_setClear_X7 hown hK hP 0 rfl rfl 12 (by decide) (hts _ lkX7_setClear_f66) (fun _ h9 => h9) rfl dX7_setClear_23 ?_
    refine lv_aload_n hx hb dX7_setClear_26 rfl (lv_at hl 0 rfl) ?_
    refine va_get (D := D) (ci := 7) (v := .ref a_facts) (C := RX7) (T := TX7) (N := 13) hx hb hts inX7_setClear_X7 hown hK hP 0 rfl rfl 1 (by decide) (hts _ lkX7_setClear_f19) (fun _ h9 => h9) rfl dX7_setClear_27 ?_
    refine va_get (D := D) (ci := 0) (v := .int x_facts_size) (C := RX0) (T := TX0) (N := 4) hx hb hts inX7_setClear_X0 hown hK hP 1 rfl rfl 0 (by decide) (hts _ lkX7_setClear_f187) (fun _ h9 => h9) rfl dX7_setClear_30 ?_
    refine lv_aload_n hx hb dX7_setClear_33 rfl (lv_at hl 0 rfl) ?_
    refine va_get (D := D) (ci := 7) (v := .ref a_now) (C := RX7) (T := TX7) (N := 13) hx hb hts inX7_setClear_X7 hown hK hP 0 rfl rfl 3 (by decide) (hts _ lkX7_setClear_f30) (fun _ h9 => h9) rfl dX7_setClear_34 ?_
    refine va_get (D := D) (ci := 3) (v := .ref a_now_knows) (C := RX3) (T := TX3) (N := 8) hx hb hts inX7_setClear_X3 hown hK hP 2 rfl rfl 4 (by decide) (hts _ lkX7_setClear_f116) (fun _ h9 => h9) rfl dX7_setClear_37 ?_
    refine lv_iload_n hx hb dX7_setClear_40 rfl (lv_at hl 1 rfl) ?_
    obtain ⟨b_2, hr⟩ := x_chk hr
    refine va_iald hx hb hK hP 3 0 rfl rfl b_2 dX7_setClear_41 ?_
    obtain ⟨q3_0, hc3, hr⟩ := x_bind hr
    refine x_runi (wr := [(a_this, .inr (7, [.ref a_text, .ref a_facts, .ref a_told, .ref a_now, .ref a_trial, .ref a_past, .int x_undoable, .ref a_kept, .int x_keptBits, .ref a_sightings, .ref a_plan, .ref a_slates, .ref a_reckoned])), (a_facts, .inr (0, [.int x_facts_size, .ref a_facts_leans, .ref a_facts_all, .ref a_facts_lostWith])), (a_now, .inr (3, [.int x_now_members, .int x_now_leeches, .int x_now_basin, .int x_now_minute, .ref a_now_knows, .ref a_now_kind, .ref a_now_on, .ref a_now_has])), (a_now_knows, .inl (c 0, 4, .inl x_now_knows)), (a_reckoned, .inr (1, [.long x_reckoned_above, .long x_reckoned_below]))]) (wf := [(a_this, .inr (7, [.ref a_text, .ref a_facts, .ref a_told, .ref a_now, .ref a_trial, .ref a_past, .int x_undoable, .ref a_kept, .int x_keptBits, .ref a_sightings, .ref a_plan, .ref a_slates, .ref a_reckoned])), (a_facts, .inr (0, [.int x_facts_size, .ref a_facts_leans, .ref a_facts_all, .ref a_facts_lostWith])), (a_now, .inr (3, [.int x_now_members, .int x_now_leeches, .int x_now_basin, .int x_now_minute, .ref a_now_knows, .ref a_now_kind, .ref a_now_on, .ref a_now_has])), (a_now_knows, .inl (c 0, 4, .inl x_now_knows)), (a_reckoned, .inr (1, [.long x_reckoned_above, .long x_reckoned_below]))]) (x_goS (As := [.int (x_now_knows v1.toNatClampNeg)]) (rest := [.int x_facts_size, .ref a_reckoned]) ⟨hx, hb, hml, hown, hts⟩ (mJ6_bitCount_0f7a4 l D c H.size (x_now_knows v1.toNatClampNeg) n _ hc3) (va_cwS 1 hts gX7_setClear_J6_bitCount_0f7a4 rfl rfl rfl (by decide +kernel) ⟨Nat.le_of_ble_eq_true rfl, Nat.le_of_ble_eq_true rfl⟩) xB_t hP hD hK [] rfl (by decide) (fun _ _ _ => trivial) rfl hl.1 rfl (Nat.le_of_ble_eq_true rfl) dX7_setClear_42) hP hD hS hA [] [0, 1, 2, 3, 4] [0, 1, 2, 3, 4] rfl rfl rfl ⟨by decide, by decide, by decide⟩ (fun H locs hP hD hS => ?_)
    refine lv_isub hx hb dX7_setClear_45 ?_
    refine lv_i2l hx hb dX7_setClear_46 rfl ?_
    refine lv_aload_n hx hb dX7_setClear_47 rfl (lv_at hl 0 rfl) ?_
    refine va_get (D := D) (ci := 7) (v := .ref a_facts) (C := RX7) (T := TX7) (N := 13) hx hb hts inX7_setClear_X7 hown hK hP 0 rfl rfl 1 (by decide) (hts _ lkX7_setClear_f19) (fun _ h9 => h9) rfl dX7_setClear_48 ?_
    refine va_get (D := D) (ci := 0) (v := .int x_facts_size) (C := RX0) (T := TX0) (N := 4) hx hb hts inX7_setClear_X0 hown hK hP 1 rfl rfl 0 (by decide) (hts _ lkX7_setClear_f187) (fun _ h9 => h9) rfl dX7_setClear_51 ?_
    refine lv_i2l hx hb dX7_setClear_54 rfl ?_
    obtain ⟨⟨q4_0, q4_1⟩, hc4, hr⟩ := x_bind hr
    try dsimp only at hr
    refine x_runv (wr := [(a_this, .inr (7, [.ref a_text, .ref a_facts, .ref a_told, .ref a_now, .ref a_trial, .ref a_past, .int x_undoable, .ref a_kept, .int x_keptBits, .ref a_sightings, .ref a_plan, .ref a_slates, .ref a_reckoned])), (a_facts, .inr (0, [.int x_facts_size, .ref a_facts_leans, .ref a_facts_all, .ref a_facts_lostWith])), (a_now, .inr (3, [.int x_now_members, .int x_now_leeches, .int x_now_basin, .int x_now_minute, .ref a_now_knows, .ref a_now_kind, .ref a_now_on, .ref a_now_has])), (a_now_knows, .inl (c 0, 4, .inl x_now_knows))]) (wf := [(a_this, .inr (7, [.ref a_text, .ref a_facts, .ref a_told, .ref a_now, .ref a_trial, .ref a_past, .int x_undoable, .ref a_kept, .int x_keptBits, .ref a_sightings, .ref a_plan, .ref a_slates, .ref a_reckoned])), (a_facts, .inr (0, [.int x_facts_size, .ref a_facts_leans, .ref a_facts_all, .ref a_facts_lostWith])), (a_now, .inr (3, [.int x_now_members, .int x_now_leeches, .int x_now_basin, .int x_now_minute, .ref a_now_knows, .ref a_now_kind, .ref a_now_on, .ref a_now_has])), (a_now_knows, .inl (c 0, 4, .inl x_now_knows)), (a_reckoned, .inr (1, [.long q4_0, .long q4_1]))]) (x_goV (As := [.long ((x_facts_size - q3_0).toInt64), .long x_facts_size.toInt64]) (rest := []) ⟨hx, hb, hml, hown, hts⟩ (mX1_setLowest l D c a_reckoned H.size x_reckoned_above x_reckoned_below ((x_facts_size - q3_0).toInt64) x_facts_size.toInt64 n _ _ hc4) (cwV 2 hts gX7_setClear_X1_setLowest rfl rfl rfl (by decide +kernel) ⟨Nat.le_of_ble_eq_true rfl, Nat.le_of_ble_eq_true rfl⟩) xB_t hP hD hK [4] rfl (by decide) (fun _ _ _ => trivial) 4 1 rfl rfl rfl rfl hl.1 rfl (Nat.le_of_ble_eq_true rfl) dX7_setClear_55) hP hD hS hA [4] [0, 1, 2, 3] [0, 1, 2, 3, 4] rfl rfl rfl ⟨by decide, by decide, by decide⟩ (fun H locs hP hD hS => ?_)
    exact kX7_setClear_58 E0 a_this a_text a_facts a_told a_now a_trial a_past a_kept a_sightings a_plan a_slates a_reckoned a_facts_leans a_facts_all a_facts_lostWith a_now_knows a_now_kind a_now_on a_now_has x_undoable x_keptBits x_now_members x_now_leeches x_now_basin x_now_minute x_facts_size x_now_knows n rm_reckoned_above rm_reckoned_below q4_0 q4_1 hr H locs ls hP hD hS (lv_sub hl [] rfl)
  · have hr := x_ift hr c_1
    refine lv_aload_n hx hb dX7_setClear_10 rfl (lv_at hl 0 rfl) ?_
    refine va_get (D := D) (ci := 7) (v := .ref a_reckoned) (C := RX7) (T := TX7) (N := 13) hx hb hts inX7_setClear_X7 hown hK hP 0 rfl rfl 12 (by decide) (hts _ lkX7_setClear_f66) (fun _ h9 => h9) rfl dX7_setClear_11 ?_
    refine lv_lconst (v := 1) hx hb dX7_setClear_14 (by decide) ?_
    refine lv_lconst (v := 1) hx hb dX7_setClear_15 (by decide) ?_
    obtain ⟨⟨q5_0, q5_1⟩, hc5, hr⟩ := x_bind hr
    try dsimp only at hr
    refine x_runv (wr := [(a_this, .inr (7, [.ref a_text, .ref a_facts, .ref a_told, .ref a_now, .ref a_trial, .ref a_past, .int x_undoable, .ref a_kept, .int x_keptBits, .ref a_sightings, .ref a_plan, .ref a_slates, .ref a_reckoned])), (a_facts, .inr (0, [.int x_facts_size, .ref a_facts_leans, .ref a_facts_all, .ref a_facts_lostWith])), (a_now, .inr (3, [.int x_now_members, .int x_now_leeches, .int x_now_basin, .int x_now_minute, .ref a_now_knows, .ref a_now_kind, .ref a_now_on, .ref a_now_has])), (a_now_knows, .inl (c 0, 4, .inl x_now_knows))]) (wf := [(a_this, .inr (7, [.ref a_text, .ref a_facts, .ref a_told, .ref a_now, .ref a_trial, .ref a_past, .int x_undoable, .ref a_kept, .int x_keptBits, .ref a_sightings, .ref a_plan, .ref a_slates, .ref a_reckoned])), (a_facts, .inr (0, [.int x_facts_size, .ref a_facts_leans, .ref a_facts_all, .ref a_facts_lostWith])), (a_now, .inr (3, [.int x_now_members, .int x_now_leeches, .int x_now_basin, .int x_now_minute, .ref a_now_knows, .ref a_now_kind, .ref a_now_on, .ref a_now_has])), (a_now_knows, .inl (c 0, 4, .inl x_now_knows)), (a_reckoned, .inr (1, [.long q5_0, .long q5_1]))]) (x_goV (As := [.long 1, .long 1]) (rest := []) ⟨hx, hb, hml, hown, hts⟩ (mX1_setLowest l D c a_reckoned H.size x_reckoned_above x_reckoned_below 1 1 n _ _ hc5) (cwV 2 hts gX7_setClear_X1_setLowest rfl rfl rfl (by decide +kernel) ⟨Nat.le_of_ble_eq_true rfl, Nat.le_of_ble_eq_true rfl⟩) xB_t hP hD hK [4] rfl (by decide) (fun _ _ _ => trivial) 4 1 rfl rfl rfl rfl hl.1 rfl (Nat.le_of_ble_eq_true rfl) dX7_setClear_16) hP hD hS hA [4] [0, 1, 2, 3] [0, 1, 2, 3, 4] rfl rfl rfl ⟨by decide, by decide, by decide⟩ (fun H locs hP hD hS => ?_)
    refine lv_goto (tgt := 58) hx hb dX7_setClear_19 (by decide) ?_
    exact kX7_setClear_58 E0 a_this a_text a_facts a_told a_now a_trial a_past a_kept a_sightings a_plan a_slates a_reckoned a_facts_leans a_facts_all a_facts_lostWith a_now_knows a_now_kind a_now_on a_now_has x_undoable x_keptBits x_now_members x_now_leeches x_now_basin x_now_minute x_facts_size x_now_knows n rm_reckoned_above rm_reckoned_below q5_0 q5_1 hr H locs ls hP hD hS (lv_sub hl [] rfl)
set_option maxHeartbeats 4000000 in
set_option maxRecDepth 100000 in
theorem mX7_setClear (l : Launch) (D : va_G) (c : Nat → ClassId) (a_this : Nat) (a_text : Nat) (a_facts : Nat) (a_told : Nat) (a_now : Nat) (a_trial : Nat) (a_past : Nat) (a_kept : Nat) (a_sightings : Nat) (a_plan : Nat) (a_slates : Nat) (a_reckoned : Nat) (a_facts_leans : Nat) (a_facts_all : Nat) (a_facts_lostWith : Nat) (a_now_knows : Nat) (a_now_kind : Nat) (a_now_on : Nat) (a_now_has : Nat) (sz : Nat) (x_undoable : Int32) (x_keptBits : Int32) (x_now_members : Int32) (x_now_leeches : Int32) (x_now_basin : Int32) (x_now_minute : Int32) (x_facts_size : Int32) (x_now_knows : Nat → Int32) (x_reckoned_above : Int64) (x_reckoned_below : Int64) (v1 : Int32) (n : Nat) (rm_reckoned_above : Int64) (rm_reckoned_below : Int64) (h : fX7_setClear n x_facts_size x_now_knows x_reckoned_above x_reckoned_below v1 = some (rm_reckoned_above, rm_reckoned_below)) : Met l yX7_setClear wsX7_setClear ({ frames := 2, cells := 0, slots := 0, locals := 126 } : Room) (xPc D (xT c) sz [.ref a_this, .int v1] (wX7_setClear c a_this a_text a_facts a_told a_now a_trial a_past a_kept a_sightings a_plan a_slates a_reckoned a_facts_leans a_facts_all a_facts_lostWith a_now_knows a_now_kind a_now_on a_now_has x_undoable x_keptBits x_now_members x_now_leeches x_now_basin x_now_minute x_facts_size x_now_knows x_reckoned_above x_reckoned_below) (fun _ => True)) (xQv D (xT c) (va_A (wX7_setClear c a_this a_text a_facts a_told a_now a_trial a_past a_kept a_sightings a_plan a_slates a_reckoned a_facts_leans a_facts_all a_facts_lostWith a_now_knows a_now_kind a_now_on a_now_has x_undoable x_keptBits x_now_members x_now_leeches x_now_basin x_now_minute x_facts_size x_now_knows x_reckoned_above x_reckoned_below) sz) (wX7_setClear c a_this a_text a_facts a_told a_now a_trial a_past a_kept a_sightings a_plan a_slates a_reckoned a_facts_leans a_facts_all a_facts_lostWith a_now_knows a_now_kind a_now_on a_now_has x_undoable x_keptBits x_now_members x_now_leeches x_now_basin x_now_minute x_facts_size x_now_knows rm_reckoned_above rm_reckoned_below)) 0 0 (va_A (wX7_setClear c a_this a_text a_facts a_told a_now a_trial a_past a_kept a_sightings a_plan a_slates a_reckoned a_facts_leans a_facts_all a_facts_lostWith a_now_knows a_now_kind a_now_on a_now_has x_undoable x_keptBits x_now_members x_now_leeches x_now_basin x_now_minute x_facts_size x_now_knows x_reckoned_above x_reckoned_below) sz) := by
  refine Met.ofW (cc := cX7_setClear) (maxL := 2) (ret := none) (by decide) rfl ?_
  intro p e s m args below meth cd s₁ B hml hv
  obtain ⟨rfl, hsz, hP, hK, hD0, hV⟩ := hv
  subst hsz
  have hl := lv_entry [.ref a_this, .int v1] (n := 2) (Nat.le_of_ble_eq_true rfl)
  rw [lg_entry_eq]
  exact kX7_setClear_0 (A := va_A (wX7_setClear c a_this a_text a_facts a_told a_now a_trial a_past a_kept a_sightings a_plan a_slates a_reckoned a_facts_leans a_facts_all a_facts_lostWith a_now_knows a_now_kind a_now_on a_now_has x_undoable x_keptBits x_now_members x_now_leeches x_now_basin x_now_minute x_facts_size x_now_knows x_reckoned_above x_reckoned_below) s.heap.size) ⟨B.exec, B.bytes, hml, B.returns, findClass_of_methodNamed B.named, atoms_spec (ws := wsX7_setClear) B.pre, B.notSynchronized, fun q h => Or.inr h, hK⟩ a_this a_text a_facts a_told a_now a_trial a_past a_kept a_sightings a_plan a_slates a_reckoned a_facts_leans a_facts_all a_facts_lostWith a_now_knows a_now_kind a_now_on a_now_has x_undoable x_keptBits x_now_members x_now_leeches x_now_basin x_now_minute x_facts_size x_now_knows n rm_reckoned_above rm_reckoned_below x_reckoned_above x_reckoned_below v1 h s.heap [] _ hP hD0.self va_S.rf hl

abbrev wX7_member (c : Nat → ClassId) (a_this : Nat) (a_text : Nat) (a_facts : Nat) (a_told : Nat) (a_now : Nat) (a_trial : Nat) (a_past : Nat) (a_kept : Nat) (a_sightings : Nat) (a_plan : Nat) (a_slates : Nat) (a_reckoned : Nat) (a_now_knows : Nat) (a_now_kind : Nat) (a_now_on : Nat) (a_now_has : Nat) (a_facts_leans : Nat) (a_facts_all : Nat) (a_facts_lostWith : Nat) (x_undoable : Int32) (x_keptBits : Int32) (x_now_basin : Int32) (x_now_minute : Int32) (x_now_members : Int32) (x_now_knows : Nat → Int32) (x_now_leeches : Int32) (x_now_on : Nat → Int32) (x_facts_size : Int32) (x_reckoned_above : Int64) (x_reckoned_below : Int64) : va_W := [(a_this, .inr (7, [.ref a_text, .ref a_facts, .ref a_told, .ref a_now, .ref a_trial, .ref a_past, .int x_undoable, .ref a_kept, .int x_keptBits, .ref a_sightings, .ref a_plan, .ref a_slates, .ref a_reckoned])), (a_now, .inr (3, [.int x_now_members, .int x_now_leeches, .int x_now_basin, .int x_now_minute, .ref a_now_knows, .ref a_now_kind, .ref a_now_on, .ref a_now_has])), (a_now_knows, .inl (c 0, 4, .inl x_now_knows)), (a_now_on, .inl (c 0, 5, .inl x_now_on)), (a_facts, .inr (0, [.int x_facts_size, .ref a_facts_leans, .ref a_facts_all, .ref a_facts_lostWith])), (a_reckoned, .inr (1, [.long x_reckoned_above, .long x_reckoned_below]))]
def GX7_member (p : Program) (l : Launch) (e : Env) (s : State) (m : MethodId) (args : Array Value) (below : List Frame) (meth : Method) (cd : Code) (D : va_G) (c : Nat → ClassId) (A : Nat → Prop) (a_this : Nat) (a_text : Nat) (a_facts : Nat) (a_told : Nat) (a_now : Nat) (a_trial : Nat) (a_past : Nat) (a_kept : Nat) (a_sightings : Nat) (a_plan : Nat) (a_slates : Nat) (a_reckoned : Nat) (a_now_knows : Nat) (a_now_kind : Nat) (a_now_on : Nat) (a_now_has : Nat) (a_facts_leans : Nat) (a_facts_all : Nat) (a_facts_lostWith : Nat) (x_undoable : Int32) (x_keptBits : Int32) (x_now_basin : Int32) (x_now_minute : Int32) (x_now_members : Int32) (x_now_knows : Nat → Int32) (x_now_leeches : Int32) (x_now_on : Nat → Int32) (x_facts_size : Int32) (r_ret : Int32) (rm_reckoned_above : Int64) (rm_reckoned_below : Int64) (pc : Nat) (st : List Value) (loc : List (Nat × Value)) (x_reckoned_above : Int64) (x_reckoned_below : Int64) : Prop :=
  ∀ (H : Heap) (locs : List Loc) (ls : Array Slot), va_P D vwCl (wX7_member c a_this a_text a_facts a_told a_now a_trial a_past a_kept a_sightings a_plan a_slates a_reckoned a_now_knows a_now_kind a_now_on a_now_has a_facts_leans a_facts_all a_facts_lostWith x_undoable x_keptBits x_now_basin x_now_minute x_now_members x_now_knows x_now_leeches x_now_on x_facts_size x_reckoned_above x_reckoned_below) H → va_D A (wX7_member c a_this a_text a_facts a_told a_now a_trial a_past a_kept a_sightings a_plan a_slates a_reckoned a_now_knows a_now_kind a_now_on a_now_has a_facts_leans a_facts_all a_facts_lostWith x_undoable x_keptBits x_now_basin x_now_minute x_now_members x_now_knows x_now_leeches x_now_on x_facts_size x_reckoned_above x_reckoned_below) → va_S A s.heap H locs → lv_has ls 3 loc → W p l e ({ frames := 3, cells := 0, slots := 0, locals := 147 } : Room) s m args below meth cd H locs 0 0 (MQ below (xQi D (xT c) A r_ret (wX7_member c a_this a_text a_facts a_told a_now a_trial a_past a_kept a_sightings a_plan a_slates a_reckoned a_now_knows a_now_kind a_now_on a_now_has a_facts_leans a_facts_all a_facts_lostWith x_undoable x_keptBits x_now_basin x_now_minute x_now_members x_now_knows x_now_leeches x_now_on x_facts_size rm_reckoned_above rm_reckoned_below)) args s 0 0 A) (F0 m pc ls st)
theorem lkX7_member_f116 : Cond.fieldLink RX7 116 "LeechClub$Room" "knows" "[I" ∈ wsX7_member := by decide +kernel
theorem lkX7_member_f143 : Cond.fieldLink RX7 143 "LeechClub$Part" "above" "J" ∈ wsX7_member := by decide +kernel
theorem lkX7_member_f147 : Cond.fieldLink RX7 147 "LeechClub$Part" "below" "J" ∈ wsX7_member := by decide +kernel
theorem lkX7_member_f30 : Cond.fieldLink RX7 30 "LeechClub" "now" "LLeechClub$Room;" ∈ wsX7_member := by decide +kernel
theorem lkX7_member_f66 : Cond.fieldLink RX7 66 "LeechClub" "reckoned" "LLeechClub$Part;" ∈ wsX7_member := by decide +kernel
theorem inX7_member_X7 : ∀ w ∈ wsX70, w ∈ wsX7_member := by decide +kernel
theorem inX7_member_X1 : ∀ w ∈ wsX10, w ∈ wsX7_member := by decide +kernel
theorem inX7_member_X3 : ∀ w ∈ wsX30, w ∈ wsX7_member := by decide +kernel
set_option maxHeartbeats 4000000 in
set_option maxRecDepth 100000 in
theorem kX7_member_0 {p : Program} {l : Launch} {e : Env} {s : State} {m : MethodId} {args : Array Value} {below : List Frame} {meth : Method} {cd : Code} {D : va_G} {c : Nat → ClassId} {A : Nat → Prop} (E0 : xE p s m args meth cd D (xT c) A RX7 cX7_member 3 (some .int) wsX7_member) (a_this : Nat) (a_text : Nat) (a_facts : Nat) (a_told : Nat) (a_now : Nat) (a_trial : Nat) (a_past : Nat) (a_kept : Nat) (a_sightings : Nat) (a_plan : Nat) (a_slates : Nat) (a_reckoned : Nat) (a_now_knows : Nat) (a_now_kind : Nat) (a_now_on : Nat) (a_now_has : Nat) (a_facts_leans : Nat) (a_facts_all : Nat) (a_facts_lostWith : Nat) (x_undoable : Int32) (x_keptBits : Int32) (x_now_basin : Int32) (x_now_minute : Int32) (x_now_members : Int32) (x_now_knows : Nat → Int32) (x_now_leeches : Int32) (x_now_on : Nat → Int32) (x_facts_size : Int32) (n : Nat) (r_ret : Int32) (rm_reckoned_above : Int64) (rm_reckoned_below : Int64) (x_reckoned_above : Int64) (x_reckoned_below : Int64) (v1 : Int32) (v2 : Int32) (hr : fX7_member n x_now_members x_now_knows x_now_leeches x_now_on x_facts_size x_reckoned_above x_reckoned_below v1 v2 = some (r_ret, rm_reckoned_above, rm_reckoned_below)) : GX7_member p l e s m args below meth cd D c A a_this a_text a_facts a_told a_now a_trial a_past a_kept a_sightings a_plan a_slates a_reckoned a_now_knows a_now_kind a_now_on a_now_has a_facts_leans a_facts_all a_facts_lostWith x_undoable x_keptBits x_now_basin x_now_minute x_now_members x_now_knows x_now_leeches x_now_on x_facts_size r_ret rm_reckoned_above rm_reckoned_below 0 [] [(0, .ref a_this), (1, .int v1), (2, .int v2)] x_reckoned_above x_reckoned_below := by
  have E1 := E0
  obtain ⟨hx, hb, hml, hret, hown, hts, hlocks, hA, hK⟩ := E1
  intro H locs ls hP hD hS hl
  unfold fX7_member at hr
  refine lv_aload_n hx hb dX7_member_0 rfl (lv_at hl 0 rfl) ?_
  refine va_get (D := D) (ci := 7) (v := .ref a_now) (C := RX7) (T := TX7) (N := 13) hx hb hts inX7_member_X7 hown hK hP 0 rfl rfl 3 (by decide) (hts _ lkX7_member_f30) (fun _ h9 => h9) rfl dX7_member_1 ?_
  refine lv_iload_n hx hb dX7_member_4 rfl (lv_at hl 1 rfl) ?_
  obtain ⟨q1_0, hc1, hr⟩ := x_bind hr
  refine x_runi (wr := [(a_this, .inr (7, [.ref a_text, .ref a_facts, .ref a_told, .ref a_now, .ref a_trial, .ref a_past, .int x_undoable, .ref a_kept, .int x_keptBits, .ref a_sightings, .ref a_plan, .ref a_slates, .ref a_reckoned])), (a_now_knows, .inl (c 0, 4, .inl x_now_knows)), (a_now_on, .inl (c 0, 5, .inl x_now_on)), (a_facts, .inr (0, [.int x_facts_size, .ref a_facts_leans, .ref a_facts_all, .ref a_facts_lostWith])), (a_reckoned, .inr (1, [.long x_reckoned_above, .long x_reckoned_below]))]) (wf := [(a_this, .inr (7, [.ref a_text, .ref a_facts, .ref a_told, .ref a_now, .ref a_trial, .ref a_past, .int x_undoable, .ref a_kept, .int x_keptBits, .ref a_sightings, .ref a_plan, .ref a_slates, .ref a_reckoned])), (a_now, .inr (3, [.int x_now_members, .int x_now_leeches, .int x_now_basin, .int x_now_minute, .ref a_now_knows, .ref a_now_kind, .ref a_now_on, .ref a_now_has])), (a_now_knows, .inl (c 0, 4, .inl x_now_knows)), (a_now_on, .inl (c 0, 5, .inl x_now_on)), (a_facts, .inr (0, [.int x_facts_size, .ref a_facts_leans, .ref a_facts_all, .ref a_facts_lostWith])), (a_reckoned, .inr (1, [.long x_reckoned_above, .long x_reckoned_below]))]) (x_goV (As := [.int v1]) (rest := []) ⟨hx, hb, hml, hown, hts⟩ (mX3_hasMember l D c a_now a_now_knows a_now_kind a_now_on a_now_has H.size x_now_leeches x_now_basin x_now_minute x_now_members v1 n _ hc1) (cwV 1 hts gX7_member_X3_hasMember rfl rfl rfl (by decide +kernel) ⟨Nat.le_of_ble_eq_true rfl, Nat.le_of_ble_eq_true rfl⟩) xB_t hP hD hK [1] rfl (by decide) (fun _ _ _ => trivial) 1 3 rfl rfl rfl rfl hl.1 rfl (Nat.le_of_ble_eq_true rfl) dX7_member_5) hP hD hS hA [1] [0, 2, 3, 4, 5] [0, 5, 1, 2, 3, 4] rfl rfl rfl ⟨by decide, by decide, by decide⟩ (fun H locs hP hD hS => ?_)
  refine lv_if_ne (tgt := 14) hx hb dX7_member_8 (by decide) (fun c_2 => ?_) (fun c_2 => ?_)
  · have hr := x_iff hr c_2
    refine lv_iload_n hx hb dX7_member_14 rfl (lv_at hl 2 rfl) ?_
    by_cases c_3 : v2 = 0
    · have hr := x_ift hr c_3
      refine lv_tableIn (off := 29) (tgt := 44) hx hb dX7_member_15 (by rw [c_3]; decide) (by rw [c_3]; decide) (by rw [c_3]; rfl) (by decide) ?_
      refine lv_aload_n hx hb dX7_member_44 rfl (lv_at hl 0 rfl) ?_
      refine va_get (D := D) (ci := 7) (v := .ref a_now) (C := RX7) (T := TX7) (N := 13) hx hb hts inX7_member_X7 hown hK hP 0 rfl rfl 3 (by decide) (hts _ lkX7_member_f30) (fun _ h9 => h9) rfl dX7_member_45 ?_
      refine va_get (D := D) (ci := 3) (v := .ref a_now_knows) (C := RX3) (T := TX3) (N := 8) hx hb hts inX7_member_X3 hown hK hP 1 rfl rfl 4 (by decide) (hts _ lkX7_member_f116) (fun _ h9 => h9) rfl dX7_member_48 ?_
      refine lv_iload_n hx hb dX7_member_51 rfl (lv_at hl 1 rfl) ?_
      obtain ⟨b_4, hr⟩ := x_chk hr
      refine va_iald hx hb hK hP 2 0 rfl rfl b_4 dX7_member_52 ?_
      have g0 := x_some hr
      have e0 := x_p1 g0
      have g1 := x_p2 g0
      have e1 := x_p1 g1
      have e2 := x_p2 g1
      subst e0
      subst e1
      subst e2
      exact x_reti hx hb hret hlocks hP hD hK hS dX7_member_53
    · have hr := x_iff hr c_3
      by_cases c_5 : v2 = 1
      · have hr := x_ift hr c_5
        refine lv_tableIn (off := 39) (tgt := 54) hx hb dX7_member_15 (by rw [c_5]; decide) (by rw [c_5]; decide) (by rw [c_5]; rfl) (by decide) ?_
        refine lv_aload_n hx hb dX7_member_54 rfl (lv_at hl 0 rfl) ?_
        refine va_get (D := D) (ci := 7) (v := .ref a_now) (C := RX7) (T := TX7) (N := 13) hx hb hts inX7_member_X7 hown hK hP 0 rfl rfl 3 (by decide) (hts _ lkX7_member_f30) (fun _ h9 => h9) rfl dX7_member_55 ?_
        refine lv_iload_n hx hb dX7_member_58 rfl (lv_at hl 1 rfl) ?_
        obtain ⟨q6_0, hc6, hr⟩ := x_bind hr
        refine x_runi (wr := [(a_this, .inr (7, [.ref a_text, .ref a_facts, .ref a_told, .ref a_now, .ref a_trial, .ref a_past, .int x_undoable, .ref a_kept, .int x_keptBits, .ref a_sightings, .ref a_plan, .ref a_slates, .ref a_reckoned])), (a_now_knows, .inl (c 0, 4, .inl x_now_knows)), (a_facts, .inr (0, [.int x_facts_size, .ref a_facts_leans, .ref a_facts_all, .ref a_facts_lostWith])), (a_reckoned, .inr (1, [.long x_reckoned_above, .long x_reckoned_below]))]) (wf := [(a_this, .inr (7, [.ref a_text, .ref a_facts, .ref a_told, .ref a_now, .ref a_trial, .ref a_past, .int x_undoable, .ref a_kept, .int x_keptBits, .ref a_sightings, .ref a_plan, .ref a_slates, .ref a_reckoned])), (a_now, .inr (3, [.int x_now_members, .int x_now_leeches, .int x_now_basin, .int x_now_minute, .ref a_now_knows, .ref a_now_kind, .ref a_now_on, .ref a_now_has])), (a_now_knows, .inl (c 0, 4, .inl x_now_knows)), (a_now_on, .inl (c 0, 5, .inl x_now_on)), (a_facts, .inr (0, [.int x_facts_size, .ref a_facts_leans, .ref a_facts_all, .ref a_facts_lostWith])), (a_reckoned, .inr (1, [.long x_reckoned_above, .long x_reckoned_below]))]) (x_goV (As := [.int v1]) (rest := []) ⟨hx, hb, hml, hown, hts⟩ (mX3_leechesOn l D c a_now a_now_knows a_now_kind a_now_on a_now_has H.size x_now_members x_now_basin x_now_minute x_now_leeches x_now_on v1 n _ hc6) (cwV 1 hts gX7_member_X3_leechesOn rfl rfl rfl (by decide +kernel) ⟨Nat.le_of_ble_eq_true rfl, Nat.le_of_ble_eq_true rfl⟩) xB_t hP hD hK [1, 3] rfl (by decide) (fun _ _ _ => trivial) 1 3 rfl rfl rfl rfl hl.1 rfl (Nat.le_of_ble_eq_true rfl) dX7_member_59) hP hD hS hA [1, 3] [0, 2, 4, 5] [0, 4, 1, 5, 2, 3] rfl rfl rfl ⟨by decide, by decide, by decide⟩ (fun H locs hP hD hS => ?_)
        have g0 := x_some hr
        have e0 := x_p1 g0
        have g1 := x_p2 g0
        have e1 := x_p1 g1
        have e2 := x_p2 g1
        subst e0
        subst e1
        subst e2
        exact x_reti hx hb hret hlocks hP hD hK hS dX7_member_62
      · have hr := x_iff hr c_5
        by_cases c_7 : v2 = 2
        · have hr := x_ift hr c_7
          refine lv_tableIn (off := 48) (tgt := 63) hx hb dX7_member_15 (by rw [c_7]; decide) (by rw [c_7]; decide) (by rw [c_7]; rfl) (by decide) ?_
          refine lv_aload_n hx hb dX7_member_63 rfl (lv_at hl 0 rfl) ?_
          refine lv_iload_n hx hb dX7_member_64 rfl (lv_at hl 1 rfl) ?_
          obtain ⟨⟨q8_0, q8_1⟩, hc8, hr⟩ := x_bind hr
          try dsimp only at hr
          refine x_runv (wr := [(a_now_on, .inl (c 0, 5, .inl x_now_on))]) (wf := [(a_this, .inr (7, [.ref a_text, .ref a_facts, .ref a_told, .ref a_now, .ref a_trial, .ref a_past, .int x_undoable, .ref a_kept, .int x_keptBits, .ref a_sightings, .ref a_plan, .ref a_slates, .ref a_reckoned])), (a_now, .inr (3, [.int x_now_members, .int x_now_leeches, .int x_now_basin, .int x_now_minute, .ref a_now_knows, .ref a_now_kind, .ref a_now_on, .ref a_now_has])), (a_now_knows, .inl (c 0, 4, .inl x_now_knows)), (a_now_on, .inl (c 0, 5, .inl x_now_on)), (a_facts, .inr (0, [.int x_facts_size, .ref a_facts_leans, .ref a_facts_all, .ref a_facts_lostWith])), (a_reckoned, .inr (1, [.long q8_0, .long q8_1]))]) (x_goV (As := [.int v1]) (rest := []) ⟨hx, hb, hml, hown, hts⟩ (mX7_setClear l D c a_this a_text a_facts a_told a_now a_trial a_past a_kept a_sightings a_plan a_slates a_reckoned a_facts_leans a_facts_all a_facts_lostWith a_now_knows a_now_kind a_now_on a_now_has H.size x_undoable x_keptBits x_now_members x_now_leeches x_now_basin x_now_minute x_facts_size x_now_knows x_reckoned_above x_reckoned_below v1 n _ _ hc8) (cwV 1 hts gX7_member_X7_setClear rfl rfl rfl (by decide +kernel) ⟨Nat.le_of_ble_eq_true rfl, Nat.le_of_ble_eq_true rfl⟩) xB_t hP hD hK [0, 4, 1, 2, 5] rfl (by decide) (fun _ _ _ => trivial) 0 7 rfl rfl rfl rfl hl.1 rfl (Nat.le_of_ble_eq_true rfl) dX7_member_65) hP hD hS hA [0, 4, 1, 2, 5] [3] [1, 3, 4, 0, 2, 5] rfl rfl rfl ⟨by decide, by decide, by decide⟩ (fun H locs hP hD hS => ?_)
          refine lv_aload_n hx hb dX7_member_68 rfl (lv_at hl 0 rfl) ?_
          refine va_get (D := D) (ci := 7) (v := .ref a_reckoned) (C := RX7) (T := TX7) (N := 13) hx hb hts inX7_member_X7 hown hK hP 0 rfl rfl 12 (by decide) (hts _ lkX7_member_f66) (fun _ h9 => h9) rfl dX7_member_69 ?_
          refine va_get (D := D) (ci := 1) (v := .long q8_0) (C := RX1) (T := TX1) (N := 2) hx hb hts inX7_member_X1 hown hK hP 5 rfl rfl 0 (by decide) (hts _ lkX7_member_f143) (fun _ h9 => h9) rfl dX7_member_72 ?_
          refine lv_l2i hx hb dX7_member_75 rfl ?_
          have g0 := x_some hr
          have e0 := x_p1 g0
          have g1 := x_p2 g0
          have e1 := x_p1 g1
          have e2 := x_p2 g1
          subst e0
          subst e1
          subst e2
          exact x_reti hx hb hret hlocks hP hD hK hS dX7_member_76
        · have hr := x_iff hr c_7
          by_cases c_9 : v2 = 3
          · have hr := x_ift hr c_9
            refine lv_tableIn (off := 62) (tgt := 77) hx hb dX7_member_15 (by rw [c_9]; decide) (by rw [c_9]; decide) (by rw [c_9]; rfl) (by decide) ?_
            refine lv_aload_n hx hb dX7_member_77 rfl (lv_at hl 0 rfl) ?_
            refine lv_iload_n hx hb dX7_member_78 rfl (lv_at hl 1 rfl) ?_
            obtain ⟨⟨q10_0, q10_1⟩, hc10, hr⟩ := x_bind hr
            try dsimp only at hr
            refine x_runv (wr := [(a_now_on, .inl (c 0, 5, .inl x_now_on))]) (wf := [(a_this, .inr (7, [.ref a_text, .ref a_facts, .ref a_told, .ref a_now, .ref a_trial, .ref a_past, .int x_undoable, .ref a_kept, .int x_keptBits, .ref a_sightings, .ref a_plan, .ref a_slates, .ref a_reckoned])), (a_now, .inr (3, [.int x_now_members, .int x_now_leeches, .int x_now_basin, .int x_now_minute, .ref a_now_knows, .ref a_now_kind, .ref a_now_on, .ref a_now_has])), (a_now_knows, .inl (c 0, 4, .inl x_now_knows)), (a_now_on, .inl (c 0, 5, .inl x_now_on)), (a_facts, .inr (0, [.int x_facts_size, .ref a_facts_leans, .ref a_facts_all, .ref a_facts_lostWith])), (a_reckoned, .inr (1, [.long q10_0, .long q10_1]))]) (x_goV (As := [.int v1]) (rest := []) ⟨hx, hb, hml, hown, hts⟩ (mX7_setClear l D c a_this a_text a_facts a_told a_now a_trial a_past a_kept a_sightings a_plan a_slates a_reckoned a_facts_leans a_facts_all a_facts_lostWith a_now_knows a_now_kind a_now_on a_now_has H.size x_undoable x_keptBits x_now_members x_now_leeches x_now_basin x_now_minute x_facts_size x_now_knows x_reckoned_above x_reckoned_below v1 n _ _ hc10) (cwV 1 hts gX7_member_X7_setClear rfl rfl rfl (by decide +kernel) ⟨Nat.le_of_ble_eq_true rfl, Nat.le_of_ble_eq_true rfl⟩) xB_t hP hD hK [0, 4, 1, 2, 5] rfl (by decide) (fun _ _ _ => trivial) 0 7 rfl rfl rfl rfl hl.1 rfl (Nat.le_of_ble_eq_true rfl) dX7_member_79) hP hD hS hA [0, 4, 1, 2, 5] [3] [1, 3, 4, 0, 2, 5] rfl rfl rfl ⟨by decide, by decide, by decide⟩ (fun H locs hP hD hS => ?_)
            refine lv_aload_n hx hb dX7_member_82 rfl (lv_at hl 0 rfl) ?_
            refine va_get (D := D) (ci := 7) (v := .ref a_reckoned) (C := RX7) (T := TX7) (N := 13) hx hb hts inX7_member_X7 hown hK hP 0 rfl rfl 12 (by decide) (hts _ lkX7_member_f66) (fun _ h9 => h9) rfl dX7_member_83 ?_
            refine va_get (D := D) (ci := 1) (v := .long q10_1) (C := RX1) (T := TX1) (N := 2) hx hb hts inX7_member_X1 hown hK hP 5 rfl rfl 1 (by decide) (hts _ lkX7_member_f147) (fun _ h9 => h9) rfl dX7_member_86 ?_
            refine lv_l2i hx hb dX7_member_89 rfl ?_
            have g0 := x_some hr
            have e0 := x_p1 g0
            have g1 := x_p2 g0
            have e1 := x_p1 g1
            have e2 := x_p2 g1
            subst e0
            subst e1
            subst e2
            exact x_reti hx hb hret hlocks hP hD hK hS dX7_member_90
          · have hr := x_iff hr c_9
            refine lv_tableOut (tgt := 91) hx hb dX7_member_15 (by have t0 := lv_neT c_3 (a := 0) (by decide); have t1 := lv_neT c_5 (a := 1) (by decide); have t2 := lv_neT c_7 (a := 2) (by decide); have t3 := lv_neT c_9 (a := 3) (by decide); omega) (by decide) ?_
            refine lv_bipush (v := (-3)) hx hb dX7_member_91 (by decide) ?_
            have g0 := x_some hr
            have e0 := x_p1 g0
            have g1 := x_p2 g0
            have e1 := x_p1 g1
            have e2 := x_p2 g1
            subst e0
            subst e1
            subst e2
            exact x_reti hx hb hret hlocks hP hD hK hS dX7_member_93
  · have hr := x_ift hr c_2
    refine lv_bipush (v := (-2)) hx hb dX7_member_11 (by decide) ?_
    have g0 := x_some hr
    have e0 := x_p1 g0
    have g1 := x_p2 g0
    have e1 := x_p1 g1
    have e2 := x_p2 g1
    subst e0
    subst e1
    subst e2
    exact x_reti hx hb hret hlocks hP hD hK hS dX7_member_13
set_option maxHeartbeats 4000000 in
set_option maxRecDepth 100000 in
theorem mX7_member (l : Launch) (D : va_G) (c : Nat → ClassId) (a_this : Nat) (a_text : Nat) (a_facts : Nat) (a_told : Nat) (a_now : Nat) (a_trial : Nat) (a_past : Nat) (a_kept : Nat) (a_sightings : Nat) (a_plan : Nat) (a_slates : Nat) (a_reckoned : Nat) (a_now_knows : Nat) (a_now_kind : Nat) (a_now_on : Nat) (a_now_has : Nat) (a_facts_leans : Nat) (a_facts_all : Nat) (a_facts_lostWith : Nat) (sz : Nat) (x_undoable : Int32) (x_keptBits : Int32) (x_now_basin : Int32) (x_now_minute : Int32) (x_now_members : Int32) (x_now_knows : Nat → Int32) (x_now_leeches : Int32) (x_now_on : Nat → Int32) (x_facts_size : Int32) (x_reckoned_above : Int64) (x_reckoned_below : Int64) (v1 : Int32) (v2 : Int32) (n : Nat) (r_ret : Int32) (rm_reckoned_above : Int64) (rm_reckoned_below : Int64) (h : fX7_member n x_now_members x_now_knows x_now_leeches x_now_on x_facts_size x_reckoned_above x_reckoned_below v1 v2 = some (r_ret, rm_reckoned_above, rm_reckoned_below)) : Met l yX7_member wsX7_member ({ frames := 3, cells := 0, slots := 0, locals := 147 } : Room) (xPc D (xT c) sz [.ref a_this, .int v1, .int v2] (wX7_member c a_this a_text a_facts a_told a_now a_trial a_past a_kept a_sightings a_plan a_slates a_reckoned a_now_knows a_now_kind a_now_on a_now_has a_facts_leans a_facts_all a_facts_lostWith x_undoable x_keptBits x_now_basin x_now_minute x_now_members x_now_knows x_now_leeches x_now_on x_facts_size x_reckoned_above x_reckoned_below) (fun _ => True)) (xQi D (xT c) (va_A (wX7_member c a_this a_text a_facts a_told a_now a_trial a_past a_kept a_sightings a_plan a_slates a_reckoned a_now_knows a_now_kind a_now_on a_now_has a_facts_leans a_facts_all a_facts_lostWith x_undoable x_keptBits x_now_basin x_now_minute x_now_members x_now_knows x_now_leeches x_now_on x_facts_size x_reckoned_above x_reckoned_below) sz) r_ret (wX7_member c a_this a_text a_facts a_told a_now a_trial a_past a_kept a_sightings a_plan a_slates a_reckoned a_now_knows a_now_kind a_now_on a_now_has a_facts_leans a_facts_all a_facts_lostWith x_undoable x_keptBits x_now_basin x_now_minute x_now_members x_now_knows x_now_leeches x_now_on x_facts_size rm_reckoned_above rm_reckoned_below)) 0 0 (va_A (wX7_member c a_this a_text a_facts a_told a_now a_trial a_past a_kept a_sightings a_plan a_slates a_reckoned a_now_knows a_now_kind a_now_on a_now_has a_facts_leans a_facts_all a_facts_lostWith x_undoable x_keptBits x_now_basin x_now_minute x_now_members x_now_knows x_now_leeches x_now_on x_facts_size x_reckoned_above x_reckoned_below) sz) := by
  refine Met.ofW (cc := cX7_member) (maxL := 3) (ret := (some .int)) (by decide) rfl ?_
  intro p e s m args below meth cd s₁ B hml hv
  obtain ⟨rfl, hsz, hP, hK, hD0, hV⟩ := hv
  subst hsz
  have hl := lv_entry [.ref a_this, .int v1, .int v2] (n := 3) (Nat.le_of_ble_eq_true rfl)
  rw [lg_entry_eq]
  exact kX7_member_0 (A := va_A (wX7_member c a_this a_text a_facts a_told a_now a_trial a_past a_kept a_sightings a_plan a_slates a_reckoned a_now_knows a_now_kind a_now_on a_now_has a_facts_leans a_facts_all a_facts_lostWith x_undoable x_keptBits x_now_basin x_now_minute x_now_members x_now_knows x_now_leeches x_now_on x_facts_size x_reckoned_above x_reckoned_below) s.heap.size) ⟨B.exec, B.bytes, hml, B.returns, findClass_of_methodNamed B.named, atoms_spec (ws := wsX7_member) B.pre, B.notSynchronized, fun q h => Or.inr h, hK⟩ a_this a_text a_facts a_told a_now a_trial a_past a_kept a_sightings a_plan a_slates a_reckoned a_now_knows a_now_kind a_now_on a_now_has a_facts_leans a_facts_all a_facts_lostWith x_undoable x_keptBits x_now_basin x_now_minute x_now_members x_now_knows x_now_leeches x_now_on x_facts_size n r_ret rm_reckoned_above rm_reckoned_below x_reckoned_above x_reckoned_below v1 v2 h s.heap [] _ hP hD0.self va_S.rf hl

abbrev wX7_leech (c : Nat → ClassId) (a_this : Nat) (a_text : Nat) (a_facts : Nat) (a_told : Nat) (a_now : Nat) (a_trial : Nat) (a_past : Nat) (a_kept : Nat) (a_sightings : Nat) (a_plan : Nat) (a_slates : Nat) (a_reckoned : Nat) (a_now_knows : Nat) (a_now_kind : Nat) (a_now_on : Nat) (a_now_has : Nat) (x_undoable : Int32) (x_keptBits : Int32) (x_now_members : Int32) (x_now_basin : Int32) (x_now_minute : Int32) (x_now_leeches : Int32) (x_now_kind : Nat → Int32) (x_now_on : Nat → Int32) (x_now_has : Nat → Int32) : va_W := [(a_this, .inr (7, [.ref a_text, .ref a_facts, .ref a_told, .ref a_now, .ref a_trial, .ref a_past, .int x_undoable, .ref a_kept, .int x_keptBits, .ref a_sightings, .ref a_plan, .ref a_slates, .ref a_reckoned])), (a_now, .inr (3, [.int x_now_members, .int x_now_leeches, .int x_now_basin, .int x_now_minute, .ref a_now_knows, .ref a_now_kind, .ref a_now_on, .ref a_now_has])), (a_now_kind, .inl (c 0, 5, .inl x_now_kind)), (a_now_on, .inl (c 0, 5, .inl x_now_on)), (a_now_has, .inl (c 0, 5, .inl x_now_has))]
def GX7_leech (p : Program) (l : Launch) (e : Env) (s : State) (m : MethodId) (args : Array Value) (below : List Frame) (meth : Method) (cd : Code) (D : va_G) (c : Nat → ClassId) (A : Nat → Prop) (a_this : Nat) (a_text : Nat) (a_facts : Nat) (a_told : Nat) (a_now : Nat) (a_trial : Nat) (a_past : Nat) (a_kept : Nat) (a_sightings : Nat) (a_plan : Nat) (a_slates : Nat) (a_reckoned : Nat) (a_now_knows : Nat) (a_now_kind : Nat) (a_now_on : Nat) (a_now_has : Nat) (x_undoable : Int32) (x_keptBits : Int32) (x_now_members : Int32) (x_now_basin : Int32) (x_now_minute : Int32) (x_now_leeches : Int32) (x_now_kind : Nat → Int32) (x_now_on : Nat → Int32) (x_now_has : Nat → Int32) (r_ret : Int32) (pc : Nat) (st : List Value) (loc : List (Nat × Value)) : Prop :=
  ∀ (H : Heap) (locs : List Loc) (ls : Array Slot), va_P D vwCl (wX7_leech c a_this a_text a_facts a_told a_now a_trial a_past a_kept a_sightings a_plan a_slates a_reckoned a_now_knows a_now_kind a_now_on a_now_has x_undoable x_keptBits x_now_members x_now_basin x_now_minute x_now_leeches x_now_kind x_now_on x_now_has) H → va_D A (wX7_leech c a_this a_text a_facts a_told a_now a_trial a_past a_kept a_sightings a_plan a_slates a_reckoned a_now_knows a_now_kind a_now_on a_now_has x_undoable x_keptBits x_now_members x_now_basin x_now_minute x_now_leeches x_now_kind x_now_on x_now_has) → va_S A s.heap H locs → lv_has ls 3 loc → W p l e ({ frames := 1, cells := 0, slots := 0, locals := 21 } : Room) s m args below meth cd H locs 0 0 (MQ below (xQi D (xT c) A r_ret (wX7_leech c a_this a_text a_facts a_told a_now a_trial a_past a_kept a_sightings a_plan a_slates a_reckoned a_now_knows a_now_kind a_now_on a_now_has x_undoable x_keptBits x_now_members x_now_basin x_now_minute x_now_leeches x_now_kind x_now_on x_now_has)) args s 0 0 A) (F0 m pc ls st)
theorem lkX7_leech_f126 : Cond.fieldLink RX7 126 "LeechClub$Room" "has" "[I" ∈ wsX7_leech := by decide +kernel
theorem lkX7_leech_f153 : Cond.fieldLink RX7 153 "LeechClub$Room" "kind" "[I" ∈ wsX7_leech := by decide +kernel
theorem lkX7_leech_f156 : Cond.fieldLink RX7 156 "LeechClub$Room" "on" "[I" ∈ wsX7_leech := by decide +kernel
theorem lkX7_leech_f30 : Cond.fieldLink RX7 30 "LeechClub" "now" "LLeechClub$Room;" ∈ wsX7_leech := by decide +kernel
theorem inX7_leech_X7 : ∀ w ∈ wsX70, w ∈ wsX7_leech := by decide +kernel
theorem inX7_leech_X3 : ∀ w ∈ wsX30, w ∈ wsX7_leech := by decide +kernel
set_option maxHeartbeats 4000000 in
set_option maxRecDepth 100000 in
theorem kX7_leech_0 {p : Program} {l : Launch} {e : Env} {s : State} {m : MethodId} {args : Array Value} {below : List Frame} {meth : Method} {cd : Code} {D : va_G} {c : Nat → ClassId} {A : Nat → Prop} (E0 : xE p s m args meth cd D (xT c) A RX7 cX7_leech 3 (some .int) wsX7_leech) (a_this : Nat) (a_text : Nat) (a_facts : Nat) (a_told : Nat) (a_now : Nat) (a_trial : Nat) (a_past : Nat) (a_kept : Nat) (a_sightings : Nat) (a_plan : Nat) (a_slates : Nat) (a_reckoned : Nat) (a_now_knows : Nat) (a_now_kind : Nat) (a_now_on : Nat) (a_now_has : Nat) (x_undoable : Int32) (x_keptBits : Int32) (x_now_members : Int32) (x_now_basin : Int32) (x_now_minute : Int32) (x_now_leeches : Int32) (x_now_kind : Nat → Int32) (x_now_on : Nat → Int32) (x_now_has : Nat → Int32) (n : Nat) (r_ret : Int32) (v1 : Int32) (v2 : Int32) (hr : fX7_leech n x_now_leeches x_now_kind x_now_on x_now_has v1 v2 = some (r_ret)) : GX7_leech p l e s m args below meth cd D c A a_this a_text a_facts a_told a_now a_trial a_past a_kept a_sightings a_plan a_slates a_reckoned a_now_knows a_now_kind a_now_on a_now_has x_undoable x_keptBits x_now_members x_now_basin x_now_minute x_now_leeches x_now_kind x_now_on x_now_has r_ret 0 [] [(0, .ref a_this), (1, .int v1), (2, .int v2)] := by
  have E1 := E0
  obtain ⟨hx, hb, hml, hret, hown, hts, hlocks, hA, hK⟩ := E1
  intro H locs ls hP hD hS hl
  unfold fX7_leech at hr
  refine lv_aload_n hx hb dX7_leech_0 rfl (lv_at hl 0 rfl) ?_
  refine va_get (D := D) (ci := 7) (v := .ref a_now) (C := RX7) (T := TX7) (N := 13) hx hb hts inX7_leech_X7 hown hK hP 0 rfl rfl 3 (by decide) (hts _ lkX7_leech_f30) (fun _ h9 => h9) rfl dX7_leech_1 ?_
  refine lv_iload_n hx hb dX7_leech_4 rfl (lv_at hl 1 rfl) ?_
  obtain ⟨q1_0, hc1, hr⟩ := x_bind hr
  refine x_runi (wr := [(a_this, .inr (7, [.ref a_text, .ref a_facts, .ref a_told, .ref a_now, .ref a_trial, .ref a_past, .int x_undoable, .ref a_kept, .int x_keptBits, .ref a_sightings, .ref a_plan, .ref a_slates, .ref a_reckoned])), (a_now_kind, .inl (c 0, 5, .inl x_now_kind)), (a_now_on, .inl (c 0, 5, .inl x_now_on)), (a_now_has, .inl (c 0, 5, .inl x_now_has))]) (wf := [(a_this, .inr (7, [.ref a_text, .ref a_facts, .ref a_told, .ref a_now, .ref a_trial, .ref a_past, .int x_undoable, .ref a_kept, .int x_keptBits, .ref a_sightings, .ref a_plan, .ref a_slates, .ref a_reckoned])), (a_now, .inr (3, [.int x_now_members, .int x_now_leeches, .int x_now_basin, .int x_now_minute, .ref a_now_knows, .ref a_now_kind, .ref a_now_on, .ref a_now_has])), (a_now_kind, .inl (c 0, 5, .inl x_now_kind)), (a_now_on, .inl (c 0, 5, .inl x_now_on)), (a_now_has, .inl (c 0, 5, .inl x_now_has))]) (x_goV (As := [.int v1]) (rest := []) ⟨hx, hb, hml, hown, hts⟩ (mX3_hasLeech l D c a_now a_now_knows a_now_kind a_now_on a_now_has H.size x_now_members x_now_basin x_now_minute x_now_leeches v1 n _ hc1) (cwV 1 hts gX7_leech_X3_hasLeech rfl rfl rfl (by decide +kernel) ⟨Nat.le_of_ble_eq_true rfl, Nat.le_of_ble_eq_true rfl⟩) xB_t hP hD hK [1] rfl (by decide) (fun _ _ _ => trivial) 1 3 rfl rfl rfl rfl hl.1 rfl (Nat.le_of_ble_eq_true rfl) dX7_leech_5) hP hD hS hA [1] [0, 2, 3, 4] [0, 4, 1, 2, 3] rfl rfl rfl ⟨by decide, by decide, by decide⟩ (fun H locs hP hD hS => ?_)
  refine lv_if_ne (tgt := 14) hx hb dX7_leech_8 (by decide) (fun c_2 => ?_) (fun c_2 => ?_)
  · have hr := x_iff hr c_2
    refine lv_iload_n hx hb dX7_leech_14 rfl (lv_at hl 2 rfl) ?_
    by_cases c_3 : v2 = 0
    · have hr := x_ift hr c_3
      refine lv_tableIn (off := 25) (tgt := 40) hx hb dX7_leech_15 (by rw [c_3]; decide) (by rw [c_3]; decide) (by rw [c_3]; rfl) (by decide) ?_
      refine lv_aload_n hx hb dX7_leech_40 rfl (lv_at hl 0 rfl) ?_
      refine va_get (D := D) (ci := 7) (v := .ref a_now) (C := RX7) (T := TX7) (N := 13) hx hb hts inX7_leech_X7 hown hK hP 0 rfl rfl 3 (by decide) (hts _ lkX7_leech_f30) (fun _ h9 => h9) rfl dX7_leech_41 ?_
      refine va_get (D := D) (ci := 3) (v := .ref a_now_kind) (C := RX3) (T := TX3) (N := 8) hx hb hts inX7_leech_X3 hown hK hP 1 rfl rfl 5 (by decide) (hts _ lkX7_leech_f153) (fun _ h9 => h9) rfl dX7_leech_44 ?_
      refine lv_iload_n hx hb dX7_leech_47 rfl (lv_at hl 1 rfl) ?_
      obtain ⟨b_4, hr⟩ := x_chk hr
      refine va_iald hx hb hK hP 2 0 rfl rfl b_4 dX7_leech_48 ?_
      have e0 := x_some hr
      subst e0
      exact x_reti hx hb hret hlocks hP hD hK hS dX7_leech_49
    · have hr := x_iff hr c_3
      by_cases c_5 : v2 = 1
      · have hr := x_ift hr c_5
        refine lv_tableIn (off := 35) (tgt := 50) hx hb dX7_leech_15 (by rw [c_5]; decide) (by rw [c_5]; decide) (by rw [c_5]; rfl) (by decide) ?_
        refine lv_aload_n hx hb dX7_leech_50 rfl (lv_at hl 0 rfl) ?_
        refine va_get (D := D) (ci := 7) (v := .ref a_now) (C := RX7) (T := TX7) (N := 13) hx hb hts inX7_leech_X7 hown hK hP 0 rfl rfl 3 (by decide) (hts _ lkX7_leech_f30) (fun _ h9 => h9) rfl dX7_leech_51 ?_
        refine va_get (D := D) (ci := 3) (v := .ref a_now_on) (C := RX3) (T := TX3) (N := 8) hx hb hts inX7_leech_X3 hown hK hP 1 rfl rfl 6 (by decide) (hts _ lkX7_leech_f156) (fun _ h9 => h9) rfl dX7_leech_54 ?_
        refine lv_iload_n hx hb dX7_leech_57 rfl (lv_at hl 1 rfl) ?_
        obtain ⟨b_6, hr⟩ := x_chk hr
        refine va_iald hx hb hK hP 3 0 rfl rfl b_6 dX7_leech_58 ?_
        have e0 := x_some hr
        subst e0
        exact x_reti hx hb hret hlocks hP hD hK hS dX7_leech_59
      · have hr := x_iff hr c_5
        by_cases c_7 : v2 = 2
        · have hr := x_ift hr c_7
          refine lv_tableIn (off := 45) (tgt := 60) hx hb dX7_leech_15 (by rw [c_7]; decide) (by rw [c_7]; decide) (by rw [c_7]; rfl) (by decide) ?_
          refine lv_aload_n hx hb dX7_leech_60 rfl (lv_at hl 0 rfl) ?_
          refine va_get (D := D) (ci := 7) (v := .ref a_now) (C := RX7) (T := TX7) (N := 13) hx hb hts inX7_leech_X7 hown hK hP 0 rfl rfl 3 (by decide) (hts _ lkX7_leech_f30) (fun _ h9 => h9) rfl dX7_leech_61 ?_
          refine va_get (D := D) (ci := 3) (v := .ref a_now_has) (C := RX3) (T := TX3) (N := 8) hx hb hts inX7_leech_X3 hown hK hP 1 rfl rfl 7 (by decide) (hts _ lkX7_leech_f126) (fun _ h9 => h9) rfl dX7_leech_64 ?_
          refine lv_iload_n hx hb dX7_leech_67 rfl (lv_at hl 1 rfl) ?_
          obtain ⟨b_8, hr⟩ := x_chk hr
          refine va_iald hx hb hK hP 4 0 rfl rfl b_8 dX7_leech_68 ?_
          have e0 := x_some hr
          subst e0
          exact x_reti hx hb hret hlocks hP hD hK hS dX7_leech_69
        · have hr := x_iff hr c_7
          refine lv_tableOut (tgt := 70) hx hb dX7_leech_15 (by have t0 := lv_neT c_3 (a := 0) (by decide); have t1 := lv_neT c_5 (a := 1) (by decide); have t2 := lv_neT c_7 (a := 2) (by decide); omega) (by decide) ?_
          refine lv_bipush (v := (-3)) hx hb dX7_leech_70 (by decide) ?_
          have e0 := x_some hr
          subst e0
          exact x_reti hx hb hret hlocks hP hD hK hS dX7_leech_72
  · have hr := x_ift hr c_2
    refine lv_bipush (v := (-2)) hx hb dX7_leech_11 (by decide) ?_
    have e0 := x_some hr
    subst e0
    exact x_reti hx hb hret hlocks hP hD hK hS dX7_leech_13
set_option maxHeartbeats 4000000 in
set_option maxRecDepth 100000 in
theorem mX7_leech (l : Launch) (D : va_G) (c : Nat → ClassId) (a_this : Nat) (a_text : Nat) (a_facts : Nat) (a_told : Nat) (a_now : Nat) (a_trial : Nat) (a_past : Nat) (a_kept : Nat) (a_sightings : Nat) (a_plan : Nat) (a_slates : Nat) (a_reckoned : Nat) (a_now_knows : Nat) (a_now_kind : Nat) (a_now_on : Nat) (a_now_has : Nat) (sz : Nat) (x_undoable : Int32) (x_keptBits : Int32) (x_now_members : Int32) (x_now_basin : Int32) (x_now_minute : Int32) (x_now_leeches : Int32) (x_now_kind : Nat → Int32) (x_now_on : Nat → Int32) (x_now_has : Nat → Int32) (v1 : Int32) (v2 : Int32) (n : Nat) (r_ret : Int32) (h : fX7_leech n x_now_leeches x_now_kind x_now_on x_now_has v1 v2 = some (r_ret)) : Met l yX7_leech wsX7_leech ({ frames := 1, cells := 0, slots := 0, locals := 21 } : Room) (xPc D (xT c) sz [.ref a_this, .int v1, .int v2] (wX7_leech c a_this a_text a_facts a_told a_now a_trial a_past a_kept a_sightings a_plan a_slates a_reckoned a_now_knows a_now_kind a_now_on a_now_has x_undoable x_keptBits x_now_members x_now_basin x_now_minute x_now_leeches x_now_kind x_now_on x_now_has) (fun _ => True)) (xQi D (xT c) (va_A (wX7_leech c a_this a_text a_facts a_told a_now a_trial a_past a_kept a_sightings a_plan a_slates a_reckoned a_now_knows a_now_kind a_now_on a_now_has x_undoable x_keptBits x_now_members x_now_basin x_now_minute x_now_leeches x_now_kind x_now_on x_now_has) sz) r_ret (wX7_leech c a_this a_text a_facts a_told a_now a_trial a_past a_kept a_sightings a_plan a_slates a_reckoned a_now_knows a_now_kind a_now_on a_now_has x_undoable x_keptBits x_now_members x_now_basin x_now_minute x_now_leeches x_now_kind x_now_on x_now_has)) 0 0 (va_A (wX7_leech c a_this a_text a_facts a_told a_now a_trial a_past a_kept a_sightings a_plan a_slates a_reckoned a_now_knows a_now_kind a_now_on a_now_has x_undoable x_keptBits x_now_members x_now_basin x_now_minute x_now_leeches x_now_kind x_now_on x_now_has) sz) := by
  refine Met.ofW (cc := cX7_leech) (maxL := 3) (ret := (some .int)) (by decide) rfl ?_
  intro p e s m args below meth cd s₁ B hml hv
  obtain ⟨rfl, hsz, hP, hK, hD0, hV⟩ := hv
  subst hsz
  have hl := lv_entry [.ref a_this, .int v1, .int v2] (n := 3) (Nat.le_of_ble_eq_true rfl)
  rw [lg_entry_eq]
  exact kX7_leech_0 (A := va_A (wX7_leech c a_this a_text a_facts a_told a_now a_trial a_past a_kept a_sightings a_plan a_slates a_reckoned a_now_knows a_now_kind a_now_on a_now_has x_undoable x_keptBits x_now_members x_now_basin x_now_minute x_now_leeches x_now_kind x_now_on x_now_has) s.heap.size) ⟨B.exec, B.bytes, hml, B.returns, findClass_of_methodNamed B.named, atoms_spec (ws := wsX7_leech) B.pre, B.notSynchronized, fun q h => Or.inr h, hK⟩ a_this a_text a_facts a_told a_now a_trial a_past a_kept a_sightings a_plan a_slates a_reckoned a_now_knows a_now_kind a_now_on a_now_has x_undoable x_keptBits x_now_members x_now_basin x_now_minute x_now_leeches x_now_kind x_now_on x_now_has n r_ret v1 v2 h s.heap [] _ hP hD0.self va_S.rf hl

